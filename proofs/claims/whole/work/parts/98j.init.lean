/-! THE BEGINNING: objects are made -/
theorem nw_e (H : Nat → Option AO) (a c q : Nat) (o : AO) (k : Nat) : am_nw (H, (a, (c, q))) o k = (am_up H a o, (a + 1, (c + 1, q + k))) := rfl
theorem st_e (H : Nat → Option AO) (x : Nat × (Nat × Nat)) (a : Nat) (o : AO) : am_st (H, x) a o = (am_up H a o, x) := rfl
theorem up_same (H : Nat → Option AO) (a : Nat) (o : AO) : am_up H a o a = some o := if_pos rfl
theorem up_ne (H : Nat → Option AO) (a b : Nat) (o : AO) (h : b ≠ a) : am_up H a o b = H b := if_neg h
theorem up_up (H : Nat → Option AO) (a : Nat) (o o' : AO) : am_up (am_up H a o) a o' = am_up H a o' := by
  funext b
  unfold am_up
  split <;> rfl
def iniS : Nat → Int := fun k => if k < 192 then -2 else if k = 252 then 2 else 0
theorem iniS_lo {k : Nat} (h : k < 192) : iniS k = -2 := if_pos h
theorem iniS_md {k : Nat} (h : 192 ≤ k) (h2 : k ≠ 252) : iniS k = 0 := by
  unfold iniS
  rw [if_neg (by omega), if_neg h2]
theorem iniS_far : iniS 252 = 2 := by
  unfold iniS
  rw [if_neg (by omega), if_pos rfl]
theorem iniF : pF iniS = fun j => if j < 192 then -2 else 0 := by
  funext k
  unfold pF
  by_cases h : k < 192
  · rw [if_pos h, if_pos h, iniS_lo h]
  · rw [if_neg h, if_neg h]
theorem iniG : pG iniS = fun _ => 0 := by
  funext k
  unfold pG
  by_cases h : k < 24
  · rw [iniS_md (by omega) (by omega), if_neg (by omega)]
  · rw [if_neg (fun z => h z.1)]
theorem iniH : pH iniS = fun _ => 0 := by
  funext k
  unfold pH
  by_cases h : k < 36
  · rw [if_pos h, iniS_md (by omega) (by omega)]
  · rw [if_neg h]
theorem iniGood : Good iniS := by
  have nr : ∀ r, r < 6 → ¬ isR iniS r := fun r hr z => by
    unfold isR at z
    rw [iniS_md (by omega) (by omega)] at z
    omega
  refine ⟨fun k => ?_, fun k hk => iniS_md (by omega) (by omega), by rw [iniS_far]; omega, fun r hr z => absurd z (nr r hr), fun k hk => ?_, fun a b ha hb => ?_⟩
  · unfold iniS
    repeat' split
    all_goals omega
  · rw [iniS_lo hk]
    refine ⟨by omega, by omega, fun r hr => ⟨fun z => absurd z (by omega), fun z => absurd z.1 (nr r hr)⟩⟩
  · have e : wkM iniS a b = 0 := iniS_md (by omega) (by omega)
    rw [e]
    exact ⟨by omega, fun z => absurd z (by omega)⟩
section INI
variable {G : Nat → Nat} {Q : (Option AV ⊕ Nat) → AS → Prop} {H : Nat → Option AO} {P c q : Nat}
theorem i_Plan (h : H P = some (oC 1 [vN, vN, vN, vI 0])) (hG : G 0 ≤ P)
    (hQ : ∀ H' : Nat → Option AO, PlS (H', (P + 4, (c + 3, q + 252))) P iniS → (∀ a, a < P ∨ P + 4 ≤ a → H' a = H a) → Q (.inl none) (H', (P + 4, (c + 3, q + 252)))) :
    CW G k_Plan_init [vR P] (H, (P + 1, (c, q))) Q := by
  simp (disch := first | assumption | omega | (unfold inR; omega)) only [c_Plan_init, e_Plan_init_0, e_Plan_init_1, e_Plan_init_4, e_Plan_init_5, e_Plan_init_8, e_Plan_init_10, e_Plan_init_13, e_Plan_init_14, e_Plan_init_16, e_Plan_init_18, e_Plan_init_21, e_Plan_init_22, e_Plan_init_24, e_Plan_init_26, e_Plan_init_29, e_Plan_init_30, e_Plan_init_31, e_Plan_init_34, e_Plan_init_35, e_Plan_init_38, e_Plan_init_40, kR_l, kR_r, kP_0, kP_i, kP_r, kP_n, kP_s, kP_o, kLen_I, kLen_L, kLen_R, kLdI_0, kLdI_1, kLdI_2, kLdI_3, kStI_0, kStI_1, kLdL_e, kStL_e, kLdR_e, kStR_e, kFld_e, kNth_0, kNth_s, kPut_e, fit_I, fit_Z, fit_B, fit_C, fit_A, fit_O, Option.toList_some, Option.toList_none, List.cons_append, List.nil_append, true_and, and_true, List.set_cons_zero, List.set_cons_succ, st_same, Int.toNat_natCast, Int.cast_ofNat_Int, Nat.zero_add, Nat.reduceAdd, kRcv_1, kRcv_2, kRcv_3, kRcv_0, kRcv_4, kRcv_5, nw_e, st_e, up_same, up_ne, up_up, h, List.length_cons, List.length_nil, Nat.add_assoc, Int.reduceToNat]
  have fin : CW G k_Arrays_fill [vR (P + 1), vI (-2)] (am_up (am_up (am_up (am_up (am_up (am_up (am_up H (P + 1) (oI 0 192 (fun _ => 0))) P (oC 1 [vR (P + 1), vN, vN, vI 0])) (P + 2) (oI 0 24 (fun _ => 0))) P (oC 1 [vR (P + 1), vR (P + 2), vN, vI 0])) (P + 3) (oI 0 36 (fun _ => 0))) P (oC 1 [vR (P + 1), vR (P + 2), vR (P + 3), vI 0])) P (oC 1 [vR (P + 1), vR (P + 2), vR (P + 3), vI 2]), (P + 4, (c + 3, q + 252))) (kR (fun v σ' => WP G k_Plan_init 43 [some (vR P)] (v.toList ++ []) σ' Q) (fun e σ' => Q (.inr e) σ')) := by
    rw [s_Arrays_fill (n := 192) (f := fun _ => 0) (by simp (disch := first | assumption | omega | (unfold inR; omega)) only [up_same, up_ne]) (by omega) (by omega)]
    simp only [e_Plan_init_43, kR_l, kR_r, kP_0, kP_i, kP_r, kP_n, kP_s, kP_o, kLen_I, kLen_L, kLen_R, kLdI_0, kLdI_1, kLdI_2, kLdI_3, kStI_0, kStI_1, kLdL_e, kStL_e, kLdR_e, kStR_e, kFld_e, kNth_0, kNth_s, kPut_e, fit_I, fit_Z, fit_B, fit_C, fit_A, fit_O, Option.toList_some, Option.toList_none, List.cons_append, List.nil_append, true_and, and_true, List.set_cons_zero, List.set_cons_succ, st_same, Int.toNat_natCast, Int.cast_ofNat_Int, Nat.zero_add, Nat.reduceAdd, kRcv_1, kRcv_2, kRcv_3, kRcv_0, kRcv_4, kRcv_5, st_e]
    refine hQ _ ⟨?_, ?_, ?_, ?_⟩ (fun a ha => ?_)
    · simp (disch := first | assumption | omega | (unfold inR; omega)) only [up_same, up_ne, iniS_far]
    · simp (disch := first | assumption | omega | (unfold inR; omega)) only [up_same, up_ne, iniF]
    · simp (disch := first | assumption | omega | (unfold inR; omega)) only [up_same, up_ne, iniG]
    · simp (disch := first | assumption | omega | (unfold inR; omega)) only [up_same, up_ne, iniH]
    · rw [up_ne _ _ _ _ (by omega), up_ne _ _ _ _ (by omega), up_ne _ _ _ _ (by omega), up_ne _ _ _ _ (by omega), up_ne _ _ _ _ (by omega), up_ne _ _ _ _ (by omega), up_ne _ _ _ _ (by omega), up_ne _ _ _ _ (by omega)]
  simp only [up_up] at fin
  all_goals ((repeat' (first | with_reducible refine And.intro ?_ ?_ | intro _)) <;> first | with_reducible assumption | exact True.intro | with_reducible exact fin | omega | (simp only [inR] at *; omega) | exact fin | with_reducible rfl | rfl | (simp; done) | (exfalso; simp_all; done) | skip)
theorem i_Orders {O : Nat} (h : H O = some (oC 0 [vN, vI 0, vI 0, vI 0, vI 0, vI 0])) (hG : G 0 ≤ O)
    (hQ : ∀ H' : Nat → Option AO, OrI (H', (O + 2, (c + 1, q + 60))) O 0 (fun _ => 0) → (∀ a, a < O ∨ O + 2 ≤ a → H' a = H a) → Q (.inl none) (H', (O + 2, (c + 1, q + 60)))) :
    CW G k_Orders_init [vR O] (H, (O + 1, (c, q))) Q := by
  have fin := hQ (am_up (am_up H (O + 1) (oI 0 60 (fun _ => 0))) O (oC 0 [vR (O + 1), vI 0, vI (-1), vI (-1), vI (-1), vI 0])) ⟨⟨-1, -1, -1, 0, by
    show am_up _ O _ O = _
    rw [up_same]
    rfl⟩, by
    show am_up _ O _ (O + 1) = _
    rw [up_ne _ _ _ _ (by omega), up_same]⟩ (fun a ha => by rw [up_ne _ _ _ _ (by omega), up_ne _ _ _ _ (by omega)])
  clear hQ
  simp (disch := first | assumption | omega | (unfold inR; omega)) only [c_Orders_init, e_Orders_init_0, e_Orders_init_1, e_Orders_init_4, e_Orders_init_5, e_Orders_init_7, e_Orders_init_9, e_Orders_init_12, e_Orders_init_13, e_Orders_init_14, e_Orders_init_17, e_Orders_init_18, e_Orders_init_19, e_Orders_init_22, e_Orders_init_23, e_Orders_init_24, e_Orders_init_27, e_Orders_init_28, e_Orders_init_29, e_Orders_init_32, e_Orders_init_33, e_Orders_init_34, e_Orders_init_37, kR_l, kR_r, kP_0, kP_i, kP_r, kP_n, kP_s, kP_o, kLen_I, kLen_L, kLen_R, kLdI_0, kLdI_1, kLdI_2, kLdI_3, kStI_0, kStI_1, kLdL_e, kStL_e, kLdR_e, kStR_e, kFld_e, kNth_0, kNth_s, kPut_e, fit_I, fit_Z, fit_B, fit_C, fit_A, fit_O, Option.toList_some, Option.toList_none, List.cons_append, List.nil_append, true_and, and_true, List.set_cons_zero, List.set_cons_succ, st_same, Int.toNat_natCast, Int.cast_ofNat_Int, Nat.zero_add, Nat.reduceAdd, kRcv_1, kRcv_2, kRcv_3, kRcv_0, kRcv_4, kRcv_5, nw_e, st_e, up_same, up_ne, up_up, h, List.length_cons, List.length_nil, Nat.add_assoc, Int.reduceToNat]
  all_goals ((repeat' (first | with_reducible refine And.intro ?_ ?_ | intro _)) <;> first | with_reducible assumption | exact True.intro | with_reducible exact fin | omega | (simp only [inR] at *; omega) | exact fin | with_reducible rfl | rfl | (simp; done) | (exfalso; simp_all; done) | skip)
theorem i_Ways {W : Nat} (h : H W = some (oC 3 [vN, vN, vN, vN, vN, vN, vI 0, vI 0, vN, vN, vI 0, vI 0, vI 0, vI 0, vI 0, vI 0])) (hG : G 0 ≤ W)
    (hQ : ∀ H' : Nat → Option AO, WyI (H', (W + 9, (c + 8, q + 1536))) W → (∀ a, a < W ∨ W + 9 ≤ a → H' a = H a) → Q (.inl none) (H', (W + 9, (c + 8, q + 1536)))) :
    CW G k_Ways_init [vR W] (H, (W + 1, (c, q))) Q := by
  have fin : ∀ H' : Nat → Option AO, (H' W = some (oC 3 [vR (W + 1), vR (W + 2), vR (W + 3), vR (W + 4), vR (W + 5), vR (W + 6), vI 0, vI 0, vR (W + 7), vR (W + 8), vI 0, vI 1, vI 0, vI 0, vI 0, vI 0]) ∧ H' (W + 1) = some (oI 0 192 (fun _ => 0)) ∧ H' (W + 2) = some (oI 0 192 (fun _ => 0)) ∧ H' (W + 3) = some (oI 0 192 (fun _ => 0)) ∧ H' (W + 4) = some (oI 0 192 (fun _ => 0)) ∧ H' (W + 5) = some (oI 0 192 (fun _ => 0)) ∧ H' (W + 6) = some (oI 1 192 (fun _ => 0)) ∧ H' (W + 7) = some (oI 1 192 (fun _ => 0)) ∧ H' (W + 8) = some (oI 0 192 (fun _ => 0))) → (∀ a, a < W ∨ W + 9 ≤ a → H' a = H a) → Q (.inl none) (H', (W + 9, (c + 8, q + 1536))) := by
    rintro H' ⟨k0, k1, k2, k3, k4, k5, k6, k7, k8⟩ hf
    refine hQ H' ⟨fun j => if j = 11 then 1 else 0, fun _ _ => 0, k0, fun k h1 h2 => ?_⟩ hf
    rcases (show k = 1 ∨ k = 2 ∨ k = 3 ∨ k = 4 ∨ k = 5 ∨ k = 6 ∨ k = 7 ∨ k = 8 by omega) with rfl | rfl | rfl | rfl | rfl | rfl | rfl | rfl
    · exact k1
    · exact k2
    · exact k3
    · exact k4
    · exact k5
    · exact k6
    · exact k7
    · exact k8
  clear hQ
  simp (disch := first | assumption | omega | (unfold inR; omega)) only [c_Ways_init, e_Ways_init_0, e_Ways_init_1, e_Ways_init_4, e_Ways_init_5, e_Ways_init_8, e_Ways_init_10, e_Ways_init_13, e_Ways_init_14, e_Ways_init_17, e_Ways_init_19, e_Ways_init_22, e_Ways_init_23, e_Ways_init_26, e_Ways_init_28, e_Ways_init_31, e_Ways_init_32, e_Ways_init_35, e_Ways_init_37, e_Ways_init_40, e_Ways_init_41, e_Ways_init_44, e_Ways_init_46, e_Ways_init_49, e_Ways_init_50, e_Ways_init_53, e_Ways_init_55, e_Ways_init_58, e_Ways_init_59, e_Ways_init_60, e_Ways_init_63, e_Ways_init_64, e_Ways_init_65, e_Ways_init_68, e_Ways_init_69, e_Ways_init_72, e_Ways_init_74, e_Ways_init_77, e_Ways_init_78, e_Ways_init_81, e_Ways_init_83, e_Ways_init_86, e_Ways_init_87, e_Ways_init_88, e_Ways_init_91, e_Ways_init_92, e_Ways_init_93, e_Ways_init_96, e_Ways_init_97, e_Ways_init_98, e_Ways_init_101, e_Ways_init_102, e_Ways_init_103, e_Ways_init_106, e_Ways_init_107, e_Ways_init_108, e_Ways_init_111, e_Ways_init_112, e_Ways_init_113, e_Ways_init_116, kR_l, kR_r, kP_0, kP_i, kP_r, kP_n, kP_s, kP_o, kLen_I, kLen_L, kLen_R, kLdI_0, kLdI_1, kLdI_2, kLdI_3, kStI_0, kStI_1, kLdL_e, kStL_e, kLdR_e, kStR_e, kFld_e, kNth_0, kNth_s, kPut_e, fit_I, fit_Z, fit_B, fit_C, fit_A, fit_O, Option.toList_some, Option.toList_none, List.cons_append, List.nil_append, true_and, and_true, List.set_cons_zero, List.set_cons_succ, st_same, Int.toNat_natCast, Int.cast_ofNat_Int, Nat.zero_add, Nat.reduceAdd, kRcv_1, kRcv_2, kRcv_3, kRcv_0, kRcv_4, kRcv_5, nw_e, st_e, up_same, up_ne, up_up, h, List.length_cons, List.length_nil, Nat.add_assoc, Int.reduceToNat]
  have fin2 := fun H' a b => fin H' a b
  clear fin
  repeat' (first | refine And.intro ?_ ?_ | exact trivial | omega | (intro _; omega))
  all_goals first
    | omega
    | (refine fin2 _ ?_ ?_
       · refine ⟨?_, ?_, ?_, ?_, ?_, ?_, ?_, ?_, ?_⟩ <;> simp (disch := first | assumption | omega | (unfold inR; omega)) only [up_same, up_ne]
       · intro a ha
         simp (disch := first | assumption | omega | (unfold inR; omega)) only [up_ne])
    | skip
end INI

/-! THE BEGINNING: the reference's object -/
section IN3
variable {G : Nat → Nat} {Q : (Option AV ⊕ Nat) → AS → Prop} {H : Nat → Option AO} {c q : Nat}
def m0M : Nat → Int := fun _ => 0
def a0M : Nat → Nat → Int := fun k => if k = 6 then axM else if k = 7 then ayM else fun _ => 0
theorem ax_up : upI (upI (upI (upI (fun _ => 0) 0 (-1)) 1 1) 2 0) 3 0 = axM := by
  funext d
  unfold upI axM
  match d with
  | 0 => rfl
  | 1 => rfl
  | 2 => rfl
  | 3 => rfl
  | d + 4 => simp
theorem ay_up : upI (upI (upI (upI (fun _ => 0) 0 0) 1 0) 2 (-1)) 3 1 = ayM := by
  funext d
  unfold upI ayM
  match d with
  | 0 => rfl
  | 1 => rfl
  | 2 => rfl
  | 3 => rfl
  | d + 4 => simp
theorem a0_ok : MdOK a0M := ⟨rfl, rfl, fun k => ⟨Int.le_refl _, by show (0 : Int) ≤ 1000000; decide⟩, fun k => ⟨Int.le_refl _, by show (0 : Int) ≤ 1; decide⟩⟩
theorem i_Model {M : Nat} (h : H M = some (oC 5 [vN, vN, vN, vI 0, vN, vI 0, vI 0, vI 0, vI 0, vN, vI 0, vN, vN, vN, vN, vN, vI 0, vI 0, vI 0, vN])) (hG : G 0 ≤ M)
    (hQ : ∀ H' : Nat → Option AO, (∀ x, IsMd (H', x) M m0M (upA a0M 1 iniS)) → (∀ a, a < M ∨ M + 12 ≤ a → H' a = H a) → Q (.inl none) (H', (M + 12, (c + 11, q + 2923)))) :
    CW G k_Model_init [vR M] (H, (M + 1, (c, q))) Q := by
  have fin : ∀ H' : Nat → Option AO, (H' M = some (oC 5 [vR (M + 1), vR (M + 2), vR (M + 3), vI 0, vR (M + 4), vI 0, vI 0, vI 0, vI 0, vR (M + 5), vI 0, vR (M + 6), vR (M + 7), vR (M + 8), vR (M + 9), vR (M + 10), vI 0, vI 0, vI 0, vR (M + 11)]) ∧ H' (M + 1) = some (oI 0 253 (fun _ => 0)) ∧ H' (M + 2) = some (oI 0 253 (fun _ => 0)) ∧ H' (M + 3) = some (oI 0 1518 (fun _ => 0)) ∧ H' (M + 4) = some (oI 0 60 (fun _ => 0)) ∧ H' (M + 5) = some (oI 0 63 (fun _ => 0)) ∧ H' (M + 6) = some (oI 0 4 axM) ∧ H' (M + 7) = some (oI 0 4 ayM) ∧ H' (M + 8) = some (oI 0 192 (fun _ => 0)) ∧ H' (M + 9) = some (oI 1 192 (fun _ => 0)) ∧ H' (M + 10) = some (oI 0 192 (fun _ => 0)) ∧ H' (M + 11) = some (oI 1 192 (fun _ => 0))) → (∀ a, a < M ∨ M + 12 ≤ a → H' a = H a) → WP G k_Model_init 131 [some (vR M), some (vI 0)] [] (H', (M + 12, (c + 11, q + 2923))) Q := by
    rintro H' ⟨k0, k1, k2, k3, k4, k5, k6, k7, k8, k9, k10, k11⟩ hf
    have hI : IsMd (H', (M + 12, (c + 11, q + 2923))) M m0M a0M := by
      refine ⟨k0, fun k h1 h2 => ?_⟩
      rcases (show k = 1 ∨ k = 2 ∨ k = 3 ∨ k = 4 ∨ k = 5 ∨ k = 6 ∨ k = 7 ∨ k = 8 ∨ k = 9 ∨ k = 10 ∨ k = 11 by omega) with rfl | rfl | rfl | rfl | rfl | rfl | rfl | rfl | rfl | rfl | rfl
      · exact k1
      · exact k2
      · exact k3
      · exact k4
      · exact k5
      · exact k6
      · exact k7
      · exact k8
      · exact k9
      · exact k10
      · exact k11
    have e := setMd_id hI
    generalize hσ : ((H', (M + 12, (c + 11, q + 2923))) : AS) = σ at *
    rw [← e]
    have key := up (fun k => WP G k_Model_init 131 [some (vR M), some (vI (k : Nat))] [] (setMd σ M m0M (upA a0M 1 (fun j => if j < k then -2 else 0))) Q) (n := 192) ?_ ?_
    · have e1 : (fun j : Nat => if j < 0 then (-2 : Int) else 0) = a0M 1 := by
        funext j
        exact if_neg (by omega)
      rw [e1, upA_self] at key
      exact key
    · intro k hk ih
      have e2 : upI (fun j => if j < k then (-2 : Int) else 0) k (-2) = fun j => if j < k + 1 then -2 else 0 := by
        funext j
        rw [upI_at]
        by_cases e3 : j = k
        · rw [if_pos e3, if_pos (by omega)]
        · rw [if_neg e3]
          by_cases e4 : j < k
          · rw [if_pos e4, if_pos (by omega)]
          · rw [if_neg e4, if_neg (by omega)]
      rw [e_Model_init_131]
      simp only [e_Model_init_132, e_Model_init_135, e_Model_init_138, e_Model_init_139, e_Model_init_142, e_Model_init_143, e_Model_init_145, e_Model_init_146, e_Model_init_149, kR_l, kR_r, kP_0, kP_i, kP_r, kP_n, kP_s, kP_o, kLen_I, kLen_L, kLen_R, kLdI_0, kLdI_1, kLdI_2, kLdI_3, kStI_0, kStI_1, kLdL_e, kStL_e, kLdR_e, kStR_e, kFld_e, kNth_0, kNth_s, kPut_e, fit_I, fit_Z, fit_B, fit_C, fit_A, fit_O, Option.toList_some, Option.toList_none, List.cons_append, List.nil_append, true_and, and_true, List.set_cons_zero, List.set_cons_succ, st_same, Int.toNat_natCast, Int.cast_ofNat_Int, Nat.zero_add, Nat.reduceAdd, kRcv_1, kRcv_2, kRcv_3, kRcv_0, kRcv_4, kRcv_5, setMd_set, Mdo, Mda1, Mdw1, Mda2, Mdw2, Mda3, Mdw3, Mda4, Mdw4, Mda5, Mdw5, Mda6, Mdw6, Mda7, Mdw7, Mda8, Mdw8, Mda9, Mdw9, Mda10, Mdw10, Mda11, Mdw11, Mdp3, Mdp5, Mdp6, Mdp7, Mdp8, Mdp10, Mdp16, Mdp17, Mdp18, upA_at, upA_upA, reduceIte, Nat.reduceEqDiff, e2]
      refine ⟨⟨by unfold inR; omega, by unfold inR; omega⟩, (fun h => by first | exact absurd h (by omega) | exact absurd trivial h | (exfalso; simp_all; done)), fun _ => ⟨⟨by omega, by omega, by omega, by omega⟩, ?_⟩⟩
      exact ih
    · have e3 : upI (fun j => if j < 192 then (-2 : Int) else 0) 252 2 = iniS := by
        funext j
        rw [upI_at]
        unfold iniS
        by_cases c1 : j = 252
        · rw [if_pos c1, if_neg (by omega), if_pos c1]
        · rw [if_neg c1]
          by_cases c2 : j < 192
          · rw [if_pos c2, if_pos c2]
          · rw [if_neg c2, if_neg c2, if_neg c1]
      have s2 : (setMd σ M m0M (upA a0M 1 iniS)).2 = (M + 12, (c + 11, q + 2923)) := by
        rw [setMd_2, ← hσ]
      have hq := hQ (setMd σ M m0M (upA a0M 1 iniS)).1 (fun x => setMd_is σ M m0M (upA a0M 1 iniS)) (fun a ha => by
        rw [setMd_out (by omega), ← hσ]
        exact hf a ha)
      rw [← s2] at hq
      have hq' : Q (.inl none) (setMd σ M m0M (upA a0M 1 iniS)) := hq
      have e4 : (Int.toNat 252) = 252 := rfl
      clear hQ
      rw [e_Model_init_131]
      simp only [e_Model_init_132, e_Model_init_135, e_Model_init_152, e_Model_init_153, e_Model_init_156, e_Model_init_159, e_Model_init_160, e_Model_init_161, kR_l, kR_r, kP_0, kP_i, kP_r, kP_n, kP_s, kP_o, kLen_I, kLen_L, kLen_R, kLdI_0, kLdI_1, kLdI_2, kLdI_3, kStI_0, kStI_1, kLdL_e, kStL_e, kLdR_e, kStR_e, kFld_e, kNth_0, kNth_s, kPut_e, fit_I, fit_Z, fit_B, fit_C, fit_A, fit_O, Option.toList_some, Option.toList_none, List.cons_append, List.nil_append, true_and, and_true, List.set_cons_zero, List.set_cons_succ, st_same, Int.toNat_natCast, Int.cast_ofNat_Int, Nat.zero_add, Nat.reduceAdd, kRcv_1, kRcv_2, kRcv_3, kRcv_0, kRcv_4, kRcv_5, setMd_set, Mdo, Mda1, Mdw1, Mda2, Mdw2, Mda3, Mdw3, Mda4, Mdw4, Mda5, Mdw5, Mda6, Mdw6, Mda7, Mdw7, Mda8, Mdw8, Mda9, Mdw9, Mda10, Mdw10, Mda11, Mdw11, Mdp3, Mdp5, Mdp6, Mdp7, Mdp8, Mdp10, Mdp16, Mdp17, Mdp18, upA_at, upA_upA, reduceIte, Nat.reduceEqDiff, e4, e3]
      refine ⟨⟨by unfold inR; omega, by unfold inR; omega⟩, fun _ => ⟨⟨by omega, by omega, by omega, by omega⟩, hq'⟩, (fun h => by first | exact absurd h (by omega) | exact absurd trivial h | (exfalso; simp_all; done))⟩
  clear hQ
  have fin2 := fun H' a b => fin H' a b
  clear fin
  simp (disch := first | assumption | omega | (unfold inR; omega)) only [c_Model_init, e_Model_init_0, e_Model_init_1, e_Model_init_4, e_Model_init_5, e_Model_init_8, e_Model_init_10, e_Model_init_13, e_Model_init_14, e_Model_init_17, e_Model_init_19, e_Model_init_22, e_Model_init_23, e_Model_init_26, e_Model_init_28, e_Model_init_31, e_Model_init_32, e_Model_init_34, e_Model_init_36, e_Model_init_39, e_Model_init_40, e_Model_init_42, e_Model_init_44, e_Model_init_47, e_Model_init_48, e_Model_init_49, e_Model_init_51, e_Model_init_52, e_Model_init_53, e_Model_init_54, e_Model_init_55, e_Model_init_56, e_Model_init_57, e_Model_init_58, e_Model_init_59, e_Model_init_60, e_Model_init_61, e_Model_init_62, e_Model_init_63, e_Model_init_64, e_Model_init_65, e_Model_init_66, e_Model_init_67, e_Model_init_70, e_Model_init_71, e_Model_init_72, e_Model_init_74, e_Model_init_75, e_Model_init_76, e_Model_init_77, e_Model_init_78, e_Model_init_79, e_Model_init_80, e_Model_init_81, e_Model_init_82, e_Model_init_83, e_Model_init_84, e_Model_init_85, e_Model_init_86, e_Model_init_87, e_Model_init_88, e_Model_init_89, e_Model_init_90, e_Model_init_93, e_Model_init_94, e_Model_init_97, e_Model_init_99, e_Model_init_102, e_Model_init_103, e_Model_init_106, e_Model_init_108, e_Model_init_111, e_Model_init_112, e_Model_init_115, e_Model_init_117, e_Model_init_120, e_Model_init_121, e_Model_init_124, e_Model_init_126, e_Model_init_129, e_Model_init_130, kR_l, kR_r, kP_0, kP_i, kP_r, kP_n, kP_s, kP_o, kLen_I, kLen_L, kLen_R, kLdI_0, kLdI_1, kLdI_2, kLdI_3, kStI_0, kStI_1, kLdL_e, kStL_e, kLdR_e, kStR_e, kFld_e, kNth_0, kNth_s, kPut_e, fit_I, fit_Z, fit_B, fit_C, fit_A, fit_O, Option.toList_some, Option.toList_none, List.cons_append, List.nil_append, true_and, and_true, List.set_cons_zero, List.set_cons_succ, st_same, Int.toNat_natCast, Int.cast_ofNat_Int, Nat.zero_add, Nat.reduceAdd, kRcv_1, kRcv_2, kRcv_3, kRcv_0, kRcv_4, kRcv_5, nw_e, st_e, up_same, up_ne, up_up, h, List.length_cons, List.length_nil, Nat.add_assoc, Int.reduceToNat, ax_up, ay_up]
  repeat' (first | refine And.intro ?_ ?_ | exact trivial | omega | (intro _; omega))
  all_goals first
    | omega
    | (refine fin2 _ ?_ ?_
       · refine ⟨?_, ?_, ?_, ?_, ?_, ?_, ?_, ?_, ?_, ?_, ?_, ?_⟩ <;> simp (disch := first | assumption | omega | (unfold inR; omega)) only [up_same, up_ne]
       · intro a ha
         simp (disch := first | assumption | omega | (unfold inR; omega)) only [up_ne])
    | skip
end IN3

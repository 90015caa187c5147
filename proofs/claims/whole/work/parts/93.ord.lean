/-! THE CLASS'S TEXT: the words; reading orders -/
theorem kRcv_9 (fs : List AV) (P : Prop) : kRcv (some (oC 6 fs)) 9 P = P := by
  show ((6 = 9 ∧ 6 < 6 ∨ 6 = 6 ∧ 9 = 9) ∧ P) = P
  simp
theorem and255 : ∀ x : Nat, x < 128 → (Int32.ofInt (x : Int) &&& Int32.ofInt 255).toInt = x := by decide +kernel
theorem shr0 : ∀ x : Nat, x < 8 → (Int32.ofInt (x : Int) >>> (Int32.ofInt 0 &&& 31)).toInt = x := by decide +kernel
def WdS (G : Nat → Nat) (σ : AS) : Prop := ∀ d : Int, -1 ≤ d → d ≤ 4 → ∃ v, G (if d = -1 then 15 else 10 + d.toNat) < G 0 ∧ v < G 0 ∧ σ.1 (G (if d = -1 then 15 else 10 + d.toNat)) = some (oC 6 [vR v, vI 0]) ∧ σ.1 v = some (oI 3 (wlN d) (wlC d))
theorem WdS.away {G : Nat → Nat} {σ σ' : AS} (h : WdS G σ) (e : ∀ a, a < G 0 → σ'.1 a = σ.1 a) : WdS G σ' := fun d h1 h2 => by
  obtain ⟨v, k1, k2, k3, k4⟩ := h d h1 h2
  exact ⟨v, k1, k2, by rw [e _ k1]; exact k3, by rw [e _ k2]; exact k4⟩
theorem wlC_bd (d : Int) (k : Nat) (hk : k < wlN d) : 0 ≤ wlC d k ∧ wlC d k ≤ 127 := by
  unfold wlN at hk
  unfold wlC
  split
  · rw [if_pos (by assumption)] at hk
    rcases (show k = 0 ∨ k = 1 ∨ k = 2 ∨ k = 3 by omega) with rfl | rfl | rfl | rfl <;> decide
  · rw [if_neg (by assumption)] at hk
    split
    · rw [if_pos (by assumption)] at hk
      rcases (show k = 0 ∨ k = 1 ∨ k = 2 by omega) with rfl | rfl | rfl <;> decide
    · rw [if_neg (by assumption)] at hk
      split
      · rw [if_pos (by assumption)] at hk
        rcases (show k = 0 ∨ k = 1 ∨ k = 2 ∨ k = 3 by omega) with rfl | rfl | rfl | rfl <;> decide
      · rw [if_neg (by assumption)] at hk
        split
        · rw [if_pos (by assumption)] at hk
          rcases (show k = 0 ∨ k = 1 ∨ k = 2 ∨ k = 3 by omega) with rfl | rfl | rfl | rfl <;> decide
        · rw [if_neg (by assumption)] at hk
          split
          · rw [if_pos (by assumption)] at hk
            rcases (show k = 0 by omega) with rfl
            decide
          · rw [if_neg (by assumption)] at hk
            omega
theorem wlN_le (d : Int) : wlN d ≤ 4 := by
  unfold wlN
  repeat' split
  all_goals omega
def oOr (O : Nat) (n : Nat) (a b d w : Int) : AO := oC 0 [vR (O + 1), vI (n : Nat), vI a, vI b, vI d, vI w]
section ORD
variable {G : Nat → Nat} {σ : AS} {Q : (Option AV ⊕ Nat) → AS → Prop} {O n : Nat} {t : Nat → Int} {a b d w : Int}
theorem s_StrLen {x v l : Nat} {f : Nat → Int} (h1 : σ.1 x = some (oC 6 [vR v, vI 0])) (h2 : σ.1 v = some (oI 3 l f)) (hl : l < 8) : CW G k_String_length [vR x] σ Q = Q (.inl (some (vI (l : Nat)))) σ := by
  refine CW.det' fun R hR => ?_
  simp only [c_String_length, e_String_length_0, e_String_length_1, e_String_length_4, e_String_length_5, e_String_length_6, e_String_length_9, e_String_length_10, kR_l, kR_r, kP_0, kP_i, kP_r, kP_n, kP_s, kP_o, kLen_I, kLen_L, kLen_R, kLdI_0, kLdI_1, kLdI_2, kLdI_3, kStI_0, kStI_1, kLdL_e, kStL_e, kLdR_e, kStR_e, kFld_e, kNth_0, kNth_s, kPut_e, fit_I, fit_Z, fit_B, fit_C, fit_A, fit_O, Option.toList_some, Option.toList_none, List.cons_append, List.nil_append, true_and, and_true, List.set_cons_zero, List.set_cons_succ, st_same, Int.toNat_natCast, Int.cast_ofNat_Int, Nat.zero_add, Nat.reduceAdd, kRcv_1, kRcv_2, kRcv_3, kRcv_0, kRcv_4, kRcv_5, h1, h2, kRcv_9, c_String_coder, e_String_coder_0, e_String_coder_3, e_String_coder_6, e_String_coder_7, e_String_coder_10, e_String_coder_13, e_String_coder_14]
  have e := shr0 l hl
  rw [e]
  all_goals ((repeat' (first | with_reducible refine And.intro ?_ ?_ | intro _)) <;> first | with_reducible assumption | exact True.intro | with_reducible exact hR | omega | (simp only [inR] at *; omega) | exact hR | with_reducible rfl | rfl | (simp; done) | (exfalso; simp_all; done) | skip)
theorem s_Latin {x v : Nat} (h1 : σ.1 x = some (oC 6 [vR v, vI 0])) : CW G k_String_isLatin1 [vR x] σ Q = Q (.inl (some (vI 1))) σ := by
  refine CW.det' fun R hR => ?_
  simp only [c_String_isLatin1, e_String_isLatin1_0, e_String_isLatin1_3, e_String_isLatin1_6, e_String_isLatin1_7, e_String_isLatin1_10, e_String_isLatin1_13, e_String_isLatin1_14, e_String_isLatin1_17, e_String_isLatin1_18, kR_l, kR_r, kP_0, kP_i, kP_r, kP_n, kP_s, kP_o, kLen_I, kLen_L, kLen_R, kLdI_0, kLdI_1, kLdI_2, kLdI_3, kStI_0, kStI_1, kLdL_e, kStL_e, kLdR_e, kStR_e, kFld_e, kNth_0, kNth_s, kPut_e, fit_I, fit_Z, fit_B, fit_C, fit_A, fit_O, Option.toList_some, Option.toList_none, List.cons_append, List.nil_append, true_and, and_true, List.set_cons_zero, List.set_cons_succ, st_same, Int.toNat_natCast, Int.cast_ofNat_Int, Nat.zero_add, Nat.reduceAdd, kRcv_1, kRcv_2, kRcv_3, kRcv_0, kRcv_4, kRcv_5, h1]
  all_goals ((repeat' (first | with_reducible refine And.intro ?_ ?_ | intro _)) <;> first | with_reducible assumption | exact True.intro | with_reducible exact hR | omega | (simp only [inR] at *; omega) | exact hR | with_reducible rfl | rfl | (simp; done) | (exfalso; simp_all; done) | skip)
theorem s_Precond {k l : Nat} {z : Option Nat} (hk : k < l) (hl : l < 8) : CW G k_Precond_checkIndex [vI (k : Nat), vI (l : Nat), .inr (.inr (.inr z))] σ Q = Q (.inl (some (vI (k : Nat)))) σ := by
  refine CW.det' fun R hR => ?_
  simp only [c_Precond_checkIndex, e_Precond_checkIndex_0, e_Precond_checkIndex_1, e_Precond_checkIndex_4, e_Precond_checkIndex_5, e_Precond_checkIndex_6, e_Precond_checkIndex_16, e_Precond_checkIndex_17, kR_l, kR_r, kP_0, kP_i, kP_r, kP_n, kP_s, kP_o, kLen_I, kLen_L, kLen_R, kLdI_0, kLdI_1, kLdI_2, kLdI_3, kStI_0, kStI_1, kLdL_e, kStL_e, kLdR_e, kStR_e, kFld_e, kNth_0, kNth_s, kPut_e, fit_I, fit_Z, fit_B, fit_C, fit_A, fit_O, Option.toList_some, Option.toList_none, List.cons_append, List.nil_append, true_and, and_true, List.set_cons_zero, List.set_cons_succ, st_same, Int.toNat_natCast, Int.cast_ofNat_Int, Nat.zero_add, Nat.reduceAdd, kRcv_1, kRcv_2, kRcv_3, kRcv_0, kRcv_4, kRcv_5]
  all_goals ((repeat' (first | with_reducible refine And.intro ?_ ?_ | intro _)) <;> first | with_reducible assumption | exact True.intro | with_reducible exact hR | omega | (simp only [inR] at *; omega) | exact hR | with_reducible rfl | rfl | (simp; done) | (exfalso; simp_all; done) | skip)
theorem s_StrAt {x v l k : Nat} {f : Nat → Int} (h1 : σ.1 x = some (oC 6 [vR v, vI 0])) (h2 : σ.1 v = some (oI 3 l f)) (hl : l < 8) (hk : k < l) (hf : 0 ≤ f k ∧ f k ≤ 127) : CW G k_String_charAt [vR x, vI (k : Nat)] σ Q = Q (.inl (some (vI (f k)))) σ := by
  refine CW.det' fun R hR => ?_
  have e := and255 (f k).toNat (by omega)
  rw [show (((f k).toNat : Nat) : Int) = f k by omega] at e
  simp only [c_String_charAt, e_String_charAt_0, e_String_charAt_1, kR_l, kR_r, kP_0, kP_i, kP_r, kP_n, kP_s, kP_o, kLen_I, kLen_L, kLen_R, kLdI_0, kLdI_1, kLdI_2, kLdI_3, kStI_0, kStI_1, kLdL_e, kStL_e, kLdR_e, kStR_e, kFld_e, kNth_0, kNth_s, kPut_e, fit_I, fit_Z, fit_B, fit_C, fit_A, fit_O, Option.toList_some, Option.toList_none, List.cons_append, List.nil_append, true_and, and_true, List.set_cons_zero, List.set_cons_succ, st_same, Int.toNat_natCast, Int.cast_ofNat_Int, Nat.zero_add, Nat.reduceAdd, kRcv_1, kRcv_2, kRcv_3, kRcv_0, kRcv_4, kRcv_5, h1, kRcv_9]
  rw [s_Latin h1]
  simp only [e_String_charAt_4, e_String_charAt_7, e_String_charAt_8, e_String_charAt_11, e_String_charAt_12, kR_l, kR_r, kP_0, kP_i, kP_r, kP_n, kP_s, kP_o, kLen_I, kLen_L, kLen_R, kLdI_0, kLdI_1, kLdI_2, kLdI_3, kStI_0, kStI_1, kLdL_e, kStL_e, kLdR_e, kStR_e, kFld_e, kNth_0, kNth_s, kPut_e, fit_I, fit_Z, fit_B, fit_C, fit_A, fit_O, Option.toList_some, Option.toList_none, List.cons_append, List.nil_append, true_and, and_true, List.set_cons_zero, List.set_cons_succ, st_same, Int.toNat_natCast, Int.cast_ofNat_Int, Nat.zero_add, Nat.reduceAdd, kRcv_1, kRcv_2, kRcv_3, kRcv_0, kRcv_4, kRcv_5, h1]
  refine ⟨by unfold inR; omega, (fun h => by first | exact absurd h (by omega) | exact absurd trivial h | (exfalso; simp_all; done)), fun _ => ?_⟩
  simp only [c_Latin1_charAt, e_Latin1_charAt_0, e_Latin1_charAt_1, e_Latin1_charAt_2, e_Latin1_charAt_3, kR_l, kR_r, kP_0, kP_i, kP_r, kP_n, kP_s, kP_o, kLen_I, kLen_L, kLen_R, kLdI_0, kLdI_1, kLdI_2, kLdI_3, kStI_0, kStI_1, kLdL_e, kStL_e, kLdR_e, kStR_e, kFld_e, kNth_0, kNth_s, kPut_e, fit_I, fit_Z, fit_B, fit_C, fit_A, fit_O, Option.toList_some, Option.toList_none, List.cons_append, List.nil_append, true_and, and_true, List.set_cons_zero, List.set_cons_succ, st_same, Int.toNat_natCast, Int.cast_ofNat_Int, Nat.zero_add, Nat.reduceAdd, kRcv_1, kRcv_2, kRcv_3, kRcv_0, kRcv_4, kRcv_5, h2, c_String_checkIndex, e_String_checkIndex_0, e_String_checkIndex_1, e_String_checkIndex_2, e_String_checkIndex_5]
  rw [s_Precond hk hl]
  simp only [e_String_checkIndex_8, e_String_checkIndex_9, e_Latin1_charAt_6, e_Latin1_charAt_7, e_Latin1_charAt_8, e_Latin1_charAt_9, e_Latin1_charAt_12, e_Latin1_charAt_13, e_Latin1_charAt_14, kR_l, kR_r, kP_0, kP_i, kP_r, kP_n, kP_s, kP_o, kLen_I, kLen_L, kLen_R, kLdI_0, kLdI_1, kLdI_2, kLdI_3, kStI_0, kStI_1, kLdL_e, kStL_e, kLdR_e, kStR_e, kFld_e, kNth_0, kNth_s, kPut_e, fit_I, fit_Z, fit_B, fit_C, fit_A, fit_O, Option.toList_some, Option.toList_none, List.cons_append, List.nil_append, true_and, and_true, List.set_cons_zero, List.set_cons_succ, st_same, Int.toNat_natCast, Int.cast_ofNat_Int, Nat.zero_add, Nat.reduceAdd, kRcv_1, kRcv_2, kRcv_3, kRcv_0, kRcv_4, kRcv_5, h2, e, e_String_charAt_15]
  all_goals ((repeat' (first | with_reducible refine And.intro ?_ ?_ | intro _)) <;> first | with_reducible assumption | exact True.intro | with_reducible exact hR | omega | (simp only [inR] at *; omega) | exact hR | with_reducible rfl | rfl | (simp; done) | (exfalso; simp_all; done) | skip)
theorem s_codeAt {i : Nat} (hO : σ.1 O = some (oOr O n a b d w)) (hc : σ.1 (O + 1) = some (oI 0 60 t)) (hn : n ≤ 60) (hi : i ≤ 1000) : CW G k_Orders_codeAt [vR O, vI (i : Nat)] σ Q = Q (.inl (some (vI (cA t n i)))) σ := by
  refine CW.det' fun R hR => ?_
  unfold oOr at hO
  unfold cA at hR
  simp only [c_Orders_codeAt, e_Orders_codeAt_0, e_Orders_codeAt_1, e_Orders_codeAt_4, e_Orders_codeAt_5, e_Orders_codeAt_6, e_Orders_codeAt_9, e_Orders_codeAt_12, e_Orders_codeAt_13, e_Orders_codeAt_16, e_Orders_codeAt_17, kR_l, kR_r, kP_0, kP_i, kP_r, kP_n, kP_s, kP_o, kLen_I, kLen_L, kLen_R, kLdI_0, kLdI_1, kLdI_2, kLdI_3, kStI_0, kStI_1, kLdL_e, kStL_e, kLdR_e, kStR_e, kFld_e, kNth_0, kNth_s, kPut_e, fit_I, fit_Z, fit_B, fit_C, fit_A, fit_O, Option.toList_some, Option.toList_none, List.cons_append, List.nil_append, true_and, and_true, List.set_cons_zero, List.set_cons_succ, st_same, Int.toNat_natCast, Int.cast_ofNat_Int, Nat.zero_add, Nat.reduceAdd, kRcv_1, kRcv_2, kRcv_3, kRcv_0, kRcv_4, kRcv_5, hO]
  by_cases c : i < n
  · rw [if_pos c] at hR
    refine ⟨by unfold inR; omega, (fun h => by first | exact absurd h (by omega) | exact absurd trivial h | (exfalso; simp_all; done)), fun _ => ⟨⟨by unfold inR; omega, by unfold inR; omega⟩, (fun h => by first | exact absurd h (by omega) | exact absurd trivial h | (exfalso; simp_all; done)), fun _ => ?_⟩⟩
    rw [s_Cp_at hc (Or.inl rfl) (by omega) (by unfold inR; omega), if_pos (by omega), Int.toNat_natCast]
    simp only [e_Orders_codeAt_20, e_Orders_codeAt_23, e_Orders_codeAt_24, kR_l, kR_r, kP_0, kP_i, kP_r, kP_n, kP_s, kP_o, kLen_I, kLen_L, kLen_R, kLdI_0, kLdI_1, kLdI_2, kLdI_3, kStI_0, kStI_1, kLdL_e, kStL_e, kLdR_e, kStR_e, kFld_e, kNth_0, kNth_s, kPut_e, fit_I, fit_Z, fit_B, fit_C, fit_A, fit_O, Option.toList_some, Option.toList_none, List.cons_append, List.nil_append, true_and, and_true, List.set_cons_zero, List.set_cons_succ, st_same, Int.toNat_natCast, Int.cast_ofNat_Int, Nat.zero_add, Nat.reduceAdd, kRcv_1, kRcv_2, kRcv_3, kRcv_0, kRcv_4, kRcv_5]
    first | exact hR | exact ⟨trivial, hR⟩ | exact ⟨by simp, hR⟩
  · rw [if_neg c] at hR
    refine ⟨by unfold inR; omega, (fun h => by first | exact absurd h (by omega) | exact absurd trivial h | (exfalso; simp_all; done)), fun _ => ⟨⟨by unfold inR; omega, by unfold inR; omega⟩, fun _ => ?_, (fun h => by first | exact absurd h (by omega) | exact absurd trivial h | (exfalso; simp_all; done))⟩⟩
    simp only [e_Orders_codeAt_23, e_Orders_codeAt_24, kR_l, kR_r, kP_0, kP_i, kP_r, kP_n, kP_s, kP_o, kLen_I, kLen_L, kLen_R, kLdI_0, kLdI_1, kLdI_2, kLdI_3, kStI_0, kStI_1, kLdL_e, kStL_e, kLdR_e, kStR_e, kFld_e, kNth_0, kNth_s, kPut_e, fit_I, fit_Z, fit_B, fit_C, fit_A, fit_O, Option.toList_some, Option.toList_none, List.cons_append, List.nil_append, true_and, and_true, List.set_cons_zero, List.set_cons_succ, st_same, Int.toNat_natCast, Int.cast_ofNat_Int, Nat.zero_add, Nat.reduceAdd, kRcv_1, kRcv_2, kRcv_3, kRcv_0, kRcv_4, kRcv_5]
    first | exact hR | exact ⟨trivial, hR⟩ | exact ⟨by simp, hR⟩
theorem s_letterAt {i : Nat} (hO : σ.1 O = some (oOr O n a b d w)) (hc : σ.1 (O + 1) = some (oI 0 60 t)) (hn : n ≤ 60) (hi : i ≤ 1000) (ht : TxOK t) : CW G k_Orders_letterAt [vR O, vI (i : Nat)] σ Q = Q (.inl (some (vI (ltA (cA t n) i)))) σ := by
  refine CW.det' fun R hR => ?_
  have hr : kRcv (σ.1 O) 0 = fun P => P := by
    funext P
    rw [hO]
    exact kRcv_e _ _ (by decide)
  have hb : 0 ≤ cA t n i ∧ cA t n i ≤ 126 := by
    unfold cA
    split
    · exact ht i
    · omega
  unfold ltA at hR
  simp only [c_Orders_letterAt, e_Orders_letterAt_0, e_Orders_letterAt_1, e_Orders_letterAt_2, kR_l, kR_r, kP_0, kP_i, kP_r, kP_n, kP_s, kP_o, kLen_I, kLen_L, kLen_R, kLdI_0, kLdI_1, kLdI_2, kLdI_3, kStI_0, kStI_1, kLdL_e, kStL_e, kLdR_e, kStR_e, kFld_e, kNth_0, kNth_s, kPut_e, fit_I, fit_Z, fit_B, fit_C, fit_A, fit_O, Option.toList_some, Option.toList_none, List.cons_append, List.nil_append, true_and, and_true, List.set_cons_zero, List.set_cons_succ, st_same, Int.toNat_natCast, Int.cast_ofNat_Int, Nat.zero_add, Nat.reduceAdd, kRcv_1, kRcv_2, kRcv_3, kRcv_0, kRcv_4, kRcv_5, hr]
  rw [s_codeAt hO hc hn hi]
  generalize cA t n i = v at *
  simp only [e_Orders_letterAt_5, e_Orders_letterAt_6, e_Orders_letterAt_7, e_Orders_letterAt_9, e_Orders_letterAt_12, e_Orders_letterAt_13, e_Orders_letterAt_15, e_Orders_letterAt_18, e_Orders_letterAt_19, e_Orders_letterAt_21, e_Orders_letterAt_22, e_Orders_letterAt_25, e_Orders_letterAt_26, kR_l, kR_r, kP_0, kP_i, kP_r, kP_n, kP_s, kP_o, kLen_I, kLen_L, kLen_R, kLdI_0, kLdI_1, kLdI_2, kLdI_3, kStI_0, kStI_1, kLdL_e, kStL_e, kLdR_e, kStR_e, kFld_e, kNth_0, kNth_s, kPut_e, fit_I, fit_Z, fit_B, fit_C, fit_A, fit_O, Option.toList_some, Option.toList_none, List.cons_append, List.nil_append, true_and, and_true, List.set_cons_zero, List.set_cons_succ, st_same, Int.toNat_natCast, Int.cast_ofNat_Int, Nat.zero_add, Nat.reduceAdd, kRcv_1, kRcv_2, kRcv_3, kRcv_0, kRcv_4, kRcv_5]
  by_cases c : 65 ≤ v ∧ v ≤ 70
  · rw [if_pos c] at hR
    refine ⟨⟨by unfold inR; omega, by unfold inR; omega⟩, (fun h => by first | exact absurd h (by omega) | exact absurd trivial h | (exfalso; simp_all; done)), fun _ => ⟨⟨by unfold inR; omega, by unfold inR; omega⟩, (fun h => by first | exact absurd h (by omega) | exact absurd trivial h | (exfalso; simp_all; done)), fun _ => ?_⟩⟩
    first | exact hR | exact ⟨trivial, hR⟩ | exact ⟨by simp, hR⟩
  · rw [if_neg c] at hR
    refine ⟨⟨by unfold inR; omega, by unfold inR; omega⟩, fun _ => ?_, fun _ => ⟨⟨by unfold inR; omega, by unfold inR; omega⟩, fun _ => ?_, (fun h => by first | exact absurd h (by omega) | exact absurd trivial h | (exfalso; simp_all; done))⟩⟩ <;> first | exact hR | exact ⟨trivial, hR⟩ | exact ⟨by simp, hR⟩
theorem s_deedB {v : Int} (hv : inR v) : CW G k_Orders_deedBeginningWith [vI v] σ Q = Q (.inl (some (vI (dB v)))) σ := by
  refine CW.det' fun R hR => ?_
  unfold dB at hR
  simp only [c_Orders_deedBeginningWith, e_Orders_deedBeginningWith_0, kR_l, kR_r, kP_0, kP_i, kP_r, kP_n, kP_s, kP_o, kLen_I, kLen_L, kLen_R, kLdI_0, kLdI_1, kLdI_2, kLdI_3, kStI_0, kStI_1, kLdL_e, kStL_e, kLdR_e, kStR_e, kFld_e, kNth_0, kNth_s, kPut_e, fit_I, fit_Z, fit_B, fit_C, fit_A, fit_O, Option.toList_some, Option.toList_none, List.cons_append, List.nil_append, true_and, and_true, List.set_cons_zero, List.set_cons_succ, st_same, Int.toNat_natCast, Int.cast_ofNat_Int, Nat.zero_add, Nat.reduceAdd, kRcv_1, kRcv_2, kRcv_3, kRcv_0, kRcv_4, kRcv_5]
  by_cases c0 : v = 33
  · subst c0
    rw [e_Orders_deedBeginningWith_1 _ _ (by decide), show am_tgt 1 (Op.lookupswitch.offset [(33, 59), (99, 57), (110, 51), (111, 53), (112, 55)] 61 33) = 60 from by decide]
    refine ⟨hv, ?_⟩
    simp only [e_Orders_deedBeginningWith_60, e_Orders_deedBeginningWith_61, kR_l, kR_r, kP_0, kP_i, kP_r, kP_n, kP_s, kP_o, kLen_I, kLen_L, kLen_R, kLdI_0, kLdI_1, kLdI_2, kLdI_3, kStI_0, kStI_1, kLdL_e, kStL_e, kLdR_e, kStR_e, kFld_e, kNth_0, kNth_s, kPut_e, fit_I, fit_Z, fit_B, fit_C, fit_A, fit_O, Option.toList_some, Option.toList_none, List.cons_append, List.nil_append, true_and, and_true, List.set_cons_zero, List.set_cons_succ, st_same, Int.toNat_natCast, Int.cast_ofNat_Int, Nat.zero_add, Nat.reduceAdd, kRcv_1, kRcv_2, kRcv_3, kRcv_0, kRcv_4, kRcv_5]
    first | exact hR | exact ⟨trivial, hR⟩ | exact ⟨by simp, hR⟩
  by_cases c1 : v = 99
  · subst c1
    rw [e_Orders_deedBeginningWith_1 _ _ (by decide), show am_tgt 1 (Op.lookupswitch.offset [(33, 59), (99, 57), (110, 51), (111, 53), (112, 55)] 61 99) = 58 from by decide]
    refine ⟨hv, ?_⟩
    simp only [e_Orders_deedBeginningWith_58, e_Orders_deedBeginningWith_59, kR_l, kR_r, kP_0, kP_i, kP_r, kP_n, kP_s, kP_o, kLen_I, kLen_L, kLen_R, kLdI_0, kLdI_1, kLdI_2, kLdI_3, kStI_0, kStI_1, kLdL_e, kStL_e, kLdR_e, kStR_e, kFld_e, kNth_0, kNth_s, kPut_e, fit_I, fit_Z, fit_B, fit_C, fit_A, fit_O, Option.toList_some, Option.toList_none, List.cons_append, List.nil_append, true_and, and_true, List.set_cons_zero, List.set_cons_succ, st_same, Int.toNat_natCast, Int.cast_ofNat_Int, Nat.zero_add, Nat.reduceAdd, kRcv_1, kRcv_2, kRcv_3, kRcv_0, kRcv_4, kRcv_5]
    first | exact hR | exact ⟨trivial, hR⟩ | exact ⟨by simp, hR⟩
  by_cases c2 : v = 110
  · subst c2
    rw [e_Orders_deedBeginningWith_1 _ _ (by decide), show am_tgt 1 (Op.lookupswitch.offset [(33, 59), (99, 57), (110, 51), (111, 53), (112, 55)] 61 110) = 52 from by decide]
    refine ⟨hv, ?_⟩
    simp only [e_Orders_deedBeginningWith_52, e_Orders_deedBeginningWith_53, kR_l, kR_r, kP_0, kP_i, kP_r, kP_n, kP_s, kP_o, kLen_I, kLen_L, kLen_R, kLdI_0, kLdI_1, kLdI_2, kLdI_3, kStI_0, kStI_1, kLdL_e, kStL_e, kLdR_e, kStR_e, kFld_e, kNth_0, kNth_s, kPut_e, fit_I, fit_Z, fit_B, fit_C, fit_A, fit_O, Option.toList_some, Option.toList_none, List.cons_append, List.nil_append, true_and, and_true, List.set_cons_zero, List.set_cons_succ, st_same, Int.toNat_natCast, Int.cast_ofNat_Int, Nat.zero_add, Nat.reduceAdd, kRcv_1, kRcv_2, kRcv_3, kRcv_0, kRcv_4, kRcv_5]
    first | exact hR | exact ⟨trivial, hR⟩ | exact ⟨by simp, hR⟩
  by_cases c3 : v = 111
  · subst c3
    rw [e_Orders_deedBeginningWith_1 _ _ (by decide), show am_tgt 1 (Op.lookupswitch.offset [(33, 59), (99, 57), (110, 51), (111, 53), (112, 55)] 61 111) = 54 from by decide]
    refine ⟨hv, ?_⟩
    simp only [e_Orders_deedBeginningWith_54, e_Orders_deedBeginningWith_55, kR_l, kR_r, kP_0, kP_i, kP_r, kP_n, kP_s, kP_o, kLen_I, kLen_L, kLen_R, kLdI_0, kLdI_1, kLdI_2, kLdI_3, kStI_0, kStI_1, kLdL_e, kStL_e, kLdR_e, kStR_e, kFld_e, kNth_0, kNth_s, kPut_e, fit_I, fit_Z, fit_B, fit_C, fit_A, fit_O, Option.toList_some, Option.toList_none, List.cons_append, List.nil_append, true_and, and_true, List.set_cons_zero, List.set_cons_succ, st_same, Int.toNat_natCast, Int.cast_ofNat_Int, Nat.zero_add, Nat.reduceAdd, kRcv_1, kRcv_2, kRcv_3, kRcv_0, kRcv_4, kRcv_5]
    first | exact hR | exact ⟨trivial, hR⟩ | exact ⟨by simp, hR⟩
  by_cases c4 : v = 112
  · subst c4
    rw [e_Orders_deedBeginningWith_1 _ _ (by decide), show am_tgt 1 (Op.lookupswitch.offset [(33, 59), (99, 57), (110, 51), (111, 53), (112, 55)] 61 112) = 56 from by decide]
    refine ⟨hv, ?_⟩
    simp only [e_Orders_deedBeginningWith_56, e_Orders_deedBeginningWith_57, kR_l, kR_r, kP_0, kP_i, kP_r, kP_n, kP_s, kP_o, kLen_I, kLen_L, kLen_R, kLdI_0, kLdI_1, kLdI_2, kLdI_3, kStI_0, kStI_1, kLdL_e, kStL_e, kLdR_e, kStR_e, kFld_e, kNth_0, kNth_s, kPut_e, fit_I, fit_Z, fit_B, fit_C, fit_A, fit_O, Option.toList_some, Option.toList_none, List.cons_append, List.nil_append, true_and, and_true, List.set_cons_zero, List.set_cons_succ, st_same, Int.toNat_natCast, Int.cast_ofNat_Int, Nat.zero_add, Nat.reduceAdd, kRcv_1, kRcv_2, kRcv_3, kRcv_0, kRcv_4, kRcv_5]
    first | exact hR | exact ⟨trivial, hR⟩ | exact ⟨by simp, hR⟩
  have eo : Op.lookupswitch.offset [(33, 59), (99, 57), (110, 51), (111, 53), (112, 55)] 61 v = 61 := by
    simp only [Op.lookupswitch.offset_cons, Op.lookupswitch.offset_nil]
    rw [if_neg (by omega), if_neg (by omega), if_neg (by omega), if_neg (by omega), if_neg (by omega)]
  rw [if_neg c2, if_neg c3, if_neg c4, if_neg c1, if_neg c0] at hR
  rw [e_Orders_deedBeginningWith_1 _ _ (by rw [eo]; decide), eo, show am_tgt 1 61 = 62 from by decide]
  refine ⟨hv, ?_⟩
  simp only [e_Orders_deedBeginningWith_62, e_Orders_deedBeginningWith_63, kR_l, kR_r, kP_0, kP_i, kP_r, kP_n, kP_s, kP_o, kLen_I, kLen_L, kLen_R, kLdI_0, kLdI_1, kLdI_2, kLdI_3, kStI_0, kStI_1, kLdL_e, kStL_e, kLdR_e, kStR_e, kFld_e, kNth_0, kNth_s, kPut_e, fit_I, fit_Z, fit_B, fit_C, fit_A, fit_O, Option.toList_some, Option.toList_none, List.cons_append, List.nil_append, true_and, and_true, List.set_cons_zero, List.set_cons_succ, st_same, Int.toNat_natCast, Int.cast_ofNat_Int, Nat.zero_add, Nat.reduceAdd, kRcv_1, kRcv_2, kRcv_3, kRcv_0, kRcv_4, kRcv_5]
  first | exact hR | exact ⟨trivial, hR⟩ | exact ⟨by simp, hR⟩
theorem s_wordOf {dd : Int} (h1 : -1 ≤ dd) (h2 : dd ≤ 4) : CW G k_Orders_wordOf [vI dd] σ Q = Q (.inl (some (vR (G (if dd = -1 then 15 else 10 + dd.toNat))))) σ := by
  refine CW.det' fun R hR => ?_
  simp only [c_Orders_wordOf, e_Orders_wordOf_0, e_Orders_wordOf_1, kR_l, kR_r, kP_0, kP_i, kP_r, kP_n, kP_s, kP_o, kLen_I, kLen_L, kLen_R, kLdI_0, kLdI_1, kLdI_2, kLdI_3, kStI_0, kStI_1, kLdL_e, kStL_e, kLdR_e, kStR_e, kFld_e, kNth_0, kNth_s, kPut_e, fit_I, fit_Z, fit_B, fit_C, fit_A, fit_O, Option.toList_some, Option.toList_none, List.cons_append, List.nil_append, true_and, and_true, List.set_cons_zero, List.set_cons_succ, st_same, Int.toNat_natCast, Int.cast_ofNat_Int, Nat.zero_add, Nat.reduceAdd, kRcv_1, kRcv_2, kRcv_3, kRcv_0, kRcv_4, kRcv_5]
  refine ⟨by unfold inR; omega, ?_⟩
  rcases (show dd = -1 ∨ dd = 0 ∨ dd = 1 ∨ dd = 2 ∨ dd = 3 ∨ dd = 4 by omega) with rfl | rfl | rfl | rfl | rfl | rfl
  · rw [show am_tsw 1 50 0 4 [35, 38, 41, 44, 47] (-1) = 51 from by decide]
    simp only [e_Orders_wordOf_51, kR_l, kR_r, kP_0, kP_i, kP_r, kP_n, kP_s, kP_o, kLen_I, kLen_L, kLen_R, kLdI_0, kLdI_1, kLdI_2, kLdI_3, kStI_0, kStI_1, kLdL_e, kStL_e, kLdR_e, kStR_e, kFld_e, kNth_0, kNth_s, kPut_e, fit_I, fit_Z, fit_B, fit_C, fit_A, fit_O, Option.toList_some, Option.toList_none, List.cons_append, List.nil_append, true_and, and_true, List.set_cons_zero, List.set_cons_succ, st_same, Int.toNat_natCast, Int.cast_ofNat_Int, Nat.zero_add, Nat.reduceAdd, kRcv_1, kRcv_2, kRcv_3, kRcv_0, kRcv_4, kRcv_5]
    exact Eq.mpr (e_Orders_wordOf_53 (some (vI (-1))) (some (G 15)) σ R) hR
  · rw [show am_tsw 1 50 0 4 [35, 38, 41, 44, 47] (0) = 36 from by decide]
    simp only [e_Orders_wordOf_36, kR_l, kR_r, kP_0, kP_i, kP_r, kP_n, kP_s, kP_o, kLen_I, kLen_L, kLen_R, kLdI_0, kLdI_1, kLdI_2, kLdI_3, kStI_0, kStI_1, kLdL_e, kStL_e, kLdR_e, kStR_e, kFld_e, kNth_0, kNth_s, kPut_e, fit_I, fit_Z, fit_B, fit_C, fit_A, fit_O, Option.toList_some, Option.toList_none, List.cons_append, List.nil_append, true_and, and_true, List.set_cons_zero, List.set_cons_succ, st_same, Int.toNat_natCast, Int.cast_ofNat_Int, Nat.zero_add, Nat.reduceAdd, kRcv_1, kRcv_2, kRcv_3, kRcv_0, kRcv_4, kRcv_5]
    exact Eq.mpr (e_Orders_wordOf_38 (some (vI (0))) (some (G 10)) σ R) hR
  · rw [show am_tsw 1 50 0 4 [35, 38, 41, 44, 47] (1) = 39 from by decide]
    simp only [e_Orders_wordOf_39, kR_l, kR_r, kP_0, kP_i, kP_r, kP_n, kP_s, kP_o, kLen_I, kLen_L, kLen_R, kLdI_0, kLdI_1, kLdI_2, kLdI_3, kStI_0, kStI_1, kLdL_e, kStL_e, kLdR_e, kStR_e, kFld_e, kNth_0, kNth_s, kPut_e, fit_I, fit_Z, fit_B, fit_C, fit_A, fit_O, Option.toList_some, Option.toList_none, List.cons_append, List.nil_append, true_and, and_true, List.set_cons_zero, List.set_cons_succ, st_same, Int.toNat_natCast, Int.cast_ofNat_Int, Nat.zero_add, Nat.reduceAdd, kRcv_1, kRcv_2, kRcv_3, kRcv_0, kRcv_4, kRcv_5]
    exact Eq.mpr (e_Orders_wordOf_41 (some (vI (1))) (some (G 11)) σ R) hR
  · rw [show am_tsw 1 50 0 4 [35, 38, 41, 44, 47] (2) = 42 from by decide]
    simp only [e_Orders_wordOf_42, kR_l, kR_r, kP_0, kP_i, kP_r, kP_n, kP_s, kP_o, kLen_I, kLen_L, kLen_R, kLdI_0, kLdI_1, kLdI_2, kLdI_3, kStI_0, kStI_1, kLdL_e, kStL_e, kLdR_e, kStR_e, kFld_e, kNth_0, kNth_s, kPut_e, fit_I, fit_Z, fit_B, fit_C, fit_A, fit_O, Option.toList_some, Option.toList_none, List.cons_append, List.nil_append, true_and, and_true, List.set_cons_zero, List.set_cons_succ, st_same, Int.toNat_natCast, Int.cast_ofNat_Int, Nat.zero_add, Nat.reduceAdd, kRcv_1, kRcv_2, kRcv_3, kRcv_0, kRcv_4, kRcv_5]
    exact Eq.mpr (e_Orders_wordOf_44 (some (vI (2))) (some (G 12)) σ R) hR
  · rw [show am_tsw 1 50 0 4 [35, 38, 41, 44, 47] (3) = 45 from by decide]
    simp only [e_Orders_wordOf_45, kR_l, kR_r, kP_0, kP_i, kP_r, kP_n, kP_s, kP_o, kLen_I, kLen_L, kLen_R, kLdI_0, kLdI_1, kLdI_2, kLdI_3, kStI_0, kStI_1, kLdL_e, kStL_e, kLdR_e, kStR_e, kFld_e, kNth_0, kNth_s, kPut_e, fit_I, fit_Z, fit_B, fit_C, fit_A, fit_O, Option.toList_some, Option.toList_none, List.cons_append, List.nil_append, true_and, and_true, List.set_cons_zero, List.set_cons_succ, st_same, Int.toNat_natCast, Int.cast_ofNat_Int, Nat.zero_add, Nat.reduceAdd, kRcv_1, kRcv_2, kRcv_3, kRcv_0, kRcv_4, kRcv_5]
    exact Eq.mpr (e_Orders_wordOf_47 (some (vI (3))) (some (G 13)) σ R) hR
  · rw [show am_tsw 1 50 0 4 [35, 38, 41, 44, 47] (4) = 48 from by decide]
    simp only [e_Orders_wordOf_48, kR_l, kR_r, kP_0, kP_i, kP_r, kP_n, kP_s, kP_o, kLen_I, kLen_L, kLen_R, kLdI_0, kLdI_1, kLdI_2, kLdI_3, kStI_0, kStI_1, kLdL_e, kStL_e, kLdR_e, kStR_e, kFld_e, kNth_0, kNth_s, kPut_e, fit_I, fit_Z, fit_B, fit_C, fit_A, fit_O, Option.toList_some, Option.toList_none, List.cons_append, List.nil_append, true_and, and_true, List.set_cons_zero, List.set_cons_succ, st_same, Int.toNat_natCast, Int.cast_ofNat_Int, Nat.zero_add, Nat.reduceAdd, kRcv_1, kRcv_2, kRcv_3, kRcv_0, kRcv_4, kRcv_5]
    exact Eq.mpr (e_Orders_wordOf_50 (some (vI (4))) (some (G 14)) σ R) hR
end ORD

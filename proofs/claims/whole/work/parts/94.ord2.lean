/-! THE CLASS'S TEXT: reading orders -/
theorem oOr_at {σ : AS} {O n : Nat} {a b d w : Int} : (am_st σ O (oOr O n a b d w)).1 O = some (oC 0 [vR (O + 1), vI (n : Nat), vI a, vI b, vI d, vI w]) := by
  rw [st_hp, if_pos rfl]
  rfl
theorem oOr_rc {σ : AS} {O n : Nat} {a b d w : Int} (P : Prop) : kRcv ((am_st σ O (oOr O n a b d w)).1 O) 0 P = P := by
  rw [oOr_at]
  exact kRcv_e _ _ (by decide)
theorem oOr_c {σ : AS} {O n : Nat} {a b d w : Int} {t : Nat → Int} (h : σ.1 (O + 1) = some (oI 0 60 t)) : (am_st σ O (oOr O n a b d w)).1 (O + 1) = some (oI 0 60 t) := by
  rw [st_hp, if_neg (by omega)]
  exact h
theorem oOr_f {σ : AS} {O n : Nat} {a b d w : Int} : am_st σ O (oC 0 [vR (O + 1), vI (n : Nat), vI a, vI b, vI d, vI w]) = am_st σ O (oOr O n a b d w) := rfl
section OR2
variable {G : Nat → Nat} {σ : AS} {Q : (Option AV ⊕ Nat) → AS → Prop} {O n : Nat} {t : Nat → Int} {a b d w : Int}
theorem s_readDeed {i : Nat} (hG : G 0 ≤ O) (hW : WdS G σ) (hc : σ.1 (O + 1) = some (oI 0 60 t)) (hn : n ≤ 60) (hi : i ≤ 500) (ht : TxOK t) :
    CW G k_Orders_readDeed [vR O, vI (i : Nat)] (am_st σ O (oOr O n a b d w)) Q = Q (.inl (some (vI ((i + mtO (cA t n) i : Nat) : Int)))) (am_st σ O (oOr O n a b (dB (cA t n i)) (if 0 < mtO (cA t n) i ∧ mtO (cA t n) i = wlN (dB (cA t n i)) then 1 else 0))) := by
  refine CW.det' fun R hR => ?_
  have hb : 0 ≤ cA t n i ∧ cA t n i ≤ 126 := by
    unfold cA
    split
    · exact ht i
    · omega
  have hdb := dB_bd (cA t n i)
  have hlen := wlN_le (dB (cA t n i))
  simp only [c_Orders_readDeed, e_Orders_readDeed_0, e_Orders_readDeed_1, e_Orders_readDeed_2, e_Orders_readDeed_3, kR_l, kR_r, kP_0, kP_i, kP_r, kP_n, kP_s, kP_o, kLen_I, kLen_L, kLen_R, kLdI_0, kLdI_1, kLdI_2, kLdI_3, kStI_0, kStI_1, kLdL_e, kStL_e, kLdR_e, kStR_e, kFld_e, kNth_0, kNth_s, kPut_e, fit_I, fit_Z, fit_B, fit_C, fit_A, fit_O, Option.toList_some, Option.toList_none, List.cons_append, List.nil_append, true_and, and_true, List.set_cons_zero, List.set_cons_succ, st_same, Int.toNat_natCast, Int.cast_ofNat_Int, Nat.zero_add, Nat.reduceAdd, kRcv_1, kRcv_2, kRcv_3, kRcv_0, kRcv_4, kRcv_5, oOr_rc]
  rw [s_codeAt (by rw [st_hp, if_pos rfl]) (oOr_c hc) hn (by omega)]
  simp only [e_Orders_readDeed_6, kR_l, kR_r, kP_0, kP_i, kP_r, kP_n, kP_s, kP_o, kLen_I, kLen_L, kLen_R, kLdI_0, kLdI_1, kLdI_2, kLdI_3, kStI_0, kStI_1, kLdL_e, kStL_e, kLdR_e, kStR_e, kFld_e, kNth_0, kNth_s, kPut_e, fit_I, fit_Z, fit_B, fit_C, fit_A, fit_O, Option.toList_some, Option.toList_none, List.cons_append, List.nil_append, true_and, and_true, List.set_cons_zero, List.set_cons_succ, st_same, Int.toNat_natCast, Int.cast_ofNat_Int, Nat.zero_add, Nat.reduceAdd, kRcv_1, kRcv_2, kRcv_3, kRcv_0, kRcv_4, kRcv_5]
  rw [s_deedB (by unfold inR; omega)]
  unfold mtO at hR
  generalize hD : dB (cA t n i) = D at *
  simp only [e_Orders_readDeed_9, e_Orders_readDeed_12, e_Orders_readDeed_13, e_Orders_readDeed_16, kR_l, kR_r, kP_0, kP_i, kP_r, kP_n, kP_s, kP_o, kLen_I, kLen_L, kLen_R, kLdI_0, kLdI_1, kLdI_2, kLdI_3, kStI_0, kStI_1, kLdL_e, kStL_e, kLdR_e, kStR_e, kFld_e, kNth_0, kNth_s, kPut_e, fit_I, fit_Z, fit_B, fit_C, fit_A, fit_O, Option.toList_some, Option.toList_none, List.cons_append, List.nil_append, true_and, and_true, List.set_cons_zero, List.set_cons_succ, st_same, Int.toNat_natCast, Int.cast_ofNat_Int, Nat.zero_add, Nat.reduceAdd, kRcv_1, kRcv_2, kRcv_3, kRcv_0, kRcv_4, kRcv_5, oOr_at, oOr_f, List.length_cons, List.length_nil]
  refine ⟨⟨by omega, by omega⟩, ?_⟩
  rw [s_wordOf hdb.1 hdb.2]
  obtain ⟨v, g1, g2, g3, g4⟩ := (hW.away (σ' := am_st σ O (oOr O n a b D w)) (fun x hx => by rw [st_hp, if_neg (by omega)])) D hdb.1 hdb.2
  generalize G (if D = -1 then 15 else 10 + D.toNat) = x at *
  simp only [e_Orders_readDeed_19, e_Orders_readDeed_20, e_Orders_readDeed_21, kR_l, kR_r, kP_0, kP_i, kP_r, kP_n, kP_s, kP_o, kLen_I, kLen_L, kLen_R, kLdI_0, kLdI_1, kLdI_2, kLdI_3, kStI_0, kStI_1, kLdL_e, kStL_e, kLdR_e, kStR_e, kFld_e, kNth_0, kNth_s, kPut_e, fit_I, fit_Z, fit_B, fit_C, fit_A, fit_O, Option.toList_some, Option.toList_none, List.cons_append, List.nil_append, true_and, and_true, List.set_cons_zero, List.set_cons_succ, st_same, Int.toNat_natCast, Int.cast_ofNat_Int, Nat.zero_add, Nat.reduceAdd, kRcv_1, kRcv_2, kRcv_3, kRcv_0, kRcv_4, kRcv_5]
  have tail : ∀ r : Nat, r ≤ 4 → R (.inl (some (vI ((i + r : Nat) : Int)))) (am_st σ O (oOr O n a b D (if 0 < r ∧ r = wlN D then 1 else 0))) → WP G k_Orders_readDeed 51 [some (vR O), some (vI (i : Nat)), some (vR x), some (vI (r : Nat))] [] (am_st σ O (oOr O n a b D w)) R := by
    intro r hr h
    simp only [e_Orders_readDeed_51, e_Orders_readDeed_52, e_Orders_readDeed_53, e_Orders_readDeed_56, e_Orders_readDeed_57, e_Orders_readDeed_58, kR_l, kR_r, kP_0, kP_i, kP_r, kP_n, kP_s, kP_o, kLen_I, kLen_L, kLen_R, kLdI_0, kLdI_1, kLdI_2, kLdI_3, kStI_0, kStI_1, kLdL_e, kStL_e, kLdR_e, kStR_e, kFld_e, kNth_0, kNth_s, kPut_e, fit_I, fit_Z, fit_B, fit_C, fit_A, fit_O, Option.toList_some, Option.toList_none, List.cons_append, List.nil_append, true_and, and_true, List.set_cons_zero, List.set_cons_succ, st_same, Int.toNat_natCast, Int.cast_ofNat_Int, Nat.zero_add, Nat.reduceAdd, kRcv_1, kRcv_2, kRcv_3, kRcv_0, kRcv_4, kRcv_5, g3, kRcv_9]
    refine ⟨by unfold inR; omega, fun c => ?_, fun c => ?_⟩
    · rw [if_neg (by omega)] at h
      simp only [e_Orders_readDeed_68, e_Orders_readDeed_69, e_Orders_readDeed_72, e_Orders_readDeed_73, e_Orders_readDeed_74, e_Orders_readDeed_75, kR_l, kR_r, kP_0, kP_i, kP_r, kP_n, kP_s, kP_o, kLen_I, kLen_L, kLen_R, kLdI_0, kLdI_1, kLdI_2, kLdI_3, kStI_0, kStI_1, kLdL_e, kStL_e, kLdR_e, kStR_e, kFld_e, kNth_0, kNth_s, kPut_e, fit_I, fit_Z, fit_B, fit_C, fit_A, fit_O, Option.toList_some, Option.toList_none, List.cons_append, List.nil_append, true_and, and_true, List.set_cons_zero, List.set_cons_succ, st_same, Int.toNat_natCast, Int.cast_ofNat_Int, Nat.zero_add, Nat.reduceAdd, kRcv_1, kRcv_2, kRcv_3, kRcv_0, kRcv_4, kRcv_5, oOr_at, oOr_f, List.length_cons, List.length_nil, ← Int.natCast_add]
      all_goals ((repeat' (first | with_reducible refine And.intro ?_ ?_ | intro _)) <;> first | with_reducible assumption | exact True.intro | with_reducible exact h | omega | (simp only [inR] at *; omega) | exact h | with_reducible rfl | rfl | (simp; done) | (exfalso; simp_all; done) | skip)
    · rw [s_StrLen g3 g4 (by omega)]
      simp only [e_Orders_readDeed_61, kR_l, kR_r, kP_0, kP_i, kP_r, kP_n, kP_s, kP_o, kLen_I, kLen_L, kLen_R, kLdI_0, kLdI_1, kLdI_2, kLdI_3, kStI_0, kStI_1, kLdL_e, kStL_e, kLdR_e, kStR_e, kFld_e, kNth_0, kNth_s, kPut_e, fit_I, fit_Z, fit_B, fit_C, fit_A, fit_O, Option.toList_some, Option.toList_none, List.cons_append, List.nil_append, true_and, and_true, List.set_cons_zero, List.set_cons_succ, st_same, Int.toNat_natCast, Int.cast_ofNat_Int, Nat.zero_add, Nat.reduceAdd, kRcv_1, kRcv_2, kRcv_3, kRcv_0, kRcv_4, kRcv_5]
      refine ⟨⟨by unfold inR; omega, by unfold inR; omega⟩, fun c2 => ?_, fun c2 => ?_⟩
      · rw [if_neg (by omega)] at h
        simp only [e_Orders_readDeed_68, e_Orders_readDeed_69, e_Orders_readDeed_72, e_Orders_readDeed_73, e_Orders_readDeed_74, e_Orders_readDeed_75, kR_l, kR_r, kP_0, kP_i, kP_r, kP_n, kP_s, kP_o, kLen_I, kLen_L, kLen_R, kLdI_0, kLdI_1, kLdI_2, kLdI_3, kStI_0, kStI_1, kLdL_e, kStL_e, kLdR_e, kStR_e, kFld_e, kNth_0, kNth_s, kPut_e, fit_I, fit_Z, fit_B, fit_C, fit_A, fit_O, Option.toList_some, Option.toList_none, List.cons_append, List.nil_append, true_and, and_true, List.set_cons_zero, List.set_cons_succ, st_same, Int.toNat_natCast, Int.cast_ofNat_Int, Nat.zero_add, Nat.reduceAdd, kRcv_1, kRcv_2, kRcv_3, kRcv_0, kRcv_4, kRcv_5, oOr_at, oOr_f, List.length_cons, List.length_nil, ← Int.natCast_add]
        all_goals ((repeat' (first | with_reducible refine And.intro ?_ ?_ | intro _)) <;> first | with_reducible assumption | exact True.intro | with_reducible exact h | omega | (simp only [inR] at *; omega) | exact h | with_reducible rfl | rfl | (simp; done) | (exfalso; simp_all; done) | skip)
      · rw [if_pos (by omega)] at h
        simp only [e_Orders_readDeed_64, e_Orders_readDeed_65, e_Orders_readDeed_69, e_Orders_readDeed_72, e_Orders_readDeed_73, e_Orders_readDeed_74, e_Orders_readDeed_75, kR_l, kR_r, kP_0, kP_i, kP_r, kP_n, kP_s, kP_o, kLen_I, kLen_L, kLen_R, kLdI_0, kLdI_1, kLdI_2, kLdI_3, kStI_0, kStI_1, kLdL_e, kStL_e, kLdR_e, kStR_e, kFld_e, kNth_0, kNth_s, kPut_e, fit_I, fit_Z, fit_B, fit_C, fit_A, fit_O, Option.toList_some, Option.toList_none, List.cons_append, List.nil_append, true_and, and_true, List.set_cons_zero, List.set_cons_succ, st_same, Int.toNat_natCast, Int.cast_ofNat_Int, Nat.zero_add, Nat.reduceAdd, kRcv_1, kRcv_2, kRcv_3, kRcv_0, kRcv_4, kRcv_5, oOr_at, oOr_f, List.length_cons, List.length_nil, ← Int.natCast_add]
        all_goals ((repeat' (first | with_reducible refine And.intro ?_ ?_ | intro _)) <;> first | with_reducible assumption | exact True.intro | with_reducible exact h | omega | (simp only [inR] at *; omega) | exact h | with_reducible rfl | rfl | (simp; done) | (exfalso; simp_all; done) | skip)
  have loop : ∀ f k : Nat, k + f = wlN D → WP G k_Orders_readDeed 51 [some (vR O), some (vI (i : Nat)), some (vR x), some (vI (mtc (cA t n) (wlC D) i f k : Nat))] [] (am_st σ O (oOr O n a b D w)) R → WP G k_Orders_readDeed 22 [some (vR O), some (vI (i : Nat)), some (vR x), some (vI (k : Nat))] [] (am_st σ O (oOr O n a b D w)) R := by
    intro f
    induction f with
    | zero =>
      intro k hk h
      rw [e_Orders_readDeed_22]
      simp only [e_Orders_readDeed_23, e_Orders_readDeed_24, kR_l, kR_r, kP_0, kP_i, kP_r, kP_n, kP_s, kP_o, kLen_I, kLen_L, kLen_R, kLdI_0, kLdI_1, kLdI_2, kLdI_3, kStI_0, kStI_1, kLdL_e, kStL_e, kLdR_e, kStR_e, kFld_e, kNth_0, kNth_s, kPut_e, fit_I, fit_Z, fit_B, fit_C, fit_A, fit_O, Option.toList_some, Option.toList_none, List.cons_append, List.nil_append, true_and, and_true, List.set_cons_zero, List.set_cons_succ, st_same, Int.toNat_natCast, Int.cast_ofNat_Int, Nat.zero_add, Nat.reduceAdd, kRcv_1, kRcv_2, kRcv_3, kRcv_0, kRcv_4, kRcv_5, g3, kRcv_9]
      rw [s_StrLen g3 g4 (by omega)]
      simp only [e_Orders_readDeed_27, kR_l, kR_r, kP_0, kP_i, kP_r, kP_n, kP_s, kP_o, kLen_I, kLen_L, kLen_R, kLdI_0, kLdI_1, kLdI_2, kLdI_3, kStI_0, kStI_1, kLdL_e, kStL_e, kLdR_e, kStR_e, kFld_e, kNth_0, kNth_s, kPut_e, fit_I, fit_Z, fit_B, fit_C, fit_A, fit_O, Option.toList_some, Option.toList_none, List.cons_append, List.nil_append, true_and, and_true, List.set_cons_zero, List.set_cons_succ, st_same, Int.toNat_natCast, Int.cast_ofNat_Int, Nat.zero_add, Nat.reduceAdd, kRcv_1, kRcv_2, kRcv_3, kRcv_0, kRcv_4, kRcv_5]
      refine ⟨⟨by unfold inR; omega, by unfold inR; omega⟩, fun _ => h, fun z => absurd (by omega) z⟩
    | succ f ih =>
      intro k hk h
      have hcb : 0 ≤ cA t n (i + k) ∧ cA t n (i + k) ≤ 126 := by
        unfold cA
        split
        · exact ht _
        · omega
      have hwb := wlC_bd D k (by omega)
      rw [e_Orders_readDeed_22]
      simp only [e_Orders_readDeed_23, e_Orders_readDeed_24, kR_l, kR_r, kP_0, kP_i, kP_r, kP_n, kP_s, kP_o, kLen_I, kLen_L, kLen_R, kLdI_0, kLdI_1, kLdI_2, kLdI_3, kStI_0, kStI_1, kLdL_e, kStL_e, kLdR_e, kStR_e, kFld_e, kNth_0, kNth_s, kPut_e, fit_I, fit_Z, fit_B, fit_C, fit_A, fit_O, Option.toList_some, Option.toList_none, List.cons_append, List.nil_append, true_and, and_true, List.set_cons_zero, List.set_cons_succ, st_same, Int.toNat_natCast, Int.cast_ofNat_Int, Nat.zero_add, Nat.reduceAdd, kRcv_1, kRcv_2, kRcv_3, kRcv_0, kRcv_4, kRcv_5, g3, kRcv_9]
      rw [s_StrLen g3 g4 (by omega)]
      simp only [e_Orders_readDeed_27, e_Orders_readDeed_30, e_Orders_readDeed_31, e_Orders_readDeed_32, e_Orders_readDeed_33, e_Orders_readDeed_34, kR_l, kR_r, kP_0, kP_i, kP_r, kP_n, kP_s, kP_o, kLen_I, kLen_L, kLen_R, kLdI_0, kLdI_1, kLdI_2, kLdI_3, kStI_0, kStI_1, kLdL_e, kStL_e, kLdR_e, kStR_e, kFld_e, kNth_0, kNth_s, kPut_e, fit_I, fit_Z, fit_B, fit_C, fit_A, fit_O, Option.toList_some, Option.toList_none, List.cons_append, List.nil_append, true_and, and_true, List.set_cons_zero, List.set_cons_succ, st_same, Int.toNat_natCast, Int.cast_ofNat_Int, Nat.zero_add, Nat.reduceAdd, kRcv_1, kRcv_2, kRcv_3, kRcv_0, kRcv_4, kRcv_5, oOr_rc, ← Int.natCast_add]
      refine ⟨⟨by unfold inR; omega, by unfold inR; omega⟩, fun z => absurd z (by omega), fun _ => ?_⟩
      rw [s_codeAt (by rw [st_hp, if_pos rfl]) (oOr_c hc) hn (by omega)]
      simp only [e_Orders_readDeed_37, e_Orders_readDeed_38, e_Orders_readDeed_39, kR_l, kR_r, kP_0, kP_i, kP_r, kP_n, kP_s, kP_o, kLen_I, kLen_L, kLen_R, kLdI_0, kLdI_1, kLdI_2, kLdI_3, kStI_0, kStI_1, kLdL_e, kStL_e, kLdR_e, kStR_e, kFld_e, kNth_0, kNth_s, kPut_e, fit_I, fit_Z, fit_B, fit_C, fit_A, fit_O, Option.toList_some, Option.toList_none, List.cons_append, List.nil_append, true_and, and_true, List.set_cons_zero, List.set_cons_succ, st_same, Int.toNat_natCast, Int.cast_ofNat_Int, Nat.zero_add, Nat.reduceAdd, kRcv_1, kRcv_2, kRcv_3, kRcv_0, kRcv_4, kRcv_5, g3, kRcv_9]
      rw [s_StrAt g3 g4 (by omega) (by omega) hwb]
      simp only [e_Orders_readDeed_42, e_Orders_readDeed_45, e_Orders_readDeed_48, kR_l, kR_r, kP_0, kP_i, kP_r, kP_n, kP_s, kP_o, kLen_I, kLen_L, kLen_R, kLdI_0, kLdI_1, kLdI_2, kLdI_3, kStI_0, kStI_1, kLdL_e, kStL_e, kLdR_e, kStR_e, kFld_e, kNth_0, kNth_s, kPut_e, fit_I, fit_Z, fit_B, fit_C, fit_A, fit_O, Option.toList_some, Option.toList_none, List.cons_append, List.nil_append, true_and, and_true, List.set_cons_zero, List.set_cons_succ, st_same, Int.toNat_natCast, Int.cast_ofNat_Int, Nat.zero_add, Nat.reduceAdd, kRcv_1, kRcv_2, kRcv_3, kRcv_0, kRcv_4, kRcv_5]
      unfold mtc at h
      by_cases e : cA t n (i + k) = wlC D k
      · rw [if_pos e] at h
        have nx := ih (k + 1) (by omega) h
        clear ih h tail
        all_goals ((repeat' (first | with_reducible refine And.intro ?_ ?_ | intro _)) <;> first | with_reducible assumption | exact True.intro | with_reducible exact nx | omega | (simp only [inR] at *; omega) | exact nx | with_reducible rfl | rfl | (simp; done) | (exfalso; simp_all; done) | skip)
      · rw [if_neg e] at h
        refine ⟨⟨by unfold inR; omega, by unfold inR; omega⟩, fun _ => h, fun z => absurd e z⟩
  have hm := mtc_bd (cA t n) (wlC D) i (wlN D) 0
  exact loop (wlN D) 0 (by omega) (tail _ (by omega) hR)
theorem s_readOrder {i : Nat} (hG : G 0 ≤ O) (hW : WdS G σ) (hc : σ.1 (O + 1) = some (oI 0 60 t)) (hn : n ≤ 60) (hi : i ≤ 400) (ht : TxOK t)
    (hQ : ∀ a' b' d' : Int, ((rdO (cA t n) i).2 = 1 → a' = ltA (cA t n) i ∧ b' = ltA (cA t n) (i + 1) ∧ d' = dB (cA t n (i + 3))) → Q (.inl (some (vI ((rdO (cA t n) i).1 : Nat)))) (am_st σ O (oOr O n a' b' d' (rdO (cA t n) i).2))) :
    CW G k_Orders_readOrder [vR O, vI (i : Nat)] (am_st σ O (oOr O n a b d w)) Q := by
  have l1 := ltA_bd (cA t n) i
  have l2 := ltA_bd (cA t n) (i + 1)
  have hcb : 0 ≤ cA t n (i + 2) ∧ cA t n (i + 2) ≤ 126 := by
    unfold cA
    split
    · exact ht _
    · omega
  unfold rdO at hQ
  simp only [c_Orders_readOrder, e_Orders_readOrder_0, e_Orders_readOrder_1, e_Orders_readOrder_2, e_Orders_readOrder_5, e_Orders_readOrder_6, e_Orders_readOrder_7, e_Orders_readOrder_8, kR_l, kR_r, kP_0, kP_i, kP_r, kP_n, kP_s, kP_o, kLen_I, kLen_L, kLen_R, kLdI_0, kLdI_1, kLdI_2, kLdI_3, kStI_0, kStI_1, kLdL_e, kStL_e, kLdR_e, kStR_e, kFld_e, kNth_0, kNth_s, kPut_e, fit_I, fit_Z, fit_B, fit_C, fit_A, fit_O, Option.toList_some, Option.toList_none, List.cons_append, List.nil_append, true_and, and_true, List.set_cons_zero, List.set_cons_succ, st_same, Int.toNat_natCast, Int.cast_ofNat_Int, Nat.zero_add, Nat.reduceAdd, kRcv_1, kRcv_2, kRcv_3, kRcv_0, kRcv_4, kRcv_5, oOr_at, oOr_f, oOr_rc, List.length_cons, List.length_nil]
  refine ⟨Or.inl trivial, ⟨by omega, by omega⟩, ?_⟩
  rw [s_letterAt (by rw [st_hp, if_pos rfl]) (oOr_c hc) hn (by omega) ht]
  simp only [e_Orders_readOrder_11, e_Orders_readOrder_14, e_Orders_readOrder_15, e_Orders_readOrder_18, e_Orders_readOrder_19, e_Orders_readOrder_22, e_Orders_readOrder_23, e_Orders_readOrder_24, e_Orders_readOrder_25, e_Orders_readOrder_26, e_Orders_readOrder_27, e_Orders_readOrder_28, e_Orders_readOrder_29, kR_l, kR_r, kP_0, kP_i, kP_r, kP_n, kP_s, kP_o, kLen_I, kLen_L, kLen_R, kLdI_0, kLdI_1, kLdI_2, kLdI_3, kStI_0, kStI_1, kLdL_e, kStL_e, kLdR_e, kStR_e, kFld_e, kNth_0, kNth_s, kPut_e, fit_I, fit_Z, fit_B, fit_C, fit_A, fit_O, Option.toList_some, Option.toList_none, List.cons_append, List.nil_append, true_and, and_true, List.set_cons_zero, List.set_cons_succ, st_same, Int.toNat_natCast, Int.cast_ofNat_Int, Nat.zero_add, Nat.reduceAdd, kRcv_1, kRcv_2, kRcv_3, kRcv_0, kRcv_4, kRcv_5, oOr_at, oOr_f, oOr_rc, List.length_cons, List.length_nil, show ((i : Int) + 1) = ((i + 1 : Nat) : Int) from rfl]
  by_cases c1 : ltA (cA t n) i = -1
  · rw [if_pos c1] at hQ
    have hq := hQ (ltA (cA t n) i) b d (fun z => absurd z (show ¬ (0 : Int) = 1 by decide))
    clear hQ
    generalize ltA (cA t n) i = v1 at *
    refine ⟨⟨by omega, by omega⟩, ⟨by unfold inR; omega, by unfold inR; omega⟩, fun z => absurd c1 z, fun _ => ?_⟩
    first | exact hq | exact ⟨trivial, hq⟩ | exact ⟨by simp, hq⟩
  · rw [if_neg c1] at hQ
    refine ⟨⟨by omega, by omega⟩, ⟨by unfold inR; omega, by unfold inR; omega⟩, fun _ => ?_, fun z => absurd c1 z⟩
    rw [s_letterAt (by rw [st_hp, if_pos rfl]) (oOr_c hc) hn (by omega) ht]
    simp only [e_Orders_readOrder_32, e_Orders_readOrder_35, e_Orders_readOrder_36, e_Orders_readOrder_39, e_Orders_readOrder_40, kR_l, kR_r, kP_0, kP_i, kP_r, kP_n, kP_s, kP_o, kLen_I, kLen_L, kLen_R, kLdI_0, kLdI_1, kLdI_2, kLdI_3, kStI_0, kStI_1, kLdL_e, kStL_e, kLdR_e, kStR_e, kFld_e, kNth_0, kNth_s, kPut_e, fit_I, fit_Z, fit_B, fit_C, fit_A, fit_O, Option.toList_some, Option.toList_none, List.cons_append, List.nil_append, true_and, and_true, List.set_cons_zero, List.set_cons_succ, st_same, Int.toNat_natCast, Int.cast_ofNat_Int, Nat.zero_add, Nat.reduceAdd, kRcv_1, kRcv_2, kRcv_3, kRcv_0, kRcv_4, kRcv_5, oOr_at, oOr_f, oOr_rc, List.length_cons, List.length_nil]
    refine ⟨⟨by omega, by omega⟩, ⟨by unfold inR; omega, by unfold inR; omega⟩, fun c2 => ?_, fun c2 => ?_⟩
    · rw [if_pos (Or.inl c2)] at hQ
      have hq := hQ (ltA (cA t n) i) (ltA (cA t n) (i + 1)) d (fun z => absurd z (show ¬ (0 : Int) = 1 by decide))
      clear hQ
      simp only [e_Orders_readOrder_54, e_Orders_readOrder_55, e_Orders_readOrder_56, e_Orders_readOrder_57, kR_l, kR_r, kP_0, kP_i, kP_r, kP_n, kP_s, kP_o, kLen_I, kLen_L, kLen_R, kLdI_0, kLdI_1, kLdI_2, kLdI_3, kStI_0, kStI_1, kLdL_e, kStL_e, kLdR_e, kStR_e, kFld_e, kNth_0, kNth_s, kPut_e, fit_I, fit_Z, fit_B, fit_C, fit_A, fit_O, Option.toList_some, Option.toList_none, List.cons_append, List.nil_append, true_and, and_true, List.set_cons_zero, List.set_cons_succ, st_same, Int.toNat_natCast, Int.cast_ofNat_Int, Nat.zero_add, Nat.reduceAdd, kRcv_1, kRcv_2, kRcv_3, kRcv_0, kRcv_4, kRcv_5]
      first | exact hq | exact ⟨trivial, hq⟩ | exact ⟨by simp, hq⟩
    · simp only [e_Orders_readOrder_43, e_Orders_readOrder_44, e_Orders_readOrder_47, e_Orders_readOrder_48, e_Orders_readOrder_51, kR_l, kR_r, kP_0, kP_i, kP_r, kP_n, kP_s, kP_o, kLen_I, kLen_L, kLen_R, kLdI_0, kLdI_1, kLdI_2, kLdI_3, kStI_0, kStI_1, kLdL_e, kStL_e, kLdR_e, kStR_e, kFld_e, kNth_0, kNth_s, kPut_e, fit_I, fit_Z, fit_B, fit_C, fit_A, fit_O, Option.toList_some, Option.toList_none, List.cons_append, List.nil_append, true_and, and_true, List.set_cons_zero, List.set_cons_succ, st_same, Int.toNat_natCast, Int.cast_ofNat_Int, Nat.zero_add, Nat.reduceAdd, kRcv_1, kRcv_2, kRcv_3, kRcv_0, kRcv_4, kRcv_5, oOr_at]
      refine ⟨⟨by unfold inR; omega, by unfold inR; omega⟩, fun c3 => ?_, fun c3 => ?_⟩
      · rw [if_neg (fun z => z.elim c2 c3)] at hQ
        simp only [e_Orders_readOrder_58, e_Orders_readOrder_59, e_Orders_readOrder_60, e_Orders_readOrder_61, e_Orders_readOrder_62, kR_l, kR_r, kP_0, kP_i, kP_r, kP_n, kP_s, kP_o, kLen_I, kLen_L, kLen_R, kLdI_0, kLdI_1, kLdI_2, kLdI_3, kStI_0, kStI_1, kLdL_e, kStL_e, kLdR_e, kStR_e, kFld_e, kNth_0, kNth_s, kPut_e, fit_I, fit_Z, fit_B, fit_C, fit_A, fit_O, Option.toList_some, Option.toList_none, List.cons_append, List.nil_append, true_and, and_true, List.set_cons_zero, List.set_cons_succ, st_same, Int.toNat_natCast, Int.cast_ofNat_Int, Nat.zero_add, Nat.reduceAdd, kRcv_1, kRcv_2, kRcv_3, kRcv_0, kRcv_4, kRcv_5, oOr_rc, show ((i : Int) + 2) = ((i + 2 : Nat) : Int) from rfl]
        rw [s_codeAt (by rw [st_hp, if_pos rfl]) (oOr_c hc) hn (by omega)]
        simp only [e_Orders_readOrder_65, e_Orders_readOrder_67, kR_l, kR_r, kP_0, kP_i, kP_r, kP_n, kP_s, kP_o, kLen_I, kLen_L, kLen_R, kLdI_0, kLdI_1, kLdI_2, kLdI_3, kStI_0, kStI_1, kLdL_e, kStL_e, kLdR_e, kStR_e, kFld_e, kNth_0, kNth_s, kPut_e, fit_I, fit_Z, fit_B, fit_C, fit_A, fit_O, Option.toList_some, Option.toList_none, List.cons_append, List.nil_append, true_and, and_true, List.set_cons_zero, List.set_cons_succ, st_same, Int.toNat_natCast, Int.cast_ofNat_Int, Nat.zero_add, Nat.reduceAdd, kRcv_1, kRcv_2, kRcv_3, kRcv_0, kRcv_4, kRcv_5]
        refine ⟨⟨by unfold inR; omega, by unfold inR; omega⟩, fun c4 => ?_, fun c4 => ?_⟩
        · rw [if_pos c4] at hQ
          have hq := hQ (ltA (cA t n) i) (ltA (cA t n) (i + 1)) d (fun z => absurd z (show ¬ (0 : Int) = 1 by decide))
          clear hQ
          simp only [e_Orders_readOrder_80, e_Orders_readOrder_81, e_Orders_readOrder_82, e_Orders_readOrder_83, kR_l, kR_r, kP_0, kP_i, kP_r, kP_n, kP_s, kP_o, kLen_I, kLen_L, kLen_R, kLdI_0, kLdI_1, kLdI_2, kLdI_3, kStI_0, kStI_1, kLdL_e, kStL_e, kLdR_e, kStR_e, kFld_e, kNth_0, kNth_s, kPut_e, fit_I, fit_Z, fit_B, fit_C, fit_A, fit_O, Option.toList_some, Option.toList_none, List.cons_append, List.nil_append, true_and, and_true, List.set_cons_zero, List.set_cons_succ, st_same, Int.toNat_natCast, Int.cast_ofNat_Int, Nat.zero_add, Nat.reduceAdd, kRcv_1, kRcv_2, kRcv_3, kRcv_0, kRcv_4, kRcv_5]
          first | exact hq | exact ⟨trivial, hq⟩ | exact ⟨by simp, hq⟩
        · rw [if_neg c4] at hQ
          have hq := hQ (ltA (cA t n) i) (ltA (cA t n) (i + 1)) (dB (cA t n (i + 3))) (fun _ => ⟨rfl, rfl, rfl⟩)
          clear hQ
          simp only [e_Orders_readOrder_70, e_Orders_readOrder_71, e_Orders_readOrder_72, e_Orders_readOrder_73, e_Orders_readOrder_74, kR_l, kR_r, kP_0, kP_i, kP_r, kP_n, kP_s, kP_o, kLen_I, kLen_L, kLen_R, kLdI_0, kLdI_1, kLdI_2, kLdI_3, kStI_0, kStI_1, kLdL_e, kStL_e, kLdR_e, kStR_e, kFld_e, kNth_0, kNth_s, kPut_e, fit_I, fit_Z, fit_B, fit_C, fit_A, fit_O, Option.toList_some, Option.toList_none, List.cons_append, List.nil_append, true_and, and_true, List.set_cons_zero, List.set_cons_succ, st_same, Int.toNat_natCast, Int.cast_ofNat_Int, Nat.zero_add, Nat.reduceAdd, kRcv_1, kRcv_2, kRcv_3, kRcv_0, kRcv_4, kRcv_5, oOr_rc, show ((i : Int) + 3) = ((i + 3 : Nat) : Int) from rfl]
          rw [s_readDeed hG hW hc hn (by omega) ht]
          simp only [e_Orders_readOrder_77, e_Orders_readOrder_83, kR_l, kR_r, kP_0, kP_i, kP_r, kP_n, kP_s, kP_o, kLen_I, kLen_L, kLen_R, kLdI_0, kLdI_1, kLdI_2, kLdI_3, kStI_0, kStI_1, kLdL_e, kStL_e, kLdR_e, kStR_e, kFld_e, kNth_0, kNth_s, kPut_e, fit_I, fit_Z, fit_B, fit_C, fit_A, fit_O, Option.toList_some, Option.toList_none, List.cons_append, List.nil_append, true_and, and_true, List.set_cons_zero, List.set_cons_succ, st_same, Int.toNat_natCast, Int.cast_ofNat_Int, Nat.zero_add, Nat.reduceAdd, kRcv_1, kRcv_2, kRcv_3, kRcv_0, kRcv_4, kRcv_5]
          first | exact hq | exact ⟨trivial, hq⟩ | exact ⟨by simp, hq⟩
      · have c3' : ltA (cA t n) (i + 1) = ltA (cA t n) i := Classical.byContradiction c3
        rw [if_pos (Or.inr c3')] at hQ
        have hq := hQ (ltA (cA t n) i) (ltA (cA t n) (i + 1)) d (fun z => absurd z (show ¬ (0 : Int) = 1 by decide))
        clear hQ
        simp only [e_Orders_readOrder_54, e_Orders_readOrder_55, e_Orders_readOrder_56, e_Orders_readOrder_57, kR_l, kR_r, kP_0, kP_i, kP_r, kP_n, kP_s, kP_o, kLen_I, kLen_L, kLen_R, kLdI_0, kLdI_1, kLdI_2, kLdI_3, kStI_0, kStI_1, kLdL_e, kStL_e, kLdR_e, kStR_e, kFld_e, kNth_0, kNth_s, kPut_e, fit_I, fit_Z, fit_B, fit_C, fit_A, fit_O, Option.toList_some, Option.toList_none, List.cons_append, List.nil_append, true_and, and_true, List.set_cons_zero, List.set_cons_succ, st_same, Int.toNat_natCast, Int.cast_ofNat_Int, Nat.zero_add, Nat.reduceAdd, kRcv_1, kRcv_2, kRcv_3, kRcv_0, kRcv_4, kRcv_5]
        first | exact hq | exact ⟨trivial, hq⟩ | exact ⟨by simp, hq⟩
theorem s_readable {kl : Nat} (hG : G 0 ≤ O) (hW : WdS G σ) (hc : σ.1 (O + 1) = some (oI 0 60 t)) (hn : n ≤ 60) (ht : TxOK t) (hkl : KpO (cA t n) kl)
    (hQ : ∀ a' b' d' : Int, Q (.inl (some (vI (enO (cA t n) kl : Nat)))) (am_st σ O (oOr O n a' b' d' (rdO (cA t n) (stO (cA t n) kl)).2))) :
    CW G k_Orders_readableLength [vR O] (am_st σ O (oOr O n a b d w)) Q := by
  obtain ⟨hk12, hct, hnc⟩ := hkl
  have bd : ∀ k, k ≤ kl → stO (cA t n) k ≤ n ∧ (rdO (cA t n) (stO (cA t n) k)).1 ≤ n := fun k hk => by
    have h1 := stO_bd t (n := n) k (fun j hj => hct j (by omega))
    exact ⟨h1.2, (rdO_le t h1.2).2⟩
  have w01 : ∀ i, (rdO (cA t n) i).2 = 0 ∨ (rdO (cA t n) i).2 = 1 := fun i => by
    unfold rdO
    repeat' split
    all_goals first | exact Or.inl rfl | exact Or.inr rfl
  have fin : ∀ (z : Option AV) (a' b' d' : Int), WP G k_Orders_readableLength 45 [some (vR O), some (vI ((rdO (cA t n) (stO (cA t n) kl)).1 : Nat)), z] [] (am_st σ O (oOr O n a' b' d' (rdO (cA t n) (stO (cA t n) kl)).2)) Q := fun z a' b' d' => by
    have hq := hQ a' b' d'
    unfold enO at hq
    simp only [e_Orders_readableLength_45, e_Orders_readableLength_46, kR_l, kR_r, kP_0, kP_i, kP_r, kP_n, kP_s, kP_o, kLen_I, kLen_L, kLen_R, kLdI_0, kLdI_1, kLdI_2, kLdI_3, kStI_0, kStI_1, kLdL_e, kStL_e, kLdR_e, kStR_e, kFld_e, kNth_0, kNth_s, kPut_e, fit_I, fit_Z, fit_B, fit_C, fit_A, fit_O, Option.toList_some, Option.toList_none, List.cons_append, List.nil_append, true_and, and_true, List.set_cons_zero, List.set_cons_succ, st_same, Int.toNat_natCast, Int.cast_ofNat_Int, Nat.zero_add, Nat.reduceAdd, kRcv_1, kRcv_2, kRcv_3, kRcv_0, kRcv_4, kRcv_5]
    first | exact hq | exact ⟨trivial, hq⟩ | exact ⟨by simp, hq⟩
  have loop : ∀ j k : Nat, k + j = kl → ∀ a' b' d' : Int, WP G k_Orders_readableLength 8 [some (vR O), some (vI ((rdO (cA t n) (stO (cA t n) k)).1 : Nat)), some (vI ((k + 1 : Nat) : Int))] [] (am_st σ O (oOr O n a' b' d' (rdO (cA t n) (stO (cA t n) k)).2)) Q := by
    intro j
    induction j with
    | zero =>
      intro k hk a' b' d'
      have e : k = kl := by omega
      subst e
      have hb := bd k (Nat.le_refl _)
      have hw := w01 (stO (cA t n) k)
      have f := fun z => fin z a' b' d'
      unfold ctO at hnc
      have hcb : 0 ≤ cA t n (rdO (cA t n) (stO (cA t n) k)).1 ∧ cA t n (rdO (cA t n) (stO (cA t n) k)).1 ≤ 126 := by
        unfold cA
        split
        · exact ht _
        · omega
      clear fin hQ
      rw [e_Orders_readableLength_8]
      simp only [e_Orders_readableLength_9, e_Orders_readableLength_11, e_Orders_readableLength_14, e_Orders_readableLength_15, e_Orders_readableLength_18, e_Orders_readableLength_21, e_Orders_readableLength_22, e_Orders_readableLength_23, kR_l, kR_r, kP_0, kP_i, kP_r, kP_n, kP_s, kP_o, kLen_I, kLen_L, kLen_R, kLdI_0, kLdI_1, kLdI_2, kLdI_3, kStI_0, kStI_1, kLdL_e, kStL_e, kLdR_e, kStR_e, kFld_e, kNth_0, kNth_s, kPut_e, fit_I, fit_Z, fit_B, fit_C, fit_A, fit_O, Option.toList_some, Option.toList_none, List.cons_append, List.nil_append, true_and, and_true, List.set_cons_zero, List.set_cons_succ, st_same, Int.toNat_natCast, Int.cast_ofNat_Int, Nat.zero_add, Nat.reduceAdd, kRcv_1, kRcv_2, kRcv_3, kRcv_0, kRcv_4, kRcv_5, oOr_at, oOr_rc]
      refine ⟨⟨by unfold inR; omega, by unfold inR; omega⟩, fun z => absurd z (by omega), fun _ => ⟨by unfold inR; omega, fun _ => f _, fun c => ?_⟩⟩
      rw [s_codeAt (by rw [st_hp, if_pos rfl]) (oOr_c hc) hn (by omega)]
      simp only [e_Orders_readableLength_26, e_Orders_readableLength_28, kR_l, kR_r, kP_0, kP_i, kP_r, kP_n, kP_s, kP_o, kLen_I, kLen_L, kLen_R, kLdI_0, kLdI_1, kLdI_2, kLdI_3, kStI_0, kStI_1, kLdL_e, kStL_e, kLdR_e, kStR_e, kFld_e, kNth_0, kNth_s, kPut_e, fit_I, fit_Z, fit_B, fit_C, fit_A, fit_O, Option.toList_some, Option.toList_none, List.cons_append, List.nil_append, true_and, and_true, List.set_cons_zero, List.set_cons_succ, st_same, Int.toNat_natCast, Int.cast_ofNat_Int, Nat.zero_add, Nat.reduceAdd, kRcv_1, kRcv_2, kRcv_3, kRcv_0, kRcv_4, kRcv_5]
      refine ⟨⟨by unfold inR; omega, by unfold inR; omega⟩, fun _ => f _, fun c2 => absurd ⟨by omega, Classical.byContradiction c2⟩ hnc⟩
    | succ j ih =>
      intro k hk a' b' d'
      have hb := bd k (by omega)
      have hct' := hct k (by omega)
      unfold ctO at hct'
      have hst : stO (cA t n) (k + 1) = (rdO (cA t n) (stO (cA t n) k)).1 + 1 := rfl
      rw [e_Orders_readableLength_8]
      simp only [e_Orders_readableLength_9, e_Orders_readableLength_11, e_Orders_readableLength_14, e_Orders_readableLength_15, e_Orders_readableLength_18, e_Orders_readableLength_21, e_Orders_readableLength_22, e_Orders_readableLength_23, kR_l, kR_r, kP_0, kP_i, kP_r, kP_n, kP_s, kP_o, kLen_I, kLen_L, kLen_R, kLdI_0, kLdI_1, kLdI_2, kLdI_3, kStI_0, kStI_1, kLdL_e, kStL_e, kLdR_e, kStR_e, kFld_e, kNth_0, kNth_s, kPut_e, fit_I, fit_Z, fit_B, fit_C, fit_A, fit_O, Option.toList_some, Option.toList_none, List.cons_append, List.nil_append, true_and, and_true, List.set_cons_zero, List.set_cons_succ, st_same, Int.toNat_natCast, Int.cast_ofNat_Int, Nat.zero_add, Nat.reduceAdd, kRcv_1, kRcv_2, kRcv_3, kRcv_0, kRcv_4, kRcv_5, oOr_at, oOr_rc, hct'.1]
      refine ⟨⟨by unfold inR; omega, by unfold inR; omega⟩, fun z => absurd z (by omega), fun _ => ⟨by unfold inR; omega, (fun h => by first | exact absurd h (by omega) | exact absurd trivial h | (exfalso; simp_all; done)), fun _ => ?_⟩⟩
      rw [s_codeAt (by rw [st_hp, if_pos rfl]) (oOr_c hc) hn (by omega), hct'.2]
      simp only [e_Orders_readableLength_26, e_Orders_readableLength_28, e_Orders_readableLength_31, e_Orders_readableLength_32, e_Orders_readableLength_33, e_Orders_readableLength_34, e_Orders_readableLength_35, kR_l, kR_r, kP_0, kP_i, kP_r, kP_n, kP_s, kP_o, kLen_I, kLen_L, kLen_R, kLdI_0, kLdI_1, kLdI_2, kLdI_3, kStI_0, kStI_1, kLdL_e, kStL_e, kLdR_e, kStR_e, kFld_e, kNth_0, kNth_s, kPut_e, fit_I, fit_Z, fit_B, fit_C, fit_A, fit_O, Option.toList_some, Option.toList_none, List.cons_append, List.nil_append, true_and, and_true, List.set_cons_zero, List.set_cons_succ, st_same, Int.toNat_natCast, Int.cast_ofNat_Int, Nat.zero_add, Nat.reduceAdd, kRcv_1, kRcv_2, kRcv_3, kRcv_0, kRcv_4, kRcv_5, oOr_rc]
      refine ⟨⟨by unfold inR; omega, by unfold inR; omega⟩, fun z => absurd rfl z, fun _ => ?_⟩
      rw [show (((rdO (cA t n) (stO (cA t n) k)).1 : Nat) : Int) + 1 = ((stO (cA t n) (k + 1) : Nat) : Int) by rw [hst]; omega]
      refine s_readOrder hG hW hc hn (by have := bd (k + 1) (by omega); omega) ht (fun a2 b2 d2 _ => ?_)
      have nx := ih (k + 1) (by omega) a2 b2 d2
      clear ih fin hQ
      simp only [e_Orders_readableLength_38, e_Orders_readableLength_39, e_Orders_readableLength_42, kR_l, kR_r, kP_0, kP_i, kP_r, kP_n, kP_s, kP_o, kLen_I, kLen_L, kLen_R, kLdI_0, kLdI_1, kLdI_2, kLdI_3, kStI_0, kStI_1, kLdL_e, kStL_e, kLdR_e, kStR_e, kFld_e, kNth_0, kNth_s, kPut_e, fit_I, fit_Z, fit_B, fit_C, fit_A, fit_O, Option.toList_some, Option.toList_none, List.cons_append, List.nil_append, true_and, and_true, List.set_cons_zero, List.set_cons_succ, st_same, Int.toNat_natCast, Int.cast_ofNat_Int, Nat.zero_add, Nat.reduceAdd, kRcv_1, kRcv_2, kRcv_3, kRcv_0, kRcv_4, kRcv_5]
      all_goals ((repeat' (first | with_reducible refine And.intro ?_ ?_ | intro _)) <;> first | with_reducible assumption | exact True.intro | with_reducible exact nx | omega | (simp only [inR] at *; omega) | exact nx | with_reducible rfl | rfl | (simp; done) | (exfalso; simp_all; done) | skip)
  simp only [c_Orders_readableLength, e_Orders_readableLength_0, e_Orders_readableLength_1, e_Orders_readableLength_2, kR_l, kR_r, kP_0, kP_i, kP_r, kP_n, kP_s, kP_o, kLen_I, kLen_L, kLen_R, kLdI_0, kLdI_1, kLdI_2, kLdI_3, kStI_0, kStI_1, kLdL_e, kStL_e, kLdR_e, kStR_e, kFld_e, kNth_0, kNth_s, kPut_e, fit_I, fit_Z, fit_B, fit_C, fit_A, fit_O, Option.toList_some, Option.toList_none, List.cons_append, List.nil_append, true_and, and_true, List.set_cons_zero, List.set_cons_succ, st_same, Int.toNat_natCast, Int.cast_ofNat_Int, Nat.zero_add, Nat.reduceAdd, kRcv_1, kRcv_2, kRcv_3, kRcv_0, kRcv_4, kRcv_5, oOr_rc]
  have r0 := s_readOrder (i := 0) (Q := kR (fun v σ' => WP G k_Orders_readableLength 5 [some (vR O), none, none] (v.toList ++ []) σ' Q) (fun e σ' => Q (.inr e) σ')) (a := a) (b := b) (d := d) (w := w) hG hW hc hn (by omega) ht (fun a2 b2 d2 _ => by
    have nx := loop kl 0 (by omega) a2 b2 d2
    simp only [e_Orders_readableLength_5, e_Orders_readableLength_6, e_Orders_readableLength_7, kR_l, kR_r, kP_0, kP_i, kP_r, kP_n, kP_s, kP_o, kLen_I, kLen_L, kLen_R, kLdI_0, kLdI_1, kLdI_2, kLdI_3, kStI_0, kStI_1, kLdL_e, kStL_e, kLdR_e, kStR_e, kFld_e, kNth_0, kNth_s, kPut_e, fit_I, fit_Z, fit_B, fit_C, fit_A, fit_O, Option.toList_some, Option.toList_none, List.cons_append, List.nil_append, true_and, and_true, List.set_cons_zero, List.set_cons_succ, st_same, Int.toNat_natCast, Int.cast_ofNat_Int, Nat.zero_add, Nat.reduceAdd, kRcv_1, kRcv_2, kRcv_3, kRcv_0, kRcv_4, kRcv_5]
    exact nx)
  exact r0
theorem s_areOrders {kl : Nat} (hG : G 0 ≤ O) (hW : WdS G σ) (hc : σ.1 (O + 1) = some (oI 0 60 t)) (hn : n ≤ 60) (ht : TxOK t) (hkl : KpO (cA t n) kl)
    (hQ : ∀ a' b' d' w' : Int, Q (.inl (some (vI (okO (cA t n) kl n)))) (am_st σ O (oOr O n a' b' d' w'))) :
    CW G k_Orders_areOrders [vR O] (am_st σ O (oOr O n a b d w)) Q := by
  have hle := enO_le t hkl
  have w01 : ∀ i, (rdO (cA t n) i).2 = 0 ∨ (rdO (cA t n) i).2 = 1 := fun i => by
    unfold rdO
    repeat' split
    all_goals first | exact Or.inl rfl | exact Or.inr rfl
  have hw := w01 (stO (cA t n) kl)
  simp only [c_Orders_areOrders, e_Orders_areOrders_0, e_Orders_areOrders_1, kR_l, kR_r, kP_0, kP_i, kP_r, kP_n, kP_s, kP_o, kLen_I, kLen_L, kLen_R, kLdI_0, kLdI_1, kLdI_2, kLdI_3, kStI_0, kStI_1, kLdL_e, kStL_e, kLdR_e, kStR_e, kFld_e, kNth_0, kNth_s, kPut_e, fit_I, fit_Z, fit_B, fit_C, fit_A, fit_O, Option.toList_some, Option.toList_none, List.cons_append, List.nil_append, true_and, and_true, List.set_cons_zero, List.set_cons_succ, st_same, Int.toNat_natCast, Int.cast_ofNat_Int, Nat.zero_add, Nat.reduceAdd, kRcv_1, kRcv_2, kRcv_3, kRcv_0, kRcv_4, kRcv_5, oOr_rc]
  refine s_readable hG hW hc hn ht hkl (fun a' b' d' => ?_)
  have hq := hQ a' b' d' (rdO (cA t n) (stO (cA t n) kl)).2
  clear hQ
  unfold okO at hq
  simp only [e_Orders_areOrders_4, e_Orders_areOrders_5, e_Orders_areOrders_8, kR_l, kR_r, kP_0, kP_i, kP_r, kP_n, kP_s, kP_o, kLen_I, kLen_L, kLen_R, kLdI_0, kLdI_1, kLdI_2, kLdI_3, kStI_0, kStI_1, kLdL_e, kStL_e, kLdR_e, kStR_e, kFld_e, kNth_0, kNth_s, kPut_e, fit_I, fit_Z, fit_B, fit_C, fit_A, fit_O, Option.toList_some, Option.toList_none, List.cons_append, List.nil_append, true_and, and_true, List.set_cons_zero, List.set_cons_succ, st_same, Int.toNat_natCast, Int.cast_ofNat_Int, Nat.zero_add, Nat.reduceAdd, kRcv_1, kRcv_2, kRcv_3, kRcv_0, kRcv_4, kRcv_5, oOr_at]
  refine ⟨⟨by unfold inR; omega, by unfold inR; omega⟩, fun c => ?_, fun c => ?_⟩
  · rw [if_neg (fun z => c (by have := z.2; unfold enO; omega))] at hq
    simp only [e_Orders_areOrders_22, e_Orders_areOrders_23, kR_l, kR_r, kP_0, kP_i, kP_r, kP_n, kP_s, kP_o, kLen_I, kLen_L, kLen_R, kLdI_0, kLdI_1, kLdI_2, kLdI_3, kStI_0, kStI_1, kLdL_e, kStL_e, kLdR_e, kStR_e, kFld_e, kNth_0, kNth_s, kPut_e, fit_I, fit_Z, fit_B, fit_C, fit_A, fit_O, Option.toList_some, Option.toList_none, List.cons_append, List.nil_append, true_and, and_true, List.set_cons_zero, List.set_cons_succ, st_same, Int.toNat_natCast, Int.cast_ofNat_Int, Nat.zero_add, Nat.reduceAdd, kRcv_1, kRcv_2, kRcv_3, kRcv_0, kRcv_4, kRcv_5]
    first | exact hq | exact ⟨trivial, hq⟩ | exact ⟨by simp, hq⟩
  · have c' : (enO (cA t n) kl : Int) = n := Classical.byContradiction c
    unfold enO at c'
    simp only [e_Orders_areOrders_11, e_Orders_areOrders_12, e_Orders_areOrders_15, kR_l, kR_r, kP_0, kP_i, kP_r, kP_n, kP_s, kP_o, kLen_I, kLen_L, kLen_R, kLdI_0, kLdI_1, kLdI_2, kLdI_3, kStI_0, kStI_1, kLdL_e, kStL_e, kLdR_e, kStR_e, kFld_e, kNth_0, kNth_s, kPut_e, fit_I, fit_Z, fit_B, fit_C, fit_A, fit_O, Option.toList_some, Option.toList_none, List.cons_append, List.nil_append, true_and, and_true, List.set_cons_zero, List.set_cons_succ, st_same, Int.toNat_natCast, Int.cast_ofNat_Int, Nat.zero_add, Nat.reduceAdd, kRcv_1, kRcv_2, kRcv_3, kRcv_0, kRcv_4, kRcv_5, oOr_at]
    refine ⟨by unfold inR; omega, fun c2 => ?_, fun c2 => ?_⟩
    · rw [if_neg (fun z => by omega)] at hq
      simp only [e_Orders_areOrders_22, e_Orders_areOrders_23, kR_l, kR_r, kP_0, kP_i, kP_r, kP_n, kP_s, kP_o, kLen_I, kLen_L, kLen_R, kLdI_0, kLdI_1, kLdI_2, kLdI_3, kStI_0, kStI_1, kLdL_e, kStL_e, kLdR_e, kStR_e, kFld_e, kNth_0, kNth_s, kPut_e, fit_I, fit_Z, fit_B, fit_C, fit_A, fit_O, Option.toList_some, Option.toList_none, List.cons_append, List.nil_append, true_and, and_true, List.set_cons_zero, List.set_cons_succ, st_same, Int.toNat_natCast, Int.cast_ofNat_Int, Nat.zero_add, Nat.reduceAdd, kRcv_1, kRcv_2, kRcv_3, kRcv_0, kRcv_4, kRcv_5]
      first | exact hq | exact ⟨trivial, hq⟩ | exact ⟨by simp, hq⟩
    · rw [if_pos ⟨by omega, by omega⟩] at hq
      simp only [e_Orders_areOrders_18, e_Orders_areOrders_19, e_Orders_areOrders_22, e_Orders_areOrders_23, kR_l, kR_r, kP_0, kP_i, kP_r, kP_n, kP_s, kP_o, kLen_I, kLen_L, kLen_R, kLdI_0, kLdI_1, kLdI_2, kLdI_3, kStI_0, kStI_1, kLdL_e, kStL_e, kLdR_e, kStR_e, kFld_e, kNth_0, kNth_s, kPut_e, fit_I, fit_Z, fit_B, fit_C, fit_A, fit_O, Option.toList_some, Option.toList_none, List.cons_append, List.nil_append, true_and, and_true, List.set_cons_zero, List.set_cons_succ, st_same, Int.toNat_natCast, Int.cast_ofNat_Int, Nat.zero_add, Nat.reduceAdd, kRcv_1, kRcv_2, kRcv_3, kRcv_0, kRcv_4, kRcv_5]
      first | exact hq | exact ⟨trivial, hq⟩ | exact ⟨by simp, hq⟩
end OR2

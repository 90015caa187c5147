/-! THE REFERENCE: the next corridor -/
def dnM (s : Nat → Int) : Nat → Int × Int
  | 0 => (-1, 0)
  | k + 1 => if (k / 6 < k % 6 ∧ 0 < wkM s (k / 6) (k % 6)) ∧ isW s (k / 6) (k % 6) = 1 ∧ 0 < cW s (k / 6) (k % 6) ∧ ((dnM s k).1 = -1 ∨ cW s (k / 6) (k % 6) < (dnM s k).2) then ((k : Int), cW s (k / 6) (k % 6)) else dnM s k
theorem dnM_bd {s : Nat → Int} (hw : WkOK s) : ∀ n, n ≤ 36 → -1 ≤ (dnM s n).1 ∧ (dnM s n).1 < n ∧ 0 ≤ (dnM s n).2 ∧ (dnM s n).2 ≤ 1000
  | 0, _ => by simp [dnM]
  | n + 1, h => by
    have ih := dnM_bd hw n (by omega)
    have h2 := cW_bd (s := s) (hw (n / 6) (n % 6) (by omega) (by omega))
    unfold dnM
    split
    · refine ⟨by show (-1 : Int) ≤ (n : Nat); omega, by show ((n : Nat) : Int) < ((n + 1 : Nat) : Int); omega, h2.1, h2.2⟩
    · omega
def plW (s : Nat → Int) (one other k : Nat) : Nat := (pW s one other k).toNat
theorem plW_ok {s : Nat → Int} {one other : Nat} (hw : 0 ≤ wkM s one other ∧ wkM s one other ≤ 3) {k : Nat} (hk : k < nW s one other) : pW s one other k = (plW s one other k : Nat) ∧ plW s one other k % 16 + bdM s one other ≤ 16 ∧ plW s one other k / 16 + bdM s one other ≤ 12 := by
  obtain ⟨q, h1, h2, h3, -⟩ := pW_ok hw k hk
  have hp := ((fW_sol hw).1 q h2).2.2 h3
  obtain ⟨-, -, g3, g4, -⟩ := plB_of hp
  unfold plW
  rw [h1, Int.toNat_natCast]
  exact ⟨rfl, by omega, by omega⟩
theorem nW_le {s : Nat → Int} {one other : Nat} (hw : 0 ≤ wkM s one other ∧ wkM s one other ≤ 3) : nW s one other ≤ 192 := by
  by_cases h : nW s one other = 0
  · omega
  · obtain ⟨q, h1, h2, h3, h4⟩ := pW_ok hw 0 (by omega)
    have := (Sol_mod' (fW_sol hw) h2 h3).2.1
    omega
theorem kP_z {z : Option AV} (hz : zI z) (ls : AL) : kP (z :: ls) 1 = True := by
  rcases hz with rfl | ⟨w, rfl⟩
  · exact kP_n ls
  · exact kP_i w ls
theorem KeepW.trans {m m' m2 : Nat → Int} {A A' A2 : Nat → Nat → Int} (h1 : KeepW m m' A A') (h2 : KeepW m' m2 A' A2) : KeepW m m2 A A2 := ⟨fun k a b c => by rw [h2.1 k a b c, h1.1 k a b c], fun k a b c => by rw [h2.2.1 k a b c, h1.2.1 k a b c], h2.2.2⟩
theorem dnM_is {s : Nat → Int} : ∀ (n k : Nat), (dnM s n).1 = k → k < n ∧ (k / 6 < k % 6 ∧ 0 < wkM s (k / 6) (k % 6)) ∧ isW s (k / 6) (k % 6) = 1 ∧ 0 < cW s (k / 6) (k % 6) ∧ (dnM s n).2 = cW s (k / 6) (k % 6)
  | 0, k, h => by
    have h' : (-1 : Int) = k := h
    omega
  | n + 1, k, h => by
    unfold dnM at h ⊢
    split
    · rename_i hc
      rw [if_pos hc] at h
      have e : n = k := by
        have h' : ((n : Nat) : Int) = k := h
        omega
      subst e
      exact ⟨by omega, hc.1, hc.2.1, hc.2.2.1, rfl⟩
    · rename_i hc
      rw [if_neg hc] at h
      obtain ⟨h1, h2⟩ := dnM_is n k h
      exact ⟨by omega, h2⟩
section NXT
variable {G : Nat → Nat} {σ : AS} {Q : (Option AV ⊕ Nat) → AS → Prop} {M a : Nat} {m : Nat → Int} {A : Nat → Nat → Int} {s : Nat → Int}
theorem nxt_no {z1 z2 z3 z4 z5 : Option AV} (h : Q (.inl (some (vI (-1)))) σ) : WP G k_Model_digsNext 117 [some (vR M), some (vR a), some (vI (-1)), z1, z2, z3, z4, z5] [] σ Q := by
  simp only [e_Model_digsNext_117, e_Model_digsNext_118, e_Model_digsNext_119, e_Model_digsNext_146, e_Model_digsNext_147, kR_l, kR_r, kP_0, kP_i, kP_r, kP_n, kP_s, kP_o, kLen_I, kLen_L, kLen_R, kLdI_0, kLdI_1, kLdI_2, kLdI_3, kStI_0, kStI_1, kLdL_e, kStL_e, kLdR_e, kStR_e, kFld_e, kNth_0, kNth_s, kPut_e, fit_I, fit_Z, fit_B, fit_C, fit_A, fit_O, Option.toList_some, Option.toList_none, List.cons_append, List.nil_append, true_and, and_true, List.set_cons_zero, List.set_cons_succ, st_same, Int.toNat_natCast, Int.cast_ofNat_Int, Nat.zero_add, Nat.reduceAdd, kRcv_1, kRcv_2, kRcv_3, kRcv_0, kRcv_4, kRcv_5]
  all_goals ((repeat' (first | with_reducible refine And.intro ?_ ?_ | intro _)) <;> first | with_reducible assumption | exact True.intro | exact h | omega | (simp only [inR] at *; omega) | with_reducible rfl | rfl | (simp; done) | (exfalso; simp_all; done) | skip)
theorem nxt_go {j k : Nat} {z1 z2 z3 z4 z5 : Option AV} (ha : SAt σ M A a s) (hsj : s = A j) (hj : j = 1 ∨ j = 2) (haj : a = M + j) (hs : SOK s) (hw : WkOK s) (hG : G 0 ≤ M) (hA : MdOK A) (hk : k < 36) (hone : isW s (k / 6) (k % 6) = 1)
    (hQ : ∀ (m' : Nat → Int) (A' : Nat → Nat → Int), KeepW m m' A A' → Q (.inl (some (vI (dgK s (plW s (k / 6) (k % 6)) (bdM s (k / 6) (k % 6)) (nW s (k / 6) (k % 6))).2))) (setMd σ M m' (upA A' j (dgK s (plW s (k / 6) (k % 6)) (bdM s (k / 6) (k % 6)) (nW s (k / 6) (k % 6))).1))) :
    WP G k_Model_digsNext 117 [some (vR M), some (vR a), some (vI (k : Nat)), z1, z2, z3, z4, z5] [] (setMd σ M m A) Q := by
  have ho : k / 6 < 6 := by omega
  have ho2 : k % 6 < 6 := by omega
  have hwk := hw (k / 6) (k % 6) ho ho2
  have hb := bdM_bd hwk
  have hrd : ∀ (m2 : Nat → Int) (A' : Nat → Nat → Int), (setMd σ M m2 A').1 a = some (oI 0 253 (A' j)) := by
    intro m2 A'
    rcases hj with rfl | rfl
    · rw [haj]; exact Mda1 σ M m2 A'
    · rw [haj]; exact Mda2 σ M m2 A'
  have hwr : ∀ (m2 : Nat → Int) (A' : Nat → Nat → Int) (f : Nat → Int), am_st (setMd σ M m2 A') a (oI 0 253 f) = setMd σ M m2 (upA A' j f) := by
    intro m2 A' f
    rcases hj with rfl | rfl
    · rw [haj]; exact Mdw1 σ M m2 A' f
    · rw [haj]; exact Mdw2 σ M m2 A' f
  simp only [e_Model_digsNext_117, e_Model_digsNext_118, e_Model_digsNext_119, e_Model_digsNext_122, e_Model_digsNext_123, e_Model_digsNext_124, e_Model_digsNext_125, e_Model_digsNext_127, e_Model_digsNext_128, e_Model_digsNext_129, e_Model_digsNext_131, e_Model_digsNext_132, kR_l, kR_r, kP_0, kP_i, kP_r, kP_n, kP_s, kP_o, kLen_I, kLen_L, kLen_R, kLdI_0, kLdI_1, kLdI_2, kLdI_3, kStI_0, kStI_1, kLdL_e, kStL_e, kLdR_e, kStR_e, kFld_e, kNth_0, kNth_s, kPut_e, fit_I, fit_Z, fit_B, fit_C, fit_A, fit_O, Option.toList_some, Option.toList_none, List.cons_append, List.nil_append, true_and, and_true, List.set_cons_zero, List.set_cons_succ, st_same, Int.toNat_natCast, Int.cast_ofNat_Int, Nat.zero_add, Nat.reduceAdd, kRcv_1, kRcv_2, kRcv_3, kRcv_0, kRcv_4, kRcv_5, setMd_set, Mdo, Mda1, Mdw1, Mda2, Mdw2, Mda3, Mdw3, Mda4, Mdw4, Mda5, Mdw5, Mda6, Mdw6, Mda7, Mdw7, Mda8, Mdw8, Mda9, Mdw9, Mda10, Mdw10, Mda11, Mdw11, Mdp3, Mdp5, Mdp6, Mdp7, Mdp8, Mdp10, Mdp16, Mdp17, Mdp18, pm6, pd6]
  refine ⟨⟨by unfold inR; omega, by unfold inR; omega⟩, fun h => absurd h (by omega), fun _ => ⟨⟨by omega, by omega, by omega, by omega⟩, ⟨by omega, by omega, by omega, by omega⟩, ?_⟩⟩
  refine s_isWay ha hs hG ho ho2 hwk hA (fun A2 q1 q2 q3 => ?_)
  have hA2 : A2 j = s := by
    rw [q2 j (by omega) (by omega) (by omega), hsj]
  have hq := hQ (mW m s (k / 6) (k % 6)) A2 ((KeepW.refl hA).way s (k / 6) (k % 6) q1 q2)
  simp only [e_Model_digsNext_135, e_Model_digsNext_138, e_Model_digsNext_139, e_Model_digsNext_140, kR_l, kR_r, kP_0, kP_i, kP_r, kP_n, kP_s, kP_o, kLen_I, kLen_L, kLen_R, kLdI_0, kLdI_1, kLdI_2, kLdI_3, kStI_0, kStI_1, kLdL_e, kStL_e, kLdR_e, kStR_e, kFld_e, kNth_0, kNth_s, kPut_e, fit_I, fit_Z, fit_B, fit_C, fit_A, fit_O, Option.toList_some, Option.toList_none, List.cons_append, List.nil_append, true_and, and_true, List.set_cons_zero, List.set_cons_succ, st_same, Int.toNat_natCast, Int.cast_ofNat_Int, Nat.zero_add, Nat.reduceAdd, kRcv_1, kRcv_2, kRcv_3, kRcv_0, kRcv_4, kRcv_5, setMd_set, Mdo, Mda1, Mdw1, Mda2, Mdw2, Mda3, Mdw3, Mda4, Mdw4, Mda5, Mdw5, Mda6, Mdw6, Mda7, Mdw7, Mda8, Mdw8, Mda9, Mdw9, Mda10, Mdw10, Mda11, Mdw11, Mdp3, Mdp5, Mdp6, Mdp7, Mdp8, Mdp10, Mdp16, Mdp17, Mdp18, hone]
  refine ⟨by unfold inR; omega, fun h => absurd h (by omega), fun _ => ?_⟩
  rw [s_Model_digs (j := j) (b := bdM s (k / 6) (k % 6)) (N := nW s (k / 6) (k % 6)) (pl := plW s (k / 6) (k % 6)) (hrd _) (hwr _) (by omega) (by omega) (by rw [hA2]; exact hs) rfl rfl hb.1 hb.2 (nW_le hwk) (fun i hi => by rw [q3 i hi]; exact plW_ok hwk hi), hA2]
  simp only [e_Model_digsNext_143, e_Model_digsNext_146, e_Model_digsNext_147, kR_l, kR_r, kP_0, kP_i, kP_r, kP_n, kP_s, kP_o, kLen_I, kLen_L, kLen_R, kLdI_0, kLdI_1, kLdI_2, kLdI_3, kStI_0, kStI_1, kLdL_e, kStL_e, kLdR_e, kStR_e, kFld_e, kNth_0, kNth_s, kPut_e, fit_I, fit_Z, fit_B, fit_C, fit_A, fit_O, Option.toList_some, Option.toList_none, List.cons_append, List.nil_append, true_and, and_true, List.set_cons_zero, List.set_cons_succ, st_same, Int.toNat_natCast, Int.cast_ofNat_Int, Nat.zero_add, Nat.reduceAdd, kRcv_1, kRcv_2, kRcv_3, kRcv_0, kRcv_4, kRcv_5]
  first | exact hq | exact ⟨trivial, hq⟩
theorem s_digsNext {j : Nat} (ha : SAt σ M A a s) (hsj : s = A j) (hj : j = 1 ∨ j = 2) (haj : a = M + j) (hs : SOK s) (hw : WkOK s) (hG : G 0 ≤ M) (hA : MdOK A)
    (hQ1 : (dnM s 36).1 = -1 → ∀ (m' : Nat → Int) (A' : Nat → Nat → Int), KeepW m m' A A' → Q (.inl (some (vI (-1)))) (setMd σ M m' A'))
    (hQ2 : ∀ k : Nat, (dnM s 36).1 = k → ∀ (m' : Nat → Int) (A' : Nat → Nat → Int), KeepW m m' A A' → Q (.inl (some (vI (dgK s (plW s (k / 6) (k % 6)) (bdM s (k / 6) (k % 6)) (nW s (k / 6) (k % 6))).2))) (setMd σ M m' (upA A' j (dgK s (plW s (k / 6) (k % 6)) (bdM s (k / 6) (k % 6)) (nW s (k / 6) (k % 6))).1))) :
    CW G k_Model_digsNext [vR M, vR a] (setMd σ M m A) Q := by
  simp only [c_Model_digsNext, e_Model_digsNext_0, e_Model_digsNext_1, e_Model_digsNext_2, e_Model_digsNext_3, e_Model_digsNext_4, e_Model_digsNext_5, e_Model_digsNext_9, e_Model_digsNext_11, e_Model_digsNext_14, e_Model_digsNext_16, e_Model_digsNext_18, e_Model_digsNext_19, e_Model_digsNext_21, e_Model_digsNext_23, e_Model_digsNext_25, e_Model_digsNext_26, e_Model_digsNext_28, e_Model_digsNext_30, e_Model_digsNext_32, e_Model_digsNext_35, e_Model_digsNext_36, e_Model_digsNext_38, e_Model_digsNext_40, e_Model_digsNext_43, e_Model_digsNext_46, e_Model_digsNext_47, e_Model_digsNext_48, e_Model_digsNext_50, e_Model_digsNext_52, e_Model_digsNext_55, e_Model_digsNext_58, e_Model_digsNext_59, e_Model_digsNext_62, e_Model_digsNext_65, e_Model_digsNext_66, e_Model_digsNext_67, e_Model_digsNext_70, e_Model_digsNext_71, e_Model_digsNext_74, e_Model_digsNext_75, e_Model_digsNext_78, e_Model_digsNext_79, e_Model_digsNext_82, e_Model_digsNext_83, e_Model_digsNext_85, e_Model_digsNext_87, e_Model_digsNext_90, e_Model_digsNext_92, e_Model_digsNext_95, e_Model_digsNext_96, e_Model_digsNext_97, e_Model_digsNext_99, e_Model_digsNext_102, e_Model_digsNext_103, e_Model_digsNext_106, e_Model_digsNext_109, e_Model_digsNext_110, e_Model_digsNext_111, e_Model_digsNext_114, e_Model_digsNext_117, e_Model_digsNext_118, e_Model_digsNext_119, e_Model_digsNext_122, e_Model_digsNext_123, e_Model_digsNext_124, e_Model_digsNext_125, e_Model_digsNext_127, e_Model_digsNext_128, e_Model_digsNext_129, e_Model_digsNext_131, e_Model_digsNext_132, e_Model_digsNext_135, e_Model_digsNext_138, e_Model_digsNext_139, e_Model_digsNext_140, e_Model_digsNext_143, e_Model_digsNext_146, e_Model_digsNext_147, kR_l, kR_r, kP_0, kP_i, kP_r, kP_n, kP_s, kP_o, kLen_I, kLen_L, kLen_R, kLdI_0, kLdI_1, kLdI_2, kLdI_3, kStI_0, kStI_1, kLdL_e, kStL_e, kLdR_e, kStR_e, kFld_e, kNth_0, kNth_s, kPut_e, fit_I, fit_Z, fit_B, fit_C, fit_A, fit_O, Option.toList_some, Option.toList_none, List.cons_append, List.nil_append, true_and, and_true, List.set_cons_zero, List.set_cons_succ, st_same, Int.toNat_natCast, Int.cast_ofNat_Int, Nat.zero_add, Nat.reduceAdd, kRcv_1, kRcv_2, kRcv_3, kRcv_0, kRcv_4, kRcv_5]
  have key := upS (fun k (S : (Nat → Int) × (Nat → Nat → Int)) => ∀ z1 z2 z3, zI z1 → zI z2 → zI z3 → WP G k_Model_digsNext 7 [some (vR M), some (vR a), some (vI (dnM s k).1), some (vI (dnM s k).2), some (vI (k : Nat)), z1, z2, z3] [] (setMd σ M S.1 S.2) Q) (fun _ S => KeepW m S.1 A S.2) (n := 36) ?_ ?_
  · exact key (m, A) (KeepW.refl hA) none none none zI_n zI_n zI_n
  · rintro k ⟨m', A'⟩ hk hK ih z1 z2 z3 hz1 hz2 hz3
    have hK' : KeepW m m' A A' := hK
    have ha' := ha.keep hK'.2.1
    have ho : k / 6 < 6 := by omega
    have ho2 : k % 6 < 6 := by omega
    have hwk := hw (k / 6) (k % 6) ho ho2
    have h1 := isW_bd s (k / 6) (k % 6)
    have h2 := cW_bd (s := s) hwk
    have hd := dnM_bd hw k (by omega)
    have same := ih (m', A') hK
    dsimp only at same
    unfold dnM at ih same
    rw [e_Model_digsNext_7]
    simp only [e_Model_digsNext_9, e_Model_digsNext_11, e_Model_digsNext_14, e_Model_digsNext_16, e_Model_digsNext_18, e_Model_digsNext_19, e_Model_digsNext_21, e_Model_digsNext_23, e_Model_digsNext_25, e_Model_digsNext_26, e_Model_digsNext_28, e_Model_digsNext_30, e_Model_digsNext_32, e_Model_digsNext_35, e_Model_digsNext_36, e_Model_digsNext_38, e_Model_digsNext_40, kR_l, kR_r, kP_0, kP_i, kP_r, kP_n, kP_s, kP_o, kLen_I, kLen_L, kLen_R, kLdI_0, kLdI_1, kLdI_2, kLdI_3, kStI_0, kStI_1, kLdL_e, kStL_e, kLdR_e, kStR_e, kFld_e, kNth_0, kNth_s, kPut_e, fit_I, fit_Z, fit_B, fit_C, fit_A, fit_O, Option.toList_some, Option.toList_none, List.cons_append, List.nil_append, true_and, and_true, List.set_cons_zero, List.set_cons_succ, st_same, Int.toNat_natCast, Int.cast_ofNat_Int, Nat.zero_add, Nat.reduceAdd, kRcv_1, kRcv_2, kRcv_3, kRcv_0, kRcv_4, kRcv_5, setMd_set, Mdo, Mda1, Mdw1, Mda2, Mdw2, Mda3, Mdw3, Mda4, Mdw4, Mda5, Mdw5, Mda6, Mdw6, Mda7, Mdw7, Mda8, Mdw8, Mda9, Mdw9, Mda10, Mdw10, Mda11, Mdw11, Mdp3, Mdp5, Mdp6, Mdp7, Mdp8, Mdp10, Mdp16, Mdp17, Mdp18, pm6, pd6, kP_z hz1, kP_z hz2, kP_z hz3, s_Model_walks (ha' m' A' rfl rfl) ho ho2]
    by_cases c1 : k / 6 < k % 6 ∧ 0 < wkM s (k / 6) (k % 6)
    · simp only [e_Model_digsNext_43, e_Model_digsNext_46, e_Model_digsNext_47, e_Model_digsNext_48, e_Model_digsNext_50, e_Model_digsNext_52, e_Model_digsNext_111, e_Model_digsNext_114, kR_l, kR_r, kP_0, kP_i, kP_r, kP_n, kP_s, kP_o, kLen_I, kLen_L, kLen_R, kLdI_0, kLdI_1, kLdI_2, kLdI_3, kStI_0, kStI_1, kLdL_e, kStL_e, kLdR_e, kStR_e, kFld_e, kNth_0, kNth_s, kPut_e, fit_I, fit_Z, fit_B, fit_C, fit_A, fit_O, Option.toList_some, Option.toList_none, List.cons_append, List.nil_append, true_and, and_true, List.set_cons_zero, List.set_cons_succ, st_same, Int.toNat_natCast, Int.cast_ofNat_Int, Nat.zero_add, Nat.reduceAdd, kRcv_1, kRcv_2, kRcv_3, kRcv_0, kRcv_4, kRcv_5, setMd_set, Mdo, Mda1, Mdw1, Mda2, Mdw2, Mda3, Mdw3, Mda4, Mdw4, Mda5, Mdw5, Mda6, Mdw6, Mda7, Mdw7, Mda8, Mdw8, Mda9, Mdw9, Mda10, Mdw10, Mda11, Mdw11, Mdp3, Mdp5, Mdp6, Mdp7, Mdp8, Mdp10, Mdp16, Mdp17, Mdp18]
      all_goals ((repeat' (first | with_reducible refine And.intro ?_ ?_ | intro _)) <;> first | with_reducible assumption | exact True.intro | omega | (simp only [inR] at *; omega) | (with_reducible show WP _ _ _ _ _ _ _) | (with_reducible show CW _ _ _ _ _) | with_reducible rfl | rfl | (simp; done) | (exfalso; simp_all; done) | skip)
      refine s_isWay ha' hs hG ho ho2 hwk hK'.2.2 (fun A2 q1 q2 q3 => ?_)
      have nx := ih (mW m' s (k / 6) (k % 6), A2) (hK'.way s (k / 6) (k % 6) q1 q2)
      dsimp only at nx
      have e17 : mW m' s (k / 6) (k % 6) 17 = cW s (k / 6) (k % 6) := rfl
      simp only [e_Model_digsNext_55, e_Model_digsNext_58, e_Model_digsNext_59, e_Model_digsNext_62, e_Model_digsNext_65, e_Model_digsNext_66, e_Model_digsNext_67, e_Model_digsNext_70, e_Model_digsNext_71, e_Model_digsNext_74, e_Model_digsNext_75, e_Model_digsNext_78, e_Model_digsNext_79, e_Model_digsNext_82, e_Model_digsNext_83, e_Model_digsNext_85, e_Model_digsNext_87, e_Model_digsNext_90, e_Model_digsNext_92, e_Model_digsNext_95, e_Model_digsNext_96, e_Model_digsNext_97, e_Model_digsNext_99, e_Model_digsNext_102, e_Model_digsNext_103, e_Model_digsNext_106, e_Model_digsNext_109, e_Model_digsNext_110, e_Model_digsNext_111, e_Model_digsNext_114, kR_l, kR_r, kP_0, kP_i, kP_r, kP_n, kP_s, kP_o, kLen_I, kLen_L, kLen_R, kLdI_0, kLdI_1, kLdI_2, kLdI_3, kStI_0, kStI_1, kLdL_e, kStL_e, kLdR_e, kStR_e, kFld_e, kNth_0, kNth_s, kPut_e, fit_I, fit_Z, fit_B, fit_C, fit_A, fit_O, Option.toList_some, Option.toList_none, List.cons_append, List.nil_append, true_and, and_true, List.set_cons_zero, List.set_cons_succ, st_same, Int.toNat_natCast, Int.cast_ofNat_Int, Nat.zero_add, Nat.reduceAdd, kRcv_1, kRcv_2, kRcv_3, kRcv_0, kRcv_4, kRcv_5, setMd_set, Mdo, Mda1, Mdw1, Mda2, Mdw2, Mda3, Mdw3, Mda4, Mdw4, Mda5, Mdw5, Mda6, Mdw6, Mda7, Mdw7, Mda8, Mdw8, Mda9, Mdw9, Mda10, Mdw10, Mda11, Mdw11, Mdp3, Mdp5, Mdp6, Mdp7, Mdp8, Mdp10, Mdp16, Mdp17, Mdp18, e17, kP_z hz3]
      clear ih same hQ1 hQ2
      by_cases c2 : isW s (k / 6) (k % 6) = 1 ∧ 0 < cW s (k / 6) (k % 6) ∧ ((dnM s k).1 = -1 ∨ cW s (k / 6) (k % 6) < (dnM s k).2)
      · rw [if_pos ⟨c1, c2⟩] at nx
        all_goals ((repeat' (first | with_reducible refine And.intro ?_ ?_ | intro _)) <;> first | with_reducible assumption | exact True.intro | exact nx _ _ _ (by first | assumption | exact zI_s _ | exact zI_n) (by first | assumption | exact zI_s _ | exact zI_n) (by first | assumption | exact zI_s _ | exact zI_n) | omega | (simp only [inR] at *; omega) | with_reducible rfl | rfl | (simp; done) | (exfalso; simp_all; done) | skip)
      · rw [if_neg (fun z => c2 z.2)] at nx
        all_goals ((repeat' (first | with_reducible refine And.intro ?_ ?_ | intro _)) <;> first | with_reducible assumption | exact True.intro | exact nx _ _ _ (by first | assumption | exact zI_s _ | exact zI_n) (by first | assumption | exact zI_s _ | exact zI_n) (by first | assumption | exact zI_s _ | exact zI_n) | omega | (simp only [inR] at *; omega) | with_reducible rfl | rfl | (simp; done) | (exfalso; simp_all; done) | skip)
    · rw [if_neg (fun z => c1 z.1)] at same
      clear ih hQ1 hQ2
      simp only [e_Model_digsNext_43, e_Model_digsNext_46, e_Model_digsNext_47, e_Model_digsNext_48, e_Model_digsNext_50, e_Model_digsNext_52, e_Model_digsNext_111, e_Model_digsNext_114, kR_l, kR_r, kP_0, kP_i, kP_r, kP_n, kP_s, kP_o, kLen_I, kLen_L, kLen_R, kLdI_0, kLdI_1, kLdI_2, kLdI_3, kStI_0, kStI_1, kLdL_e, kStL_e, kLdR_e, kStR_e, kFld_e, kNth_0, kNth_s, kPut_e, fit_I, fit_Z, fit_B, fit_C, fit_A, fit_O, Option.toList_some, Option.toList_none, List.cons_append, List.nil_append, true_and, and_true, List.set_cons_zero, List.set_cons_succ, st_same, Int.toNat_natCast, Int.cast_ofNat_Int, Nat.zero_add, Nat.reduceAdd, kRcv_1, kRcv_2, kRcv_3, kRcv_0, kRcv_4, kRcv_5, setMd_set, Mdo, Mda1, Mdw1, Mda2, Mdw2, Mda3, Mdw3, Mda4, Mdw4, Mda5, Mdw5, Mda6, Mdw6, Mda7, Mdw7, Mda8, Mdw8, Mda9, Mdw9, Mda10, Mdw10, Mda11, Mdw11, Mdp3, Mdp5, Mdp6, Mdp7, Mdp8, Mdp10, Mdp16, Mdp17, Mdp18]
      all_goals ((repeat' (first | with_reducible refine And.intro ?_ ?_ | intro _)) <;> first | with_reducible assumption | exact True.intro | exact same _ _ _ (by first | assumption | exact zI_s _ | exact zI_n) (by first | assumption | exact zI_s _ | exact zI_n) (by first | assumption | exact zI_s _ | exact zI_n) | omega | (simp only [inR] at *; omega) | with_reducible rfl | rfl | (simp; done) | (exfalso; simp_all; done) | skip)
  · rintro ⟨m', A'⟩ hK z1 z2 z3 hz1 hz2 hz3
    have hK' : KeepW m m' A A' := hK
    have ha' := ha.keep hK'.2.1
    have hd := dnM_bd hw 36 (Nat.le_refl _)
    rw [e_Model_digsNext_7]
    simp only [e_Model_digsNext_9, e_Model_digsNext_11, kR_l, kR_r, kP_0, kP_i, kP_r, kP_n, kP_s, kP_o, kLen_I, kLen_L, kLen_R, kLdI_0, kLdI_1, kLdI_2, kLdI_3, kStI_0, kStI_1, kLdL_e, kStL_e, kLdR_e, kStR_e, kFld_e, kNth_0, kNth_s, kPut_e, fit_I, fit_Z, fit_B, fit_C, fit_A, fit_O, Option.toList_some, Option.toList_none, List.cons_append, List.nil_append, true_and, and_true, List.set_cons_zero, List.set_cons_succ, st_same, Int.toNat_natCast, Int.cast_ofNat_Int, Nat.zero_add, Nat.reduceAdd, kRcv_1, kRcv_2, kRcv_3, kRcv_0, kRcv_4, kRcv_5]
    refine ⟨⟨by unfold inR; omega, by unfold inR; omega⟩, fun _ => ?_, fun h => absurd h (by omega)⟩
    by_cases e : (dnM s 36).1 = -1
    · rw [e]
      exact nxt_no (hQ1 e m' A' hK')
    · obtain ⟨k, hk⟩ : ∃ k : Nat, (dnM s 36).1 = k := ⟨(dnM s 36).1.toNat, by omega⟩
      have hi := dnM_is 36 k hk
      rw [hk]
      exact nxt_go ha' (by rw [hK'.2.1 j (by omega) (by omega) (by omega), hsj]) hj haj hs hw hG hK'.2.2 hi.1 hi.2.2.1 (fun m2 A2 h2 => hQ2 k hk m2 A2 (hK'.trans h2))
end NXT

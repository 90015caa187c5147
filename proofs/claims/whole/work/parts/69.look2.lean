/-! THE REFERENCE: counts, and what would be -/
theorem tgS_OK {s : Nat → Int} (h : SOK s) (p : Nat) : SOK (tgS s p) := by
  intro k
  unfold tgS
  rw [upI_at]
  split
  · split <;> omega
  · exact h k
theorem tgS_hi (s : Nat → Int) {p k : Nat} (hp : p < 192) (hk : 192 ≤ k) : tgS s p k = s k := by
  unfold tgS
  rw [upI_at, if_neg (by omega)]
theorem tgS_wk {s : Nat → Int} (h : WkOK s) {p : Nat} (hp : p < 192) : WkOK (tgS s p) := by
  intro a b ha hb
  unfold wkM
  rw [tgS_hi s hp (by omega)]
  exact h a b ha hb
theorem tgS_Tl {s : Nat → Int} (h : Tl s) {p : Nat} (hp : p < 192) : Tl (tgS s p) := fun k hk => by rw [tgS_hi s hp (by omega)]; exact h k hk
theorem gvL_or (s : Nat → Int) (r : Nat) (j : Nat) : ∀ n, gvL s r n j = s j ∨ gvL s r n j = 0
  | 0 => Or.inl rfl
  | n + 1 => by
    unfold gvL
    simp only [upI_at]
    split
    · exact Or.inr rfl
    · split
      · exact Or.inr rfl
      · exact gvL_or s r j n
theorem gvL_lo (s : Nat → Int) (r : Nat) {j : Nat} (hj : j < 216) : ∀ n, gvL s r n j = s j
  | 0 => rfl
  | n + 1 => by
    unfold gvL
    simp only [upI_at]
    rw [if_neg (by omega), if_neg (by omega)]
    exact gvL_lo s r hj n
theorem gvL_hi (s : Nat → Int) {r : Nat} (hr : r < 6) {j : Nat} (hj : 252 ≤ j) : ∀ n, n ≤ 6 → gvL s r n j = s j
  | 0, _ => rfl
  | n + 1, h => by
    unfold gvL
    simp only [upI_at]
    rw [if_neg (by omega), if_neg (by omega)]
    exact gvL_hi s hr hj n (by omega)
theorem gv1_OK {s : Nat → Int} (h : SOK s) (r : Int) (i : Nat) : SOK (gv1 s r i) := by
  intro k
  unfold gv1
  split
  · omega
  · exact h k
theorem upI_OK {s : Nat → Int} (h : SOK s) (p : Nat) {v : Int} (hv : -2 ≤ v ∧ v ≤ 16) : SOK (upI s p v) := by
  intro k
  rw [upI_at]
  split
  · exact hv
  · exact h k
theorem gvS_OK {s : Nat → Int} (h : SOK s) (r : Nat) : SOK (gvS s r) := by
  intro k
  have h2 := upI_OK (gv1_OK h r 192) (194 + 4 * r) (v := 0) (by omega) k
  unfold gvS
  rcases gvL_or (upI (gv1 s r 192) (194 + 4 * r) 0) r k 6 with e | e <;> rw [e]
  · exact h2
  · omega
theorem gv1_hi (s : Nat → Int) (r : Int) {j : Nat} (hj : 192 ≤ j) : gv1 s r 192 j = s j := if_neg (fun z => absurd z.1 (by omega))
theorem gvS_wk {s : Nat → Int} (h : WkOK s) {r : Nat} (hr : r < 6) : WkOK (gvS s r) := by
  intro a b ha hb
  have h0 := h a b ha hb
  unfold wkM at h0 ⊢
  unfold gvS
  rcases gvL_or (upI (gv1 s r 192) (194 + 4 * r) 0) r (216 + 6 * a + b) 6 with e | e <;> rw [e]
  · rw [upI_at, if_neg (by omega), gv1_hi s r (by omega)]
    exact h0
  · omega
theorem gvS_hi (s : Nat → Int) {r : Nat} (hr : r < 6) {j : Nat} (hj : 252 ≤ j) : gvS s r j = s j := by
  unfold gvS
  rw [gvL_hi _ hr hj 6 (Nat.le_refl _), upI_at, if_neg (by omega), gv1_hi s r (by omega)]
theorem gvS_Tl {s : Nat → Int} (h : Tl s) {r : Nat} (hr : r < 6) : Tl (gvS s r) := fun k hk => by rw [gvS_hi s hr (by omega)]; exact h k hk
theorem prT_bd {s : Nat → Int} (hw : WkOK s) (what : Int) (hwh : what = 0 ∨ what = 1) {k : Nat} (hk : k < 36) : 0 ≤ prT s what (k / 6) (k % 6) ∧ prT s what (k / 6) (k % 6) ≤ b01 (k / 6 < k % 6) := by
  have := opW_bd s (k / 6) (k % 6)
  unfold prT
  by_cases h : k / 6 < k % 6
  · rw [b01_t h]
    split
    · rcases hwh with rfl | rfl
      · rw [if_pos rfl]; omega
      · rw [if_neg (by omega), if_pos rfl]; omega
    · omega
  · rw [b01_f h, if_neg (fun z => h z.1)]
    omega
theorem prM_bd {s : Nat → Int} (hw : WkOK s) (what : Int) (hwh : what = 0 ∨ what = 1) : 0 ≤ prM s what ∧ prM s what ≤ 15 := by
  have h1 := sum_bd (f := fun k => prT s what (k / 6) (k % 6)) (a := 0) (b := 1) 36 (fun k hk => by
    have := prT_bd hw what hwh hk
    have := b01_bd (k / 6 < k % 6)
    omega)
  have h2 := sum_le (f := fun k => prT s what (k / 6) (k % 6)) (g := fun k => b01 (k / 6 < k % 6)) 36 (fun k hk => (prT_bd hw what hwh hk).2)
  have h3 : sumTo (fun k => b01 (k / 6 < k % 6)) 36 = 15 := by decide
  unfold prM
  omega
theorem prM_le {s : Nat → Int} (hw : WkOK s) : prM s 1 ≤ prM s 0 := by
  unfold prM
  refine sum_le 36 (fun k hk => ?_)
  have := opW_bd s (k / 6) (k % 6)
  unfold prT
  split
  · rw [if_neg (by omega), if_pos rfl, if_pos rfl]
    omega
  · omega
def shM (s : Nat → Int) : UInt64 := if prM s 0 = 0 then 4607182418800017408 else FP.ddiv (FP.i2d (Int32.ofInt (prM s 0 - prM s 1))) (FP.i2d (Int32.ofInt (prM s 0)))
theorem shM_nn : ∀ n, n < 16 → ∀ k, k < 16 → 1 ≤ n → am_notNaN (FP.ddiv (FP.i2d (Int32.ofInt ((k : Nat) : Int))) (FP.i2d (Int32.ofInt ((n : Nat) : Int)))) = true := by decide +kernel
def dgbM (s : Nat → Int) (far p w : Nat) : Int := if 0 ≤ s p then -1 else if w = 1 then alM (tgS s p) far 1 / 2 else prM (tgS s p) (if w = 0 then 1 else 2)
section LK2
variable {G : Nat → Nat} {σ : AS} {Q : (Option AV ⊕ Nat) → AS → Prop} {M a : Nat} {m : Nat → Int} {A : Nat → Nat → Int} {s : Nat → Int}
theorem s_sqC {w : Int} (ha : σ.1 a = some (oI 0 253 s)) (hs : SOK s) (hw : inR w) : CW G k_Model_squares [vR a, vI w] σ Q = Q (.inl (some (vI (sqC s w)))) σ := s_Model_squares ha hs hw
theorem s_counted {w far kp : Nat} (hs : SOK (A 1)) (hw : WkOK (A 1)) (hfar : A 1 252 = (far : Nat)) (hk : m 3 = (kp : Nat)) (hG : G 0 ≤ M) (hA : MdOK A) (hw9 : w < 9)
    (hQ : ∀ (m' : Nat → Int) (A' : Nat → Nat → Int), KeepW m m' A A' → Q (.inl (some (vI (cnM (A 1) far kp w)))) (setMd σ M m' A')) :
    CW G k_Model_counted [vR M, vI (w : Nat)] (setMd σ M m A) Q := by
  unfold cnM at hQ
  have q0 := hQ m A (KeepW.refl hA)
  have D := fun fc h Q => s_Model_allDoors (G := G) (Q := Q) (fc := fc) (Mda1 σ M m A) hs hfar hA.1 hA.2.1 h
  have P : ∀ v, (v = 0 ∨ v = 1 ∨ v = 2) → (∀ (m' : Nat → Int) (A' : Nat → Nat → Int), KeepW m m' A A' → Q (.inl (some (vI (prM (A 1) v)))) (setMd σ M m' A')) → CW G k_Model_pairs [vR M, vR (M + 1), vI v] (setMd σ M m A) (kR (fun v σ' => WP G k_Model_counted 100 [some (vR M), some (vI (w : Nat))] (v.toList ++ []) σ' Q) (fun e σ' => Q (.inr e) σ')) := by
    intro v hv hq
    refine s_pairs (SAt1 σ M A) hs hw hG hA hv (fun m' A' hK => ?_)
    simp only [e_Model_counted_100, kR_l, kR_r, kP_0, kP_i, kP_r, kP_n, kP_s, kP_o, kLen_I, kLen_L, kLen_R, kLdI_0, kLdI_1, kLdI_2, kLdI_3, kStI_0, kStI_1, kLdL_e, kStL_e, kLdR_e, kStR_e, kFld_e, kNth_0, kNth_s, kPut_e, fit_I, fit_Z, fit_B, fit_C, fit_A, fit_O, Option.toList_some, Option.toList_none, List.cons_append, List.nil_append, true_and, and_true, List.set_cons_zero, List.set_cons_succ, st_same, Int.toNat_natCast, Int.cast_ofNat_Int, Nat.zero_add, Nat.reduceAdd, kRcv_1, kRcv_2, kRcv_3, kRcv_0, kRcv_4, kRcv_5]
    first | exact hq m' A' hK | exact ⟨trivial, hq m' A' hK⟩
  rcases (show w = 0 ∨ w = 1 ∨ w = 2 ∨ w = 3 ∨ w = 4 ∨ w = 5 ∨ w = 6 ∨ w = 7 ∨ w = 8 by omega) with rfl | rfl | rfl | rfl | rfl | rfl | rfl | rfl | rfl
  all_goals simp only [Nat.reduceEqDiff, Nat.reduceLT, reduceIte] at q0 hQ
  · simp only [c_Model_counted, e_Model_counted_0, e_Model_counted_1, e_Model_counted_2, e_Model_counted_5, e_Model_counted_6, e_Model_counted_9, e_Model_counted_10, e_Model_counted_13, e_Model_counted_16, e_Model_counted_17, e_Model_counted_20, e_Model_counted_21, e_Model_counted_22, e_Model_counted_25, e_Model_counted_26, e_Model_counted_29, e_Model_counted_31, e_Model_counted_34, kR_l, kR_r, kP_0, kP_i, kP_r, kP_n, kP_s, kP_o, kLen_I, kLen_L, kLen_R, kLdI_0, kLdI_1, kLdI_2, kLdI_3, kStI_0, kStI_1, kLdL_e, kStL_e, kLdR_e, kStR_e, kFld_e, kNth_0, kNth_s, kPut_e, fit_I, fit_Z, fit_B, fit_C, fit_A, fit_O, Option.toList_some, Option.toList_none, List.cons_append, List.nil_append, true_and, and_true, List.set_cons_zero, List.set_cons_succ, st_same, Int.toNat_natCast, Int.cast_ofNat_Int, Nat.zero_add, Nat.reduceAdd, kRcv_1, kRcv_2, kRcv_3, kRcv_0, kRcv_4, kRcv_5, setMd_set, Mdo, Mda1, Mdw1, Mda2, Mdw2, Mda3, Mdw3, Mda4, Mdw4, Mda5, Mdw5, Mda6, Mdw6, Mda7, Mdw7, Mda8, Mdw8, Mda9, Mdw9, Mda10, Mdw10, Mda11, Mdw11, Mdp3, Mdp5, Mdp6, Mdp7, Mdp8, Mdp10, Mdp16, Mdp17, Mdp18, s_Model_rooms hs]
    clear P D hQ
    all_goals ((repeat' (first | with_reducible refine And.intro ?_ ?_ | intro _)) <;> first | with_reducible assumption | exact True.intro | with_reducible exact q0 | omega | (simp only [inR] at *; omega) | exact q0 | with_reducible rfl | rfl | (simp; done) | (exfalso; simp_all; done) | skip)
  · simp (disch := first | assumption | omega | (unfold inR; omega)) only [c_Model_counted, e_Model_counted_0, e_Model_counted_1, e_Model_counted_2, e_Model_counted_5, e_Model_counted_6, e_Model_counted_9, e_Model_counted_10, e_Model_counted_13, e_Model_counted_16, e_Model_counted_17, e_Model_counted_20, e_Model_counted_21, e_Model_counted_22, e_Model_counted_25, e_Model_counted_26, e_Model_counted_29, e_Model_counted_31, e_Model_counted_34, kR_l, kR_r, kP_0, kP_i, kP_r, kP_n, kP_s, kP_o, kLen_I, kLen_L, kLen_R, kLdI_0, kLdI_1, kLdI_2, kLdI_3, kStI_0, kStI_1, kLdL_e, kStL_e, kLdR_e, kStR_e, kFld_e, kNth_0, kNth_s, kPut_e, fit_I, fit_Z, fit_B, fit_C, fit_A, fit_O, Option.toList_some, Option.toList_none, List.cons_append, List.nil_append, true_and, and_true, List.set_cons_zero, List.set_cons_succ, st_same, Int.toNat_natCast, Int.cast_ofNat_Int, Nat.zero_add, Nat.reduceAdd, kRcv_1, kRcv_2, kRcv_3, kRcv_0, kRcv_4, kRcv_5, setMd_set, Mdo, Mda1, Mdw1, Mda2, Mdw2, Mda3, Mdw3, Mda4, Mdw4, Mda5, Mdw5, Mda6, Mdw6, Mda7, Mdw7, Mda8, Mdw8, Mda9, Mdw9, Mda10, Mdw10, Mda11, Mdw11, Mdp3, Mdp5, Mdp6, Mdp7, Mdp8, Mdp10, Mdp16, Mdp17, Mdp18, s_sqC (Mda1 σ M m A) hs]
    clear P D hQ
    all_goals ((repeat' (first | with_reducible refine And.intro ?_ ?_ | intro _)) <;> first | with_reducible assumption | exact True.intro | with_reducible exact q0 | omega | (simp only [inR] at *; omega) | exact q0 | with_reducible rfl | rfl | (simp; done) | (exfalso; simp_all; done) | skip)
  · simp (disch := first | assumption | omega | (unfold inR; omega)) only [c_Model_counted, e_Model_counted_0, e_Model_counted_1, e_Model_counted_2, e_Model_counted_5, e_Model_counted_6, e_Model_counted_9, e_Model_counted_10, e_Model_counted_13, e_Model_counted_16, e_Model_counted_17, e_Model_counted_20, e_Model_counted_21, e_Model_counted_22, e_Model_counted_25, e_Model_counted_26, e_Model_counted_29, e_Model_counted_31, e_Model_counted_34, kR_l, kR_r, kP_0, kP_i, kP_r, kP_n, kP_s, kP_o, kLen_I, kLen_L, kLen_R, kLdI_0, kLdI_1, kLdI_2, kLdI_3, kStI_0, kStI_1, kLdL_e, kStL_e, kLdR_e, kStR_e, kFld_e, kNth_0, kNth_s, kPut_e, fit_I, fit_Z, fit_B, fit_C, fit_A, fit_O, Option.toList_some, Option.toList_none, List.cons_append, List.nil_append, true_and, and_true, List.set_cons_zero, List.set_cons_succ, st_same, Int.toNat_natCast, Int.cast_ofNat_Int, Nat.zero_add, Nat.reduceAdd, kRcv_1, kRcv_2, kRcv_3, kRcv_0, kRcv_4, kRcv_5, setMd_set, Mdo, Mda1, Mdw1, Mda2, Mdw2, Mda3, Mdw3, Mda4, Mdw4, Mda5, Mdw5, Mda6, Mdw6, Mda7, Mdw7, Mda8, Mdw8, Mda9, Mdw9, Mda10, Mdw10, Mda11, Mdw11, Mdp3, Mdp5, Mdp6, Mdp7, Mdp8, Mdp10, Mdp16, Mdp17, Mdp18, s_sqC (Mda1 σ M m A) hs]
    clear P D hQ
    all_goals ((repeat' (first | with_reducible refine And.intro ?_ ?_ | intro _)) <;> first | with_reducible assumption | exact True.intro | with_reducible exact q0 | omega | (simp only [inR] at *; omega) | exact q0 | with_reducible rfl | rfl | (simp; done) | (exfalso; simp_all; done) | skip)
  · simp only [c_Model_counted, e_Model_counted_0, e_Model_counted_1, e_Model_counted_2, e_Model_counted_35, e_Model_counted_36, e_Model_counted_37, e_Model_counted_40, e_Model_counted_41, e_Model_counted_43, e_Model_counted_46, e_Model_counted_47, e_Model_counted_48, e_Model_counted_51, e_Model_counted_52, e_Model_counted_54, e_Model_counted_57, e_Model_counted_58, e_Model_counted_61, e_Model_counted_62, e_Model_counted_65, e_Model_counted_66, e_Model_counted_67, e_Model_counted_69, e_Model_counted_72, e_Model_counted_73, e_Model_counted_76, e_Model_counted_79, e_Model_counted_80, e_Model_counted_81, e_Model_counted_84, e_Model_counted_85, e_Model_counted_87, e_Model_counted_90, e_Model_counted_91, e_Model_counted_94, e_Model_counted_95, e_Model_counted_96, e_Model_counted_97, kR_l, kR_r, kP_0, kP_i, kP_r, kP_n, kP_s, kP_o, kLen_I, kLen_L, kLen_R, kLdI_0, kLdI_1, kLdI_2, kLdI_3, kStI_0, kStI_1, kLdL_e, kStL_e, kLdR_e, kStR_e, kFld_e, kNth_0, kNth_s, kPut_e, fit_I, fit_Z, fit_B, fit_C, fit_A, fit_O, Option.toList_some, Option.toList_none, List.cons_append, List.nil_append, true_and, and_true, List.set_cons_zero, List.set_cons_succ, st_same, Int.toNat_natCast, Int.cast_ofNat_Int, Nat.zero_add, Nat.reduceAdd, kRcv_1, kRcv_2, kRcv_3, kRcv_0, kRcv_4, kRcv_5, setMd_set, Mdo, Mda1, Mdw1, Mda2, Mdw2, Mda3, Mdw3, Mda4, Mdw4, Mda5, Mdw5, Mda6, Mdw6, Mda7, Mdw7, Mda8, Mdw8, Mda9, Mdw9, Mda10, Mdw10, Mda11, Mdw11, Mdp3, Mdp5, Mdp6, Mdp7, Mdp8, Mdp10, Mdp16, Mdp17, Mdp18]
    clear D q0
    all_goals ((repeat' (first | with_reducible refine And.intro ?_ ?_ | intro _)) <;> first | with_reducible assumption | exact True.intro | with_reducible exact P 0 (by omega) hQ | omega | (simp only [inR] at *; omega) | exact P 0 (by omega) hQ | with_reducible rfl | rfl | (simp; done) | (exfalso; simp_all; done) | skip)
  · simp only [c_Model_counted, e_Model_counted_0, e_Model_counted_1, e_Model_counted_2, e_Model_counted_35, e_Model_counted_36, e_Model_counted_37, e_Model_counted_40, e_Model_counted_41, e_Model_counted_43, e_Model_counted_46, e_Model_counted_47, e_Model_counted_48, e_Model_counted_51, e_Model_counted_52, e_Model_counted_54, e_Model_counted_57, e_Model_counted_58, e_Model_counted_61, e_Model_counted_62, e_Model_counted_65, e_Model_counted_66, e_Model_counted_67, e_Model_counted_69, e_Model_counted_72, e_Model_counted_73, e_Model_counted_76, e_Model_counted_79, e_Model_counted_80, e_Model_counted_81, e_Model_counted_84, e_Model_counted_85, e_Model_counted_87, e_Model_counted_90, e_Model_counted_91, e_Model_counted_94, e_Model_counted_95, e_Model_counted_96, e_Model_counted_97, kR_l, kR_r, kP_0, kP_i, kP_r, kP_n, kP_s, kP_o, kLen_I, kLen_L, kLen_R, kLdI_0, kLdI_1, kLdI_2, kLdI_3, kStI_0, kStI_1, kLdL_e, kStL_e, kLdR_e, kStR_e, kFld_e, kNth_0, kNth_s, kPut_e, fit_I, fit_Z, fit_B, fit_C, fit_A, fit_O, Option.toList_some, Option.toList_none, List.cons_append, List.nil_append, true_and, and_true, List.set_cons_zero, List.set_cons_succ, st_same, Int.toNat_natCast, Int.cast_ofNat_Int, Nat.zero_add, Nat.reduceAdd, kRcv_1, kRcv_2, kRcv_3, kRcv_0, kRcv_4, kRcv_5, setMd_set, Mdo, Mda1, Mdw1, Mda2, Mdw2, Mda3, Mdw3, Mda4, Mdw4, Mda5, Mdw5, Mda6, Mdw6, Mda7, Mdw7, Mda8, Mdw8, Mda9, Mdw9, Mda10, Mdw10, Mda11, Mdw11, Mdp3, Mdp5, Mdp6, Mdp7, Mdp8, Mdp10, Mdp16, Mdp17, Mdp18]
    clear D q0
    all_goals ((repeat' (first | with_reducible refine And.intro ?_ ?_ | intro _)) <;> first | with_reducible assumption | exact True.intro | with_reducible exact P 1 (by omega) hQ | omega | (simp only [inR] at *; omega) | exact P 1 (by omega) hQ | with_reducible rfl | rfl | (simp; done) | (exfalso; simp_all; done) | skip)
  · simp only [c_Model_counted, e_Model_counted_0, e_Model_counted_1, e_Model_counted_2, e_Model_counted_35, e_Model_counted_36, e_Model_counted_37, e_Model_counted_40, e_Model_counted_41, e_Model_counted_43, e_Model_counted_46, e_Model_counted_47, e_Model_counted_48, e_Model_counted_51, e_Model_counted_52, e_Model_counted_54, e_Model_counted_57, e_Model_counted_58, e_Model_counted_61, e_Model_counted_62, e_Model_counted_65, kR_l, kR_r, kP_0, kP_i, kP_r, kP_n, kP_s, kP_o, kLen_I, kLen_L, kLen_R, kLdI_0, kLdI_1, kLdI_2, kLdI_3, kStI_0, kStI_1, kLdL_e, kStL_e, kLdR_e, kStR_e, kFld_e, kNth_0, kNth_s, kPut_e, fit_I, fit_Z, fit_B, fit_C, fit_A, fit_O, Option.toList_some, Option.toList_none, List.cons_append, List.nil_append, true_and, and_true, List.set_cons_zero, List.set_cons_succ, st_same, Int.toNat_natCast, Int.cast_ofNat_Int, Nat.zero_add, Nat.reduceAdd, kRcv_1, kRcv_2, kRcv_3, kRcv_0, kRcv_4, kRcv_5, setMd_set, Mdo, Mda1, Mdw1, Mda2, Mdw2, Mda3, Mdw3, Mda4, Mdw4, Mda5, Mdw5, Mda6, Mdw6, Mda7, Mdw7, Mda8, Mdw8, Mda9, Mdw9, Mda10, Mdw10, Mda11, Mdw11, Mdp3, Mdp5, Mdp6, Mdp7, Mdp8, Mdp10, Mdp16, Mdp17, Mdp18, D 0 (Or.inl rfl)]
    clear P D hQ
    simp only [reduceIte]
    all_goals ((repeat' (first | with_reducible refine And.intro ?_ ?_ | intro _)) <;> first | with_reducible assumption | exact True.intro | with_reducible exact q0 | omega | (simp only [inR] at *; omega) | exact q0 | with_reducible rfl | rfl | (simp; done) | (exfalso; simp_all; done) | skip)
  · simp only [c_Model_counted, e_Model_counted_0, e_Model_counted_1, e_Model_counted_2, e_Model_counted_35, e_Model_counted_36, e_Model_counted_37, e_Model_counted_40, e_Model_counted_41, e_Model_counted_43, e_Model_counted_46, e_Model_counted_47, e_Model_counted_48, e_Model_counted_51, e_Model_counted_52, e_Model_counted_54, e_Model_counted_57, e_Model_counted_58, e_Model_counted_61, e_Model_counted_62, e_Model_counted_65, kR_l, kR_r, kP_0, kP_i, kP_r, kP_n, kP_s, kP_o, kLen_I, kLen_L, kLen_R, kLdI_0, kLdI_1, kLdI_2, kLdI_3, kStI_0, kStI_1, kLdL_e, kStL_e, kLdR_e, kStR_e, kFld_e, kNth_0, kNth_s, kPut_e, fit_I, fit_Z, fit_B, fit_C, fit_A, fit_O, Option.toList_some, Option.toList_none, List.cons_append, List.nil_append, true_and, and_true, List.set_cons_zero, List.set_cons_succ, st_same, Int.toNat_natCast, Int.cast_ofNat_Int, Nat.zero_add, Nat.reduceAdd, kRcv_1, kRcv_2, kRcv_3, kRcv_0, kRcv_4, kRcv_5, setMd_set, Mdo, Mda1, Mdw1, Mda2, Mdw2, Mda3, Mdw3, Mda4, Mdw4, Mda5, Mdw5, Mda6, Mdw6, Mda7, Mdw7, Mda8, Mdw8, Mda9, Mdw9, Mda10, Mdw10, Mda11, Mdw11, Mdp3, Mdp5, Mdp6, Mdp7, Mdp8, Mdp10, Mdp16, Mdp17, Mdp18, D 1 (Or.inr rfl)]
    clear P D hQ
    all_goals ((repeat' (first | with_reducible refine And.intro ?_ ?_ | intro _)) <;> first | with_reducible assumption | exact True.intro | with_reducible exact q0 | omega | (simp only [inR] at *; omega) | exact q0 | with_reducible rfl | rfl | (simp; done) | (exfalso; simp_all; done) | skip)
  · simp only [c_Model_counted, e_Model_counted_0, e_Model_counted_1, e_Model_counted_2, e_Model_counted_35, e_Model_counted_36, e_Model_counted_37, e_Model_counted_40, e_Model_counted_41, e_Model_counted_43, e_Model_counted_46, e_Model_counted_47, e_Model_counted_48, e_Model_counted_51, e_Model_counted_52, e_Model_counted_54, e_Model_counted_57, e_Model_counted_58, e_Model_counted_61, e_Model_counted_62, e_Model_counted_65, e_Model_counted_66, e_Model_counted_67, e_Model_counted_69, e_Model_counted_72, e_Model_counted_73, e_Model_counted_76, e_Model_counted_79, e_Model_counted_80, e_Model_counted_81, e_Model_counted_84, e_Model_counted_85, e_Model_counted_87, e_Model_counted_90, e_Model_counted_91, e_Model_counted_94, e_Model_counted_95, e_Model_counted_96, e_Model_counted_97, kR_l, kR_r, kP_0, kP_i, kP_r, kP_n, kP_s, kP_o, kLen_I, kLen_L, kLen_R, kLdI_0, kLdI_1, kLdI_2, kLdI_3, kStI_0, kStI_1, kLdL_e, kStL_e, kLdR_e, kStR_e, kFld_e, kNth_0, kNth_s, kPut_e, fit_I, fit_Z, fit_B, fit_C, fit_A, fit_O, Option.toList_some, Option.toList_none, List.cons_append, List.nil_append, true_and, and_true, List.set_cons_zero, List.set_cons_succ, st_same, Int.toNat_natCast, Int.cast_ofNat_Int, Nat.zero_add, Nat.reduceAdd, kRcv_1, kRcv_2, kRcv_3, kRcv_0, kRcv_4, kRcv_5, setMd_set, Mdo, Mda1, Mdw1, Mda2, Mdw2, Mda3, Mdw3, Mda4, Mdw4, Mda5, Mdw5, Mda6, Mdw6, Mda7, Mdw7, Mda8, Mdw8, Mda9, Mdw9, Mda10, Mdw10, Mda11, Mdw11, Mdp3, Mdp5, Mdp6, Mdp7, Mdp8, Mdp10, Mdp16, Mdp17, Mdp18]
    clear D q0
    all_goals ((repeat' (first | with_reducible refine And.intro ?_ ?_ | intro _)) <;> first | with_reducible assumption | exact True.intro | with_reducible exact P 2 (by omega) hQ | omega | (simp only [inR] at *; omega) | exact P 2 (by omega) hQ | with_reducible rfl | rfl | (simp; done) | (exfalso; simp_all; done) | skip)
  · simp only [c_Model_counted, e_Model_counted_0, e_Model_counted_1, e_Model_counted_2, e_Model_counted_35, e_Model_counted_36, e_Model_counted_37, e_Model_counted_40, e_Model_counted_41, e_Model_counted_43, e_Model_counted_46, e_Model_counted_47, e_Model_counted_48, e_Model_counted_51, e_Model_counted_52, e_Model_counted_54, e_Model_counted_57, e_Model_counted_58, e_Model_counted_61, e_Model_counted_62, e_Model_counted_65, e_Model_counted_66, e_Model_counted_67, e_Model_counted_69, e_Model_counted_72, e_Model_counted_73, e_Model_counted_76, e_Model_counted_79, e_Model_counted_80, e_Model_counted_81, e_Model_counted_84, e_Model_counted_85, e_Model_counted_87, e_Model_counted_90, e_Model_counted_91, e_Model_counted_94, e_Model_counted_95, e_Model_counted_96, e_Model_counted_97, e_Model_counted_100, kR_l, kR_r, kP_0, kP_i, kP_r, kP_n, kP_s, kP_o, kLen_I, kLen_L, kLen_R, kLdI_0, kLdI_1, kLdI_2, kLdI_3, kStI_0, kStI_1, kLdL_e, kStL_e, kLdR_e, kStR_e, kFld_e, kNth_0, kNth_s, kPut_e, fit_I, fit_Z, fit_B, fit_C, fit_A, fit_O, Option.toList_some, Option.toList_none, List.cons_append, List.nil_append, true_and, and_true, List.set_cons_zero, List.set_cons_succ, st_same, Int.toNat_natCast, Int.cast_ofNat_Int, Nat.zero_add, Nat.reduceAdd, kRcv_1, kRcv_2, kRcv_3, kRcv_0, kRcv_4, kRcv_5, setMd_set, Mdo, Mda1, Mdw1, Mda2, Mdw2, Mda3, Mdw3, Mda4, Mdw4, Mda5, Mdw5, Mda6, Mdw6, Mda7, Mdw7, Mda8, Mdw8, Mda9, Mdw9, Mda10, Mdw10, Mda11, Mdw11, Mdp3, Mdp5, Mdp6, Mdp7, Mdp8, Mdp10, Mdp16, Mdp17, Mdp18, hk]
    clear P D hQ
    all_goals ((repeat' (first | with_reducible refine And.intro ?_ ?_ | intro _)) <;> first | with_reducible assumption | exact True.intro | with_reducible exact q0 | omega | (simp only [inR] at *; omega) | exact q0 | with_reducible rfl | rfl | (simp; done) | (exfalso; simp_all; done) | skip)
theorem s_count1 {w : Int} (hG : G 0 ≤ M) (hw : inR w) (h : ¬ (0 ≤ w ∧ w ≤ 8)) : CW G k_Model_count [vR M, vI w] (setMd σ M m A) Q = Q (.inl (some (vI 0))) (setMd σ M (upI m 6 1) A) := by
  refine CW.det' fun R hR => ?_
  simp (disch := first | assumption | omega | (unfold inR; omega)) only [c_Model_count, e_Model_count_0, e_Model_count_1, e_Model_count_2, e_Model_count_5, e_Model_count_6, e_Model_count_7, e_Model_count_9, e_Model_count_12, e_Model_count_15, e_Model_count_16, e_Model_count_17, e_Model_count_20, e_Model_count_23, e_Model_count_24, e_Model_count_25, e_Model_count_28, kR_l, kR_r, kP_0, kP_i, kP_r, kP_n, kP_s, kP_o, kLen_I, kLen_L, kLen_R, kLdI_0, kLdI_1, kLdI_2, kLdI_3, kStI_0, kStI_1, kLdL_e, kStL_e, kLdR_e, kStR_e, kFld_e, kNth_0, kNth_s, kPut_e, fit_I, fit_Z, fit_B, fit_C, fit_A, fit_O, Option.toList_some, Option.toList_none, List.cons_append, List.nil_append, true_and, and_true, List.set_cons_zero, List.set_cons_succ, st_same, Int.toNat_natCast, Int.cast_ofNat_Int, Nat.zero_add, Nat.reduceAdd, kRcv_1, kRcv_2, kRcv_3, kRcv_0, kRcv_4, kRcv_5, setMd_set, Mdo, Mda1, Mdw1, Mda2, Mdw2, Mda3, Mdw3, Mda4, Mdw4, Mda5, Mdw5, Mda6, Mdw6, Mda7, Mdw7, Mda8, Mdw8, Mda9, Mdw9, Mda10, Mdw10, Mda11, Mdw11, Mdp3, Mdp5, Mdp6, Mdp7, Mdp8, Mdp10, Mdp16, Mdp17, Mdp18, List.length_cons, List.length_nil, s_Model_in, inB_f h, s_Model_fails hG, upI_upI]
  all_goals ((repeat' (first | with_reducible refine And.intro ?_ ?_ | intro _)) <;> first | with_reducible assumption | exact True.intro | with_reducible exact hR | omega | (simp only [inR] at *; omega) | exact hR | with_reducible rfl | rfl | (simp; done) | (exfalso; simp_all; done) | skip)
theorem s_count0 {w far kp : Nat} (hs : SOK (A 1)) (hw : WkOK (A 1)) (hfar : A 1 252 = (far : Nat)) (hk : m 3 = (kp : Nat)) (hG : G 0 ≤ M) (hA : MdOK A) (hw9 : w < 9)
    (hQ : ∀ (m' : Nat → Int) (A' : Nat → Nat → Int), KeepW (upI m 6 0) m' A A' → Q (.inl (some (vI (cnM (A 1) far kp w)))) (setMd σ M m' A')) :
    CW G k_Model_count [vR M, vI (w : Nat)] (setMd σ M m A) Q := by
  have e : inB (w : Nat) 0 8 = 1 := inB_t (by omega)
  simp (disch := first | assumption | omega | (unfold inR; omega)) only [c_Model_count, e_Model_count_0, e_Model_count_1, e_Model_count_2, e_Model_count_5, e_Model_count_6, e_Model_count_7, e_Model_count_9, e_Model_count_12, e_Model_count_15, e_Model_count_16, e_Model_count_17, kR_l, kR_r, kP_0, kP_i, kP_r, kP_n, kP_s, kP_o, kLen_I, kLen_L, kLen_R, kLdI_0, kLdI_1, kLdI_2, kLdI_3, kStI_0, kStI_1, kLdL_e, kStL_e, kLdR_e, kStR_e, kFld_e, kNth_0, kNth_s, kPut_e, fit_I, fit_Z, fit_B, fit_C, fit_A, fit_O, Option.toList_some, Option.toList_none, List.cons_append, List.nil_append, true_and, and_true, List.set_cons_zero, List.set_cons_succ, st_same, Int.toNat_natCast, Int.cast_ofNat_Int, Nat.zero_add, Nat.reduceAdd, kRcv_1, kRcv_2, kRcv_3, kRcv_0, kRcv_4, kRcv_5, setMd_set, Mdo, Mda1, Mdw1, Mda2, Mdw2, Mda3, Mdw3, Mda4, Mdw4, Mda5, Mdw5, Mda6, Mdw6, Mda7, Mdw7, Mda8, Mdw8, Mda9, Mdw9, Mda10, Mdw10, Mda11, Mdw11, Mdp3, Mdp5, Mdp6, Mdp7, Mdp8, Mdp10, Mdp16, Mdp17, Mdp18, List.length_cons, List.length_nil, s_Model_in, e]
  all_goals ((repeat' (first | with_reducible refine And.intro ?_ ?_ | intro _)) <;> first | with_reducible assumption | exact True.intro | omega | (simp only [inR] at *; omega) | (with_reducible show WP _ _ _ _ _ _ _) | (with_reducible show CW _ _ _ _ _) | with_reducible rfl | rfl | (simp; done) | (exfalso; simp_all; done) | skip)
  refine s_counted hs hw hfar (show upI m 6 0 3 = (kp : Nat) from hk) hG hA hw9 (fun m' A' hK => ?_)
  simp only [e_Model_count_20, e_Model_count_23, e_Model_count_24, e_Model_count_25, e_Model_count_28, kR_l, kR_r, kP_0, kP_i, kP_r, kP_n, kP_s, kP_o, kLen_I, kLen_L, kLen_R, kLdI_0, kLdI_1, kLdI_2, kLdI_3, kStI_0, kStI_1, kLdL_e, kStL_e, kLdR_e, kStR_e, kFld_e, kNth_0, kNth_s, kPut_e, fit_I, fit_Z, fit_B, fit_C, fit_A, fit_O, Option.toList_some, Option.toList_none, List.cons_append, List.nil_append, true_and, and_true, List.set_cons_zero, List.set_cons_succ, st_same, Int.toNat_natCast, Int.cast_ofNat_Int, Nat.zero_add, Nat.reduceAdd, kRcv_1, kRcv_2, kRcv_3, kRcv_0, kRcv_4, kRcv_5]
  first | exact hQ m' A' hK | exact ⟨trivial, hQ m' A' hK⟩
theorem s_byDigging {x y w far : Nat} (hs : SOK (A 1)) (hw : WkOK (A 1)) (hfar : A 1 252 = (far : Nat)) (hT : Tl (A 1)) (hT2 : Tl (A 2)) (hG : G 0 ≤ M) (hA : MdOK A) (hx : x < 16) (hy : y < 12) (hw3 : w < 3)
    (hQ : ∀ (m' : Nat → Int) (A' : Nat → Nat → Int), KeepL m m' A A' → Q (.inl (some (vI (dgbM (A 1) far (16 * y + x) w)))) (setMd σ M m' A')) :
    CW G k_Model_byDigging [vR M, vI (x : Nat), vI (y : Nat), vI (w : Nat)] (setMd σ M m A) Q := by
  have e : whM (A 1) (x : Nat) (y : Nat) = A 1 (16 * y + x) := by
    unfold whM
    rw [if_pos (by omega), show (16 * (y : Int) + x).toNat = 16 * y + x by omega]
  have hb := hs (16 * y + x)
  have hp : 16 * y + x < 192 := by omega
  simp (disch := first | assumption | omega | (unfold inR; omega)) only [c_Model_byDigging, e_Model_byDigging_0, e_Model_byDigging_1, e_Model_byDigging_4, e_Model_byDigging_5, e_Model_byDigging_6, e_Model_byDigging_9, e_Model_byDigging_12, e_Model_byDigging_13, e_Model_byDigging_14, e_Model_byDigging_15, kR_l, kR_r, kP_0, kP_i, kP_r, kP_n, kP_s, kP_o, kLen_I, kLen_L, kLen_R, kLdI_0, kLdI_1, kLdI_2, kLdI_3, kStI_0, kStI_1, kLdL_e, kStL_e, kLdR_e, kStR_e, kFld_e, kNth_0, kNth_s, kPut_e, fit_I, fit_Z, fit_B, fit_C, fit_A, fit_O, Option.toList_some, Option.toList_none, List.cons_append, List.nil_append, true_and, and_true, List.set_cons_zero, List.set_cons_succ, st_same, Int.toNat_natCast, Int.cast_ofNat_Int, Nat.zero_add, Nat.reduceAdd, kRcv_1, kRcv_2, kRcv_3, kRcv_0, kRcv_4, kRcv_5, setMd_set, Mdo, Mda1, Mdw1, Mda2, Mdw2, Mda3, Mdw3, Mda4, Mdw4, Mda5, Mdw5, Mda6, Mdw6, Mda7, Mdw7, Mda8, Mdw8, Mda9, Mdw9, Mda10, Mdw10, Mda11, Mdw11, Mdp3, Mdp5, Mdp6, Mdp7, Mdp8, Mdp10, Mdp16, Mdp17, Mdp18, s_Model_what (Mda1 σ M m A), e, s_Model_tries hG, cpF_eq hT hT2]
  unfold dgbM at hQ
  by_cases h0 : 0 ≤ A 1 (16 * y + x)
  · have q0 := hQ m A (KeepL.refl hA hT2)
    rw [if_pos h0] at q0
    all_goals ((repeat' (first | with_reducible refine And.intro ?_ ?_ | intro _)) <;> first | with_reducible assumption | exact True.intro | with_reducible exact q0 | omega | (simp only [inR] at *; omega) | exact q0 | with_reducible rfl | rfl | (simp; done) | (exfalso; simp_all; done) | skip)
  · rw [if_neg h0] at hQ
    refine ⟨by unfold inR; omega, fun _ => ?_, (fun h => by first | exact absurd h (by omega) | exact absurd trivial h | (exfalso; simp_all; done))⟩
    have e5 : (16 * (y : Int) + x) = ((16 * y + x : Nat) : Int) := by omega
    simp only [e_Model_byDigging_18, e_Model_byDigging_19, e_Model_byDigging_22, e_Model_byDigging_24, e_Model_byDigging_25, e_Model_byDigging_26, e_Model_byDigging_27, e_Model_byDigging_28, kR_l, kR_r, kP_0, kP_i, kP_r, kP_n, kP_s, kP_o, kLen_I, kLen_L, kLen_R, kLdI_0, kLdI_1, kLdI_2, kLdI_3, kStI_0, kStI_1, kLdL_e, kStL_e, kLdR_e, kStR_e, kFld_e, kNth_0, kNth_s, kPut_e, fit_I, fit_Z, fit_B, fit_C, fit_A, fit_O, Option.toList_some, Option.toList_none, List.cons_append, List.nil_append, true_and, and_true, List.set_cons_zero, List.set_cons_succ, st_same, Int.toNat_natCast, Int.cast_ofNat_Int, Nat.zero_add, Nat.reduceAdd, kRcv_1, kRcv_2, kRcv_3, kRcv_0, kRcv_4, kRcv_5, setMd_set, Mdo, Mda1, Mdw1, Mda2, Mdw2, Mda3, Mdw3, Mda4, Mdw4, Mda5, Mdw5, Mda6, Mdw6, Mda7, Mdw7, Mda8, Mdw8, Mda9, Mdw9, Mda10, Mdw10, Mda11, Mdw11, Mdp3, Mdp5, Mdp6, Mdp7, Mdp8, Mdp10, Mdp16, Mdp17, Mdp18, e5]
    rw [s_Model_toggles (Mda2 σ M _ _) (show SOK (upA A 2 (A 1) 2) from hs) (by omega) hp]
    have et : upI (upA A 2 (A 1) 2) (16 * y + x) (if upA A 2 (A 1) 2 (16 * y + x) = -1 then -2 else -1) = tgS (A 1) (16 * y + x) := rfl
    rw [et]
    simp only [e_Model_byDigging_31, e_Model_byDigging_32, e_Model_byDigging_33, e_Model_byDigging_36, e_Model_byDigging_37, e_Model_byDigging_38, e_Model_byDigging_41, e_Model_byDigging_42, e_Model_byDigging_45, e_Model_byDigging_48, e_Model_byDigging_49, e_Model_byDigging_50, e_Model_byDigging_53, e_Model_byDigging_54, e_Model_byDigging_57, e_Model_byDigging_58, e_Model_byDigging_61, e_Model_byDigging_62, kR_l, kR_r, kP_0, kP_i, kP_r, kP_n, kP_s, kP_o, kLen_I, kLen_L, kLen_R, kLdI_0, kLdI_1, kLdI_2, kLdI_3, kStI_0, kStI_1, kLdL_e, kStL_e, kLdR_e, kStR_e, kFld_e, kNth_0, kNth_s, kPut_e, fit_I, fit_Z, fit_B, fit_C, fit_A, fit_O, Option.toList_some, Option.toList_none, List.cons_append, List.nil_append, true_and, and_true, List.set_cons_zero, List.set_cons_succ, st_same, Int.toNat_natCast, Int.cast_ofNat_Int, Nat.zero_add, Nat.reduceAdd, kRcv_1, kRcv_2, kRcv_3, kRcv_0, kRcv_4, kRcv_5, setMd_set, Mdo, Mda1, Mdw1, Mda2, Mdw2, Mda3, Mdw3, Mda4, Mdw4, Mda5, Mdw5, Mda6, Mdw6, Mda7, Mdw7, Mda8, Mdw8, Mda9, Mdw9, Mda10, Mdw10, Mda11, Mdw11, Mdp3, Mdp5, Mdp6, Mdp7, Mdp8, Mdp10, Mdp16, Mdp17, Mdp18, upA_upA]
    generalize 16 * y + x = p at *
    have hB : MdOK (upA A 2 (tgS (A 1) p)) := ⟨hA.1, hA.2.1, hA.2.2.1, hA.2.2.2⟩
    have hTB : Tl (upA A 2 (tgS (A 1) p) 2) := tgS_Tl hT hp
    have hKB : KeepL m m A (upA A 2 (tgS (A 1) p)) := ⟨fun _ _ _ _ => rfl, fun k k2 _ _ _ => by rw [upA_at, if_neg k2], hB, hTB⟩
    have P : ∀ v, (v = 0 ∨ v = 1 ∨ v = 2) → (∀ (m' : Nat → Int) (A' : Nat → Nat → Int), KeepL m m' A A' → Q (.inl (some (vI (prM (tgS (A 1) p) v)))) (setMd σ M m' A')) → CW G k_Model_pairs [vR M, vR (M + 2), vI v] (setMd σ M m (upA A 2 (tgS (A 1) p))) (kR (fun v σ' => WP G k_Model_byDigging 65 [some (vR M), some (vI (x : Nat)), some (vI (y : Nat)), some (vI (w : Nat))] (v.toList ++ []) σ' Q) (fun e σ' => Q (.inr e) σ')) := by
      intro v hv hq
      refine s_pairs (SAt2 σ M _) (tgS_OK hs p) (tgS_wk hw hp) hG hB hv (fun m' A' hK => ?_)
      simp only [e_Model_byDigging_65, kR_l, kR_r, kP_0, kP_i, kP_r, kP_n, kP_s, kP_o, kLen_I, kLen_L, kLen_R, kLdI_0, kLdI_1, kLdI_2, kLdI_3, kStI_0, kStI_1, kLdL_e, kStL_e, kLdR_e, kStR_e, kFld_e, kNth_0, kNth_s, kPut_e, fit_I, fit_Z, fit_B, fit_C, fit_A, fit_O, Option.toList_some, Option.toList_none, List.cons_append, List.nil_append, true_and, and_true, List.set_cons_zero, List.set_cons_succ, st_same, Int.toNat_natCast, Int.cast_ofNat_Int, Nat.zero_add, Nat.reduceAdd, kRcv_1, kRcv_2, kRcv_3, kRcv_0, kRcv_4, kRcv_5]
      first | exact hq m' A' (hKB.trans (hK.L hTB)) | exact ⟨trivial, hq m' A' (hKB.trans (hK.L hTB))⟩
    rcases (show w = 0 ∨ w = 1 ∨ w = 2 by omega) with rfl | rfl | rfl
    all_goals simp only [Nat.reduceEqDiff, reduceIte] at hQ
    · all_goals ((repeat' (first | with_reducible refine And.intro ?_ ?_ | intro _)) <;> first | with_reducible assumption | exact True.intro | with_reducible exact P 1 (by omega) hQ | omega | (simp only [inR] at *; omega) | exact P 1 (by omega) hQ | with_reducible rfl | rfl | (simp; done) | (exfalso; simp_all; done) | skip)
    · have q0 := hQ m _ hKB
      rw [s_Model_allDoors (fc := 1) (Mda2 σ M m _) (show SOK (upA A 2 (tgS (A 1) p) 2) from tgS_OK hs p) (show (upA A 2 (tgS (A 1) p) 2) 252 = (far : Nat) by rw [← hfar]; exact tgS_hi (A 1) hp (by omega)) hA.1 hA.2.1 (Or.inr rfl)]
      simp only [e_Model_byDigging_45, e_Model_byDigging_48, e_Model_byDigging_49, e_Model_byDigging_50, e_Model_byDigging_53, e_Model_byDigging_54, e_Model_byDigging_57, e_Model_byDigging_58, e_Model_byDigging_61, e_Model_byDigging_62, e_Model_byDigging_65, kR_l, kR_r, kP_0, kP_i, kP_r, kP_n, kP_s, kP_o, kLen_I, kLen_L, kLen_R, kLdI_0, kLdI_1, kLdI_2, kLdI_3, kStI_0, kStI_1, kLdL_e, kStL_e, kLdR_e, kStR_e, kFld_e, kNth_0, kNth_s, kPut_e, fit_I, fit_Z, fit_B, fit_C, fit_A, fit_O, Option.toList_some, Option.toList_none, List.cons_append, List.nil_append, true_and, and_true, List.set_cons_zero, List.set_cons_succ, st_same, Int.toNat_natCast, Int.cast_ofNat_Int, Nat.zero_add, Nat.reduceAdd, kRcv_1, kRcv_2, kRcv_3, kRcv_0, kRcv_4, kRcv_5]
      all_goals ((repeat' (first | with_reducible refine And.intro ?_ ?_ | intro _)) <;> first | with_reducible assumption | exact True.intro | with_reducible exact q0 | omega | (simp only [inR] at *; omega) | exact q0 | with_reducible rfl | rfl | (simp; done) | (exfalso; simp_all; done) | skip)
    · all_goals ((repeat' (first | with_reducible refine And.intro ?_ ?_ | intro _)) <;> first | with_reducible assumption | exact True.intro | with_reducible exact P 2 (by omega) hQ | omega | (simp only [inR] at *; omega) | exact P 2 (by omega) hQ | with_reducible rfl | rfl | (simp; done) | (exfalso; simp_all; done) | skip)
theorem s_ifDug1 {x y w : Int} (hG : G 0 ≤ M) (h1 : inR x) (h2 : inR y) (h3 : inR w) (h : ¬ ((0 ≤ x ∧ x ≤ 15 ∧ 0 ≤ y ∧ y ≤ 11) ∧ 0 ≤ w ∧ w ≤ 2)) : CW G k_Model_ifDug [vR M, vI x, vI y, vI w] (setMd σ M m A) Q = Q (.inl (some (vI 0))) (setMd σ M (upI m 6 1) A) := by
  refine CW.det' fun R hR => ?_
  simp only [c_Model_ifDug, e_Model_ifDug_0, e_Model_ifDug_1, e_Model_ifDug_2, e_Model_ifDug_5, e_Model_ifDug_6, e_Model_ifDug_7, kR_l, kR_r, kP_0, kP_i, kP_r, kP_n, kP_s, kP_o, kLen_I, kLen_L, kLen_R, kLdI_0, kLdI_1, kLdI_2, kLdI_3, kStI_0, kStI_1, kLdL_e, kStL_e, kLdR_e, kStR_e, kFld_e, kNth_0, kNth_s, kPut_e, fit_I, fit_Z, fit_B, fit_C, fit_A, fit_O, Option.toList_some, Option.toList_none, List.cons_append, List.nil_append, true_and, and_true, List.set_cons_zero, List.set_cons_succ, st_same, Int.toNat_natCast, Int.cast_ofNat_Int, Nat.zero_add, Nat.reduceAdd, kRcv_1, kRcv_2, kRcv_3, kRcv_0, kRcv_4, kRcv_5, setMd_set, Mdo, Mda1, Mdw1, Mda2, Mdw2, Mda3, Mdw3, Mda4, Mdw4, Mda5, Mdw5, Mda6, Mdw6, Mda7, Mdw7, Mda8, Mdw8, Mda9, Mdw9, Mda10, Mdw10, Mda11, Mdw11, Mdp3, Mdp5, Mdp6, Mdp7, Mdp8, Mdp10, Mdp16, Mdp17, Mdp18, List.length_cons, List.length_nil]
  rw [s_Model_isSquare h1 h2]
  by_cases hs : 0 ≤ x ∧ x ≤ 15 ∧ 0 ≤ y ∧ y ≤ 11
  · rw [if_pos hs]
    have hw : ¬ (0 ≤ w ∧ w ≤ 2) := fun z => h ⟨hs, z⟩
    simp (disch := first | assumption | omega | (unfold inR; omega)) only [e_Model_ifDug_10, e_Model_ifDug_13, e_Model_ifDug_14, e_Model_ifDug_15, e_Model_ifDug_16, e_Model_ifDug_19, e_Model_ifDug_22, e_Model_ifDug_23, e_Model_ifDug_24, e_Model_ifDug_25, e_Model_ifDug_26, e_Model_ifDug_29, e_Model_ifDug_32, e_Model_ifDug_33, e_Model_ifDug_34, e_Model_ifDug_37, kR_l, kR_r, kP_0, kP_i, kP_r, kP_n, kP_s, kP_o, kLen_I, kLen_L, kLen_R, kLdI_0, kLdI_1, kLdI_2, kLdI_3, kStI_0, kStI_1, kLdL_e, kStL_e, kLdR_e, kStR_e, kFld_e, kNth_0, kNth_s, kPut_e, fit_I, fit_Z, fit_B, fit_C, fit_A, fit_O, Option.toList_some, Option.toList_none, List.cons_append, List.nil_append, true_and, and_true, List.set_cons_zero, List.set_cons_succ, st_same, Int.toNat_natCast, Int.cast_ofNat_Int, Nat.zero_add, Nat.reduceAdd, kRcv_1, kRcv_2, kRcv_3, kRcv_0, kRcv_4, kRcv_5, setMd_set, Mdo, Mda1, Mdw1, Mda2, Mdw2, Mda3, Mdw3, Mda4, Mdw4, Mda5, Mdw5, Mda6, Mdw6, Mda7, Mdw7, Mda8, Mdw8, Mda9, Mdw9, Mda10, Mdw10, Mda11, Mdw11, Mdp3, Mdp5, Mdp6, Mdp7, Mdp8, Mdp10, Mdp16, Mdp17, Mdp18, s_Model_in, inB_f hw, s_Model_fails hG, upI_upI]
    all_goals ((repeat' (first | with_reducible refine And.intro ?_ ?_ | intro _)) <;> first | with_reducible assumption | exact True.intro | with_reducible exact hR | omega | (simp only [inR] at *; omega) | exact hR | with_reducible rfl | rfl | (simp; done) | (exfalso; simp_all; done) | skip)
  · rw [if_neg hs]
    simp only [e_Model_ifDug_10, e_Model_ifDug_32, e_Model_ifDug_33, e_Model_ifDug_34, e_Model_ifDug_37, kR_l, kR_r, kP_0, kP_i, kP_r, kP_n, kP_s, kP_o, kLen_I, kLen_L, kLen_R, kLdI_0, kLdI_1, kLdI_2, kLdI_3, kStI_0, kStI_1, kLdL_e, kStL_e, kLdR_e, kStR_e, kFld_e, kNth_0, kNth_s, kPut_e, fit_I, fit_Z, fit_B, fit_C, fit_A, fit_O, Option.toList_some, Option.toList_none, List.cons_append, List.nil_append, true_and, and_true, List.set_cons_zero, List.set_cons_succ, st_same, Int.toNat_natCast, Int.cast_ofNat_Int, Nat.zero_add, Nat.reduceAdd, kRcv_1, kRcv_2, kRcv_3, kRcv_0, kRcv_4, kRcv_5, setMd_set, Mdo, Mda1, Mdw1, Mda2, Mdw2, Mda3, Mdw3, Mda4, Mdw4, Mda5, Mdw5, Mda6, Mdw6, Mda7, Mdw7, Mda8, Mdw8, Mda9, Mdw9, Mda10, Mdw10, Mda11, Mdw11, Mdp3, Mdp5, Mdp6, Mdp7, Mdp8, Mdp10, Mdp16, Mdp17, Mdp18, s_Model_fails hG, upI_upI]
    all_goals ((repeat' (first | with_reducible refine And.intro ?_ ?_ | intro _)) <;> first | with_reducible assumption | exact True.intro | with_reducible exact hR | omega | (simp only [inR] at *; omega) | exact hR | with_reducible rfl | rfl | (simp; done) | (exfalso; simp_all; done) | skip)
theorem s_ifDug0 {x y w far : Nat} (hs : SOK (A 1)) (hw : WkOK (A 1)) (hfar : A 1 252 = (far : Nat)) (hT : Tl (A 1)) (hT2 : Tl (A 2)) (hG : G 0 ≤ M) (hA : MdOK A) (hx : x < 16) (hy : y < 12) (hw3 : w < 3)
    (hQ : ∀ (m' : Nat → Int) (A' : Nat → Nat → Int), KeepL (upI m 6 0) m' A A' → Q (.inl (some (vI (dgbM (A 1) far (16 * y + x) w)))) (setMd σ M m' A')) :
    CW G k_Model_ifDug [vR M, vI (x : Nat), vI (y : Nat), vI (w : Nat)] (setMd σ M m A) Q := by
  have e : inB (w : Nat) 0 2 = 1 := inB_t (by omega)
  simp only [c_Model_ifDug, e_Model_ifDug_0, e_Model_ifDug_1, e_Model_ifDug_2, e_Model_ifDug_5, e_Model_ifDug_6, e_Model_ifDug_7, kR_l, kR_r, kP_0, kP_i, kP_r, kP_n, kP_s, kP_o, kLen_I, kLen_L, kLen_R, kLdI_0, kLdI_1, kLdI_2, kLdI_3, kStI_0, kStI_1, kLdL_e, kStL_e, kLdR_e, kStR_e, kFld_e, kNth_0, kNth_s, kPut_e, fit_I, fit_Z, fit_B, fit_C, fit_A, fit_O, Option.toList_some, Option.toList_none, List.cons_append, List.nil_append, true_and, and_true, List.set_cons_zero, List.set_cons_succ, st_same, Int.toNat_natCast, Int.cast_ofNat_Int, Nat.zero_add, Nat.reduceAdd, kRcv_1, kRcv_2, kRcv_3, kRcv_0, kRcv_4, kRcv_5, setMd_set, Mdo, Mda1, Mdw1, Mda2, Mdw2, Mda3, Mdw3, Mda4, Mdw4, Mda5, Mdw5, Mda6, Mdw6, Mda7, Mdw7, Mda8, Mdw8, Mda9, Mdw9, Mda10, Mdw10, Mda11, Mdw11, Mdp3, Mdp5, Mdp6, Mdp7, Mdp8, Mdp10, Mdp16, Mdp17, Mdp18, List.length_cons, List.length_nil]
  rw [s_Model_isSquare (by unfold inR; omega) (by unfold inR; omega), if_pos (by omega)]
  simp (disch := first | assumption | omega | (unfold inR; omega)) only [e_Model_ifDug_10, e_Model_ifDug_13, e_Model_ifDug_14, e_Model_ifDug_15, e_Model_ifDug_16, e_Model_ifDug_19, e_Model_ifDug_22, e_Model_ifDug_23, e_Model_ifDug_24, e_Model_ifDug_25, e_Model_ifDug_26, kR_l, kR_r, kP_0, kP_i, kP_r, kP_n, kP_s, kP_o, kLen_I, kLen_L, kLen_R, kLdI_0, kLdI_1, kLdI_2, kLdI_3, kStI_0, kStI_1, kLdL_e, kStL_e, kLdR_e, kStR_e, kFld_e, kNth_0, kNth_s, kPut_e, fit_I, fit_Z, fit_B, fit_C, fit_A, fit_O, Option.toList_some, Option.toList_none, List.cons_append, List.nil_append, true_and, and_true, List.set_cons_zero, List.set_cons_succ, st_same, Int.toNat_natCast, Int.cast_ofNat_Int, Nat.zero_add, Nat.reduceAdd, kRcv_1, kRcv_2, kRcv_3, kRcv_0, kRcv_4, kRcv_5, setMd_set, Mdo, Mda1, Mdw1, Mda2, Mdw2, Mda3, Mdw3, Mda4, Mdw4, Mda5, Mdw5, Mda6, Mdw6, Mda7, Mdw7, Mda8, Mdw8, Mda9, Mdw9, Mda10, Mdw10, Mda11, Mdw11, Mdp3, Mdp5, Mdp6, Mdp7, Mdp8, Mdp10, Mdp16, Mdp17, Mdp18, s_Model_in, e]
  all_goals ((repeat' (first | with_reducible refine And.intro ?_ ?_ | intro _)) <;> first | with_reducible assumption | exact True.intro | omega | (simp only [inR] at *; omega) | (with_reducible show WP _ _ _ _ _ _ _) | (with_reducible show CW _ _ _ _ _) | with_reducible rfl | rfl | (simp; done) | (exfalso; simp_all; done) | skip)
  refine s_byDigging hs hw hfar hT hT2 hG hA hx hy hw3 (fun m' A' hK => ?_)
  simp only [e_Model_ifDug_29, e_Model_ifDug_32, e_Model_ifDug_33, e_Model_ifDug_34, e_Model_ifDug_37, kR_l, kR_r, kP_0, kP_i, kP_r, kP_n, kP_s, kP_o, kLen_I, kLen_L, kLen_R, kLdI_0, kLdI_1, kLdI_2, kLdI_3, kStI_0, kStI_1, kLdL_e, kStL_e, kLdR_e, kStR_e, kFld_e, kNth_0, kNth_s, kPut_e, fit_I, fit_Z, fit_B, fit_C, fit_A, fit_O, Option.toList_some, Option.toList_none, List.cons_append, List.nil_append, true_and, and_true, List.set_cons_zero, List.set_cons_succ, st_same, Int.toNat_natCast, Int.cast_ofNat_Int, Nat.zero_add, Nat.reduceAdd, kRcv_1, kRcv_2, kRcv_3, kRcv_0, kRcv_4, kRcv_5]
  first | exact hQ m' A' hK | exact ⟨trivial, hQ m' A' hK⟩
theorem s_without {r : Nat} (hs : SOK (A 1)) (hw : WkOK (A 1)) (hT : Tl (A 1)) (hT2 : Tl (A 2)) (hG : G 0 ≤ M) (hA : MdOK A) (hr : r < 6)
    (hQ : ∀ (m' : Nat → Int) (A' : Nat → Nat → Int), KeepL m m' A A' → Q (.inl (some (vI (prM (gvS (A 1) r) 2)))) (setMd σ M m' A')) :
    CW G k_Model_without [vR M, vI (r : Nat)] (setMd σ M m A) Q := by
  simp only [c_Model_without, e_Model_without_0, e_Model_without_1, e_Model_without_4, e_Model_without_5, e_Model_without_8, e_Model_without_9, kR_l, kR_r, kP_0, kP_i, kP_r, kP_n, kP_s, kP_o, kLen_I, kLen_L, kLen_R, kLdI_0, kLdI_1, kLdI_2, kLdI_3, kStI_0, kStI_1, kLdL_e, kStL_e, kLdR_e, kStR_e, kFld_e, kNth_0, kNth_s, kPut_e, fit_I, fit_Z, fit_B, fit_C, fit_A, fit_O, Option.toList_some, Option.toList_none, List.cons_append, List.nil_append, true_and, and_true, List.set_cons_zero, List.set_cons_succ, st_same, Int.toNat_natCast, Int.cast_ofNat_Int, Nat.zero_add, Nat.reduceAdd, kRcv_1, kRcv_2, kRcv_3, kRcv_0, kRcv_4, kRcv_5, setMd_set, Mdo, Mda1, Mdw1, Mda2, Mdw2, Mda3, Mdw3, Mda4, Mdw4, Mda5, Mdw5, Mda6, Mdw6, Mda7, Mdw7, Mda8, Mdw8, Mda9, Mdw9, Mda10, Mdw10, Mda11, Mdw11, Mdp3, Mdp5, Mdp6, Mdp7, Mdp8, Mdp10, Mdp16, Mdp17, Mdp18, s_Model_tries hG, cpF_eq hT hT2]
  rw [s_gives (j := 2) (fun A' => Mda2 σ M _ A') (fun A' f => Mdw2 σ M _ A' f) (by omega) (show SOK (upA A 2 (A 1) 2) from hs) hr]
  simp only [e_Model_without_12, e_Model_without_13, e_Model_without_14, e_Model_without_15, e_Model_without_18, e_Model_without_19, kR_l, kR_r, kP_0, kP_i, kP_r, kP_n, kP_s, kP_o, kLen_I, kLen_L, kLen_R, kLdI_0, kLdI_1, kLdI_2, kLdI_3, kStI_0, kStI_1, kLdL_e, kStL_e, kLdR_e, kStR_e, kFld_e, kNth_0, kNth_s, kPut_e, fit_I, fit_Z, fit_B, fit_C, fit_A, fit_O, Option.toList_some, Option.toList_none, List.cons_append, List.nil_append, true_and, and_true, List.set_cons_zero, List.set_cons_succ, st_same, Int.toNat_natCast, Int.cast_ofNat_Int, Nat.zero_add, Nat.reduceAdd, kRcv_1, kRcv_2, kRcv_3, kRcv_0, kRcv_4, kRcv_5, setMd_set, Mdo, Mda1, Mdw1, Mda2, Mdw2, Mda3, Mdw3, Mda4, Mdw4, Mda5, Mdw5, Mda6, Mdw6, Mda7, Mdw7, Mda8, Mdw8, Mda9, Mdw9, Mda10, Mdw10, Mda11, Mdw11, Mdp3, Mdp5, Mdp6, Mdp7, Mdp8, Mdp10, Mdp16, Mdp17, Mdp18, upA_upA]
  have et : gvS (upA A 2 (A 1) 2) r = gvS (A 1) r := rfl
  rw [et]
  have hB : MdOK (upA A 2 (gvS (A 1) r)) := ⟨hA.1, hA.2.1, hA.2.2.1, hA.2.2.2⟩
  have hTB : Tl (upA A 2 (gvS (A 1) r) 2) := gvS_Tl hT hr
  have hKB : KeepL m m A (upA A 2 (gvS (A 1) r)) := ⟨fun _ _ _ _ => rfl, fun k k2 _ _ _ => by rw [upA_at, if_neg k2], hB, hTB⟩
  refine s_pairs (SAt2 σ M _) (gvS_OK hs r) (gvS_wk hw hr) hG hB (by omega) (fun m' A' hK => ?_)
  simp only [e_Model_without_22, kR_l, kR_r, kP_0, kP_i, kP_r, kP_n, kP_s, kP_o, kLen_I, kLen_L, kLen_R, kLdI_0, kLdI_1, kLdI_2, kLdI_3, kStI_0, kStI_1, kLdL_e, kStL_e, kLdR_e, kStR_e, kFld_e, kNth_0, kNth_s, kPut_e, fit_I, fit_Z, fit_B, fit_C, fit_A, fit_O, Option.toList_some, Option.toList_none, List.cons_append, List.nil_append, true_and, and_true, List.set_cons_zero, List.set_cons_succ, st_same, Int.toNat_natCast, Int.cast_ofNat_Int, Nat.zero_add, Nat.reduceAdd, kRcv_1, kRcv_2, kRcv_3, kRcv_0, kRcv_4, kRcv_5]
  first | exact hQ m' A' (hKB.trans (hK.L hTB)) | exact ⟨trivial, hQ m' A' (hKB.trans (hK.L hTB))⟩
theorem s_ifGiven1 {r : Int} (hG : G 0 ≤ M) (hs : SOK (A 1)) (hr : inR r) (h : thM (A 1) r = 0) : CW G k_Model_ifGiven [vR M, vI r] (setMd σ M m A) Q = Q (.inl (some (vI 0))) (setMd σ M (upI m 6 1) A) := by
  refine CW.det' fun R hR => ?_
  simp only [c_Model_ifGiven, e_Model_ifGiven_0, e_Model_ifGiven_1, e_Model_ifGiven_2, e_Model_ifGiven_5, e_Model_ifGiven_6, e_Model_ifGiven_9, e_Model_ifGiven_10, kR_l, kR_r, kP_0, kP_i, kP_r, kP_n, kP_s, kP_o, kLen_I, kLen_L, kLen_R, kLdI_0, kLdI_1, kLdI_2, kLdI_3, kStI_0, kStI_1, kLdL_e, kStL_e, kLdR_e, kStR_e, kFld_e, kNth_0, kNth_s, kPut_e, fit_I, fit_Z, fit_B, fit_C, fit_A, fit_O, Option.toList_some, Option.toList_none, List.cons_append, List.nil_append, true_and, and_true, List.set_cons_zero, List.set_cons_succ, st_same, Int.toNat_natCast, Int.cast_ofNat_Int, Nat.zero_add, Nat.reduceAdd, kRcv_1, kRcv_2, kRcv_3, kRcv_0, kRcv_4, kRcv_5, setMd_set, Mdo, Mda1, Mdw1, Mda2, Mdw2, Mda3, Mdw3, Mda4, Mdw4, Mda5, Mdw5, Mda6, Mdw6, Mda7, Mdw7, Mda8, Mdw8, Mda9, Mdw9, Mda10, Mdw10, Mda11, Mdw11, Mdp3, Mdp5, Mdp6, Mdp7, Mdp8, Mdp10, Mdp16, Mdp17, Mdp18, List.length_cons, List.length_nil]
  rw [s_Model_isThere (Mda1 σ M _ A) hs hr, h]
  simp only [e_Model_ifGiven_13, e_Model_ifGiven_24, e_Model_ifGiven_25, e_Model_ifGiven_26, e_Model_ifGiven_29, kR_l, kR_r, kP_0, kP_i, kP_r, kP_n, kP_s, kP_o, kLen_I, kLen_L, kLen_R, kLdI_0, kLdI_1, kLdI_2, kLdI_3, kStI_0, kStI_1, kLdL_e, kStL_e, kLdR_e, kStR_e, kFld_e, kNth_0, kNth_s, kPut_e, fit_I, fit_Z, fit_B, fit_C, fit_A, fit_O, Option.toList_some, Option.toList_none, List.cons_append, List.nil_append, true_and, and_true, List.set_cons_zero, List.set_cons_succ, st_same, Int.toNat_natCast, Int.cast_ofNat_Int, Nat.zero_add, Nat.reduceAdd, kRcv_1, kRcv_2, kRcv_3, kRcv_0, kRcv_4, kRcv_5, setMd_set, Mdo, Mda1, Mdw1, Mda2, Mdw2, Mda3, Mdw3, Mda4, Mdw4, Mda5, Mdw5, Mda6, Mdw6, Mda7, Mdw7, Mda8, Mdw8, Mda9, Mdw9, Mda10, Mdw10, Mda11, Mdw11, Mdp3, Mdp5, Mdp6, Mdp7, Mdp8, Mdp10, Mdp16, Mdp17, Mdp18, s_Model_fails hG, upI_upI]
  all_goals ((repeat' (first | with_reducible refine And.intro ?_ ?_ | intro _)) <;> first | with_reducible assumption | exact True.intro | with_reducible exact hR | omega | (simp only [inR] at *; omega) | exact hR | with_reducible rfl | rfl | (simp; done) | (exfalso; simp_all; done) | skip)
theorem s_ifGiven0 {r : Nat} (hs : SOK (A 1)) (hw : WkOK (A 1)) (hT : Tl (A 1)) (hT2 : Tl (A 2)) (hG : G 0 ≤ M) (hA : MdOK A) (hr : r < 6) (h : thM (A 1) (r : Nat) = 1)
    (hQ : ∀ (m' : Nat → Int) (A' : Nat → Nat → Int), KeepL (upI m 6 0) m' A A' → Q (.inl (some (vI (prM (gvS (A 1) r) 2)))) (setMd σ M m' A')) :
    CW G k_Model_ifGiven [vR M, vI (r : Nat)] (setMd σ M m A) Q := by
  simp only [c_Model_ifGiven, e_Model_ifGiven_0, e_Model_ifGiven_1, e_Model_ifGiven_2, e_Model_ifGiven_5, e_Model_ifGiven_6, e_Model_ifGiven_9, e_Model_ifGiven_10, kR_l, kR_r, kP_0, kP_i, kP_r, kP_n, kP_s, kP_o, kLen_I, kLen_L, kLen_R, kLdI_0, kLdI_1, kLdI_2, kLdI_3, kStI_0, kStI_1, kLdL_e, kStL_e, kLdR_e, kStR_e, kFld_e, kNth_0, kNth_s, kPut_e, fit_I, fit_Z, fit_B, fit_C, fit_A, fit_O, Option.toList_some, Option.toList_none, List.cons_append, List.nil_append, true_and, and_true, List.set_cons_zero, List.set_cons_succ, st_same, Int.toNat_natCast, Int.cast_ofNat_Int, Nat.zero_add, Nat.reduceAdd, kRcv_1, kRcv_2, kRcv_3, kRcv_0, kRcv_4, kRcv_5, setMd_set, Mdo, Mda1, Mdw1, Mda2, Mdw2, Mda3, Mdw3, Mda4, Mdw4, Mda5, Mdw5, Mda6, Mdw6, Mda7, Mdw7, Mda8, Mdw8, Mda9, Mdw9, Mda10, Mdw10, Mda11, Mdw11, Mdp3, Mdp5, Mdp6, Mdp7, Mdp8, Mdp10, Mdp16, Mdp17, Mdp18, List.length_cons, List.length_nil]
  rw [s_Model_isThere (Mda1 σ M _ A) hs (by unfold inR; omega), h]
  simp only [e_Model_ifGiven_13, e_Model_ifGiven_16, e_Model_ifGiven_17, e_Model_ifGiven_18, kR_l, kR_r, kP_0, kP_i, kP_r, kP_n, kP_s, kP_o, kLen_I, kLen_L, kLen_R, kLdI_0, kLdI_1, kLdI_2, kLdI_3, kStI_0, kStI_1, kLdL_e, kStL_e, kLdR_e, kStR_e, kFld_e, kNth_0, kNth_s, kPut_e, fit_I, fit_Z, fit_B, fit_C, fit_A, fit_O, Option.toList_some, Option.toList_none, List.cons_append, List.nil_append, true_and, and_true, List.set_cons_zero, List.set_cons_succ, st_same, Int.toNat_natCast, Int.cast_ofNat_Int, Nat.zero_add, Nat.reduceAdd, kRcv_1, kRcv_2, kRcv_3, kRcv_0, kRcv_4, kRcv_5, setMd_set, Mdo, Mda1, Mdw1, Mda2, Mdw2, Mda3, Mdw3, Mda4, Mdw4, Mda5, Mdw5, Mda6, Mdw6, Mda7, Mdw7, Mda8, Mdw8, Mda9, Mdw9, Mda10, Mdw10, Mda11, Mdw11, Mdp3, Mdp5, Mdp6, Mdp7, Mdp8, Mdp10, Mdp16, Mdp17, Mdp18]
  all_goals ((repeat' (first | with_reducible refine And.intro ?_ ?_ | intro _)) <;> first | with_reducible assumption | exact True.intro | omega | (simp only [inR] at *; omega) | (with_reducible show WP _ _ _ _ _ _ _) | (with_reducible show CW _ _ _ _ _) | with_reducible rfl | rfl | (simp; done) | (exfalso; simp_all; done) | skip)
  refine s_without hs hw hT hT2 hG hA hr (fun m' A' hK => ?_)
  simp only [e_Model_ifGiven_21, e_Model_ifGiven_24, e_Model_ifGiven_25, e_Model_ifGiven_26, e_Model_ifGiven_29, kR_l, kR_r, kP_0, kP_i, kP_r, kP_n, kP_s, kP_o, kLen_I, kLen_L, kLen_R, kLdI_0, kLdI_1, kLdI_2, kLdI_3, kStI_0, kStI_1, kLdL_e, kStL_e, kLdR_e, kStR_e, kFld_e, kNth_0, kNth_s, kPut_e, fit_I, fit_Z, fit_B, fit_C, fit_A, fit_O, Option.toList_some, Option.toList_none, List.cons_append, List.nil_append, true_and, and_true, List.set_cons_zero, List.set_cons_succ, st_same, Int.toNat_natCast, Int.cast_ofNat_Int, Nat.zero_add, Nat.reduceAdd, kRcv_1, kRcv_2, kRcv_3, kRcv_0, kRcv_4, kRcv_5]
  first | exact hQ m' A' hK | exact ⟨trivial, hQ m' A' hK⟩
theorem s_share (hs : SOK (A 1)) (hw : WkOK (A 1)) (hG : G 0 ≤ M) (hA : MdOK A)
    (hQ : ∀ (m' : Nat → Int) (A' : Nat → Nat → Int), KeepW m m' A A' → Q (.inl (some (vD (shM (A 1))))) (setMd σ M m' A')) :
    CW G k_Model_share [vR M] (setMd σ M m A) Q := by
  have b0 := prM_bd hw 0 (Or.inl rfl)
  have b1 := prM_bd hw 1 (Or.inr rfl)
  have bl := prM_le hw
  simp only [c_Model_share, e_Model_share_0, e_Model_share_1, e_Model_share_2, e_Model_share_5, e_Model_share_6, kR_l, kR_r, kP_0, kP_i, kP_r, kP_n, kP_s, kP_o, kLen_I, kLen_L, kLen_R, kLdI_0, kLdI_1, kLdI_2, kLdI_3, kStI_0, kStI_1, kLdL_e, kStL_e, kLdR_e, kStR_e, kFld_e, kNth_0, kNth_s, kPut_e, fit_I, fit_Z, fit_B, fit_C, fit_A, fit_O, Option.toList_some, Option.toList_none, List.cons_append, List.nil_append, true_and, and_true, List.set_cons_zero, List.set_cons_succ, st_same, Int.toNat_natCast, Int.cast_ofNat_Int, Nat.zero_add, Nat.reduceAdd, kRcv_1, kRcv_2, kRcv_3, kRcv_0, kRcv_4, kRcv_5, setMd_set, Mdo, Mda1, Mdw1, Mda2, Mdw2, Mda3, Mdw3, Mda4, Mdw4, Mda5, Mdw5, Mda6, Mdw6, Mda7, Mdw7, Mda8, Mdw8, Mda9, Mdw9, Mda10, Mdw10, Mda11, Mdw11, Mdp3, Mdp5, Mdp6, Mdp7, Mdp8, Mdp10, Mdp16, Mdp17, Mdp18]
  refine s_pairs (SAt1 σ M A) hs hw hG hA (by omega) (fun m' A' hK => ?_)
  have q0 := hQ m' A' hK
  unfold shM at hQ q0
  simp only [e_Model_share_9, e_Model_share_10, e_Model_share_11, e_Model_share_14, kR_l, kR_r, kP_0, kP_i, kP_r, kP_n, kP_s, kP_o, kLen_I, kLen_L, kLen_R, kLdI_0, kLdI_1, kLdI_2, kLdI_3, kStI_0, kStI_1, kLdL_e, kStL_e, kLdR_e, kStR_e, kFld_e, kNth_0, kNth_s, kPut_e, fit_I, fit_Z, fit_B, fit_C, fit_A, fit_O, Option.toList_some, Option.toList_none, List.cons_append, List.nil_append, true_and, and_true, List.set_cons_zero, List.set_cons_succ, st_same, Int.toNat_natCast, Int.cast_ofNat_Int, Nat.zero_add, Nat.reduceAdd, kRcv_1, kRcv_2, kRcv_3, kRcv_0, kRcv_4, kRcv_5, setMd_set, Mdo, Mda1, Mdw1, Mda2, Mdw2, Mda3, Mdw3, Mda4, Mdw4, Mda5, Mdw5, Mda6, Mdw6, Mda7, Mdw7, Mda8, Mdw8, Mda9, Mdw9, Mda10, Mdw10, Mda11, Mdw11, Mdp3, Mdp5, Mdp6, Mdp7, Mdp8, Mdp10, Mdp16, Mdp17, Mdp18]
  by_cases h0 : prM (A 1) 0 = 0
  · rw [if_pos h0] at q0
    simp only [e_Model_share_15, e_Model_share_33, kR_l, kR_r, kP_0, kP_i, kP_r, kP_n, kP_s, kP_o, kLen_I, kLen_L, kLen_R, kLdI_0, kLdI_1, kLdI_2, kLdI_3, kStI_0, kStI_1, kLdL_e, kStL_e, kLdR_e, kStR_e, kFld_e, kNth_0, kNth_s, kPut_e, fit_I, fit_Z, fit_B, fit_C, fit_A, fit_O, Option.toList_some, Option.toList_none, List.cons_append, List.nil_append, true_and, and_true, List.set_cons_zero, List.set_cons_succ, st_same, Int.toNat_natCast, Int.cast_ofNat_Int, Nat.zero_add, Nat.reduceAdd, kRcv_1, kRcv_2, kRcv_3, kRcv_0, kRcv_4, kRcv_5]
    all_goals ((repeat' (first | with_reducible refine And.intro ?_ ?_ | intro _)) <;> first | with_reducible assumption | exact True.intro | with_reducible exact q0 | omega | (simp only [inR] at *; omega) | exact q0 | with_reducible rfl | rfl | (simp; done) | (exfalso; simp_all; done) | skip)
  · rw [if_neg h0] at hQ
    refine ⟨by unfold inR; omega, fun _ => ?_, fun h => (h h0).elim⟩
    simp only [e_Model_share_18, e_Model_share_19, e_Model_share_20, e_Model_share_21, e_Model_share_24, e_Model_share_25, kR_l, kR_r, kP_0, kP_i, kP_r, kP_n, kP_s, kP_o, kLen_I, kLen_L, kLen_R, kLdI_0, kLdI_1, kLdI_2, kLdI_3, kStI_0, kStI_1, kLdL_e, kStL_e, kLdR_e, kStR_e, kFld_e, kNth_0, kNth_s, kPut_e, fit_I, fit_Z, fit_B, fit_C, fit_A, fit_O, Option.toList_some, Option.toList_none, List.cons_append, List.nil_append, true_and, and_true, List.set_cons_zero, List.set_cons_succ, st_same, Int.toNat_natCast, Int.cast_ofNat_Int, Nat.zero_add, Nat.reduceAdd, kRcv_1, kRcv_2, kRcv_3, kRcv_0, kRcv_4, kRcv_5, setMd_set, Mdo, Mda1, Mdw1, Mda2, Mdw2, Mda3, Mdw3, Mda4, Mdw4, Mda5, Mdw5, Mda6, Mdw6, Mda7, Mdw7, Mda8, Mdw8, Mda9, Mdw9, Mda10, Mdw10, Mda11, Mdw11, Mdp3, Mdp5, Mdp6, Mdp7, Mdp8, Mdp10, Mdp16, Mdp17, Mdp18]
    have e1 : A' 1 = A 1 := hK.2.1 1 (by decide) (by decide) (by decide)
    refine s_pairs (s := A 1) (by rw [← e1]; exact SAt1 σ M A') hs hw hG hK.2.2 (by omega) (fun m2 A2 hK2 => ?_)
    have q1 := hQ m2 A2 (hK.trans hK2)
    simp only [e_Model_share_28, e_Model_share_29, e_Model_share_30, e_Model_share_31, e_Model_share_32, e_Model_share_33, kR_l, kR_r, kP_0, kP_i, kP_r, kP_n, kP_s, kP_o, kLen_I, kLen_L, kLen_R, kLdI_0, kLdI_1, kLdI_2, kLdI_3, kStI_0, kStI_1, kLdL_e, kStL_e, kLdR_e, kStR_e, kFld_e, kNth_0, kNth_s, kPut_e, fit_I, fit_Z, fit_B, fit_C, fit_A, fit_O, Option.toList_some, Option.toList_none, List.cons_append, List.nil_append, true_and, and_true, List.set_cons_zero, List.set_cons_succ, st_same, Int.toNat_natCast, Int.cast_ofNat_Int, Nat.zero_add, Nat.reduceAdd, kRcv_1, kRcv_2, kRcv_3, kRcv_0, kRcv_4, kRcv_5]
    refine ⟨?_, q1⟩
    have := shM_nn (prM (A 1) 0).toNat (by omega) (prM (A 1) 0 - prM (A 1) 1).toNat (by omega) (by omega)
    rw [show (((prM (A 1) 0).toNat : Nat) : Int) = prM (A 1) 0 by omega, show (((prM (A 1) 0 - prM (A 1) 1).toNat : Nat) : Int) = prM (A 1) 0 - prM (A 1) 1 by omega] at this
    exact this
theorem s_openShare (hs : SOK (A 1)) (hw : WkOK (A 1)) (hG : G 0 ≤ M) (hA : MdOK A)
    (hQ : ∀ (m' : Nat → Int) (A' : Nat → Nat → Int), KeepW (upI m 6 0) m' A A' → Q (.inl (some (vD (shM (A 1))))) (setMd σ M m' A')) :
    CW G k_Model_openShare [vR M] (setMd σ M m A) Q := by
  simp only [c_Model_openShare, e_Model_openShare_0, e_Model_openShare_1, e_Model_openShare_2, e_Model_openShare_5, e_Model_openShare_6, kR_l, kR_r, kP_0, kP_i, kP_r, kP_n, kP_s, kP_o, kLen_I, kLen_L, kLen_R, kLdI_0, kLdI_1, kLdI_2, kLdI_3, kStI_0, kStI_1, kLdL_e, kStL_e, kLdR_e, kStR_e, kFld_e, kNth_0, kNth_s, kPut_e, fit_I, fit_Z, fit_B, fit_C, fit_A, fit_O, Option.toList_some, Option.toList_none, List.cons_append, List.nil_append, true_and, and_true, List.set_cons_zero, List.set_cons_succ, st_same, Int.toNat_natCast, Int.cast_ofNat_Int, Nat.zero_add, Nat.reduceAdd, kRcv_1, kRcv_2, kRcv_3, kRcv_0, kRcv_4, kRcv_5, setMd_set, Mdo, Mda1, Mdw1, Mda2, Mdw2, Mda3, Mdw3, Mda4, Mdw4, Mda5, Mdw5, Mda6, Mdw6, Mda7, Mdw7, Mda8, Mdw8, Mda9, Mdw9, Mda10, Mdw10, Mda11, Mdw11, Mdp3, Mdp5, Mdp6, Mdp7, Mdp8, Mdp10, Mdp16, Mdp17, Mdp18, List.length_cons, List.length_nil]
  all_goals ((repeat' (first | with_reducible refine And.intro ?_ ?_ | intro _)) <;> first | with_reducible assumption | exact True.intro | omega | (simp only [inR] at *; omega) | (with_reducible show WP _ _ _ _ _ _ _) | (with_reducible show CW _ _ _ _ _) | with_reducible rfl | rfl | (simp; done) | (exfalso; simp_all; done) | skip)
  refine s_share hs hw hG hA (fun m' A' hK => ?_)
  simp only [e_Model_openShare_9, kR_l, kR_r, kP_0, kP_i, kP_r, kP_n, kP_s, kP_o, kLen_I, kLen_L, kLen_R, kLdI_0, kLdI_1, kLdI_2, kLdI_3, kStI_0, kStI_1, kLdL_e, kStL_e, kLdR_e, kStR_e, kFld_e, kNth_0, kNth_s, kPut_e, fit_I, fit_Z, fit_B, fit_C, fit_A, fit_O, Option.toList_some, Option.toList_none, List.cons_append, List.nil_append, true_and, and_true, List.set_cons_zero, List.set_cons_succ, st_same, Int.toNat_natCast, Int.cast_ofNat_Int, Nat.zero_add, Nat.reduceAdd, kRcv_1, kRcv_2, kRcv_3, kRcv_0, kRcv_4, kRcv_5]
  exact hQ m' A' hK
end LK2

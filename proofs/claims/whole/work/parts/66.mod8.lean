/-! THE REFERENCE: chambers come and go; who walks; digging a square, a way -/
def cbC (s : Nat → Int) (a b : Int) : Prop := whM s a b = -2 ∧ inB (whM s (a - 1) b) 0 5 = 0 ∧ inB (whM s (a + 1) b) 0 5 = 0 ∧ inB (whM s a (b - 1)) 0 5 = 0 ∧ inB (whM s a (b + 1)) 0 5 = 0
def canM (s : Nat → Int) (x y : Int) (c r : Nat) : Prop := ∀ k, k < c * r → cbC s (x + ((k % c : Nat) : Int)) (y + ((k / c : Nat) : Int))
def ixB (x y c i : Nat) : Nat := 16 * (y + i / c) + x + i % c
def bxL (s : Nat → Int) (x y c : Nat) (r : Int) : Nat → Nat → Int
  | 0 => s
  | k + 1 => upI (bxL s x y c r k) (ixB x y c k) r
def rmB (s : Nat → Int) (r x y c n : Nat) : Nat → Int := upI (upI (upI (upI s (192 + 4 * r) x) (193 + 4 * r) y) (194 + 4 * r) c) (195 + 4 * r) n
def rmS (s : Nat → Int) (r x y c n : Nat) : Nat → Int := bxL (rmB s r x y c n) x y c r (c * n)
def gv1 (s : Nat → Int) (r : Int) (i : Nat) : Nat → Int := fun j => if j < i ∧ s j = r then -1 else s j
def gvL (s : Nat → Int) (r : Nat) : Nat → Nat → Int
  | 0 => s
  | k + 1 => upI (upI (gvL s r k) (216 + 6 * r + k) 0) (216 + 6 * k + r) 0
def gvS (s : Nat → Int) (r : Nat) : Nat → Int := gvL (upI (gv1 s r 192) (194 + 4 * r) 0) r 6
def wkS (s : Nat → Int) (a b : Nat) (w : Int) : Nat → Int := upI (upI s (216 + 6 * a + b) w) (216 + 6 * b + a) w
def svA (A : Nat → Nat → Int) (kp : Nat) : Nat → Nat → Int := upA A 3 (svF (A 1) (A 3) kp)
theorem svA_at (A : Nat → Nat → Int) (kp k : Nat) (h : k ≠ 3) : svA A kp k = A k := by
  unfold svA
  rw [upA_at, if_neg h]
theorem MdOK.sv {A : Nat → Nat → Int} (h : MdOK A) (kp : Nat) : MdOK (svA A kp) := ⟨h.1, h.2.1, h.2.2.1, h.2.2.2⟩
theorem thM_1 {s : Nat → Int} {r : Int} (h : thM s r = 1) : 0 ≤ r ∧ r ≤ 5 := by
  unfold thM at h
  split at h
  · omega
  · omega
theorem mayM_0 {s : Nat → Int} {a b c : Int} (h : mayM s a b c = 0) : thM s a = 1 ∧ thM s b = 1 ∧ a ≠ b ∧ c ≠ 0 := by
  have h1 := thM_bd s a
  have h2 := thM_bd s b
  unfold mayM at h
  split at h
  · omega
  · split at h
    · omega
    · omega
theorem mayM_bd (s : Nat → Int) (a b c : Int) : 0 ≤ mayM s a b c ∧ mayM s a b c ≤ 2 := by
  unfold mayM
  split
  · omega
  · split <;> omega
theorem firstN_bd (p : Nat → Int) : ∀ n i, i ≤ firstN p n i ∧ firstN p n i ≤ i + n
  | 0, i => by simp [firstN]
  | n + 1, i => by
    have := firstN_bd p n (i + 1)
    unfold firstN
    split <;> omega
section MD8
variable {G : Nat → Nat} {σ : AS} {Q : (Option AV ⊕ Nat) → AS → Prop} {M a : Nat} {m : Nat → Int} {A : Nat → Nat → Int} {s : Nat → Int}
theorem s_Model_canBe {x y v : Int} {c n : Nat} (hs : SOK (A 1)) (hx : -100 ≤ x ∧ x ≤ 100) (hy : -100 ≤ y ∧ y ≤ 100) (hc : 1 ≤ c ∧ c ≤ 6) (hn : 1 ≤ n ∧ n ≤ 6) (hv1 : canM (A 1) x y c n → v = 1) (hv0 : ¬ canM (A 1) x y c n → v = 0) : CW G k_Model_canBe [vR M, vI x, vI y, vI (c : Nat), vI (n : Nat)] (setMd σ M m A) Q = Q (.inl (some (vI v))) (setMd σ M m A) := by
  refine CW.det' fun R hR => ?_
  have hcn : c * n ≤ 36 := Nat.mul_le_mul hc.2 hn.2
  simp only [c_Model_canBe, e_Model_canBe_0, e_Model_canBe_1, e_Model_canBe_5, e_Model_canBe_6, e_Model_canBe_8, e_Model_canBe_9, e_Model_canBe_12, e_Model_canBe_13, e_Model_canBe_15, e_Model_canBe_16, e_Model_canBe_17, e_Model_canBe_18, e_Model_canBe_20, e_Model_canBe_21, e_Model_canBe_23, e_Model_canBe_24, e_Model_canBe_25, e_Model_canBe_26, e_Model_canBe_28, e_Model_canBe_29, e_Model_canBe_32, e_Model_canBe_34, e_Model_canBe_36, e_Model_canBe_39, e_Model_canBe_41, e_Model_canBe_44, e_Model_canBe_45, e_Model_canBe_46, e_Model_canBe_47, e_Model_canBe_50, e_Model_canBe_52, e_Model_canBe_53, e_Model_canBe_54, e_Model_canBe_56, e_Model_canBe_59, e_Model_canBe_60, e_Model_canBe_61, e_Model_canBe_64, e_Model_canBe_67, e_Model_canBe_68, e_Model_canBe_71, e_Model_canBe_73, e_Model_canBe_74, e_Model_canBe_75, e_Model_canBe_77, e_Model_canBe_80, e_Model_canBe_81, e_Model_canBe_82, e_Model_canBe_85, e_Model_canBe_88, e_Model_canBe_89, e_Model_canBe_92, e_Model_canBe_94, e_Model_canBe_96, e_Model_canBe_97, e_Model_canBe_98, e_Model_canBe_101, e_Model_canBe_102, e_Model_canBe_103, e_Model_canBe_106, e_Model_canBe_109, e_Model_canBe_110, e_Model_canBe_113, e_Model_canBe_115, e_Model_canBe_117, e_Model_canBe_118, e_Model_canBe_119, e_Model_canBe_122, e_Model_canBe_123, e_Model_canBe_124, e_Model_canBe_127, e_Model_canBe_130, e_Model_canBe_131, e_Model_canBe_132, e_Model_canBe_135, e_Model_canBe_138, e_Model_canBe_139, kR_l, kR_r, kP_0, kP_i, kP_r, kP_n, kP_s, kP_o, kLen_I, kLen_L, kLen_R, kLdI_0, kLdI_1, kLdI_2, kLdI_3, kStI_0, kStI_1, kLdL_e, kStL_e, kLdR_e, kStR_e, kFld_e, kNth_0, kNth_s, kPut_e, fit_I, fit_Z, fit_B, fit_C, fit_A, fit_O, Option.toList_some, Option.toList_none, List.cons_append, List.nil_append, true_and, and_true, List.set_cons_zero, List.set_cons_succ, st_same, Int.toNat_natCast, Int.cast_ofNat_Int, Nat.zero_add, Nat.reduceAdd, kRcv_1, kRcv_2, kRcv_3, kRcv_0, kRcv_4, kRcv_5]
  have key := up (fun k => (∀ k', k' < k → cbC (A 1) (x + ((k' % c : Nat) : Int)) (y + ((k' / c : Nat) : Int))) → ∀ z1 z2, zI z1 → zI z2 → WP G k_Model_canBe 3 [some (vR M), some (vI x), some (vI y), some (vI (c : Nat)), some (vI (n : Nat)), some (vI (k : Nat)), z1, z2] [] (setMd σ M m A) R) (n := c * n) ?_ ?_
  · have key' := key (fun k' h => absurd h (by omega)) none none zI_n zI_n
    exact key'
  · intro k hk ih hall z1 z2 hz1 hz2
    have hdm := dm hc.1 k
    have ih' := fun (h : cbC (A 1) (x + ((k % c : Nat) : Int)) (y + ((k / c : Nat) : Int))) => ih (fun k' hk' => by
      by_cases e : k' = k
      · rw [e]; exact h
      · exact hall k' (by omega))
    have hno := fun (h : ¬ cbC (A 1) (x + ((k % c : Nat) : Int)) (y + ((k / c : Nat) : Int))) => hv0 (fun z => h (z k hk))
    clear ih
    have hX : -200 ≤ x + ((k % c : Nat) : Int) ∧ x + ((k % c : Nat) : Int) ≤ 200 := by omega
    have hY : -200 ≤ y + ((k / c : Nat) : Int) ∧ y + ((k / c : Nat) : Int) ≤ 200 := by omega
    rw [e_Model_canBe_3]
    simp only [e_Model_canBe_5, e_Model_canBe_6, e_Model_canBe_8, e_Model_canBe_9, e_Model_canBe_12, e_Model_canBe_13, e_Model_canBe_15, e_Model_canBe_16, e_Model_canBe_17, e_Model_canBe_18, e_Model_canBe_20, e_Model_canBe_21, e_Model_canBe_23, e_Model_canBe_24, e_Model_canBe_25, e_Model_canBe_26, kR_l, kR_r, kP_0, kP_i, kP_r, kP_n, kP_s, kP_o, kLen_I, kLen_L, kLen_R, kLdI_0, kLdI_1, kLdI_2, kLdI_3, kStI_0, kStI_1, kLdL_e, kStL_e, kLdR_e, kStR_e, kFld_e, kNth_0, kNth_s, kPut_e, fit_I, fit_Z, fit_B, fit_C, fit_A, fit_O, Option.toList_some, Option.toList_none, List.cons_append, List.nil_append, true_and, and_true, List.set_cons_zero, List.set_cons_succ, st_same, Int.toNat_natCast, Int.cast_ofNat_Int, Nat.zero_add, Nat.reduceAdd, kRcv_1, kRcv_2, kRcv_3, kRcv_0, kRcv_4, kRcv_5, setMd_set, Mdo, Mda1, Mdw1, Mda2, Mdw2, Mda3, Mdw3, Mda4, Mdw4, Mda5, Mdw5, Mda6, Mdw6, Mda7, Mdw7, Mda8, Mdw8, Mda9, Mdw9, Mda10, Mdw10, Mda11, Mdw11, Mdp3, Mdp5, Mdp6, Mdp7, Mdp8, Mdp10, Mdp16, Mdp17, Mdp18, ← Int.natCast_emod, ← Int.natCast_ediv, ← Int.natCast_mul, kP_z hz1, kP_z hz2]
    refine ⟨⟨by unfold inR; omega, by unfold inR; omega⟩, fun h => absurd h (by omega), fun _ => ⟨⟨by omega, by omega, by omega, by omega⟩, ⟨by omega, by omega, by omega, by omega⟩, ?_⟩⟩
    generalize x + ((k % c : Nat) : Int) = X at *
    generalize y + ((k / c : Nat) : Int) = Y at *
    have b0 := whM_bd hs X Y
    have b1 := whM_bd hs (X - 1) Y
    have b2 := whM_bd hs (X + 1) Y
    have b3 := whM_bd hs X (Y - 1)
    have b4 := whM_bd hs X (Y + 1)
    have i1 := inB_bd (whM (A 1) (X - 1) Y) 0 5
    have i2 := inB_bd (whM (A 1) (X + 1) Y) 0 5
    have i3 := inB_bd (whM (A 1) X (Y - 1)) 0 5
    have i4 := inB_bd (whM (A 1) X (Y + 1)) 0 5
    simp (disch := first | assumption | omega | (unfold inR; omega)) only [e_Model_canBe_28, e_Model_canBe_29, e_Model_canBe_32, e_Model_canBe_34, e_Model_canBe_36, e_Model_canBe_39, e_Model_canBe_41, e_Model_canBe_44, e_Model_canBe_45, e_Model_canBe_46, e_Model_canBe_47, e_Model_canBe_50, e_Model_canBe_52, e_Model_canBe_53, e_Model_canBe_54, e_Model_canBe_56, e_Model_canBe_59, e_Model_canBe_60, e_Model_canBe_61, e_Model_canBe_64, e_Model_canBe_67, e_Model_canBe_68, e_Model_canBe_71, e_Model_canBe_73, e_Model_canBe_74, e_Model_canBe_75, e_Model_canBe_77, e_Model_canBe_80, e_Model_canBe_81, e_Model_canBe_82, e_Model_canBe_85, e_Model_canBe_88, e_Model_canBe_89, e_Model_canBe_92, e_Model_canBe_94, e_Model_canBe_96, e_Model_canBe_97, e_Model_canBe_98, e_Model_canBe_101, e_Model_canBe_102, e_Model_canBe_103, e_Model_canBe_106, e_Model_canBe_109, e_Model_canBe_110, e_Model_canBe_113, e_Model_canBe_115, e_Model_canBe_117, e_Model_canBe_118, e_Model_canBe_119, e_Model_canBe_122, e_Model_canBe_123, e_Model_canBe_124, e_Model_canBe_127, e_Model_canBe_130, e_Model_canBe_131, e_Model_canBe_132, e_Model_canBe_135, e_Model_canBe_138, e_Model_canBe_139, kR_l, kR_r, kP_0, kP_i, kP_r, kP_n, kP_s, kP_o, kLen_I, kLen_L, kLen_R, kLdI_0, kLdI_1, kLdI_2, kLdI_3, kStI_0, kStI_1, kLdL_e, kStL_e, kLdR_e, kStR_e, kFld_e, kNth_0, kNth_s, kPut_e, fit_I, fit_Z, fit_B, fit_C, fit_A, fit_O, Option.toList_some, Option.toList_none, List.cons_append, List.nil_append, true_and, and_true, List.set_cons_zero, List.set_cons_succ, st_same, Int.toNat_natCast, Int.cast_ofNat_Int, Nat.zero_add, Nat.reduceAdd, kRcv_1, kRcv_2, kRcv_3, kRcv_0, kRcv_4, kRcv_5, setMd_set, Mdo, Mda1, Mdw1, Mda2, Mdw2, Mda3, Mdw3, Mda4, Mdw4, Mda5, Mdw5, Mda6, Mdw6, Mda7, Mdw7, Mda8, Mdw8, Mda9, Mdw9, Mda10, Mdw10, Mda11, Mdw11, Mdp3, Mdp5, Mdp6, Mdp7, Mdp8, Mdp10, Mdp16, Mdp17, Mdp18, s_Model_what (Mda1 σ M m A), s_Model_in]
    unfold cbC at ih' hno
    generalize whM (A 1) X Y = w0 at *
    generalize inB (whM (A 1) (X - 1) Y) 0 5 = w1 at *
    generalize inB (whM (A 1) (X + 1) Y) 0 5 = w2 at *
    generalize inB (whM (A 1) X (Y - 1)) 0 5 = w3 at *
    generalize inB (whM (A 1) X (Y + 1)) 0 5 = w4 at *
    by_cases hc0 : w0 = -2 ∧ w1 = 0 ∧ w2 = 0 ∧ w3 = 0 ∧ w4 = 0
    · have nx := fun z1 z2 h1 h2 => ih' hc0 z1 z2 h1 h2
      clear ih' hno hv1 hv0 hR hall
      all_goals ((repeat' (first | with_reducible refine And.intro ?_ ?_ | intro _)) <;> first | with_reducible assumption | exact True.intro | exact nx _ _ (zI_s _) (zI_s _) | omega | (simp only [inR] at *; omega) | with_reducible rfl | rfl | (simp; done) | (exfalso; simp_all; done) | skip)
    · rw [hno hc0] at hR
      clear ih' hno hv1 hv0 hall
      all_goals ((repeat' (first | with_reducible refine And.intro ?_ ?_ | intro _)) <;> first | with_reducible assumption | exact True.intro | exact hR | omega | (simp only [inR] at *; omega) | with_reducible rfl | rfl | (simp; done) | (exfalso; simp_all; done) | skip)
  · intro hall z1 z2 hz1 hz2
    rw [hv1 hall] at hR
    rw [e_Model_canBe_3]
    simp only [e_Model_canBe_5, e_Model_canBe_6, e_Model_canBe_8, e_Model_canBe_9, e_Model_canBe_138, e_Model_canBe_139, kR_l, kR_r, kP_0, kP_i, kP_r, kP_n, kP_s, kP_o, kLen_I, kLen_L, kLen_R, kLdI_0, kLdI_1, kLdI_2, kLdI_3, kStI_0, kStI_1, kLdL_e, kStL_e, kLdR_e, kStR_e, kFld_e, kNth_0, kNth_s, kPut_e, fit_I, fit_Z, fit_B, fit_C, fit_A, fit_O, Option.toList_some, Option.toList_none, List.cons_append, List.nil_append, true_and, and_true, List.set_cons_zero, List.set_cons_succ, st_same, Int.toNat_natCast, Int.cast_ofNat_Int, Nat.zero_add, Nat.reduceAdd, kRcv_1, kRcv_2, kRcv_3, kRcv_0, kRcv_4, kRcv_5, setMd_set, Mdo, Mda1, Mdw1, Mda2, Mdw2, Mda3, Mdw3, Mda4, Mdw4, Mda5, Mdw5, Mda6, Mdw6, Mda7, Mdw7, Mda8, Mdw8, Mda9, Mdw9, Mda10, Mdw10, Mda11, Mdw11, Mdp3, Mdp5, Mdp6, Mdp7, Mdp8, Mdp10, Mdp16, Mdp17, Mdp18, ← Int.natCast_mul]
    refine ⟨⟨by unfold inR; omega, by unfold inR; omega⟩, fun _ => ?_, fun h => absurd h (by omega)⟩
    all_goals ((repeat' (first | with_reducible refine And.intro ?_ ?_ | intro _)) <;> first | with_reducible assumption | exact True.intro | exact hR | omega | (simp only [inR] at *; omega) | with_reducible rfl | rfl | (simp; done) | (exfalso; simp_all; done) | skip)
theorem s_room_1 {x y c n : Int} (hG : G 0 ≤ M) (h1 : inR x) (h2 : inR y) (h3 : inR c) (h4 : inR n) (h : ¬ ((1 ≤ c ∧ c ≤ 6) ∧ (1 ≤ n ∧ n ≤ 6) ∧ (0 ≤ x ∧ x ≤ 16 - c) ∧ (0 ≤ y ∧ y ≤ 12 - n))) : CW G k_Model_room [vR M, vI x, vI y, vI c, vI n] (setMd σ M m A) Q = Q (.inl (some (vI 0))) (setMd σ M (upI m 6 1) A) := by
  refine CW.det' fun R hR => ?_
  have r1 : inR 1 := by unfold inR; omega
  have r6 : inR 6 := by unfold inR; omega
  have fl := fun Q => s_Model_fails (G := G) (σ := σ) (Q := Q) (M := M) (m := upI m 6 0) (A := A) (v := 1) hG
  simp only [upI_upI] at fl
  by_cases hc : 1 ≤ c ∧ c ≤ 6
  · by_cases hn : 1 ≤ n ∧ n ≤ 6
    · by_cases hx : 0 ≤ x ∧ x ≤ 16 - c
      · have hy : ¬ (0 ≤ y ∧ y ≤ 12 - n) := fun z => h ⟨hc, hn, hx, z⟩
        simp (disch := first | assumption | omega | (unfold inR; omega)) only [c_Model_room, e_Model_room_0, e_Model_room_1, e_Model_room_2, e_Model_room_5, e_Model_room_6, e_Model_room_7, e_Model_room_9, e_Model_room_12, e_Model_room_15, e_Model_room_17, e_Model_room_18, e_Model_room_20, e_Model_room_23, e_Model_room_26, e_Model_room_27, e_Model_room_28, e_Model_room_30, e_Model_room_31, e_Model_room_32, e_Model_room_35, e_Model_room_38, e_Model_room_39, e_Model_room_40, e_Model_room_42, e_Model_room_44, e_Model_room_45, e_Model_room_48, e_Model_room_51, e_Model_room_52, e_Model_room_53, e_Model_room_56, kR_l, kR_r, kP_0, kP_i, kP_r, kP_n, kP_s, kP_o, kLen_I, kLen_L, kLen_R, kLdI_0, kLdI_1, kLdI_2, kLdI_3, kStI_0, kStI_1, kLdL_e, kStL_e, kLdR_e, kStR_e, kFld_e, kNth_0, kNth_s, kPut_e, fit_I, fit_Z, fit_B, fit_C, fit_A, fit_O, Option.toList_some, Option.toList_none, List.cons_append, List.nil_append, true_and, and_true, List.set_cons_zero, List.set_cons_succ, st_same, Int.toNat_natCast, Int.cast_ofNat_Int, Nat.zero_add, Nat.reduceAdd, kRcv_1, kRcv_2, kRcv_3, kRcv_0, kRcv_4, kRcv_5, setMd_set, Mdo, Mda1, Mdw1, Mda2, Mdw2, Mda3, Mdw3, Mda4, Mdw4, Mda5, Mdw5, Mda6, Mdw6, Mda7, Mdw7, Mda8, Mdw8, Mda9, Mdw9, Mda10, Mdw10, Mda11, Mdw11, Mdp3, Mdp5, Mdp6, Mdp7, Mdp8, Mdp10, Mdp16, Mdp17, Mdp18, List.length_cons, List.length_nil, s_Model_in, inB_t hc, inB_t hn, inB_t hx, inB_f hy, fl]
        all_goals ((repeat' (first | with_reducible refine And.intro ?_ ?_ | intro _)) <;> first | with_reducible assumption | exact True.intro | exact hR | omega | (simp only [inR] at *; omega) | with_reducible rfl | rfl | (simp; done) | (exfalso; simp_all; done) | skip)
      · simp (disch := first | assumption | omega | (unfold inR; omega)) only [c_Model_room, e_Model_room_0, e_Model_room_1, e_Model_room_2, e_Model_room_5, e_Model_room_6, e_Model_room_7, e_Model_room_9, e_Model_room_12, e_Model_room_15, e_Model_room_17, e_Model_room_18, e_Model_room_20, e_Model_room_23, e_Model_room_26, e_Model_room_27, e_Model_room_28, e_Model_room_30, e_Model_room_31, e_Model_room_32, e_Model_room_35, e_Model_room_51, e_Model_room_52, e_Model_room_53, e_Model_room_56, kR_l, kR_r, kP_0, kP_i, kP_r, kP_n, kP_s, kP_o, kLen_I, kLen_L, kLen_R, kLdI_0, kLdI_1, kLdI_2, kLdI_3, kStI_0, kStI_1, kLdL_e, kStL_e, kLdR_e, kStR_e, kFld_e, kNth_0, kNth_s, kPut_e, fit_I, fit_Z, fit_B, fit_C, fit_A, fit_O, Option.toList_some, Option.toList_none, List.cons_append, List.nil_append, true_and, and_true, List.set_cons_zero, List.set_cons_succ, st_same, Int.toNat_natCast, Int.cast_ofNat_Int, Nat.zero_add, Nat.reduceAdd, kRcv_1, kRcv_2, kRcv_3, kRcv_0, kRcv_4, kRcv_5, setMd_set, Mdo, Mda1, Mdw1, Mda2, Mdw2, Mda3, Mdw3, Mda4, Mdw4, Mda5, Mdw5, Mda6, Mdw6, Mda7, Mdw7, Mda8, Mdw8, Mda9, Mdw9, Mda10, Mdw10, Mda11, Mdw11, Mdp3, Mdp5, Mdp6, Mdp7, Mdp8, Mdp10, Mdp16, Mdp17, Mdp18, List.length_cons, List.length_nil, s_Model_in, inB_t hc, inB_t hn, inB_f hx, fl]
        all_goals ((repeat' (first | with_reducible refine And.intro ?_ ?_ | intro _)) <;> first | with_reducible assumption | exact True.intro | exact hR | omega | (simp only [inR] at *; omega) | with_reducible rfl | rfl | (simp; done) | (exfalso; simp_all; done) | skip)
    · simp (disch := first | assumption | omega | (unfold inR; omega)) only [c_Model_room, e_Model_room_0, e_Model_room_1, e_Model_room_2, e_Model_room_5, e_Model_room_6, e_Model_room_7, e_Model_room_9, e_Model_room_12, e_Model_room_15, e_Model_room_17, e_Model_room_18, e_Model_room_20, e_Model_room_23, e_Model_room_51, e_Model_room_52, e_Model_room_53, e_Model_room_56, kR_l, kR_r, kP_0, kP_i, kP_r, kP_n, kP_s, kP_o, kLen_I, kLen_L, kLen_R, kLdI_0, kLdI_1, kLdI_2, kLdI_3, kStI_0, kStI_1, kLdL_e, kStL_e, kLdR_e, kStR_e, kFld_e, kNth_0, kNth_s, kPut_e, fit_I, fit_Z, fit_B, fit_C, fit_A, fit_O, Option.toList_some, Option.toList_none, List.cons_append, List.nil_append, true_and, and_true, List.set_cons_zero, List.set_cons_succ, st_same, Int.toNat_natCast, Int.cast_ofNat_Int, Nat.zero_add, Nat.reduceAdd, kRcv_1, kRcv_2, kRcv_3, kRcv_0, kRcv_4, kRcv_5, setMd_set, Mdo, Mda1, Mdw1, Mda2, Mdw2, Mda3, Mdw3, Mda4, Mdw4, Mda5, Mdw5, Mda6, Mdw6, Mda7, Mdw7, Mda8, Mdw8, Mda9, Mdw9, Mda10, Mdw10, Mda11, Mdw11, Mdp3, Mdp5, Mdp6, Mdp7, Mdp8, Mdp10, Mdp16, Mdp17, Mdp18, List.length_cons, List.length_nil, s_Model_in, inB_t hc, inB_f hn, fl]
      all_goals ((repeat' (first | with_reducible refine And.intro ?_ ?_ | intro _)) <;> first | with_reducible assumption | exact True.intro | exact hR | omega | (simp only [inR] at *; omega) | with_reducible rfl | rfl | (simp; done) | (exfalso; simp_all; done) | skip)
  · simp (disch := first | assumption | omega | (unfold inR; omega)) only [c_Model_room, e_Model_room_0, e_Model_room_1, e_Model_room_2, e_Model_room_5, e_Model_room_6, e_Model_room_7, e_Model_room_9, e_Model_room_12, e_Model_room_51, e_Model_room_52, e_Model_room_53, e_Model_room_56, kR_l, kR_r, kP_0, kP_i, kP_r, kP_n, kP_s, kP_o, kLen_I, kLen_L, kLen_R, kLdI_0, kLdI_1, kLdI_2, kLdI_3, kStI_0, kStI_1, kLdL_e, kStL_e, kLdR_e, kStR_e, kFld_e, kNth_0, kNth_s, kPut_e, fit_I, fit_Z, fit_B, fit_C, fit_A, fit_O, Option.toList_some, Option.toList_none, List.cons_append, List.nil_append, true_and, and_true, List.set_cons_zero, List.set_cons_succ, st_same, Int.toNat_natCast, Int.cast_ofNat_Int, Nat.zero_add, Nat.reduceAdd, kRcv_1, kRcv_2, kRcv_3, kRcv_0, kRcv_4, kRcv_5, setMd_set, Mdo, Mda1, Mdw1, Mda2, Mdw2, Mda3, Mdw3, Mda4, Mdw4, Mda5, Mdw5, Mda6, Mdw6, Mda7, Mdw7, Mda8, Mdw8, Mda9, Mdw9, Mda10, Mdw10, Mda11, Mdw11, Mdp3, Mdp5, Mdp6, Mdp7, Mdp8, Mdp10, Mdp16, Mdp17, Mdp18, List.length_cons, List.length_nil, s_Model_in, inB_f hc, fl]
    all_goals ((repeat' (first | with_reducible refine And.intro ?_ ?_ | intro _)) <;> first | with_reducible assumption | exact True.intro | exact hR | omega | (simp only [inR] at *; omega) | with_reducible rfl | rfl | (simp; done) | (exfalso; simp_all; done) | skip)
theorem room_args {x y c n : Nat} (hG : G 0 ≤ M) (hc : 1 ≤ c ∧ c ≤ 6) (hn : 1 ≤ n ∧ n ≤ 6) (hx : x + c ≤ 16) (hy : y + n ≤ 12) (h : WP G k_Model_room 57 [some (vR M), some (vI (x : Nat)), some (vI (y : Nat)), some (vI (c : Nat)), some (vI (n : Nat)), none, none] [] (setMd σ M (upI m 6 0) A) Q) : CW G k_Model_room [vR M, vI (x : Nat), vI (y : Nat), vI (c : Nat), vI (n : Nat)] (setMd σ M m A) Q := by
  have e1 : inB (c : Nat) 1 6 = 1 := inB_t (by omega)
  have e2 : inB (n : Nat) 1 6 = 1 := inB_t (by omega)
  have e3 : inB (x : Nat) 0 (16 - (c : Nat)) = 1 := inB_t (by omega)
  have e4 : inB (y : Nat) 0 (12 - (n : Nat)) = 1 := inB_t (by omega)
  simp (disch := first | assumption | omega | (unfold inR; omega)) only [c_Model_room, e_Model_room_0, e_Model_room_1, e_Model_room_2, e_Model_room_5, e_Model_room_6, e_Model_room_7, e_Model_room_9, e_Model_room_12, e_Model_room_15, e_Model_room_17, e_Model_room_18, e_Model_room_20, e_Model_room_23, e_Model_room_26, e_Model_room_27, e_Model_room_28, e_Model_room_30, e_Model_room_31, e_Model_room_32, e_Model_room_35, e_Model_room_38, e_Model_room_39, e_Model_room_40, e_Model_room_42, e_Model_room_44, e_Model_room_45, e_Model_room_48, kR_l, kR_r, kP_0, kP_i, kP_r, kP_n, kP_s, kP_o, kLen_I, kLen_L, kLen_R, kLdI_0, kLdI_1, kLdI_2, kLdI_3, kStI_0, kStI_1, kLdL_e, kStL_e, kLdR_e, kStR_e, kFld_e, kNth_0, kNth_s, kPut_e, fit_I, fit_Z, fit_B, fit_C, fit_A, fit_O, Option.toList_some, Option.toList_none, List.cons_append, List.nil_append, true_and, and_true, List.set_cons_zero, List.set_cons_succ, st_same, Int.toNat_natCast, Int.cast_ofNat_Int, Nat.zero_add, Nat.reduceAdd, kRcv_1, kRcv_2, kRcv_3, kRcv_0, kRcv_4, kRcv_5, setMd_set, Mdo, Mda1, Mdw1, Mda2, Mdw2, Mda3, Mdw3, Mda4, Mdw4, Mda5, Mdw5, Mda6, Mdw6, Mda7, Mdw7, Mda8, Mdw8, Mda9, Mdw9, Mda10, Mdw10, Mda11, Mdw11, Mdp3, Mdp5, Mdp6, Mdp7, Mdp8, Mdp10, Mdp16, Mdp17, Mdp18, List.length_cons, List.length_nil, s_Model_in, e1, e2, e3, e4]
  all_goals ((repeat' (first | with_reducible refine And.intro ?_ ?_ | intro _)) <;> first | with_reducible assumption | exact True.intro | exact h | omega | (simp only [inR] at *; omega) | with_reducible rfl | rfl | (simp; done) | (exfalso; simp_all; done) | skip)
theorem s_room_2 {x y c n : Nat} (hG : G 0 ≤ M) (hs : SOK (A 1)) (hc : 1 ≤ c ∧ c ≤ 6) (hn : 1 ≤ n ∧ n ≤ 6) (hx : x + c ≤ 16) (hy : y + n ≤ 12) (h : firstN (fun r => thM (A 1) r) 6 0 = 6 ∨ ¬ canM (A 1) (x : Nat) (y : Nat) c n) : CW G k_Model_room [vR M, vI (x : Nat), vI (y : Nat), vI (c : Nat), vI (n : Nat)] (setMd σ M m A) Q = Q (.inl (some (vI 0))) (setMd σ M (upI m 6 2) A) := by
  refine CW.det' fun R hR => ?_
  refine room_args hG hc hn hx hy ?_
  have fl := fun Q => s_Model_fails (G := G) (σ := σ) (Q := Q) (M := M) (m := upI m 6 0) (A := A) (v := 2) hG
  simp only [upI_upI] at fl
  simp only [e_Model_room_57, e_Model_room_58, e_Model_room_61, e_Model_room_63, e_Model_room_65, e_Model_room_67, e_Model_room_70, e_Model_room_71, e_Model_room_72, e_Model_room_73, e_Model_room_74, e_Model_room_76, e_Model_room_82, e_Model_room_83, e_Model_room_84, e_Model_room_87, kR_l, kR_r, kP_0, kP_i, kP_r, kP_n, kP_s, kP_o, kLen_I, kLen_L, kLen_R, kLdI_0, kLdI_1, kLdI_2, kLdI_3, kStI_0, kStI_1, kLdL_e, kStL_e, kLdR_e, kStR_e, kFld_e, kNth_0, kNth_s, kPut_e, fit_I, fit_Z, fit_B, fit_C, fit_A, fit_O, Option.toList_some, Option.toList_none, List.cons_append, List.nil_append, true_and, and_true, List.set_cons_zero, List.set_cons_succ, st_same, Int.toNat_natCast, Int.cast_ofNat_Int, Nat.zero_add, Nat.reduceAdd, kRcv_1, kRcv_2, kRcv_3, kRcv_0, kRcv_4, kRcv_5, setMd_set, Mdo, Mda1, Mdw1, Mda2, Mdw2, Mda3, Mdw3, Mda4, Mdw4, Mda5, Mdw5, Mda6, Mdw6, Mda7, Mdw7, Mda8, Mdw8, Mda9, Mdw9, Mda10, Mdw10, Mda11, Mdw11, Mdp3, Mdp5, Mdp6, Mdp7, Mdp8, Mdp10, Mdp16, Mdp17, Mdp18, s_Model_free hs, fl]
  have hf := firstN_bd (fun r => thM (A 1) r) 6 0
  by_cases h6 : firstN (fun r => thM (A 1) r) 6 0 = 6
  · rw [h6]
    all_goals ((repeat' (first | with_reducible refine And.intro ?_ ?_ | intro _)) <;> first | with_reducible assumption | exact True.intro | exact hR | omega | (simp only [inR] at *; omega) | with_reducible rfl | rfl | (simp; done) | (exfalso; simp_all; done) | skip)
  · have hcan : ¬ canM (A 1) (x : Nat) (y : Nat) c n := by
      rcases h with h | h
      · exact absurd h h6
      · exact h
    rw [s_Model_canBe (v := 0) hs (by omega) (by omega) hc hn (fun z => absurd z hcan) (fun _ => rfl)]
    simp only [e_Model_room_79, e_Model_room_82, e_Model_room_83, e_Model_room_84, e_Model_room_87, kR_l, kR_r, kP_0, kP_i, kP_r, kP_n, kP_s, kP_o, kLen_I, kLen_L, kLen_R, kLdI_0, kLdI_1, kLdI_2, kLdI_3, kStI_0, kStI_1, kLdL_e, kStL_e, kLdR_e, kStR_e, kFld_e, kNth_0, kNth_s, kPut_e, fit_I, fit_Z, fit_B, fit_C, fit_A, fit_O, Option.toList_some, Option.toList_none, List.cons_append, List.nil_append, true_and, and_true, List.set_cons_zero, List.set_cons_succ, st_same, Int.toNat_natCast, Int.cast_ofNat_Int, Nat.zero_add, Nat.reduceAdd, kRcv_1, kRcv_2, kRcv_3, kRcv_0, kRcv_4, kRcv_5, setMd_set, Mdo, Mda1, Mdw1, Mda2, Mdw2, Mda3, Mdw3, Mda4, Mdw4, Mda5, Mdw5, Mda6, Mdw6, Mda7, Mdw7, Mda8, Mdw8, Mda9, Mdw9, Mda10, Mdw10, Mda11, Mdw11, Mdp3, Mdp5, Mdp6, Mdp7, Mdp8, Mdp10, Mdp16, Mdp17, Mdp18, fl]
    all_goals ((repeat' (first | with_reducible refine And.intro ?_ ?_ | intro _)) <;> first | with_reducible assumption | exact True.intro | exact hR | omega | (simp only [inR] at *; omega) | with_reducible rfl | rfl | (simp; done) | (exfalso; simp_all; done) | skip)
theorem s_room_0 {x y c n kp r : Nat} (hG : G 0 ≤ M) (hs : SOK (A 1)) (hk : m 3 = (kp : Nat)) (hkp : kp ≤ 6) (hc : 1 ≤ c ∧ c ≤ 6) (hn : 1 ≤ n ∧ n ≤ 6) (hx : x + c ≤ 16) (hy : y + n ≤ 12) (hfr : firstN (fun r => thM (A 1) r) 6 0 = r) (hr : r < 6) (hcan : canM (A 1) (x : Nat) (y : Nat) c n) : CW G k_Model_room [vR M, vI (x : Nat), vI (y : Nat), vI (c : Nat), vI (n : Nat)] (setMd σ M m A) Q = Q (.inl (some (vI (r : Nat)))) (setMd σ M (upI (upI m 6 0) 3 (svK kp : Nat)) (upA (svA A kp) 1 (rmS (A 1) r x y c n))) := by
  refine CW.det' fun R hR => ?_
  refine room_args hG hc hn hx hy ?_
  have hcn : c * n ≤ 36 := Nat.mul_le_mul hc.2 hn.2
  simp only [e_Model_room_57, e_Model_room_58, e_Model_room_61, e_Model_room_63, e_Model_room_65, e_Model_room_67, e_Model_room_70, e_Model_room_71, e_Model_room_72, e_Model_room_73, e_Model_room_74, e_Model_room_76, kR_l, kR_r, kP_0, kP_i, kP_r, kP_n, kP_s, kP_o, kLen_I, kLen_L, kLen_R, kLdI_0, kLdI_1, kLdI_2, kLdI_3, kStI_0, kStI_1, kLdL_e, kStL_e, kLdR_e, kStR_e, kFld_e, kNth_0, kNth_s, kPut_e, fit_I, fit_Z, fit_B, fit_C, fit_A, fit_O, Option.toList_some, Option.toList_none, List.cons_append, List.nil_append, true_and, and_true, List.set_cons_zero, List.set_cons_succ, st_same, Int.toNat_natCast, Int.cast_ofNat_Int, Nat.zero_add, Nat.reduceAdd, kRcv_1, kRcv_2, kRcv_3, kRcv_0, kRcv_4, kRcv_5, setMd_set, Mdo, Mda1, Mdw1, Mda2, Mdw2, Mda3, Mdw3, Mda4, Mdw4, Mda5, Mdw5, Mda6, Mdw6, Mda7, Mdw7, Mda8, Mdw8, Mda9, Mdw9, Mda10, Mdw10, Mda11, Mdw11, Mdp3, Mdp5, Mdp6, Mdp7, Mdp8, Mdp10, Mdp16, Mdp17, Mdp18, s_Model_free hs, hfr]
  refine ⟨⟨by unfold inR; omega, by unfold inR; omega⟩, fun h => absurd h (by omega), fun _ => ?_⟩
  rw [s_Model_canBe (v := 1) hs (by omega) (by omega) hc hn (fun _ => rfl) (fun z => absurd hcan z)]
  simp only [e_Model_room_79, e_Model_room_82, e_Model_room_83, e_Model_room_84, e_Model_room_87, e_Model_room_88, e_Model_room_89, kR_l, kR_r, kP_0, kP_i, kP_r, kP_n, kP_s, kP_o, kLen_I, kLen_L, kLen_R, kLdI_0, kLdI_1, kLdI_2, kLdI_3, kStI_0, kStI_1, kLdL_e, kStL_e, kLdR_e, kStR_e, kFld_e, kNth_0, kNth_s, kPut_e, fit_I, fit_Z, fit_B, fit_C, fit_A, fit_O, Option.toList_some, Option.toList_none, List.cons_append, List.nil_append, true_and, and_true, List.set_cons_zero, List.set_cons_succ, st_same, Int.toNat_natCast, Int.cast_ofNat_Int, Nat.zero_add, Nat.reduceAdd, kRcv_1, kRcv_2, kRcv_3, kRcv_0, kRcv_4, kRcv_5, setMd_set, Mdo, Mda1, Mdw1, Mda2, Mdw2, Mda3, Mdw3, Mda4, Mdw4, Mda5, Mdw5, Mda6, Mdw6, Mda7, Mdw7, Mda8, Mdw8, Mda9, Mdw9, Mda10, Mdw10, Mda11, Mdw11, Mdp3, Mdp5, Mdp6, Mdp7, Mdp8, Mdp10, Mdp16, Mdp17, Mdp18]
  refine ⟨by unfold inR; omega, fun _ => ?_, fun h => absurd h (by omega)⟩
  rw [s_Model_saves (kp := kp) hG (show upI m 6 0 3 = (kp : Nat) from hk) hkp]
  simp only [e_Model_room_92, e_Model_room_93, e_Model_room_96, e_Model_room_99, e_Model_room_100, e_Model_room_102, e_Model_room_103, e_Model_room_104, e_Model_room_105, e_Model_room_106, e_Model_room_107, e_Model_room_110, e_Model_room_113, e_Model_room_114, e_Model_room_116, e_Model_room_117, e_Model_room_118, e_Model_room_119, e_Model_room_120, e_Model_room_121, e_Model_room_122, e_Model_room_123, e_Model_room_126, e_Model_room_129, e_Model_room_130, e_Model_room_132, e_Model_room_133, e_Model_room_134, e_Model_room_135, e_Model_room_136, e_Model_room_137, e_Model_room_138, e_Model_room_139, e_Model_room_142, e_Model_room_145, e_Model_room_146, e_Model_room_148, e_Model_room_149, e_Model_room_150, e_Model_room_151, e_Model_room_152, e_Model_room_154, e_Model_room_155, e_Model_room_156, kR_l, kR_r, kP_0, kP_i, kP_r, kP_n, kP_s, kP_o, kLen_I, kLen_L, kLen_R, kLdI_0, kLdI_1, kLdI_2, kLdI_3, kStI_0, kStI_1, kLdL_e, kStL_e, kLdR_e, kStR_e, kFld_e, kNth_0, kNth_s, kPut_e, fit_I, fit_Z, fit_B, fit_C, fit_A, fit_O, Option.toList_some, Option.toList_none, List.cons_append, List.nil_append, true_and, and_true, List.set_cons_zero, List.set_cons_succ, st_same, Int.toNat_natCast, Int.cast_ofNat_Int, Nat.zero_add, Nat.reduceAdd, kRcv_1, kRcv_2, kRcv_3, kRcv_0, kRcv_4, kRcv_5, setMd_set, Mdo, Mda1, Mdw1, Mda2, Mdw2, Mda3, Mdw3, Mda4, Mdw4, Mda5, Mdw5, Mda6, Mdw6, Mda7, Mdw7, Mda8, Mdw8, Mda9, Mdw9, Mda10, Mdw10, Mda11, Mdw11, Mdp3, Mdp5, Mdp6, Mdp7, Mdp8, Mdp10, Mdp16, Mdp17, Mdp18, upA_upA, upA_at, reduceIte, Nat.reduceEqDiff]
  rw [show (192 + 4 * (r : Int)).toNat = 192 + 4 * r by omega, show (192 + 4 * (r : Int) + 1).toNat = 193 + 4 * r by omega, show (192 + 4 * (r : Int) + 2).toNat = 194 + 4 * r by omega, show (192 + 4 * (r : Int) + 3).toNat = 195 + 4 * r by omega]
  have key := up (fun k => WP G k_Model_room 158 [some (vR M), some (vI (x : Nat)), some (vI (y : Nat)), some (vI (c : Nat)), some (vI (n : Nat)), some (vI (r : Nat)), some (vI (k : Nat))] [] (setMd σ M (upI (upI m 6 0) 3 (svK kp : Nat)) (upA (svA A kp) 1 (bxL (rmB (A 1) r x y c n) x y c r k))) R) (n := c * n) ?_ ?_
  · have key' : WP G k_Model_room 158 [some (vR M), some (vI (x : Nat)), some (vI (y : Nat)), some (vI (c : Nat)), some (vI (n : Nat)), some (vI (r : Nat)), some (vI 0)] [] (setMd σ M (upI (upI m 6 0) 3 (svK kp : Nat)) (upA (svA A kp) 1 (rmB (A 1) r x y c n))) R := key
    unfold rmB svA at key'
    all_goals ((repeat' (first | with_reducible refine And.intro ?_ ?_ | intro _)) <;> first | with_reducible assumption | exact True.intro | exact key' | omega | (simp only [inR] at *; omega) | with_reducible rfl | rfl | (simp; done) | (exfalso; simp_all; done) | skip)
  · intro k hk2 ih
    have hdm := dm hc.1 k
    have hd2 : ((k / c : Nat) : Int) < n := Int.ofNat_lt.mpr (Nat.div_lt_of_lt_mul hk2)
    have e : (16 * ((y : Int) + ((k / c : Nat) : Int)) + (x : Nat) + ((k % c : Nat) : Int)).toNat = ixB x y c k := by
      unfold ixB
      omega
    unfold bxL at ih
    rw [e_Model_room_158]
    simp only [e_Model_room_160, e_Model_room_161, e_Model_room_163, e_Model_room_164, e_Model_room_167, e_Model_room_168, e_Model_room_171, e_Model_room_173, e_Model_room_174, e_Model_room_176, e_Model_room_177, e_Model_room_178, e_Model_room_179, e_Model_room_180, e_Model_room_181, e_Model_room_182, e_Model_room_184, e_Model_room_185, e_Model_room_186, e_Model_room_187, e_Model_room_189, e_Model_room_190, e_Model_room_193, kR_l, kR_r, kP_0, kP_i, kP_r, kP_n, kP_s, kP_o, kLen_I, kLen_L, kLen_R, kLdI_0, kLdI_1, kLdI_2, kLdI_3, kStI_0, kStI_1, kLdL_e, kStL_e, kLdR_e, kStR_e, kFld_e, kNth_0, kNth_s, kPut_e, fit_I, fit_Z, fit_B, fit_C, fit_A, fit_O, Option.toList_some, Option.toList_none, List.cons_append, List.nil_append, true_and, and_true, List.set_cons_zero, List.set_cons_succ, st_same, Int.toNat_natCast, Int.cast_ofNat_Int, Nat.zero_add, Nat.reduceAdd, kRcv_1, kRcv_2, kRcv_3, kRcv_0, kRcv_4, kRcv_5, setMd_set, Mdo, Mda1, Mdw1, Mda2, Mdw2, Mda3, Mdw3, Mda4, Mdw4, Mda5, Mdw5, Mda6, Mdw6, Mda7, Mdw7, Mda8, Mdw8, Mda9, Mdw9, Mda10, Mdw10, Mda11, Mdw11, Mdp3, Mdp5, Mdp6, Mdp7, Mdp8, Mdp10, Mdp16, Mdp17, Mdp18, ← Int.natCast_emod, ← Int.natCast_ediv, ← Int.natCast_mul, upA_upA, upA_at, reduceIte, Nat.reduceEqDiff]
    rw [e]
    all_goals ((repeat' (first | with_reducible refine And.intro ?_ ?_ | intro _)) <;> first | with_reducible assumption | exact True.intro | exact ih | omega | (simp only [inR] at *; omega) | with_reducible rfl | rfl | (simp; done) | (exfalso; simp_all; done) | skip)
  · rw [e_Model_room_158]
    unfold rmS at hR
    simp only [e_Model_room_160, e_Model_room_161, e_Model_room_163, e_Model_room_164, e_Model_room_196, e_Model_room_198, kR_l, kR_r, kP_0, kP_i, kP_r, kP_n, kP_s, kP_o, kLen_I, kLen_L, kLen_R, kLdI_0, kLdI_1, kLdI_2, kLdI_3, kStI_0, kStI_1, kLdL_e, kStL_e, kLdR_e, kStR_e, kFld_e, kNth_0, kNth_s, kPut_e, fit_I, fit_Z, fit_B, fit_C, fit_A, fit_O, Option.toList_some, Option.toList_none, List.cons_append, List.nil_append, true_and, and_true, List.set_cons_zero, List.set_cons_succ, st_same, Int.toNat_natCast, Int.cast_ofNat_Int, Nat.zero_add, Nat.reduceAdd, kRcv_1, kRcv_2, kRcv_3, kRcv_0, kRcv_4, kRcv_5, setMd_set, Mdo, Mda1, Mdw1, Mda2, Mdw2, Mda3, Mdw3, Mda4, Mdw4, Mda5, Mdw5, Mda6, Mdw6, Mda7, Mdw7, Mda8, Mdw8, Mda9, Mdw9, Mda10, Mdw10, Mda11, Mdw11, Mdp3, Mdp5, Mdp6, Mdp7, Mdp8, Mdp10, Mdp16, Mdp17, Mdp18, ← Int.natCast_mul]
    refine ⟨⟨by unfold inR; omega, by unfold inR; omega⟩, fun _ => ?_, fun h => absurd h (by omega)⟩
    all_goals ((repeat' (first | with_reducible refine And.intro ?_ ?_ | intro _)) <;> first | with_reducible assumption | exact True.intro | exact hR | omega | (simp only [inR] at *; omega) | with_reducible rfl | rfl | (simp; done) | (exfalso; simp_all; done) | skip)
end MD8

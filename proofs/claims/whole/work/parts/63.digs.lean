/-! THE REFERENCE: digging a way -/
/-- the square of a step of the digging: the w-th of the place k -/
def sqW (pl : Nat → Nat) (b k w : Nat) : Nat := pl k + w % b + 16 * (w / b)
/-- after the places before k, and of the place k the squares before w -/
def dgW (s : Nat → Int) (pl : Nat → Nat) (b : Nat) (k : Nat) : Nat → (Nat → Int) × Int → (Nat → Int) × Int
  | 0, c => c
  | w + 1, c => (upI (dgW s pl b k w c).1 (sqW pl b k w) (-1), (dgW s pl b k w c).2 + b01 ((dgW s pl b k w c).1 (sqW pl b k w) = -2))
def dgK (s : Nat → Int) (pl : Nat → Nat) (b : Nat) : Nat → (Nat → Int) × Int
  | 0 => (s, 0)
  | k + 1 => dgW s pl b k (b * b) (dgK s pl b k)
theorem dgW_OK {s : Nat → Int} {pl : Nat → Nat} {b k : Nat} {c : (Nat → Int) × Int} (h : SOK c.1) : ∀ w, SOK (dgW s pl b k w c).1
  | 0 => h
  | w + 1 => by
    have ih := dgW_OK (s := s) (pl := pl) (b := b) (k := k) h w
    intro j
    unfold dgW
    show -2 ≤ upI (dgW s pl b k w c).1 (sqW pl b k w) (-1) j ∧ upI (dgW s pl b k w c).1 (sqW pl b k w) (-1) j ≤ 16
    rw [upI_at]
    split
    · omega
    · exact ih j
theorem dgK_OK {s : Nat → Int} {pl : Nat → Nat} {b : Nat} (h : SOK s) : ∀ k, SOK (dgK s pl b k).1
  | 0 => h
  | k + 1 => dgW_OK (dgK_OK h k) (b * b)
section DIG
variable {G : Nat → Nat} {σ : AS} {Q : (Option AV ⊕ Nat) → AS → Prop} {M a : Nat} {m : Nat → Int} {A : Nat → Nat → Int} {s : Nat → Int}
theorem s_Model_digs {j b N : Nat} {pl : Nat → Nat} (hrd : ∀ A' : Nat → Nat → Int, (setMd σ M m A').1 a = some (oI 0 253 (A' j))) (hwr : ∀ (A' : Nat → Nat → Int) (f : Nat → Int), am_st (setMd σ M m A') a (oI 0 253 f) = setMd σ M m (upA A' j f)) (hj : j ≠ 10) (hGa : G 0 ≤ a) (hs : SOK (A j)) (h16 : m 16 = (N : Nat)) (hb : m 18 = (b : Nat)) (h1 : 1 ≤ b) (h3 : b ≤ 3) (hN : N ≤ 192) (hpl : ∀ k, k < N → A 10 k = (pl k : Nat) ∧ pl k % 16 + b ≤ 16 ∧ pl k / 16 + b ≤ 12) :
    CW G k_Model_digs [vR M, vR a] (setMd σ M m A) Q = Q (.inl (some (vI (dgK (A j) pl b N).2))) (setMd σ M m (upA A j (dgK (A j) pl b N).1)) := by
  refine CW.det' fun R hR => ?_
  have hbb := bb9 h3
  have r10 : ∀ f, upA A j f 10 = A 10 := fun f => by rw [upA_at, if_neg (fun h => hj h.symm)]
  have rj : ∀ f, upA A j f j = f := fun f => by rw [upA_at, if_pos rfl]
  simp only [c_Model_digs, e_Model_digs_0, e_Model_digs_1, e_Model_digs_2, e_Model_digs_3, e_Model_digs_5, e_Model_digs_6, e_Model_digs_9, e_Model_digs_12, e_Model_digs_13, e_Model_digs_17, e_Model_digs_18, e_Model_digs_21, e_Model_digs_22, e_Model_digs_25, e_Model_digs_26, e_Model_digs_29, e_Model_digs_30, e_Model_digs_33, e_Model_digs_34, e_Model_digs_35, e_Model_digs_37, e_Model_digs_38, e_Model_digs_41, e_Model_digs_42, e_Model_digs_43, e_Model_digs_45, e_Model_digs_47, e_Model_digs_48, e_Model_digs_51, e_Model_digs_52, e_Model_digs_53, e_Model_digs_54, e_Model_digs_56, e_Model_digs_57, e_Model_digs_58, e_Model_digs_60, e_Model_digs_61, e_Model_digs_63, e_Model_digs_66, e_Model_digs_67, e_Model_digs_70, e_Model_digs_71, e_Model_digs_72, e_Model_digs_73, e_Model_digs_74, e_Model_digs_76, e_Model_digs_77, e_Model_digs_78, e_Model_digs_81, e_Model_digs_84, e_Model_digs_87, e_Model_digs_90, e_Model_digs_91, kR_l, kR_r, kP_0, kP_i, kP_r, kP_n, kP_s, kP_o, kLen_I, kLen_L, kLen_R, kLdI_0, kLdI_1, kLdI_2, kLdI_3, kStI_0, kStI_1, kLdL_e, kStL_e, kLdR_e, kStR_e, kFld_e, kNth_0, kNth_s, kPut_e, fit_I, fit_Z, fit_B, fit_C, fit_A, fit_O, Option.toList_some, Option.toList_none, List.cons_append, List.nil_append, true_and, and_true, List.set_cons_zero, List.set_cons_succ, st_same, Int.toNat_natCast, Int.cast_ofNat_Int, Nat.zero_add, Nat.reduceAdd, kRcv_1, kRcv_2, kRcv_3, kRcv_0, kRcv_4, kRcv_5]
  have key := up (fun k => ∀ z4 z5, zI z4 → zI z5 → WP G k_Model_digs 4 [some (vR M), some (vR a), some (vI (dgK (A j) pl b k).2), some (vI (k : Nat)), z4, z5] [] (setMd σ M m (upA A j (dgK (A j) pl b k).1)) R) (n := N) ?_ ?_
  · have key' := key none none zI_n zI_n
    have e : upA A j (dgK (A j) pl b 0).1 = A := upA_self A j
    rw [e] at key'
    all_goals ((repeat' (first | with_reducible refine And.intro ?_ ?_ | intro _)) <;> first | with_reducible assumption | exact True.intro | exact key' | omega | (simp only [inR] at *; omega) | with_reducible rfl | rfl | (simp; done) | (exfalso; simp_all; done) | skip)
  · intro k hk ih z4 z5 hz4 hz5
    obtain ⟨p1, p2, p3⟩ := hpl k hk
    have inner := up (fun w => ∀ z5, zI z5 → WP G k_Model_digs 15 [some (vR M), some (vR a), some (vI (dgW (A j) pl b k w (dgK (A j) pl b k)).2), some (vI (k : Nat)), some (vI (w : Nat)), z5] [] (setMd σ M m (upA A j (dgW (A j) pl b k w (dgK (A j) pl b k)).1)) R) (n := b * b) ?_ ?_
    · have inner' := inner z5 hz5
      unfold dgW at inner'
      rw [e_Model_digs_4]
      rcases hz4 with rfl | ⟨w4, rfl⟩ <;> rcases hz5 with rfl | ⟨w5, rfl⟩ <;> simp only [e_Model_digs_0, e_Model_digs_1, e_Model_digs_2, e_Model_digs_3, e_Model_digs_5, e_Model_digs_6, e_Model_digs_9, e_Model_digs_12, e_Model_digs_13, e_Model_digs_17, e_Model_digs_18, e_Model_digs_21, e_Model_digs_22, e_Model_digs_25, e_Model_digs_26, e_Model_digs_29, e_Model_digs_30, e_Model_digs_33, e_Model_digs_34, e_Model_digs_35, e_Model_digs_37, e_Model_digs_38, e_Model_digs_41, e_Model_digs_42, e_Model_digs_43, e_Model_digs_45, e_Model_digs_47, e_Model_digs_48, e_Model_digs_51, e_Model_digs_52, e_Model_digs_53, e_Model_digs_54, e_Model_digs_56, e_Model_digs_57, e_Model_digs_58, e_Model_digs_60, e_Model_digs_61, e_Model_digs_63, e_Model_digs_66, e_Model_digs_67, e_Model_digs_70, e_Model_digs_71, e_Model_digs_72, e_Model_digs_73, e_Model_digs_74, e_Model_digs_76, e_Model_digs_77, e_Model_digs_78, e_Model_digs_81, e_Model_digs_84, e_Model_digs_87, e_Model_digs_90, e_Model_digs_91, kR_l, kR_r, kP_0, kP_i, kP_r, kP_n, kP_s, kP_o, kLen_I, kLen_L, kLen_R, kLdI_0, kLdI_1, kLdI_2, kLdI_3, kStI_0, kStI_1, kLdL_e, kStL_e, kLdR_e, kStR_e, kFld_e, kNth_0, kNth_s, kPut_e, fit_I, fit_Z, fit_B, fit_C, fit_A, fit_O, Option.toList_some, Option.toList_none, List.cons_append, List.nil_append, true_and, and_true, List.set_cons_zero, List.set_cons_succ, st_same, Int.toNat_natCast, Int.cast_ofNat_Int, Nat.zero_add, Nat.reduceAdd, kRcv_1, kRcv_2, kRcv_3, kRcv_0, kRcv_4, kRcv_5, setMd_set, Mdo, Mda1, Mdw1, Mda2, Mdw2, Mda3, Mdw3, Mda4, Mdw4, Mda5, Mdw5, Mda6, Mdw6, Mda7, Mdw7, Mda8, Mdw8, Mda9, Mdw9, Mda10, Mdw10, Mda11, Mdw11, Mdp3, Mdp5, Mdp6, Mdp7, Mdp8, Mdp10, Mdp16, Mdp17, Mdp18, h16]
      all_goals all_goals ((repeat' (first | with_reducible refine And.intro ?_ ?_ | intro _)) <;> first | with_reducible assumption | exact True.intro | exact inner' | omega | (simp only [inR] at *; omega) | with_reducible rfl | rfl | (simp; done) | (exfalso; simp_all; done) | skip)
    · intro w hw ihw z5 hz5
      have hdm := dm h1 w
      have hd2 : ((w / b : Nat) : Int) < b := Int.ofNat_lt.mpr (Nat.div_lt_of_lt_mul hw)
      have hsq : (A 10 k + ((w % b : Nat) : Int) + 16 * ((w / b : Nat) : Int)) = (sqW pl b k w : Nat) := by
        unfold sqW
        rw [p1]
        omega
      have hsq2 : sqW pl b k w < 192 := by omega
      have hv := dgW_OK (s := A j) (pl := pl) (b := b) (k := k) (dgK_OK (pl := pl) (b := b) hs k) w (sqW pl b k w)
      have ihw' := fun v => ihw (some (vI v)) (zI_s v)
      simp only [dgW] at ihw'
      generalize dgW (A j) pl b k w (dgK (A j) pl b k) = C at *
      rw [e_Model_digs_15]
      rcases hz5 with rfl | ⟨w5, rfl⟩ <;> simp (disch := first | assumption | omega | (unfold inR; omega)) only [e_Model_digs_0, e_Model_digs_1, e_Model_digs_2, e_Model_digs_3, e_Model_digs_5, e_Model_digs_6, e_Model_digs_9, e_Model_digs_12, e_Model_digs_13, e_Model_digs_17, e_Model_digs_18, e_Model_digs_21, e_Model_digs_22, e_Model_digs_25, e_Model_digs_26, e_Model_digs_29, e_Model_digs_30, e_Model_digs_33, e_Model_digs_34, e_Model_digs_35, e_Model_digs_37, e_Model_digs_38, e_Model_digs_41, e_Model_digs_42, e_Model_digs_43, e_Model_digs_45, e_Model_digs_47, e_Model_digs_48, e_Model_digs_51, e_Model_digs_52, e_Model_digs_53, e_Model_digs_54, e_Model_digs_56, e_Model_digs_57, e_Model_digs_58, e_Model_digs_60, e_Model_digs_61, e_Model_digs_63, e_Model_digs_66, e_Model_digs_67, e_Model_digs_70, e_Model_digs_71, e_Model_digs_72, e_Model_digs_73, e_Model_digs_74, e_Model_digs_76, e_Model_digs_77, e_Model_digs_78, e_Model_digs_81, e_Model_digs_84, e_Model_digs_87, e_Model_digs_90, e_Model_digs_91, kR_l, kR_r, kP_0, kP_i, kP_r, kP_n, kP_s, kP_o, kLen_I, kLen_L, kLen_R, kLdI_0, kLdI_1, kLdI_2, kLdI_3, kStI_0, kStI_1, kLdL_e, kStL_e, kLdR_e, kStR_e, kFld_e, kNth_0, kNth_s, kPut_e, fit_I, fit_Z, fit_B, fit_C, fit_A, fit_O, Option.toList_some, Option.toList_none, List.cons_append, List.nil_append, true_and, and_true, List.set_cons_zero, List.set_cons_succ, st_same, Int.toNat_natCast, Int.cast_ofNat_Int, Nat.zero_add, Nat.reduceAdd, kRcv_1, kRcv_2, kRcv_3, kRcv_0, kRcv_4, kRcv_5, setMd_set, Mdo, Mda1, Mdw1, Mda2, Mdw2, Mda3, Mdw3, Mda4, Mdw4, Mda5, Mdw5, Mda6, Mdw6, Mda7, Mdw7, Mda8, Mdw8, Mda9, Mdw9, Mda10, Mdw10, Mda11, Mdw11, Mdp3, Mdp5, Mdp6, Mdp7, Mdp8, Mdp10, Mdp16, Mdp17, Mdp18, hb, ← Int.natCast_emod, ← Int.natCast_ediv, ← Int.natCast_mul, r10, hrd, rj, hsq, hwr, upA_upA]
      all_goals by_cases c : C.1 (sqW pl b k w) = -2
      all_goals first | rw [b01_t c] at ihw' | rw [b01_f c] at ihw'
      all_goals all_goals ((repeat' (first | with_reducible refine And.intro ?_ ?_ | intro _)) <;> first | with_reducible assumption | exact True.intro | exact ihw' _ | omega | (simp only [inR] at *; omega) | with_reducible rfl | rfl | (simp; done) | (exfalso; simp_all; done) | skip)
    · intro z5 hz5
      have ih' := ih (some (vI ((b * b : Nat) : Int))) z5 (zI_s _) hz5
      rw [e_Model_digs_15]
      rcases hz5 with rfl | ⟨w5, rfl⟩ <;> simp only [e_Model_digs_0, e_Model_digs_1, e_Model_digs_2, e_Model_digs_3, e_Model_digs_5, e_Model_digs_6, e_Model_digs_9, e_Model_digs_12, e_Model_digs_13, e_Model_digs_17, e_Model_digs_18, e_Model_digs_21, e_Model_digs_22, e_Model_digs_25, e_Model_digs_26, e_Model_digs_29, e_Model_digs_30, e_Model_digs_33, e_Model_digs_34, e_Model_digs_35, e_Model_digs_37, e_Model_digs_38, e_Model_digs_41, e_Model_digs_42, e_Model_digs_43, e_Model_digs_45, e_Model_digs_47, e_Model_digs_48, e_Model_digs_51, e_Model_digs_52, e_Model_digs_53, e_Model_digs_54, e_Model_digs_56, e_Model_digs_57, e_Model_digs_58, e_Model_digs_60, e_Model_digs_61, e_Model_digs_63, e_Model_digs_66, e_Model_digs_67, e_Model_digs_70, e_Model_digs_71, e_Model_digs_72, e_Model_digs_73, e_Model_digs_74, e_Model_digs_76, e_Model_digs_77, e_Model_digs_78, e_Model_digs_81, e_Model_digs_84, e_Model_digs_87, e_Model_digs_90, e_Model_digs_91, kR_l, kR_r, kP_0, kP_i, kP_r, kP_n, kP_s, kP_o, kLen_I, kLen_L, kLen_R, kLdI_0, kLdI_1, kLdI_2, kLdI_3, kStI_0, kStI_1, kLdL_e, kStL_e, kLdR_e, kStR_e, kFld_e, kNth_0, kNth_s, kPut_e, fit_I, fit_Z, fit_B, fit_C, fit_A, fit_O, Option.toList_some, Option.toList_none, List.cons_append, List.nil_append, true_and, and_true, List.set_cons_zero, List.set_cons_succ, st_same, Int.toNat_natCast, Int.cast_ofNat_Int, Nat.zero_add, Nat.reduceAdd, kRcv_1, kRcv_2, kRcv_3, kRcv_0, kRcv_4, kRcv_5, setMd_set, Mdo, Mda1, Mdw1, Mda2, Mdw2, Mda3, Mdw3, Mda4, Mdw4, Mda5, Mdw5, Mda6, Mdw6, Mda7, Mdw7, Mda8, Mdw8, Mda9, Mdw9, Mda10, Mdw10, Mda11, Mdw11, Mdp3, Mdp5, Mdp6, Mdp7, Mdp8, Mdp10, Mdp16, Mdp17, Mdp18, hb, ← Int.natCast_mul]
      all_goals all_goals ((repeat' (first | with_reducible refine And.intro ?_ ?_ | intro _)) <;> first | with_reducible assumption | exact True.intro | exact ih' | omega | (simp only [inR] at *; omega) | with_reducible rfl | rfl | (simp; done) | (exfalso; simp_all; done) | skip)
  · intro z4 z5 hz4 hz5
    rw [e_Model_digs_4]
    rcases hz4 with rfl | ⟨w4, rfl⟩ <;> rcases hz5 with rfl | ⟨w5, rfl⟩ <;> simp only [e_Model_digs_0, e_Model_digs_1, e_Model_digs_2, e_Model_digs_3, e_Model_digs_5, e_Model_digs_6, e_Model_digs_9, e_Model_digs_12, e_Model_digs_13, e_Model_digs_17, e_Model_digs_18, e_Model_digs_21, e_Model_digs_22, e_Model_digs_25, e_Model_digs_26, e_Model_digs_29, e_Model_digs_30, e_Model_digs_33, e_Model_digs_34, e_Model_digs_35, e_Model_digs_37, e_Model_digs_38, e_Model_digs_41, e_Model_digs_42, e_Model_digs_43, e_Model_digs_45, e_Model_digs_47, e_Model_digs_48, e_Model_digs_51, e_Model_digs_52, e_Model_digs_53, e_Model_digs_54, e_Model_digs_56, e_Model_digs_57, e_Model_digs_58, e_Model_digs_60, e_Model_digs_61, e_Model_digs_63, e_Model_digs_66, e_Model_digs_67, e_Model_digs_70, e_Model_digs_71, e_Model_digs_72, e_Model_digs_73, e_Model_digs_74, e_Model_digs_76, e_Model_digs_77, e_Model_digs_78, e_Model_digs_81, e_Model_digs_84, e_Model_digs_87, e_Model_digs_90, e_Model_digs_91, kR_l, kR_r, kP_0, kP_i, kP_r, kP_n, kP_s, kP_o, kLen_I, kLen_L, kLen_R, kLdI_0, kLdI_1, kLdI_2, kLdI_3, kStI_0, kStI_1, kLdL_e, kStL_e, kLdR_e, kStR_e, kFld_e, kNth_0, kNth_s, kPut_e, fit_I, fit_Z, fit_B, fit_C, fit_A, fit_O, Option.toList_some, Option.toList_none, List.cons_append, List.nil_append, true_and, and_true, List.set_cons_zero, List.set_cons_succ, st_same, Int.toNat_natCast, Int.cast_ofNat_Int, Nat.zero_add, Nat.reduceAdd, kRcv_1, kRcv_2, kRcv_3, kRcv_0, kRcv_4, kRcv_5, setMd_set, Mdo, Mda1, Mdw1, Mda2, Mdw2, Mda3, Mdw3, Mda4, Mdw4, Mda5, Mdw5, Mda6, Mdw6, Mda7, Mdw7, Mda8, Mdw8, Mda9, Mdw9, Mda10, Mdw10, Mda11, Mdw11, Mdp3, Mdp5, Mdp6, Mdp7, Mdp8, Mdp10, Mdp16, Mdp17, Mdp18, h16]
    all_goals all_goals ((repeat' (first | with_reducible refine And.intro ?_ ?_ | intro _)) <;> first | with_reducible assumption | exact True.intro | omega | (simp only [inR] at *; omega) | with_reducible rfl | rfl | (simp; done) | (exfalso; simp_all; done) | skip)
def opW (s : Nat → Int) (one other : Nat) : Int := if isW s one other = 1 ∧ cW s one other = 0 then 1 else 0
theorem isW_bd (s : Nat → Int) (one other : Nat) : 0 ≤ isW s one other ∧ isW s one other ≤ 1 := by
  unfold isW
  split <;> omega
theorem cW_bd {s : Nat → Int} {one other : Nat} (hw : 0 ≤ wkM s one other ∧ wkM s one other ≤ 3) : 0 ≤ cW s one other ∧ cW s one other ≤ 1000 := by
  have hb := bdM_bd hw
  have hbd := bsM4_bd (s := s) (b := bdM s one other) hb.2 (one := (one : Nat)) (f := fW s one other) (rsM_bd hb.2 _ (fun k => ⟨Int.le_refl _, by decide⟩) (fun k => ⟨Int.le_refl _, by decide⟩)).1 192
  unfold cW bW
  omega
theorem s_isOpen {one other : Nat} (ha : SAt σ M A a s) (hs : SOK s) (hG : G 0 ≤ M) (ho : one < 6) (ho2 : other < 6) (hw : 0 ≤ wkM s one other ∧ wkM s one other ≤ 3) (hA : MdOK A)
    (hQ : ∀ A' : Nat → Nat → Int, MdOK A' → (∀ k, k ≠ 8 → k ≠ 9 → k ≠ 10 → A' k = A k) → (∀ k, k < nW s one other → A' 10 k = pW s one other k) → Q (.inl (some (vI (opW s one other)))) (setMd σ M (mW m s one other) A')) :
    CW G k_Model_isOpen [vR M, vR a, vI (one : Nat), vI (other : Nat)] (setMd σ M m A) Q := by
  have h1 := isW_bd s one other
  have h2 := cW_bd (s := s) hw
  simp only [c_Model_isOpen, e_Model_isOpen_0, e_Model_isOpen_1, e_Model_isOpen_2, e_Model_isOpen_3, e_Model_isOpen_4, e_Model_isOpen_7, e_Model_isOpen_10, e_Model_isOpen_11, e_Model_isOpen_14, e_Model_isOpen_17, e_Model_isOpen_18, e_Model_isOpen_21, e_Model_isOpen_22, kR_l, kR_r, kP_0, kP_i, kP_r, kP_n, kP_s, kP_o, kLen_I, kLen_L, kLen_R, kLdI_0, kLdI_1, kLdI_2, kLdI_3, kStI_0, kStI_1, kLdL_e, kStL_e, kLdR_e, kStR_e, kFld_e, kNth_0, kNth_s, kPut_e, fit_I, fit_Z, fit_B, fit_C, fit_A, fit_O, Option.toList_some, Option.toList_none, List.cons_append, List.nil_append, true_and, and_true, List.set_cons_zero, List.set_cons_succ, st_same, Int.toNat_natCast, Int.cast_ofNat_Int, Nat.zero_add, Nat.reduceAdd, kRcv_1, kRcv_2, kRcv_3, kRcv_0, kRcv_4, kRcv_5, setMd_set, Mdo, Mda1, Mdw1, Mda2, Mdw2, Mda3, Mdw3, Mda4, Mdw4, Mda5, Mdw5, Mda6, Mdw6, Mda7, Mdw7, Mda8, Mdw8, Mda9, Mdw9, Mda10, Mdw10, Mda11, Mdw11, Mdp3, Mdp5, Mdp6, Mdp7, Mdp8, Mdp10, Mdp16, Mdp17, Mdp18]
  refine s_isWay ha hs hG ho ho2 hw hA (fun A' k1 k2 k3 => ?_)
  have hq := hQ A' k1 k2 k3
  have e17 : mW m s one other 17 = cW s one other := rfl
  simp only [e_Model_isOpen_0, e_Model_isOpen_1, e_Model_isOpen_2, e_Model_isOpen_3, e_Model_isOpen_4, e_Model_isOpen_7, e_Model_isOpen_10, e_Model_isOpen_11, e_Model_isOpen_14, e_Model_isOpen_17, e_Model_isOpen_18, e_Model_isOpen_21, e_Model_isOpen_22, kR_l, kR_r, kP_0, kP_i, kP_r, kP_n, kP_s, kP_o, kLen_I, kLen_L, kLen_R, kLdI_0, kLdI_1, kLdI_2, kLdI_3, kStI_0, kStI_1, kLdL_e, kStL_e, kLdR_e, kStR_e, kFld_e, kNth_0, kNth_s, kPut_e, fit_I, fit_Z, fit_B, fit_C, fit_A, fit_O, Option.toList_some, Option.toList_none, List.cons_append, List.nil_append, true_and, and_true, List.set_cons_zero, List.set_cons_succ, st_same, Int.toNat_natCast, Int.cast_ofNat_Int, Nat.zero_add, Nat.reduceAdd, kRcv_1, kRcv_2, kRcv_3, kRcv_0, kRcv_4, kRcv_5, setMd_set, Mdo, Mda1, Mdw1, Mda2, Mdw2, Mda3, Mdw3, Mda4, Mdw4, Mda5, Mdw5, Mda6, Mdw6, Mda7, Mdw7, Mda8, Mdw8, Mda9, Mdw9, Mda10, Mdw10, Mda11, Mdw11, Mdp3, Mdp5, Mdp6, Mdp7, Mdp8, Mdp10, Mdp16, Mdp17, Mdp18, e17]
  unfold opW at hq
  by_cases c : isW s one other = 1 ∧ cW s one other = 0
  · rw [if_pos c] at hq
    all_goals ((repeat' (first | with_reducible refine And.intro ?_ ?_ | intro _)) <;> first | with_reducible assumption | exact True.intro | exact hq | omega | (simp only [inR] at *; omega) | with_reducible rfl | rfl | (simp; done) | (exfalso; simp_all; done) | skip)
  · rw [if_neg c] at hq
    all_goals ((repeat' (first | with_reducible refine And.intro ?_ ?_ | intro _)) <;> first | with_reducible assumption | exact True.intro | exact hq | omega | (simp only [inR] at *; omega) | with_reducible rfl | rfl | (simp; done) | (exfalso; simp_all; done) | skip)
end DIG

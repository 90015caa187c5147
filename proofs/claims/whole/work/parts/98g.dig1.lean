/-! THE HASH OF THE WHOLE STATE: as both fold it; the class's -/
def mx (h : Int64) (v : Int) : Int64 := 31 * h + (Int32.ofInt v).toInt64
def fo (g : Nat → Int64 → Int64) : Nat → Int64 → Int64
  | 0, h => h
  | k + 1, h => g k (fo g k h)
theorem fo_s (g : Nat → Int64 → Int64) (k : Nat) (h : Int64) : fo g (k + 1) h = g k (fo g k h) := rfl
def sqD (s : Nat → Int) (k : Nat) (h : Int64) : Int64 := if s k = -1 then mx (mx h (s k)) (sdM s ((k % 16 : Nat) : Int) ((k / 16 : Nat) : Int)) else mx h (s k)
def rmD (s : Nat → Int) (far k : Nat) (h : Int64) : Int64 := if thM s (k : Nat) = 1 then fo (fun w h => mx h (orM s far k w)) 8 (mx h (k : Nat)) else h
def wyD (s : Nat → Int) (k : Nat) (h : Int64) : Int64 := if k / 6 < k % 6 ∧ thM s ((k / 6 : Nat) : Int) = 1 ∧ thM s ((k % 6 : Nat) : Int) = 1 then fo (fun w h => mx h (owM s (k / 6) (k % 6) w)) 5 h else h
def lowM (s : Nat → Int) : Int := firstB (fun r => thM s r) 6 0
def digA (s : Nat → Int) (far kp : Nat) (k : Nat) : Int64 := fo (fun w h => mx h (cnM s far kp w)) k 2857
def digB (s : Nat → Int) (far : Nat) (h : Int64) : Int64 := fo (wyD s) 36 (fo (rmD s far) 6 (fo (sqD s) 192 (mx h (s 252))))
def digC (s : Nat → Int) (far : Nat) (k : Nat) (h : Int64) : Int64 := fo (fun w h => mx h (dgbM s far 104 w)) k h
def digD (s : Nat → Int) (h : Int64) : Int64 := if lowM s = -1 then h else mx h (prM (gvS s (lowM s).toNat) 2)
def digE (s : Nat → Int) (n : Nat) (t : Nat → Int) (h : Int64) : Int64 := fo (fun k h => mx h (t k)) n (mx (31 * mx h (caM 16 s).2.1 + (shM s).toInt64) (n : Nat))
def digM (s : Nat → Int) (far kp n : Nat) (t : Nat → Int) : Int64 := digE s n t (digD s (digC s far 3 (digB s far (digA s far kp 9))))
theorem digA_0 (s : Nat → Int) (far kp : Nat) : digA s far kp 0 = 2857 := rfl
theorem digA_s (s : Nat → Int) (far kp k : Nat) : digA s far kp (k + 1) = mx (digA s far kp k) (cnM s far kp k) := rfl
theorem digC_0 (s : Nat → Int) (far : Nat) (h : Int64) : digC s far 0 h = h := rfl
theorem digC_s (s : Nat → Int) (far k : Nat) (h : Int64) : digC s far (k + 1) h = mx (digC s far k h) (dgbM s far 104 k) := rfl
theorem low_eq (s : Nat → Int) : firstB (fun r => hasB (pG s) r) 6 0 = lowM s := by
  unfold lowM
  have key : ∀ m i, firstB (fun r => hasB (pG s) r) m i = firstB (fun r => thM s r) m i := by
    intro m
    induction m with
    | zero => intro i; rfl
    | succ m ih => intro i; rw [firstB, firstB, hasB_th, ih]
  exact key 6 0
theorem low_th {s : Nat → Int} {r : Nat} (h : lowM s = (r : Nat)) : r < 6 ∧ thM s (r : Nat) = 1 := by
  have key : ∀ m i, firstB (fun r => thM s r) m i = (r : Nat) → r < i + m ∧ thM s (r : Nat) = 1 := by
    intro m
    induction m with
    | zero =>
      intro i h
      have h' : (-1 : Int) = (r : Nat) := h
      omega
    | succ m ih =>
      intro i h
      rw [firstB] at h
      by_cases c : thM s (i : Nat) = 1
      · rw [if_pos c] at h
        have e : i = r := by omega
        subst e
        exact ⟨by omega, c⟩
      · rw [if_neg c] at h
        have := ih (i + 1) h
        exact ⟨by omega, this.2⟩
  have := key 6 0 h
  exact ⟨by omega, this.2⟩
def bosL : Nat → UInt64 → Int64 → Option (UInt64 × Int64)
  | 0, _, _ => none
  | f + 1, x, e => if 0 ≤ (Op.cmpValue (FP.dcmp x 4607182418800017408) .g).toInt then some (x, e) else if (lg_cmp e 1).toInt ≤ 0 then some (x, e) else if am_notNaN (FP.dmul x 4611686018427387904) = true then bosL f (FP.dmul x 4611686018427387904) (e - 1) else none
def bosF (x y : UInt64) (e : Int64) : Bool := am_notNaN (FP.dsub y 4607182418800017408) && am_notNaN (FP.dmul (FP.dsub y 4607182418800017408) 4841369599423283200) && decide ((e <<< ((Int32.ofInt 52).toInt64 &&& 63)) + FP.d2l (FP.dmul (FP.dsub y 4607182418800017408) 4841369599423283200) = x.toInt64)
def bosOK (x : UInt64) : Bool := decide ((Op.cmpValue (FP.dcmp x x) .l).toInt = 0) && (if 0 < (Op.cmpValue (FP.dcmp x 0) .g).toInt then (match bosL 8 x 1023 with
  | some (y, e) => bosF x y e
  | none => false) else decide ((0 : Int64) = x.toInt64))
theorem bos_1 : bosOK 4607182418800017408 = true := by decide +kernel
theorem bos_all : ∀ n, n < 16 → ∀ k, k < 16 → 1 ≤ n → k ≤ n → bosOK (FP.ddiv (FP.i2d (Int32.ofInt ((k : Nat) : Int))) (FP.i2d (Int32.ofInt ((n : Nat) : Int)))) = true := by decide +kernel
theorem sh_bos {s : Nat → Int} (hw : WkOK s) : bosOK (shM s) = true := by
  have b0 := prM_bd hw 0 (Or.inl rfl)
  have b1 := prM_bd hw 1 (Or.inr rfl)
  have bl := prM_le hw
  unfold shM
  by_cases c : prM s 0 = 0
  · rw [if_pos c]
    exact bos_1
  · rw [if_neg c]
    have := bos_all (prM s 0).toNat (by omega) (prM s 0 - prM s 1).toNat (by omega) (by omega) (by omega)
    rw [show (((prM s 0).toNat : Nat) : Int) = prM s 0 by omega, show (((prM s 0 - prM s 1).toNat : Nat) : Int) = prM s 0 - prM s 1 by omega] at this
    exact this
theorem i32R (x : Int32) : inR x.toInt := by
  have h1 := Int32.le_toInt x
  have h2 := Int32.toInt_lt x
  unfold inR
  omega
section BOS
variable {G : Nat → Nat} {σ : AS} {Q : (Option AV ⊕ Nat) → AS → Prop}
theorem s_mix (h v : Int64) : CW G k_Cp_mix [vL h, vL v] σ Q = Q (.inl (some (vL (31 * h + v)))) σ := by
  simp only [c_Cp_mix, e_Cp_mix_0, e_Cp_mix_3, e_Cp_mix_4, e_Cp_mix_5, e_Cp_mix_6, e_Cp_mix_7, kR_l, kR_r, kP_0, kP_i, kP_r, kP_n, kP_s, kP_o, kLen_I, kLen_L, kLen_R, kLdI_0, kLdI_1, kLdI_2, kLdI_3, kStI_0, kStI_1, kLdL_e, kStL_e, kLdR_e, kStR_e, kFld_e, kNth_0, kNth_s, kPut_e, fit_I, fit_Z, fit_B, fit_C, fit_A, fit_O, Option.toList_some, Option.toList_none, List.cons_append, List.nil_append, true_and, and_true, List.set_cons_zero, List.set_cons_succ, st_same, Int.toNat_natCast, Int.cast_ofNat_Int, Nat.zero_add, Nat.reduceAdd, kRcv_1, kRcv_2, kRcv_3, kRcv_0, kRcv_4, kRcv_5]
theorem s_mixI (h : Int64) (v : Int) : CW G k_Cp_mix [vL h, vL (Int32.ofInt v).toInt64] σ Q = Q (.inl (some (vL (mx h v)))) σ := s_mix h _
theorem bos_loop {x : UInt64} (hR : Q (.inl (some (vL x.toInt64))) σ) : ∀ (f : Nat) (y : UInt64) (e : Int64) (y' : UInt64) (e' : Int64), bosL f y e = some (y', e') → bosF x y' e' = true → WP G k_Cp_bitsOfShare 15 [some (vD x), none, some (vD y), none, some (vL e), none] [] σ Q := by
  intro f
  induction f with
  | zero =>
    intro y e y' e' h
    cases h
  | succ f ih =>
    intro y e y' e' h hF
    have fin : bosF x y e = true → WP G k_Cp_bitsOfShare 43 [some (vD x), none, some (vD y), none, some (vL e), none] [] σ Q := by
      intro hF
      unfold bosF at hF
      rw [Bool.and_eq_true, Bool.and_eq_true] at hF
      obtain ⟨⟨h1, h2⟩, h3⟩ := hF
      have h3' := of_decide_eq_true h3
      rw [← h3'] at hR
      simp only [e_Cp_bitsOfShare_43, e_Cp_bitsOfShare_45, e_Cp_bitsOfShare_47, e_Cp_bitsOfShare_48, e_Cp_bitsOfShare_49, e_Cp_bitsOfShare_50, e_Cp_bitsOfShare_51, e_Cp_bitsOfShare_54, e_Cp_bitsOfShare_55, e_Cp_bitsOfShare_56, e_Cp_bitsOfShare_57, kR_l, kR_r, kP_0, kP_i, kP_r, kP_n, kP_s, kP_o, kLen_I, kLen_L, kLen_R, kLdI_0, kLdI_1, kLdI_2, kLdI_3, kStI_0, kStI_1, kLdL_e, kStL_e, kLdR_e, kStR_e, kFld_e, kNth_0, kNth_s, kPut_e, fit_I, fit_Z, fit_B, fit_C, fit_A, fit_O, Option.toList_some, Option.toList_none, List.cons_append, List.nil_append, true_and, and_true, List.set_cons_zero, List.set_cons_succ, st_same, Int.toNat_natCast, Int.cast_ofNat_Int, Nat.zero_add, Nat.reduceAdd, kRcv_1, kRcv_2, kRcv_3, kRcv_0, kRcv_4, kRcv_5, h1, h2]
      exact hR
    unfold bosL at h
    rw [e_Cp_bitsOfShare_15]
    simp only [e_Cp_bitsOfShare_16, e_Cp_bitsOfShare_17, e_Cp_bitsOfShare_18, kR_l, kR_r, kP_0, kP_i, kP_r, kP_n, kP_s, kP_o, kLen_I, kLen_L, kLen_R, kLdI_0, kLdI_1, kLdI_2, kLdI_3, kStI_0, kStI_1, kLdL_e, kStL_e, kLdR_e, kStR_e, kFld_e, kNth_0, kNth_s, kPut_e, fit_I, fit_Z, fit_B, fit_C, fit_A, fit_O, Option.toList_some, Option.toList_none, List.cons_append, List.nil_append, true_and, and_true, List.set_cons_zero, List.set_cons_succ, st_same, Int.toNat_natCast, Int.cast_ofNat_Int, Nat.zero_add, Nat.reduceAdd, kRcv_1, kRcv_2, kRcv_3, kRcv_0, kRcv_4, kRcv_5]
    refine ⟨i32R _, fun c => ?_, fun c => ?_⟩
    · rw [if_pos c] at h
      cases h
      exact fin hF
    · rw [if_neg c] at h
      simp only [e_Cp_bitsOfShare_21, e_Cp_bitsOfShare_23, e_Cp_bitsOfShare_24, e_Cp_bitsOfShare_25, kR_l, kR_r, kP_0, kP_i, kP_r, kP_n, kP_s, kP_o, kLen_I, kLen_L, kLen_R, kLdI_0, kLdI_1, kLdI_2, kLdI_3, kStI_0, kStI_1, kLdL_e, kStL_e, kLdR_e, kStR_e, kFld_e, kNth_0, kNth_s, kPut_e, fit_I, fit_Z, fit_B, fit_C, fit_A, fit_O, Option.toList_some, Option.toList_none, List.cons_append, List.nil_append, true_and, and_true, List.set_cons_zero, List.set_cons_succ, st_same, Int.toNat_natCast, Int.cast_ofNat_Int, Nat.zero_add, Nat.reduceAdd, kRcv_1, kRcv_2, kRcv_3, kRcv_0, kRcv_4, kRcv_5]
      refine ⟨i32R _, fun c2 => ?_, fun c2 => ?_⟩
      · rw [if_pos c2] at h
        cases h
        exact fin hF
      · rw [if_neg c2] at h
        split at h
        · rename_i c3
          simp only [e_Cp_bitsOfShare_28, e_Cp_bitsOfShare_29, e_Cp_bitsOfShare_32, e_Cp_bitsOfShare_33, e_Cp_bitsOfShare_34, e_Cp_bitsOfShare_36, e_Cp_bitsOfShare_37, e_Cp_bitsOfShare_38, e_Cp_bitsOfShare_40, kR_l, kR_r, kP_0, kP_i, kP_r, kP_n, kP_s, kP_o, kLen_I, kLen_L, kLen_R, kLdI_0, kLdI_1, kLdI_2, kLdI_3, kStI_0, kStI_1, kLdL_e, kStL_e, kLdR_e, kStR_e, kFld_e, kNth_0, kNth_s, kPut_e, fit_I, fit_Z, fit_B, fit_C, fit_A, fit_O, Option.toList_some, Option.toList_none, List.cons_append, List.nil_append, true_and, and_true, List.set_cons_zero, List.set_cons_succ, st_same, Int.toNat_natCast, Int.cast_ofNat_Int, Nat.zero_add, Nat.reduceAdd, kRcv_1, kRcv_2, kRcv_3, kRcv_0, kRcv_4, kRcv_5, c3]
          exact ih _ _ _ _ h hF
        · cases h
theorem s_bits {x : UInt64} (h : bosOK x = true) : CW G k_Cp_bitsOfShare [vD x] σ Q = Q (.inl (some (vL x.toInt64))) σ := by
  refine CW.det' fun R hR => ?_
  unfold bosOK at h
  rw [Bool.and_eq_true] at h
  have h2 := h.2
  simp only [c_Cp_bitsOfShare, e_Cp_bitsOfShare_0, e_Cp_bitsOfShare_1, e_Cp_bitsOfShare_2, e_Cp_bitsOfShare_3, kR_l, kR_r, kP_0, kP_i, kP_r, kP_n, kP_s, kP_o, kLen_I, kLen_L, kLen_R, kLdI_0, kLdI_1, kLdI_2, kLdI_3, kStI_0, kStI_1, kLdL_e, kStL_e, kLdR_e, kStR_e, kFld_e, kNth_0, kNth_s, kPut_e, fit_I, fit_Z, fit_B, fit_C, fit_A, fit_O, Option.toList_some, Option.toList_none, List.cons_append, List.nil_append, true_and, and_true, List.set_cons_zero, List.set_cons_succ, st_same, Int.toNat_natCast, Int.cast_ofNat_Int, Nat.zero_add, Nat.reduceAdd, kRcv_1, kRcv_2, kRcv_3, kRcv_0, kRcv_4, kRcv_5]
  refine ⟨i32R _, fun c => ?_, fun c => ?_⟩
  · rw [if_pos c] at h2
    simp only [e_Cp_bitsOfShare_8, e_Cp_bitsOfShare_9, e_Cp_bitsOfShare_10, e_Cp_bitsOfShare_13, kR_l, kR_r, kP_0, kP_i, kP_r, kP_n, kP_s, kP_o, kLen_I, kLen_L, kLen_R, kLdI_0, kLdI_1, kLdI_2, kLdI_3, kStI_0, kStI_1, kLdL_e, kStL_e, kLdR_e, kStR_e, kFld_e, kNth_0, kNth_s, kPut_e, fit_I, fit_Z, fit_B, fit_C, fit_A, fit_O, Option.toList_some, Option.toList_none, List.cons_append, List.nil_append, true_and, and_true, List.set_cons_zero, List.set_cons_succ, st_same, Int.toNat_natCast, Int.cast_ofNat_Int, Nat.zero_add, Nat.reduceAdd, kRcv_1, kRcv_2, kRcv_3, kRcv_0, kRcv_4, kRcv_5]
    split at h2
    · rename_i y e hL
      exact bos_loop hR 8 x 1023 y e hL h2
    · cases h2
  · rw [if_neg c] at h2
    have h3 := of_decide_eq_true h2
    rw [← h3] at hR
    simp only [e_Cp_bitsOfShare_6, e_Cp_bitsOfShare_7, kR_l, kR_r, kP_0, kP_i, kP_r, kP_n, kP_s, kP_o, kLen_I, kLen_L, kLen_R, kLdI_0, kLdI_1, kLdI_2, kLdI_3, kStI_0, kStI_1, kLdL_e, kStL_e, kLdR_e, kStR_e, kFld_e, kNth_0, kNth_s, kPut_e, fit_I, fit_Z, fit_B, fit_C, fit_A, fit_O, Option.toList_some, Option.toList_none, List.cons_append, List.nil_append, true_and, and_true, List.set_cons_zero, List.set_cons_succ, st_same, Int.toNat_natCast, Int.cast_ofNat_Int, Nat.zero_add, Nat.reduceAdd, kRcv_1, kRcv_2, kRcv_3, kRcv_0, kRcv_4, kRcv_5]
    exact hR
theorem s_dtl {x : UInt64} (h : bosOK x = true) : CW G k_Double_doubleToLongBits [vD x] σ Q = Q (.inl (some (vL x.toInt64))) σ := by
  refine CW.det' fun R hR => ?_
  unfold bosOK at h
  rw [Bool.and_eq_true] at h
  have h1 := of_decide_eq_true h.1
  simp only [c_Double_doubleToLongBits, e_Double_doubleToLongBits_0, e_Double_doubleToLongBits_1, kR_l, kR_r, kP_0, kP_i, kP_r, kP_n, kP_s, kP_o, kLen_I, kLen_L, kLen_R, kLdI_0, kLdI_1, kLdI_2, kLdI_3, kStI_0, kStI_1, kLdL_e, kStL_e, kLdR_e, kStR_e, kFld_e, kNth_0, kNth_s, kPut_e, fit_I, fit_Z, fit_B, fit_C, fit_A, fit_O, Option.toList_some, Option.toList_none, List.cons_append, List.nil_append, true_and, and_true, List.set_cons_zero, List.set_cons_succ, st_same, Int.toNat_natCast, Int.cast_ofNat_Int, Nat.zero_add, Nat.reduceAdd, kRcv_1, kRcv_2, kRcv_3, kRcv_0, kRcv_4, kRcv_5, c_Double_isNaN, e_Double_isNaN_0, e_Double_isNaN_1, e_Double_isNaN_2, e_Double_isNaN_3, e_Double_isNaN_6, e_Double_isNaN_7, e_Double_isNaN_10, e_Double_isNaN_11, h1]
  refine ⟨by unfold inR; omega, fun _ => ⟨Or.inl trivial, ?_⟩, fun z => absurd trivial z⟩
  simp only [e_Double_doubleToLongBits_4, e_Double_doubleToLongBits_7, e_Double_doubleToLongBits_8, e_Double_doubleToLongBits_11, kR_l, kR_r, kP_0, kP_i, kP_r, kP_n, kP_s, kP_o, kLen_I, kLen_L, kLen_R, kLdI_0, kLdI_1, kLdI_2, kLdI_3, kStI_0, kStI_1, kLdL_e, kStL_e, kLdR_e, kStR_e, kFld_e, kNth_0, kNth_s, kPut_e, fit_I, fit_Z, fit_B, fit_C, fit_A, fit_O, Option.toList_some, Option.toList_none, List.cons_append, List.nil_append, true_and, and_true, List.set_cons_zero, List.set_cons_succ, st_same, Int.toNat_natCast, Int.cast_ofNat_Int, Nat.zero_add, Nat.reduceAdd, kRcv_1, kRcv_2, kRcv_3, kRcv_0, kRcv_4, kRcv_5]
  all_goals ((repeat' (first | with_reducible refine And.intro ?_ ?_ | intro _)) <;> first | with_reducible assumption | exact True.intro | with_reducible exact hR | omega | (simp only [inR] at *; omega) | exact hR | with_reducible rfl | rfl | (simp; done) | (exfalso; simp_all; done) | skip)
end BOS

/-! THE REFERENCE: the least way -/
def SAt (σ : AS) (M : Nat) (A : Nat → Nat → Int) (a : Nat) (s : Nat → Int) : Prop := ∀ (m : Nat → Int) (A' : Nat → Nat → Int), A' 1 = A 1 → A' 2 = A 2 → (setMd σ M m A').1 a = some (oI 0 253 s)
theorem SAt1 (σ : AS) (M : Nat) (A : Nat → Nat → Int) : SAt σ M A (M + 1) (A 1) := fun m A' h1 _ => by rw [Mda1, h1]
theorem SAt2 (σ : AS) (M : Nat) (A : Nat → Nat → Int) : SAt σ M A (M + 2) (A 2) := fun m A' _ h2 => by rw [Mda2, h2]
def folM (s : Nat → Int) (b : Nat) (f : Nat → Int) (p : Nat) : Nat → Int
  | 0 => -1
  | d + 1 => if nxM s b p d ≠ -1 ∧ f (nxM s b p d).toNat + 1 + 1000 * rk1 s b (nxM s b p d).toNat p = f p then (if folM s b f p d = -1 ∨ nxM s b p d < folM s b f p d then nxM s b p d else folM s b f p d) else folM s b f p d
theorem folM_bd (s : Nat → Int) {b : Nat} (hb : 1 ≤ b) (f : Nat → Int) (p : Nat) : ∀ d, -1 ≤ folM s b f p d ∧ folM s b f p d < 192
  | 0 => by simp [folM]
  | d + 1 => by
    have ih := folM_bd s hb f p d
    have := nxM_bd s hb p d
    unfold folM
    split
    · split <;> omega
    · exact ih
def bsM4 (s : Nat → Int) (b : Nat) (one : Int) (f : Nat → Int) : Nat → Int × Int
  | 0 => (-1, 1000000)
  | p + 1 => if f p < 1000000 ∧ atB s b p one = 1 ∧ f p + 1000 * rk0 s b p < (bsM4 s b one f p).2 then ((p : Int), f p + 1000 * rk0 s b p) else bsM4 s b one f p
theorem bsM4_bd {s : Nat → Int} {b : Nat} (hb : b ≤ 3) {one : Int} {f : Nat → Int} (hf : RB f) : ∀ n, -1 ≤ (bsM4 s b one f n).1 ∧ (bsM4 s b one f n).1 < n ∧ 0 ≤ (bsM4 s b one f n).2 ∧ (bsM4 s b one f n).2 ≤ 1000000
  | 0 => by simp [bsM4]
  | n + 1 => by
    have ih := bsM4_bd (s := s) hb (one := one) hf n
    have h1 := hf n
    have h2 := rk0_bd s hb n
    unfold bsM4
    split
    · refine ⟨by show (-1 : Int) ≤ (n : Nat); omega, by show ((n : Nat) : Int) < ((n + 1 : Nat) : Int); omega, by show 0 ≤ f n + 1000 * rk0 s b n; omega, ?_⟩
      show f n + 1000 * rk0 s b n ≤ 1000000
      omega
    · omega
def ptM (s : Nat → Int) (b : Nat) (f : Nat → Int) (p0 : Int) : Nat → Int
  | 0 => p0
  | k + 1 => folM s b f (ptM s b f p0 k).toNat 4
/-- each rest ends -/
def PF (s : Nat → Int) (b : Nat) (f : Nat → Int) : Prop := ∀ p, p < 192 → f p < 1000000 → 1 ≤ f p % 1000 ∧ f p % 1000 ≤ 192 ∧ (f p % 1000 ≠ 1 → folM s b f p 4 ≠ -1 ∧ f (folM s b f p 4).toNat % 1000 = f p % 1000 - 1 ∧ f (folM s b f p 4).toNat < 1000000)
def bdM (s : Nat → Int) (one other : Nat) : Nat := if wkM s one other = 0 then 1 else (wkM s one other).toNat
theorem upI_upI (f : Nat → Int) (k : Nat) (v w : Int) : upI (upI f k v) k w = upI f k w := by
  funext j
  simp only [upI_at]
  split <;> rfl
theorem upA_upA (A : Nat → Nat → Int) (k : Nat) (f g : Nat → Int) : upA (upA A k f) k g = upA A k g := by
  funext j
  simp only [upA_at]
  split <;> rfl
/-- the rests of a way -/
def rsM (s : Nat → Int) (b : Nat) (r : Int) (A8 A9 : Nat → Int) : (Nat → Int) × (Nat → Int) := dij s b 193 (fun k => if k < 192 then 0 else A9 k) (fun k => if k < 192 then ry0 s b r k else A8 k)
theorem dij_bd {s : Nat → Int} {b : Nat} (hb : b ≤ 3) : ∀ n t f, RB f → TB t → RB (dij s b n t f).2 ∧ TB (dij s b n t f).1
  | 0, t, f, hf, ht => ⟨hf, ht⟩
  | n + 1, t, f, hf, ht => by
    unfold dij
    split
    · exact ⟨hf, ht⟩
    · exact dij_bd hb n _ _ (rlx_RB hb _ hf 4) (ht.up _)
theorem rsM_bd {s : Nat → Int} {b : Nat} (hb : b ≤ 3) (r : Int) {A8 A9 : Nat → Int} (hf : RB A8) (ht : TB A9) : RB (rsM s b r A8 A9).2 ∧ TB (rsM s b r A8 A9).1 := by
  refine dij_bd hb _ _ _ (fun k => ?_) (fun k => ?_)
  · have := hf k
    show 0 ≤ (if k < 192 then ry0 s b r k else A8 k) ∧ (if k < 192 then ry0 s b r k else A8 k) ≤ 1000000
    unfold ry0
    split
    · split <;> omega
    · exact this
  · have := ht k
    show 0 ≤ (if k < 192 then 0 else A9 k) ∧ (if k < 192 then 0 else A9 k) ≤ 1
    split <;> omega
section MD4
variable {G : Nat → Nat} {σ : AS} {Q : (Option AV ⊕ Nat) → AS → Prop} {M a b : Nat} {m : Nat → Int} {A : Nat → Nat → Int} {s : Nat → Int}
theorem s_Model_follower {p : Nat} (ha : (setMd σ M m A).1 a = some (oI 0 253 s)) (hs : SOK s) (hb : m 18 = (b : Nat)) (h1 : 1 ≤ b) (h3 : b ≤ 3) (hA6 : A 6 = axM) (hA7 : A 7 = ayM) (hf : RB (A 8)) (hp : p < 192) : CW G k_Model_follower [vR M, vR a, vI (p : Nat)] (setMd σ M m A) Q = Q (.inl (some (vI (folM s b (A 8) p 4)))) (setMd σ M m A) := by
  refine CW.det' fun R hR => ?_
  simp only [c_Model_follower, e_Model_follower_0, e_Model_follower_1, e_Model_follower_2, e_Model_follower_3, e_Model_follower_7, e_Model_follower_8, e_Model_follower_11, e_Model_follower_12, e_Model_follower_13, e_Model_follower_14, e_Model_follower_16, e_Model_follower_19, e_Model_follower_21, e_Model_follower_23, e_Model_follower_24, e_Model_follower_27, e_Model_follower_28, e_Model_follower_31, e_Model_follower_33, e_Model_follower_34, e_Model_follower_35, e_Model_follower_36, e_Model_follower_39, e_Model_follower_40, e_Model_follower_41, e_Model_follower_43, e_Model_follower_44, e_Model_follower_47, e_Model_follower_48, e_Model_follower_49, e_Model_follower_50, e_Model_follower_53, e_Model_follower_54, e_Model_follower_55, e_Model_follower_58, e_Model_follower_59, e_Model_follower_60, e_Model_follower_63, e_Model_follower_65, e_Model_follower_66, e_Model_follower_69, e_Model_follower_71, e_Model_follower_74, e_Model_follower_75, e_Model_follower_76, e_Model_follower_79, e_Model_follower_82, e_Model_follower_83, kR_l, kR_r, kP_0, kP_i, kP_r, kP_n, kP_s, kP_o, kLen_I, kLen_L, kLen_R, kLdI_0, kLdI_1, kLdI_2, kLdI_3, kStI_0, kStI_1, kLdL_e, kStL_e, kLdR_e, kStR_e, kFld_e, kNth_0, kNth_s, kPut_e, fit_I, fit_Z, fit_B, fit_C, fit_A, fit_O, Option.toList_some, Option.toList_none, List.cons_append, List.nil_append, true_and, and_true, List.set_cons_zero, List.set_cons_succ, st_same, Int.toNat_natCast, Int.cast_ofNat_Int, Nat.zero_add, Nat.reduceAdd, kRcv_1, kRcv_2, kRcv_3, kRcv_0, kRcv_4, kRcv_5]
  refine up (fun d => ∀ z, zI z → WP G k_Model_follower 5 [some (vR M), some (vR a), some (vI (p : Nat)), some (vI (folM s b (A 8) p d)), some (vI (d : Nat)), z] [] (setMd σ M m A) R) (n := 4) ?_ ?_ none zI_n
  · intro d hd ih z hz
    have b0 := nxM_bd s h1 p d
    have b1 := folM_bd s h1 (A 8) p d
    have b2 := hf p
    have b3 := hf (nxM s b p d).toNat
    have b4 := rk1_bd s h3 (nxM s b p d).toNat p
    unfold folM at ih
    by_cases c1 : nxM s b p d = -1
    · rw [if_neg (fun z => z.1 c1)] at ih
      rw [e_Model_follower_5]
      rcases hz with rfl | ⟨w, rfl⟩ <;> simp only [e_Model_follower_0, e_Model_follower_1, e_Model_follower_2, e_Model_follower_3, e_Model_follower_7, e_Model_follower_8, e_Model_follower_11, e_Model_follower_12, e_Model_follower_13, e_Model_follower_14, e_Model_follower_16, e_Model_follower_19, e_Model_follower_21, e_Model_follower_23, e_Model_follower_24, e_Model_follower_27, e_Model_follower_28, e_Model_follower_31, e_Model_follower_33, e_Model_follower_34, e_Model_follower_35, e_Model_follower_36, e_Model_follower_39, e_Model_follower_40, e_Model_follower_41, e_Model_follower_43, e_Model_follower_44, e_Model_follower_47, e_Model_follower_48, e_Model_follower_49, e_Model_follower_50, e_Model_follower_53, e_Model_follower_54, e_Model_follower_55, e_Model_follower_58, e_Model_follower_59, e_Model_follower_60, e_Model_follower_63, e_Model_follower_65, e_Model_follower_66, e_Model_follower_69, e_Model_follower_71, e_Model_follower_74, e_Model_follower_75, e_Model_follower_76, e_Model_follower_79, e_Model_follower_82, e_Model_follower_83, kR_l, kR_r, kP_0, kP_i, kP_r, kP_n, kP_s, kP_o, kLen_I, kLen_L, kLen_R, kLdI_0, kLdI_1, kLdI_2, kLdI_3, kStI_0, kStI_1, kLdL_e, kStL_e, kLdR_e, kStR_e, kFld_e, kNth_0, kNth_s, kPut_e, fit_I, fit_Z, fit_B, fit_C, fit_A, fit_O, Option.toList_some, Option.toList_none, List.cons_append, List.nil_append, true_and, and_true, List.set_cons_zero, List.set_cons_succ, st_same, Int.toNat_natCast, Int.cast_ofNat_Int, Nat.zero_add, Nat.reduceAdd, kRcv_1, kRcv_2, kRcv_3, kRcv_0, kRcv_4, kRcv_5, setMd_set, Mdo, Mda1, Mdw1, Mda2, Mdw2, Mda3, Mdw3, Mda4, Mdw4, Mda5, Mdw5, Mda6, Mdw6, Mda7, Mdw7, Mda8, Mdw8, Mda9, Mdw9, Mda10, Mdw10, Mda11, Mdw11, Mdp3, Mdp5, Mdp6, Mdp7, Mdp8, Mdp10, Mdp16, Mdp17, Mdp18]
      all_goals rw [s_Model_next ha hs hb h1 h3 hA6 hA7 hp hd]
      all_goals simp only [e_Model_follower_0, e_Model_follower_1, e_Model_follower_2, e_Model_follower_3, e_Model_follower_7, e_Model_follower_8, e_Model_follower_11, e_Model_follower_12, e_Model_follower_13, e_Model_follower_14, e_Model_follower_16, e_Model_follower_19, e_Model_follower_21, e_Model_follower_23, e_Model_follower_24, e_Model_follower_27, e_Model_follower_28, e_Model_follower_31, e_Model_follower_33, e_Model_follower_34, e_Model_follower_35, e_Model_follower_36, e_Model_follower_39, e_Model_follower_40, e_Model_follower_41, e_Model_follower_43, e_Model_follower_44, e_Model_follower_47, e_Model_follower_48, e_Model_follower_49, e_Model_follower_50, e_Model_follower_53, e_Model_follower_54, e_Model_follower_55, e_Model_follower_58, e_Model_follower_59, e_Model_follower_60, e_Model_follower_63, e_Model_follower_65, e_Model_follower_66, e_Model_follower_69, e_Model_follower_71, e_Model_follower_74, e_Model_follower_75, e_Model_follower_76, e_Model_follower_79, e_Model_follower_82, e_Model_follower_83, kR_l, kR_r, kP_0, kP_i, kP_r, kP_n, kP_s, kP_o, kLen_I, kLen_L, kLen_R, kLdI_0, kLdI_1, kLdI_2, kLdI_3, kStI_0, kStI_1, kLdL_e, kStL_e, kLdR_e, kStR_e, kFld_e, kNth_0, kNth_s, kPut_e, fit_I, fit_Z, fit_B, fit_C, fit_A, fit_O, Option.toList_some, Option.toList_none, List.cons_append, List.nil_append, true_and, and_true, List.set_cons_zero, List.set_cons_succ, st_same, Int.toNat_natCast, Int.cast_ofNat_Int, Nat.zero_add, Nat.reduceAdd, kRcv_1, kRcv_2, kRcv_3, kRcv_0, kRcv_4, kRcv_5, setMd_set, Mdo, Mda1, Mdw1, Mda2, Mdw2, Mda3, Mdw3, Mda4, Mdw4, Mda5, Mdw5, Mda6, Mdw6, Mda7, Mdw7, Mda8, Mdw8, Mda9, Mdw9, Mda10, Mdw10, Mda11, Mdw11, Mdp3, Mdp5, Mdp6, Mdp7, Mdp8, Mdp10, Mdp16, Mdp17, Mdp18, c1]
      all_goals all_goals ((repeat' (first | with_reducible refine And.intro ?_ ?_ | intro _)) <;> first | with_reducible assumption | exact True.intro | exact ih _ (zI_s _) | omega | (simp only [inR] at *; omega) | with_reducible rfl | rfl | (simp; done) | (exfalso; simp_all; done) | skip)
    · obtain ⟨q, hq⟩ : ∃ q : Nat, nxM s b p d = q := ⟨(nxM s b p d).toNat, by omega⟩
      rw [hq] at ih b0 b3 b4 c1
      rw [Int.toNat_natCast] at ih b3 b4
      have ih' := ih _ (zI_s (q : Nat))
      rw [e_Model_follower_5]
      rcases hz with rfl | ⟨w, rfl⟩ <;> simp only [e_Model_follower_0, e_Model_follower_1, e_Model_follower_2, e_Model_follower_3, e_Model_follower_7, e_Model_follower_8, e_Model_follower_11, e_Model_follower_12, e_Model_follower_13, e_Model_follower_14, e_Model_follower_16, e_Model_follower_19, e_Model_follower_21, e_Model_follower_23, e_Model_follower_24, e_Model_follower_27, e_Model_follower_28, e_Model_follower_31, e_Model_follower_33, e_Model_follower_34, e_Model_follower_35, e_Model_follower_36, e_Model_follower_39, e_Model_follower_40, e_Model_follower_41, e_Model_follower_43, e_Model_follower_44, e_Model_follower_47, e_Model_follower_48, e_Model_follower_49, e_Model_follower_50, e_Model_follower_53, e_Model_follower_54, e_Model_follower_55, e_Model_follower_58, e_Model_follower_59, e_Model_follower_60, e_Model_follower_63, e_Model_follower_65, e_Model_follower_66, e_Model_follower_69, e_Model_follower_71, e_Model_follower_74, e_Model_follower_75, e_Model_follower_76, e_Model_follower_79, e_Model_follower_82, e_Model_follower_83, kR_l, kR_r, kP_0, kP_i, kP_r, kP_n, kP_s, kP_o, kLen_I, kLen_L, kLen_R, kLdI_0, kLdI_1, kLdI_2, kLdI_3, kStI_0, kStI_1, kLdL_e, kStL_e, kLdR_e, kStR_e, kFld_e, kNth_0, kNth_s, kPut_e, fit_I, fit_Z, fit_B, fit_C, fit_A, fit_O, Option.toList_some, Option.toList_none, List.cons_append, List.nil_append, true_and, and_true, List.set_cons_zero, List.set_cons_succ, st_same, Int.toNat_natCast, Int.cast_ofNat_Int, Nat.zero_add, Nat.reduceAdd, kRcv_1, kRcv_2, kRcv_3, kRcv_0, kRcv_4, kRcv_5, setMd_set, Mdo, Mda1, Mdw1, Mda2, Mdw2, Mda3, Mdw3, Mda4, Mdw4, Mda5, Mdw5, Mda6, Mdw6, Mda7, Mdw7, Mda8, Mdw8, Mda9, Mdw9, Mda10, Mdw10, Mda11, Mdw11, Mdp3, Mdp5, Mdp6, Mdp7, Mdp8, Mdp10, Mdp16, Mdp17, Mdp18]
      all_goals rw [s_Model_next ha hs hb h1 h3 hA6 hA7 hp hd]
      all_goals simp only [e_Model_follower_0, e_Model_follower_1, e_Model_follower_2, e_Model_follower_3, e_Model_follower_7, e_Model_follower_8, e_Model_follower_11, e_Model_follower_12, e_Model_follower_13, e_Model_follower_14, e_Model_follower_16, e_Model_follower_19, e_Model_follower_21, e_Model_follower_23, e_Model_follower_24, e_Model_follower_27, e_Model_follower_28, e_Model_follower_31, e_Model_follower_33, e_Model_follower_34, e_Model_follower_35, e_Model_follower_36, e_Model_follower_39, e_Model_follower_40, e_Model_follower_41, e_Model_follower_43, e_Model_follower_44, e_Model_follower_47, e_Model_follower_48, e_Model_follower_49, e_Model_follower_50, e_Model_follower_53, e_Model_follower_54, e_Model_follower_55, e_Model_follower_58, e_Model_follower_59, e_Model_follower_60, e_Model_follower_63, e_Model_follower_65, e_Model_follower_66, e_Model_follower_69, e_Model_follower_71, e_Model_follower_74, e_Model_follower_75, e_Model_follower_76, e_Model_follower_79, e_Model_follower_82, e_Model_follower_83, kR_l, kR_r, kP_0, kP_i, kP_r, kP_n, kP_s, kP_o, kLen_I, kLen_L, kLen_R, kLdI_0, kLdI_1, kLdI_2, kLdI_3, kStI_0, kStI_1, kLdL_e, kStL_e, kLdR_e, kStR_e, kFld_e, kNth_0, kNth_s, kPut_e, fit_I, fit_Z, fit_B, fit_C, fit_A, fit_O, Option.toList_some, Option.toList_none, List.cons_append, List.nil_append, true_and, and_true, List.set_cons_zero, List.set_cons_succ, st_same, Int.toNat_natCast, Int.cast_ofNat_Int, Nat.zero_add, Nat.reduceAdd, kRcv_1, kRcv_2, kRcv_3, kRcv_0, kRcv_4, kRcv_5, setMd_set, Mdo, Mda1, Mdw1, Mda2, Mdw2, Mda3, Mdw3, Mda4, Mdw4, Mda5, Mdw5, Mda6, Mdw6, Mda7, Mdw7, Mda8, Mdw8, Mda9, Mdw9, Mda10, Mdw10, Mda11, Mdw11, Mdp3, Mdp5, Mdp6, Mdp7, Mdp8, Mdp10, Mdp16, Mdp17, Mdp18, hq]
      all_goals rw [s_Model_rock1 ha hs hb h1 h3 (by omega) hp]
      all_goals simp only [e_Model_follower_0, e_Model_follower_1, e_Model_follower_2, e_Model_follower_3, e_Model_follower_7, e_Model_follower_8, e_Model_follower_11, e_Model_follower_12, e_Model_follower_13, e_Model_follower_14, e_Model_follower_16, e_Model_follower_19, e_Model_follower_21, e_Model_follower_23, e_Model_follower_24, e_Model_follower_27, e_Model_follower_28, e_Model_follower_31, e_Model_follower_33, e_Model_follower_34, e_Model_follower_35, e_Model_follower_36, e_Model_follower_39, e_Model_follower_40, e_Model_follower_41, e_Model_follower_43, e_Model_follower_44, e_Model_follower_47, e_Model_follower_48, e_Model_follower_49, e_Model_follower_50, e_Model_follower_53, e_Model_follower_54, e_Model_follower_55, e_Model_follower_58, e_Model_follower_59, e_Model_follower_60, e_Model_follower_63, e_Model_follower_65, e_Model_follower_66, e_Model_follower_69, e_Model_follower_71, e_Model_follower_74, e_Model_follower_75, e_Model_follower_76, e_Model_follower_79, e_Model_follower_82, e_Model_follower_83, kR_l, kR_r, kP_0, kP_i, kP_r, kP_n, kP_s, kP_o, kLen_I, kLen_L, kLen_R, kLdI_0, kLdI_1, kLdI_2, kLdI_3, kStI_0, kStI_1, kLdL_e, kStL_e, kLdR_e, kStR_e, kFld_e, kNth_0, kNth_s, kPut_e, fit_I, fit_Z, fit_B, fit_C, fit_A, fit_O, Option.toList_some, Option.toList_none, List.cons_append, List.nil_append, true_and, and_true, List.set_cons_zero, List.set_cons_succ, st_same, Int.toNat_natCast, Int.cast_ofNat_Int, Nat.zero_add, Nat.reduceAdd, kRcv_1, kRcv_2, kRcv_3, kRcv_0, kRcv_4, kRcv_5, setMd_set, Mdo, Mda1, Mdw1, Mda2, Mdw2, Mda3, Mdw3, Mda4, Mdw4, Mda5, Mdw5, Mda6, Mdw6, Mda7, Mdw7, Mda8, Mdw8, Mda9, Mdw9, Mda10, Mdw10, Mda11, Mdw11, Mdp3, Mdp5, Mdp6, Mdp7, Mdp8, Mdp10, Mdp16, Mdp17, Mdp18]
      all_goals by_cases c2 : A 8 q + 1 + 1000 * rk1 s b q p = A 8 p
      all_goals by_cases c3 : folM s b (A 8) p d = -1 ∨ (q : Int) < folM s b (A 8) p d
      all_goals simp only [c1, c2, c3, ne_eq, not_false_eq_true, true_and, and_true, if_true, if_false] at ih'
      all_goals all_goals ((repeat' (first | with_reducible refine And.intro ?_ ?_ | intro _)) <;> first | with_reducible assumption | exact True.intro | exact ih' | omega | (simp only [inR] at *; omega) | with_reducible rfl | rfl | (simp; done) | (exfalso; simp_all; done) | skip)
  · intro z hz
    rw [e_Model_follower_5]
    rcases hz with rfl | ⟨w, rfl⟩ <;> simp only [e_Model_follower_0, e_Model_follower_1, e_Model_follower_2, e_Model_follower_3, e_Model_follower_7, e_Model_follower_8, e_Model_follower_11, e_Model_follower_12, e_Model_follower_13, e_Model_follower_14, e_Model_follower_16, e_Model_follower_19, e_Model_follower_21, e_Model_follower_23, e_Model_follower_24, e_Model_follower_27, e_Model_follower_28, e_Model_follower_31, e_Model_follower_33, e_Model_follower_34, e_Model_follower_35, e_Model_follower_36, e_Model_follower_39, e_Model_follower_40, e_Model_follower_41, e_Model_follower_43, e_Model_follower_44, e_Model_follower_47, e_Model_follower_48, e_Model_follower_49, e_Model_follower_50, e_Model_follower_53, e_Model_follower_54, e_Model_follower_55, e_Model_follower_58, e_Model_follower_59, e_Model_follower_60, e_Model_follower_63, e_Model_follower_65, e_Model_follower_66, e_Model_follower_69, e_Model_follower_71, e_Model_follower_74, e_Model_follower_75, e_Model_follower_76, e_Model_follower_79, e_Model_follower_82, e_Model_follower_83, kR_l, kR_r, kP_0, kP_i, kP_r, kP_n, kP_s, kP_o, kLen_I, kLen_L, kLen_R, kLdI_0, kLdI_1, kLdI_2, kLdI_3, kStI_0, kStI_1, kLdL_e, kStL_e, kLdR_e, kStR_e, kFld_e, kNth_0, kNth_s, kPut_e, fit_I, fit_Z, fit_B, fit_C, fit_A, fit_O, Option.toList_some, Option.toList_none, List.cons_append, List.nil_append, true_and, and_true, List.set_cons_zero, List.set_cons_succ, st_same, Int.toNat_natCast, Int.cast_ofNat_Int, Nat.zero_add, Nat.reduceAdd, kRcv_1, kRcv_2, kRcv_3, kRcv_0, kRcv_4, kRcv_5, setMd_set, Mdo, Mda1, Mdw1, Mda2, Mdw2, Mda3, Mdw3, Mda4, Mdw4, Mda5, Mdw5, Mda6, Mdw6, Mda7, Mdw7, Mda8, Mdw8, Mda9, Mdw9, Mda10, Mdw10, Mda11, Mdw11, Mdp3, Mdp5, Mdp6, Mdp7, Mdp8, Mdp10, Mdp16, Mdp17, Mdp18]
    all_goals all_goals ((repeat' (first | with_reducible refine And.intro ?_ ?_ | intro _)) <;> first | with_reducible assumption | exact True.intro | omega | (simp only [inR] at *; omega) | with_reducible rfl | rfl | (simp; done) | (exfalso; simp_all; done) | skip)
theorem s_Model_isWay {one other : Nat} (ha : SAt σ M A a s) (hs : SOK s) (hG : G 0 ≤ M) (ho : one < 6) (ho2 : other < 6) (hw : 0 ≤ wkM s one other ∧ wkM s one other ≤ 3) (hA6 : A 6 = axM) (hA7 : A 7 = ayM) (hf : RB (A 8)) (ht : TB (A 9))
    (f t : Nat → Int) (he : rsM s (bdM s one other) (other : Nat) (A 8) (A 9) = (t, f)) (hPF : PF s (bdM s one other) f) (B : Int × Int) (hB : bsM4 s (bdM s one other) (one : Nat) f 192 = B) :
    CW G k_Model_isWay [vR M, vR a, vI (one : Nat), vI (other : Nat)] (setMd σ M m A) Q = Q (.inl (some (vI (if B.1 = -1 then 0 else 1)))) (setMd σ M (upI (upI (upI (upI m 18 (bdM s one other : Nat)) 16 0) 17 (B.2 / 1000)) 16 (if B.1 = -1 then 0 else f B.1.toNat % 1000)) (upA (upA (upA A 8 f) 9 t) 10 (fun j => if (j : Int) < (if B.1 = -1 then 0 else f B.1.toNat % 1000) then ptM s (bdM s one other) f B.1 j else A 10 j))) := by
  sorry
end MD4

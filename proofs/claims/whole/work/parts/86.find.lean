/-! THE CLASS'S WAYS: the least way found -/
def cvT (v : Int) : Int := 256 * (v / 1000) + v % 1000
theorem Sol_cost {s : Nat → Int} {b : Nat} {r : Int} {f : Nat → Int} (hb1 : 1 ≤ b) (hb : b ≤ 3) (hf : SolM s b r f) {p : Nat} (hp : p < 192) (h : f p < 1000000) : f p / 1000 ≤ 576 := by
  have hS : ∀ (n p : Nat), f p < n → p < 192 → f p < 1000000 → f p / 1000 ≤ 3 * (f p % 1000) := by
    intro n
    induction n with
    | zero =>
      intro p hn hp hf'
      have := (hf.1 p hp).2.1
      exact absurd (Int.lt_of_le_of_lt this hn) (by decide)
    | succ n ih =>
      intro p hn hp hf'
      by_cases e1 : f p = 1
      · rw [e1]; decide
      · obtain ⟨u, d, hu, hd, hfu, hq, he⟩ := hf.2.2.2 p hp hf' e1
        have hrk := rk1_le3 hb1 hb hd hq
        have h5 := (hf.1 u hu).2.1
        have ihu := ih u (by omega) hu hfu
        have hmu := Sol_mod' hf hu hfu
        have hmp := Sol_mod' hf hp hf'
        have ed : f p / 1000 = f u / 1000 + rk1 s b u p := by omega
        have em : f p % 1000 = f u % 1000 + 1 := by omega
        rw [ed, em]
        omega
  have := hS ((f p).toNat + 1) p (by have := (hf.1 p hp).2.1; omega) hp h
  have := Sol_mod' hf hp h
  omega
section FND
variable {G : Nat → Nat} {σ : AS} {Q : (Option AV ⊕ Nat) → AS → Prop} {W b : Nat} {s f fp : Nat → Int} {r : Int} {m : Nat → Int} {A : Nat → Nat → Int}
theorem s_lengthFrom {p : Nat} (hp : p < 192) : CW G k_Ways_lengthFrom [vR W, vI (p : Nat)] (setWy σ W m A) Q = Q (.inl (some (vI (256 * A 3 p + A 4 p)))) (setWy σ W m A) := by
  refine CW.det' fun R hR => ?_
  simp only [c_Ways_lengthFrom, e_Ways_lengthFrom_0, e_Ways_lengthFrom_3, e_Ways_lengthFrom_4, e_Ways_lengthFrom_7, e_Ways_lengthFrom_8, kR_l, kR_r, kP_0, kP_i, kP_r, kP_n, kP_s, kP_o, kLen_I, kLen_L, kLen_R, kLdI_0, kLdI_1, kLdI_2, kLdI_3, kStI_0, kStI_1, kLdL_e, kStL_e, kLdR_e, kStR_e, kFld_e, kNth_0, kNth_s, kPut_e, fit_I, fit_Z, fit_B, fit_C, fit_A, fit_O, Option.toList_some, Option.toList_none, List.cons_append, List.nil_append, true_and, and_true, List.set_cons_zero, List.set_cons_succ, st_same, Int.toNat_natCast, Int.cast_ofNat_Int, Nat.zero_add, Nat.reduceAdd, kRcv_1, kRcv_2, kRcv_3, kRcv_0, kRcv_4, kRcv_5, setWy_set, Wyo, Wya1, Wyw1, Wya2, Wyw2, Wya3, Wyw3, Wya4, Wyw4, Wya5, Wyw5, Wya6, Wyw6, Wya7, Wyw7, Wya8, Wyw8, Wyp6, Wyp7, Wyp10, Wyp11, Wyp12, Wyp13, Wyp14, Wyp15]
  rw [s_Cp_at (Wya3 σ W m A) (Or.inl rfl) (by omega) (by unfold inR; omega), if_pos (by omega), Int.toNat_natCast]
  simp only [e_Ways_lengthFrom_11, e_Ways_lengthFrom_12, e_Ways_lengthFrom_13, e_Ways_lengthFrom_16, e_Ways_lengthFrom_17, kR_l, kR_r, kP_0, kP_i, kP_r, kP_n, kP_s, kP_o, kLen_I, kLen_L, kLen_R, kLdI_0, kLdI_1, kLdI_2, kLdI_3, kStI_0, kStI_1, kLdL_e, kStL_e, kLdR_e, kStR_e, kFld_e, kNth_0, kNth_s, kPut_e, fit_I, fit_Z, fit_B, fit_C, fit_A, fit_O, Option.toList_some, Option.toList_none, List.cons_append, List.nil_append, true_and, and_true, List.set_cons_zero, List.set_cons_succ, st_same, Int.toNat_natCast, Int.cast_ofNat_Int, Nat.zero_add, Nat.reduceAdd, kRcv_1, kRcv_2, kRcv_3, kRcv_0, kRcv_4, kRcv_5, setWy_set, Wyo, Wya1, Wyw1, Wya2, Wyw2, Wya3, Wyw3, Wya4, Wyw4, Wya5, Wyw5, Wya6, Wyw6, Wya7, Wyw7, Wya8, Wyw8, Wyp6, Wyp7, Wyp10, Wyp11, Wyp12, Wyp13, Wyp14, Wyp15]
  rw [s_Cp_at (Wya4 σ W m A) (Or.inl rfl) (by omega) (by unfold inR; omega), if_pos (by omega), Int.toNat_natCast]
  simp only [e_Ways_lengthFrom_20, e_Ways_lengthFrom_21, kR_l, kR_r, kP_0, kP_i, kP_r, kP_n, kP_s, kP_o, kLen_I, kLen_L, kLen_R, kLdI_0, kLdI_1, kLdI_2, kLdI_3, kStI_0, kStI_1, kLdL_e, kStL_e, kLdR_e, kStR_e, kFld_e, kNth_0, kNth_s, kPut_e, fit_I, fit_Z, fit_B, fit_C, fit_A, fit_O, Option.toList_some, Option.toList_none, List.cons_append, List.nil_append, true_and, and_true, List.set_cons_zero, List.set_cons_succ, st_same, Int.toNat_natCast, Int.cast_ofNat_Int, Nat.zero_add, Nat.reduceAdd, kRcv_1, kRcv_2, kRcv_3, kRcv_0, kRcv_4, kRcv_5]
  all_goals ((repeat' (first | with_reducible refine And.intro ?_ ?_ | intro _)) <;> first | with_reducible assumption | exact True.intro | with_reducible exact hR | omega | (simp only [inR] at *; omega) | exact hR | with_reducible rfl | rfl | (simp; done) | (exfalso; simp_all; done) | skip)
/-- the best length so far, as the class has it -/
def blC (B : Int × Int) : Int := if B.1 = -1 then 16777216 else cvT B.2
theorem s_best {one L T R B : Int} (hb1 : 1 ≤ b) (hb3 : b ≤ 3) (hf : SolM s b r f) (hE : EqS fp s) (hs : SOK s) (hMe : MeA fp b A) (m11 : m 11 = (b : Nat)) (hBx : BxR s one L T R B) (m12 : m 12 = L) (m13 : m 13 = T) (m14 : m 14 = R) (m15 : m 15 = B) (h4 : ∀ p, p < 192 → A 4 p = dT f p) :
    CW G k_Ways_bestFirstPlace [vR W] (setWy σ W m A) Q = Q (.inl (some (vI (bsM4 s b one f 192).1))) (setWy σ W m A) := by
  refine CW.det' fun R9 hR9 => ?_
  have hSt := hMe.St hE hs hb1 hb3
  have hbx := hBx.1
  have hRB : ∀ i, i ≤ 192 → -1 ≤ (bsM4 s b one f i).1 ∧ (bsM4 s b one f i).1 < i := by
    intro i
    induction i with
    | zero => intro _; simp [bsM4]
    | succ i ih =>
      intro hi
      have := ih (by omega)
      unfold bsM4
      split
      · exact ⟨by show (-1 : Int) ≤ (i : Nat); omega, by show ((i : Nat) : Int) < ((i + 1 : Nat) : Int); omega⟩
      · omega
  -- what the best so far is
  have hval : ∀ i, i ≤ 192 → (bsM4 s b one f i).1 ≠ -1 → ∃ p, p < 192 ∧ f p < 1000000 ∧ plP s b p ∧ (bsM4 s b one f i).2 = f p + 1000 * rk0 s b p := by
    intro i hi hn
    have h1 := bsM4_ok (s := s) (b := b) (one := one) (f := f) i hn
    have h2 := hRB i hi
    exact ⟨(bsM4 s b one f i).1.toNat, by omega, h1.1, (hf.1 _ (by omega)).2.2 h1.1, h1.2.2⟩
  have hno : ∀ i, (bsM4 s b one f i).1 = -1 → (bsM4 s b one f i).2 = 1000000 := by
    intro i
    induction i with
    | zero => intro _; rfl
    | succ i ih =>
      intro z
      unfold bsM4 at z ⊢
      split at z
      · exact absurd z (by show ((i : Nat) : Int) ≠ -1; omega)
      · rename_i hc
        rw [if_neg hc]
        exact ih z
  have hbl : ∀ i, i ≤ 192 → -1 ≤ blC (bsM4 s b one f i) ∧ blC (bsM4 s b one f i) ≤ 16777216 := by
    intro i hi
    unfold blC
    split
    · omega
    · rename_i hn
      obtain ⟨p, h1, h2, h3, h5⟩ := hval i hi hn
      have := Sol_cost hb1 hb3 hf h1 h2
      have := rk0_bd s hb3 p
      have := Sol_mod' hf h1 h2
      have := (hf.1 p h1).2.1
      unfold cvT
      rw [h5]
      omega
  simp only [c_Ways_bestFirstPlace, e_Ways_bestFirstPlace_0, e_Ways_bestFirstPlace_1, e_Ways_bestFirstPlace_2, e_Ways_bestFirstPlace_4, e_Ways_bestFirstPlace_5, e_Ways_bestFirstPlace_6, kR_l, kR_r, kP_0, kP_i, kP_r, kP_n, kP_s, kP_o, kLen_I, kLen_L, kLen_R, kLdI_0, kLdI_1, kLdI_2, kLdI_3, kStI_0, kStI_1, kLdL_e, kStL_e, kLdR_e, kStR_e, kFld_e, kNth_0, kNth_s, kPut_e, fit_I, fit_Z, fit_B, fit_C, fit_A, fit_O, Option.toList_some, Option.toList_none, List.cons_append, List.nil_append, true_and, and_true, List.set_cons_zero, List.set_cons_succ, st_same, Int.toNat_natCast, Int.cast_ofNat_Int, Nat.zero_add, Nat.reduceAdd, kRcv_1, kRcv_2, kRcv_3, kRcv_0, kRcv_4, kRcv_5]
  refine up (fun i => WP G k_Ways_bestFirstPlace 7 [some (vR W), some (vI (bsM4 s b one f i).1), some (vI (blC (bsM4 s b one f i))), some (vI (i : Nat))] [] (setWy σ W m A) R9) (n := 192) ?_ ?_
  · intro i hi ih
    have hS := hSt i hi
    have b1 := hRB i (by omega)
    have b2 := hbl i (by omega)
    have h4i := h4 i hi
    have hfi := hf.1 i hi
    unfold bsM4 at ih
    rw [e_Ways_bestFirstPlace_7]
    simp only [e_Ways_bestFirstPlace_8, e_Ways_bestFirstPlace_11, e_Ways_bestFirstPlace_14, e_Ways_bestFirstPlace_15, e_Ways_bestFirstPlace_16, kR_l, kR_r, kP_0, kP_i, kP_r, kP_n, kP_s, kP_o, kLen_I, kLen_L, kLen_R, kLdI_0, kLdI_1, kLdI_2, kLdI_3, kStI_0, kStI_1, kLdL_e, kStL_e, kLdR_e, kStR_e, kFld_e, kNth_0, kNth_s, kPut_e, fit_I, fit_Z, fit_B, fit_C, fit_A, fit_O, Option.toList_some, Option.toList_none, List.cons_append, List.nil_append, true_and, and_true, List.set_cons_zero, List.set_cons_succ, st_same, Int.toNat_natCast, Int.cast_ofNat_Int, Nat.zero_add, Nat.reduceAdd, kRcv_1, kRcv_2, kRcv_3, kRcv_0, kRcv_4, kRcv_5, setWy_set, Wyo, Wya1, Wyw1, Wya2, Wyw2, Wya3, Wyw3, Wya4, Wyw4, Wya5, Wyw5, Wya6, Wyw6, Wya7, Wyw7, Wya8, Wyw8, Wyp6, Wyp7, Wyp10, Wyp11, Wyp12, Wyp13, Wyp14, Wyp15, s_canStand hi hS.1]
    refine ⟨⟨by unfold inR; omega, by unfold inR; omega⟩, fun z => absurd z (by omega), fun _ => ?_⟩
    by_cases c1 : A 3 i < 4096
    · have hp := hS.2.mp c1
      have hat := at_iff hb1 hBx hp
      have e3 : A 3 i = rk0 s b i := by rw [(hMe i hi).2.2, stV_pl hE hs hb1 hb3 hp]
      have hrk := rk0_bd s hb3 i
      rw [b01_t c1]
      simp only [e_Ways_bestFirstPlace_19, e_Ways_bestFirstPlace_22, e_Ways_bestFirstPlace_23, e_Ways_bestFirstPlace_24, kR_l, kR_r, kP_0, kP_i, kP_r, kP_n, kP_s, kP_o, kLen_I, kLen_L, kLen_R, kLdI_0, kLdI_1, kLdI_2, kLdI_3, kStI_0, kStI_1, kLdL_e, kStL_e, kLdR_e, kStR_e, kFld_e, kNth_0, kNth_s, kPut_e, fit_I, fit_Z, fit_B, fit_C, fit_A, fit_O, Option.toList_some, Option.toList_none, List.cons_append, List.nil_append, true_and, and_true, List.set_cons_zero, List.set_cons_succ, st_same, Int.toNat_natCast, Int.cast_ofNat_Int, Nat.zero_add, Nat.reduceAdd, kRcv_1, kRcv_2, kRcv_3, kRcv_0, kRcv_4, kRcv_5, setWy_set, Wyo, Wya1, Wyw1, Wya2, Wyw2, Wya3, Wyw3, Wya4, Wyw4, Wya5, Wyw5, Wya6, Wyw6, Wya7, Wyw7, Wya8, Wyw8, Wyp6, Wyp7, Wyp10, Wyp11, Wyp12, Wyp13, Wyp14, Wyp15]
      refine ⟨by unfold inR; omega, (fun h => by first | exact absurd h (by omega) | exact absurd trivial h | (exfalso; simp_all; done)), fun _ => ?_⟩
      have iac := fun (v : Int) h1 h0 Q => s_isAtChamber (G := G) (σ := σ) (Q := Q) (W := W) (b := b) (m := m) (A := A) (p := i) (v := v) (L := L) (T := T) (R := R) (B := B) m11 hb3 hi m12 m13 m14 m15 (by omega) (by omega) (by omega) (by omega) h1 h0
      by_cases c2 : icC b L T R B i
      · have hat1 := atB_1 (hat.mp c2)
        rw [iac 1 (fun _ => rfl) (fun z => absurd c2 z)]
        simp only [e_Ways_bestFirstPlace_27, e_Ways_bestFirstPlace_30, e_Ways_bestFirstPlace_31, e_Ways_bestFirstPlace_32, e_Ways_bestFirstPlace_35, e_Ways_bestFirstPlace_36, e_Ways_bestFirstPlace_39, e_Ways_bestFirstPlace_40, e_Ways_bestFirstPlace_41, e_Ways_bestFirstPlace_42, e_Ways_bestFirstPlace_43, e_Ways_bestFirstPlace_46, e_Ways_bestFirstPlace_47, e_Ways_bestFirstPlace_50, kR_l, kR_r, kP_0, kP_i, kP_r, kP_n, kP_s, kP_o, kLen_I, kLen_L, kLen_R, kLdI_0, kLdI_1, kLdI_2, kLdI_3, kStI_0, kStI_1, kLdL_e, kStL_e, kLdR_e, kStR_e, kFld_e, kNth_0, kNth_s, kPut_e, fit_I, fit_Z, fit_B, fit_C, fit_A, fit_O, Option.toList_some, Option.toList_none, List.cons_append, List.nil_append, true_and, and_true, List.set_cons_zero, List.set_cons_succ, st_same, Int.toNat_natCast, Int.cast_ofNat_Int, Nat.zero_add, Nat.reduceAdd, kRcv_1, kRcv_2, kRcv_3, kRcv_0, kRcv_4, kRcv_5, setWy_set, Wyo, Wya1, Wyw1, Wya2, Wyw2, Wya3, Wyw3, Wya4, Wyw4, Wya5, Wyw5, Wya6, Wyw6, Wya7, Wyw7, Wya8, Wyw8, Wyp6, Wyp7, Wyp10, Wyp11, Wyp12, Wyp13, Wyp14, Wyp15, s_lengthFrom hi, e3, h4i]
        by_cases c3 : f i < 1000000 ∧ f i + 1000 * rk0 s b i < (bsM4 s b one f i).2
        · rw [if_pos ⟨c3.1, hat1, c3.2⟩] at ih
          have ed := (dT_fin hf hi c3.1)
          have hlt : 256 * rk0 s b i + dT f i < blC (bsM4 s b one f i) := by
            have := Sol_cost hb1 hb3 hf hi c3.1
            unfold blC
            split
            · omega
            · rename_i hn
              obtain ⟨p, k1, k2, k3, k5⟩ := hval i (by omega) hn
              have := Sol_mod' hf k1 k2
              have := Sol_mod' hf hi c3.1
              have := (hf.1 p k1).2.1
              unfold cvT
              omega
          have en : blC (((i : Nat) : Int), f i + 1000 * rk0 s b i) = 256 * rk0 s b i + dT f i := by
            unfold blC cvT
            rw [if_neg (by show ¬ ((i : Nat) : Int) = -1; omega)]
            show 256 * ((f i + 1000 * rk0 s b i) / 1000) + (f i + 1000 * rk0 s b i) % 1000 = _
            omega
          rw [en] at ih
          clear hval hno hbl hRB hR9 iac hSt
          all_goals ((repeat' (first | with_reducible refine And.intro ?_ ?_ | intro _)) <;> first | with_reducible assumption | exact True.intro | with_reducible exact ih | omega | (simp only [inR] at *; omega) | exact ih | with_reducible rfl | rfl | (simp; done) | (exfalso; simp_all; done) | skip)
        · rw [if_neg (fun z => c3 ⟨z.1, z.2.2⟩)] at ih
          have hge : blC (bsM4 s b one f i) ≤ 256 * rk0 s b i + dT f i := by
            by_cases hfin : f i < 1000000
            · have := Sol_cost hb1 hb3 hf hi hfin
              have ed := (dT_fin hf hi hfin)
              have hnlt : (bsM4 s b one f i).2 ≤ f i + 1000 * rk0 s b i := by omega
              unfold blC
              split
              · rename_i hn
                rw [hno i hn] at hnlt
                have := Sol_mod' hf hi hfin
                omega
              · rename_i hn
                obtain ⟨p, k1, k2, k3, k5⟩ := hval i (by omega) hn
                have := Sol_mod' hf k1 k2
                have := Sol_mod' hf hi hfin
                have := (hf.1 p k1).2.1
                unfold cvT
                omega
            · have e : dT f i = 16777216 := if_neg hfin
              omega
          have hdb : dT f i ≤ 16777216 := by
            by_cases hfin : f i < 1000000
            · have := (dT_fin hf hi hfin)
              omega
            · have e : dT f i = 16777216 := if_neg hfin
              omega
          clear hval hno hbl hRB hR9 iac hSt c3
          all_goals ((repeat' (first | with_reducible refine And.intro ?_ ?_ | intro _)) <;> first | with_reducible assumption | exact True.intro | with_reducible exact ih | omega | (simp only [inR] at *; omega) | exact ih | with_reducible rfl | rfl | (simp; done) | (exfalso; simp_all; done) | skip)
      · have hat0 : ¬ atB s b i one = 1 := fun z => c2 (hat.mpr (atB_of z))
        rw [if_neg (fun z => hat0 z.2.1)] at ih
        rw [iac 0 (fun z => absurd z c2) (fun _ => rfl)]
        simp only [e_Ways_bestFirstPlace_27, e_Ways_bestFirstPlace_47, e_Ways_bestFirstPlace_50, kR_l, kR_r, kP_0, kP_i, kP_r, kP_n, kP_s, kP_o, kLen_I, kLen_L, kLen_R, kLdI_0, kLdI_1, kLdI_2, kLdI_3, kStI_0, kStI_1, kLdL_e, kStL_e, kLdR_e, kStR_e, kFld_e, kNth_0, kNth_s, kPut_e, fit_I, fit_Z, fit_B, fit_C, fit_A, fit_O, Option.toList_some, Option.toList_none, List.cons_append, List.nil_append, true_and, and_true, List.set_cons_zero, List.set_cons_succ, st_same, Int.toNat_natCast, Int.cast_ofNat_Int, Nat.zero_add, Nat.reduceAdd, kRcv_1, kRcv_2, kRcv_3, kRcv_0, kRcv_4, kRcv_5]
        clear hval hno hbl hRB hR9 iac hSt
        all_goals ((repeat' (first | with_reducible refine And.intro ?_ ?_ | intro _)) <;> first | with_reducible assumption | exact True.intro | with_reducible exact ih | omega | (simp only [inR] at *; omega) | exact ih | with_reducible rfl | rfl | (simp; done) | (exfalso; simp_all; done) | skip)
    · have hn : ¬ f i < 1000000 := fun z => c1 (hS.2.mpr ((hf.1 i hi).2.2 z))
      rw [if_neg (fun z => hn z.1)] at ih
      rw [b01_f c1]
      simp only [e_Ways_bestFirstPlace_19, e_Ways_bestFirstPlace_47, e_Ways_bestFirstPlace_50, kR_l, kR_r, kP_0, kP_i, kP_r, kP_n, kP_s, kP_o, kLen_I, kLen_L, kLen_R, kLdI_0, kLdI_1, kLdI_2, kLdI_3, kStI_0, kStI_1, kLdL_e, kStL_e, kLdR_e, kStR_e, kFld_e, kNth_0, kNth_s, kPut_e, fit_I, fit_Z, fit_B, fit_C, fit_A, fit_O, Option.toList_some, Option.toList_none, List.cons_append, List.nil_append, true_and, and_true, List.set_cons_zero, List.set_cons_succ, st_same, Int.toNat_natCast, Int.cast_ofNat_Int, Nat.zero_add, Nat.reduceAdd, kRcv_1, kRcv_2, kRcv_3, kRcv_0, kRcv_4, kRcv_5]
      exact ⟨by unfold inR; omega, fun _ => ih, (fun h => by first | exact absurd h (by omega) | exact absurd trivial h | (exfalso; simp_all; done))⟩
  · rw [e_Ways_bestFirstPlace_7]
    simp only [e_Ways_bestFirstPlace_8, e_Ways_bestFirstPlace_11, e_Ways_bestFirstPlace_53, e_Ways_bestFirstPlace_54, kR_l, kR_r, kP_0, kP_i, kP_r, kP_n, kP_s, kP_o, kLen_I, kLen_L, kLen_R, kLdI_0, kLdI_1, kLdI_2, kLdI_3, kStI_0, kStI_1, kLdL_e, kStL_e, kLdR_e, kStR_e, kFld_e, kNth_0, kNth_s, kPut_e, fit_I, fit_Z, fit_B, fit_C, fit_A, fit_O, Option.toList_some, Option.toList_none, List.cons_append, List.nil_append, true_and, and_true, List.set_cons_zero, List.set_cons_succ, st_same, Int.toNat_natCast, Int.cast_ofNat_Int, Nat.zero_add, Nat.reduceAdd, kRcv_1, kRcv_2, kRcv_3, kRcv_0, kRcv_4, kRcv_5]
    refine ⟨⟨by unfold inR; omega, by unfold inR; omega⟩, fun _ => ?_, fun z => absurd (by omega) z⟩
    clear hval hno hbl hRB
    all_goals ((repeat' (first | with_reducible refine And.intro ?_ ?_ | intro _)) <;> first | with_reducible assumption | exact True.intro | with_reducible exact hR9 | omega | (simp only [inR] at *; omega) | exact hR9 | with_reducible rfl | rfl | (simp; done) | (exfalso; simp_all; done) | skip)
end FND

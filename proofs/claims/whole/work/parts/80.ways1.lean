/-! THE CLASS'S WAYS: what is measured -/
def okS (f : Nat → Int) (x y : Int) : Prop := sqAt f x y = -1 ∨ sqAt f x y = -2
def rkS (f : Nat → Int) (x y : Int) (c : Nat) (j : Nat) : Int := sumTo (fun i => b01 (sqAt f (x + (i : Nat)) (y + (j : Nat)) = -2)) c
def okL (f : Nat → Int) (x y : Int) (c r : Nat) : Prop := ∀ j, j < r → ∀ i, i < c → okS f (x + (i : Nat)) (y + (j : Nat))
noncomputable def rkV (f : Nat → Int) (b p : Nat) (c r : Nat) : Int := if cl01 (okL f ((p % 16 : Nat) : Int) ((p / 16 : Nat) : Int) c r) = 1 then sumTo (fun j => rkS f ((p % 16 : Nat) : Int) ((p / 16 : Nat) : Int) c j) r else 4096
noncomputable def acV (f : Nat → Int) (b p : Nat) : Int := rkV f b p b 1
noncomputable def dwV (f : Nat → Int) (b p : Nat) : Int := rkV f b p 1 b
noncomputable def stV (f : Nat → Int) (b p : Nat) : Int := if p / 16 + b ≤ 12 then sumTo (fun j => acV f b (p + 16 * j)) b else 4096
theorem rkS_bd (f : Nat → Int) (x y : Int) (c j : Nat) : 0 ≤ rkS f x y c j ∧ rkS f x y c j ≤ c := cnt_bd (c := fun i => sqAt f (x + (i : Nat)) (y + (j : Nat)) = -2) c
theorem rkSS_bd (f : Nat → Int) (x y : Int) (c : Nat) (r : Nat) : 0 ≤ sumTo (fun j => rkS f x y c j) r ∧ sumTo (fun j => rkS f x y c j) r ≤ r * c := by
  have := sum_bd (f := fun j => rkS f x y c j) (a := 0) (b := c) r (fun j _ => rkS_bd f x y c j)
  omega
theorem rkV_bd (f : Nat → Int) (b p : Nat) {c r : Nat} (hc : c ≤ 3) (hr : r ≤ 3) : 0 ≤ rkV f b p c r ∧ rkV f b p c r ≤ 4096 := by
  have := rkSS_bd f ((p % 16 : Nat) : Int) ((p / 16 : Nat) : Int) c r
  have h9 : r * c ≤ 3 * 3 := Nat.mul_le_mul hr hc
  have h9' : (r : Int) * c = ((r * c : Nat) : Int) := (Int.natCast_mul r c).symm
  unfold rkV
  split <;> omega
theorem stV_bd (f : Nat → Int) {b : Nat} (p : Nat) (hb : b ≤ 3) : 0 ≤ stV f b p ∧ stV f b p ≤ 12288 := by
  unfold stV
  split
  · have := sum_bd (f := fun j => acV f b (p + 16 * j)) (a := 0) (b := 4096) b (fun j _ => rkV_bd f b (p + 16 * j) hb (by omega))
    omega
  · omega
def icC (b : Nat) (L T R B : Int) (p : Nat) : Prop := (((p % 16 : Nat) : Int) = R ∨ ((p % 16 : Nat) : Int) + b = L) ∧ ((p / 16 : Nat) : Int) < B ∧ T < ((p / 16 : Nat) : Int) + b ∨ ¬ (((p % 16 : Nat) : Int) = R ∨ ((p % 16 : Nat) : Int) + b = L) ∧ (((p / 16 : Nat) : Int) = B ∨ ((p / 16 : Nat) : Int) + b = T) ∧ ((p % 16 : Nat) : Int) < R ∧ L < ((p % 16 : Nat) : Int) + b
section WY1
variable {G : Nat → Nat} {σ : AS} {Q : (Option AV ⊕ Nat) → AS → Prop} {P W b : Nat} {f g h : Nat → Int} {c : Int} {m : Nat → Int} {A : Nat → Nat → Int}
theorem s_rockIn {x y v : Int} {cl rw : Nat} (hP : PlanC σ P f g h c) (hf : SqOK f) (hx : 0 ≤ x ∧ x ≤ 20) (hy : 0 ≤ y ∧ y ≤ 20) (hcl : cl ≤ 3) (hrw : rw ≤ 3) (hv1 : okL f x y cl rw → v = sumTo (fun j => rkS f x y cl j) rw) (hv0 : ¬ okL f x y cl rw → v = 4096) : CW G k_Ways_rockIn [vR P, vI x, vI y, vI (cl : Nat), vI (rw : Nat)] σ Q = Q (.inl (some (vI v))) σ := by
  refine CW.det' fun R hR => ?_
  simp only [c_Ways_rockIn, e_Ways_rockIn_0, e_Ways_rockIn_1, e_Ways_rockIn_3, e_Ways_rockIn_4, kR_l, kR_r, kP_0, kP_i, kP_r, kP_n, kP_s, kP_o, kLen_I, kLen_L, kLen_R, kLdI_0, kLdI_1, kLdI_2, kLdI_3, kStI_0, kStI_1, kLdL_e, kStL_e, kLdR_e, kStR_e, kFld_e, kNth_0, kNth_s, kPut_e, fit_I, fit_Z, fit_B, fit_C, fit_A, fit_O, Option.toList_some, Option.toList_none, List.cons_append, List.nil_append, true_and, and_true, List.set_cons_zero, List.set_cons_succ, st_same, Int.toNat_natCast, Int.cast_ofNat_Int, Nat.zero_add, Nat.reduceAdd, kRcv_1, kRcv_2, kRcv_3, kRcv_0, kRcv_4, kRcv_5]
  have key := up (fun j => okL f x y cl j → ∀ z7 z8, zI z7 → zI z8 → WP G k_Ways_rockIn 6 [some (vR P), some (vI x), some (vI y), some (vI (cl : Nat)), some (vI (rw : Nat)), some (vI (sumTo (fun j => rkS f x y cl j) j)), some (vI (y + (j : Nat))), z7, z8] [] σ R) (n := rw) ?_ ?_
  · have k0 := key (fun j hj => absurd hj (by omega)) none none zI_n zI_n
    rw [show y + ((0 : Nat) : Int) = y by omega] at k0
    exact k0
  · intro j hj ih hok z7 z8 hz7 hz8
    have hb1 := rkSS_bd f x y cl j
    have hj9 : (j : Int) * cl ≤ 9 := by
      have : j * cl ≤ 3 * 3 := Nat.mul_le_mul (by omega) hcl
      rw [← Int.natCast_mul]
      omega
    have inner := up (fun i => (∀ i', i' < i → okS f (x + (i' : Nat)) (y + (j : Nat))) → ∀ z8, zI z8 → WP G k_Ways_rockIn 18 [some (vR P), some (vI x), some (vI y), some (vI (cl : Nat)), some (vI (rw : Nat)), some (vI (sumTo (fun j => rkS f x y cl j) j + sumTo (fun i => b01 (sqAt f (x + (i : Nat)) (y + (j : Nat)) = -2)) i)), some (vI (y + (j : Nat))), some (vI (x + (i : Nat))), z8] [] σ R) (n := cl) ?_ ?_
    · have i0 := inner (fun i' h => absurd h (by omega)) z8 hz8
      rw [show x + ((0 : Nat) : Int) = x by omega, sum_0, Int.add_zero] at i0
      rw [e_Ways_rockIn_6]
      simp only [e_Ways_rockIn_8, e_Ways_rockIn_9, e_Ways_rockIn_11, e_Ways_rockIn_12, e_Ways_rockIn_15, e_Ways_rockIn_16, kR_l, kR_r, kP_0, kP_i, kP_r, kP_n, kP_s, kP_o, kLen_I, kLen_L, kLen_R, kLdI_0, kLdI_1, kLdI_2, kLdI_3, kStI_0, kStI_1, kLdL_e, kStL_e, kLdR_e, kStR_e, kFld_e, kNth_0, kNth_s, kPut_e, fit_I, fit_Z, fit_B, fit_C, fit_A, fit_O, Option.toList_some, Option.toList_none, List.cons_append, List.nil_append, true_and, and_true, List.set_cons_zero, List.set_cons_succ, st_same, Int.toNat_natCast, Int.cast_ofNat_Int, Nat.zero_add, Nat.reduceAdd, kRcv_1, kRcv_2, kRcv_3, kRcv_0, kRcv_4, kRcv_5, kP_z hz7]
      refine ⟨⟨by unfold inR; omega, by unfold inR; omega⟩, fun z => absurd z (by omega), fun _ => ?_⟩
      exact i0
    · intro i hi ihi hoki z8 hz8
      have b3 := sqAt_bd hf (x + (i : Nat)) (y + (j : Nat))
      rw [e_Ways_rockIn_18]
      simp (disch := first | assumption | omega | (unfold inR; omega)) only [e_Ways_rockIn_20, e_Ways_rockIn_21, e_Ways_rockIn_22, e_Ways_rockIn_23, e_Ways_rockIn_26, e_Ways_rockIn_27, e_Ways_rockIn_29, e_Ways_rockIn_31, e_Ways_rockIn_34, e_Ways_rockIn_36, e_Ways_rockIn_38, e_Ways_rockIn_40, e_Ways_rockIn_43, e_Ways_rockIn_46, e_Ways_rockIn_49, e_Ways_rockIn_51, e_Ways_rockIn_52, e_Ways_rockIn_55, e_Ways_rockIn_58, e_Ways_rockIn_59, e_Ways_rockIn_62, kR_l, kR_r, kP_0, kP_i, kP_r, kP_n, kP_s, kP_o, kLen_I, kLen_L, kLen_R, kLdI_0, kLdI_1, kLdI_2, kLdI_3, kStI_0, kStI_1, kLdL_e, kStL_e, kLdR_e, kStR_e, kFld_e, kNth_0, kNth_s, kPut_e, fit_I, fit_Z, fit_B, fit_C, fit_A, fit_O, Option.toList_some, Option.toList_none, List.cons_append, List.nil_append, true_and, and_true, List.set_cons_zero, List.set_cons_succ, st_same, Int.toNat_natCast, Int.cast_ofNat_Int, Nat.zero_add, Nat.reduceAdd, kRcv_1, kRcv_2, kRcv_3, kRcv_0, kRcv_4, kRcv_5, s_Plan_squareAt hP, kP_z hz8, kRcv_1, hP.1]
      by_cases c1 : okS f (x + (i : Nat)) (y + (j : Nat))
      · have ihi' := ihi (fun i' h' => by
          by_cases e : i' = i
          · rw [e]; exact c1
          · exact hoki i' (by omega)) (some (vI (sqAt f (x + (i : Nat)) (y + (j : Nat))))) (zI_s _)
        rw [show x + ((i + 1 : Nat) : Int) = x + (i : Nat) + 1 by omega] at ihi'
        unfold okS at c1
        by_cases c2 : sqAt f (x + (i : Nat)) (y + (j : Nat)) = -2
        · simp only [sum_s _ i, b01_t c2, ← Int.add_assoc] at ihi'
          clear ihi hv1 hv0 ih
          all_goals ((repeat' (first | with_reducible refine And.intro ?_ ?_ | intro _)) <;> first | with_reducible assumption | exact True.intro | with_reducible exact ihi' | omega | (simp only [inR] at *; omega) | exact ihi' | with_reducible rfl | rfl | (simp; done) | (exfalso; simp_all; done) | skip)
        · simp only [sum_s _ i, b01_f c2, Int.add_zero] at ihi'
          clear ihi hv1 hv0 ih
          all_goals ((repeat' (first | with_reducible refine And.intro ?_ ?_ | intro _)) <;> first | with_reducible assumption | exact True.intro | with_reducible exact ihi' | omega | (simp only [inR] at *; omega) | exact ihi' | with_reducible rfl | rfl | (simp; done) | (exfalso; simp_all; done) | skip)
      · rw [hv0 (fun z => c1 (z j hj i hi))] at hR
        unfold okS at c1
        clear ihi hv1 hv0 ih
        all_goals ((repeat' (first | with_reducible refine And.intro ?_ ?_ | intro _)) <;> first | with_reducible assumption | exact True.intro | with_reducible exact hR | omega | (simp only [inR] at *; omega) | exact hR | with_reducible rfl | rfl | (simp; done) | (exfalso; simp_all; done) | skip)
    · intro hoki z8 hz8
      have ih' := ih (fun j' hj' => by
        by_cases e : j' = j
        · rw [e]; exact hoki
        · exact hok j' (by omega)) (some (vI (x + (cl : Nat)))) z8 (zI_s _) hz8
      rw [sum_s, show y + ((j + 1 : Nat) : Int) = y + (j : Nat) + 1 by omega] at ih'
      have e : rkS f x y cl j = sumTo (fun i => b01 (sqAt f (x + (i : Nat)) (y + (j : Nat)) = -2)) cl := rfl
      rw [e] at ih'
      rw [e_Ways_rockIn_18]
      simp only [e_Ways_rockIn_20, e_Ways_rockIn_21, e_Ways_rockIn_22, e_Ways_rockIn_23, e_Ways_rockIn_65, e_Ways_rockIn_68, kR_l, kR_r, kP_0, kP_i, kP_r, kP_n, kP_s, kP_o, kLen_I, kLen_L, kLen_R, kLdI_0, kLdI_1, kLdI_2, kLdI_3, kStI_0, kStI_1, kLdL_e, kStL_e, kLdR_e, kStR_e, kFld_e, kNth_0, kNth_s, kPut_e, fit_I, fit_Z, fit_B, fit_C, fit_A, fit_O, Option.toList_some, Option.toList_none, List.cons_append, List.nil_append, true_and, and_true, List.set_cons_zero, List.set_cons_succ, st_same, Int.toNat_natCast, Int.cast_ofNat_Int, Nat.zero_add, Nat.reduceAdd, kRcv_1, kRcv_2, kRcv_3, kRcv_0, kRcv_4, kRcv_5]
      refine ⟨⟨by unfold inR; omega, by unfold inR; omega⟩, fun _ => ?_, fun z => absurd (Int.le_refl _) z⟩
      exact ih'
  · intro hok z7 z8 hz7 hz8
    rw [hv1 hok] at hR
    rw [e_Ways_rockIn_6]
    simp only [e_Ways_rockIn_8, e_Ways_rockIn_9, e_Ways_rockIn_11, e_Ways_rockIn_12, e_Ways_rockIn_71, e_Ways_rockIn_73, kR_l, kR_r, kP_0, kP_i, kP_r, kP_n, kP_s, kP_o, kLen_I, kLen_L, kLen_R, kLdI_0, kLdI_1, kLdI_2, kLdI_3, kStI_0, kStI_1, kLdL_e, kStL_e, kLdR_e, kStR_e, kFld_e, kNth_0, kNth_s, kPut_e, fit_I, fit_Z, fit_B, fit_C, fit_A, fit_O, Option.toList_some, Option.toList_none, List.cons_append, List.nil_append, true_and, and_true, List.set_cons_zero, List.set_cons_succ, st_same, Int.toNat_natCast, Int.cast_ofNat_Int, Nat.zero_add, Nat.reduceAdd, kRcv_1, kRcv_2, kRcv_3, kRcv_0, kRcv_4, kRcv_5]
    refine ⟨⟨by unfold inR; omega, by unfold inR; omega⟩, fun _ => ?_, fun z => absurd (Int.le_refl _) z⟩
    all_goals ((repeat' (first | with_reducible refine And.intro ?_ ?_ | intro _)) <;> first | with_reducible assumption | exact True.intro | with_reducible exact hR | omega | (simp only [inR] at *; omega) | exact hR | with_reducible rfl | rfl | (simp; done) | (exfalso; simp_all; done) | skip)
theorem s_rockV {p cl rw : Nat} (hP : PlanC σ P f g h c) (hf : SqOK f) (hp : p < 192) (hcl : cl ≤ 3) (hrw : rw ≤ 3) : CW G k_Ways_rockIn [vR P, vI ((p % 16 : Nat) : Int), vI ((p / 16 : Nat) : Int), vI (cl : Nat), vI (rw : Nat)] σ Q = Q (.inl (some (vI (rkV f b p cl rw)))) σ := by
  refine s_rockIn hP hf (by omega) (by omega) hcl hrw (fun z => ?_) (fun z => ?_)
  · unfold rkV
    rw [cl01_t z, if_pos rfl]
  · unfold rkV
    rw [cl01_f z, if_neg (by omega)]
theorem s_rockOn {p : Nat} (hb : m 11 = (b : Nat)) (hb1 : 1 ≤ b) (hb3 : b ≤ 3) (hA : ∀ k, k < 192 → A 1 k = acV f b k) (hp : p < 192) : CW G k_Ways_rockOn [vR W, vI (p : Nat)] (setWy σ W m A) Q = Q (.inl (some (vI (stV f b p)))) (setWy σ W m A) := by
  refine CW.det' fun R hR => ?_
  simp only [c_Ways_rockOn, e_Ways_rockOn_0, e_Ways_rockOn_1, e_Ways_rockOn_3, e_Ways_rockOn_4, e_Ways_rockOn_5, e_Ways_rockOn_8, e_Ways_rockOn_9, e_Ways_rockOn_11, e_Ways_rockOn_14, e_Ways_rockOn_17, e_Ways_rockOn_18, e_Ways_rockOn_19, e_Ways_rockOn_20, e_Ways_rockOn_21, kR_l, kR_r, kP_0, kP_i, kP_r, kP_n, kP_s, kP_o, kLen_I, kLen_L, kLen_R, kLdI_0, kLdI_1, kLdI_2, kLdI_3, kStI_0, kStI_1, kLdL_e, kStL_e, kLdR_e, kStR_e, kFld_e, kNth_0, kNth_s, kPut_e, fit_I, fit_Z, fit_B, fit_C, fit_A, fit_O, Option.toList_some, Option.toList_none, List.cons_append, List.nil_append, true_and, and_true, List.set_cons_zero, List.set_cons_succ, st_same, Int.toNat_natCast, Int.cast_ofNat_Int, Nat.zero_add, Nat.reduceAdd, kRcv_1, kRcv_2, kRcv_3, kRcv_0, kRcv_4, kRcv_5, setWy_set, Wyo, Wya1, Wyw1, Wya2, Wyw2, Wya3, Wyw3, Wya4, Wyw4, Wya5, Wyw5, Wya6, Wyw6, Wya7, Wyw7, Wya8, Wyw8, Wyp6, Wyp7, Wyp10, Wyp11, Wyp12, Wyp13, Wyp14, Wyp15, hb, pd16]
  unfold stV at hR
  by_cases c1 : p / 16 + b ≤ 12
  · rw [if_pos c1] at hR
    refine ⟨⟨by omega, by omega, by omega, by omega⟩, ⟨by unfold inR; omega, by unfold inR; omega⟩, fun _ => ?_, fun z => absurd (by omega) z⟩
    refine up (fun i => WP G k_Ways_rockOn 22 [some (vR W), some (vI (p : Nat)), some (vI (sumTo (fun j => acV f b (p + 16 * j)) i)), some (vI (i : Nat))] [] (setWy σ W m A) R) (n := b) ?_ ?_
    · intro i hi ih
      have hk := hA (p + 16 * i) (by omega)
      rw [sum_s] at ih
      rw [e_Ways_rockOn_22]
      simp only [e_Ways_rockOn_23, e_Ways_rockOn_24, e_Ways_rockOn_27, e_Ways_rockOn_30, e_Ways_rockOn_31, e_Ways_rockOn_32, e_Ways_rockOn_35, e_Ways_rockOn_36, e_Ways_rockOn_37, e_Ways_rockOn_39, e_Ways_rockOn_40, e_Ways_rockOn_41, kR_l, kR_r, kP_0, kP_i, kP_r, kP_n, kP_s, kP_o, kLen_I, kLen_L, kLen_R, kLdI_0, kLdI_1, kLdI_2, kLdI_3, kStI_0, kStI_1, kLdL_e, kStL_e, kLdR_e, kStR_e, kFld_e, kNth_0, kNth_s, kPut_e, fit_I, fit_Z, fit_B, fit_C, fit_A, fit_O, Option.toList_some, Option.toList_none, List.cons_append, List.nil_append, true_and, and_true, List.set_cons_zero, List.set_cons_succ, st_same, Int.toNat_natCast, Int.cast_ofNat_Int, Nat.zero_add, Nat.reduceAdd, kRcv_1, kRcv_2, kRcv_3, kRcv_0, kRcv_4, kRcv_5, setWy_set, Wyo, Wya1, Wyw1, Wya2, Wyw2, Wya3, Wyw3, Wya4, Wyw4, Wya5, Wyw5, Wya6, Wyw6, Wya7, Wyw7, Wya8, Wyw8, Wyp6, Wyp7, Wyp10, Wyp11, Wyp12, Wyp13, Wyp14, Wyp15, hb]
      rw [s_Cp_at (Wya1 σ W m A) (Or.inl rfl) (by omega) (by unfold inR; omega), if_pos (by omega), show ((p : Int) + (i : Int) * 16).toNat = p + 16 * i by omega, hk]
      simp only [e_Ways_rockOn_44, e_Ways_rockOn_45, e_Ways_rockOn_46, e_Ways_rockOn_49, kR_l, kR_r, kP_0, kP_i, kP_r, kP_n, kP_s, kP_o, kLen_I, kLen_L, kLen_R, kLdI_0, kLdI_1, kLdI_2, kLdI_3, kStI_0, kStI_1, kLdL_e, kStL_e, kLdR_e, kStR_e, kFld_e, kNth_0, kNth_s, kPut_e, fit_I, fit_Z, fit_B, fit_C, fit_A, fit_O, Option.toList_some, Option.toList_none, List.cons_append, List.nil_append, true_and, and_true, List.set_cons_zero, List.set_cons_succ, st_same, Int.toNat_natCast, Int.cast_ofNat_Int, Nat.zero_add, Nat.reduceAdd, kRcv_1, kRcv_2, kRcv_3, kRcv_0, kRcv_4, kRcv_5]
      refine ⟨⟨by unfold inR; omega, by unfold inR; omega⟩, fun z => absurd z (by omega), fun _ => ?_⟩
      exact ih
    · rw [e_Ways_rockOn_22]
      simp only [e_Ways_rockOn_23, e_Ways_rockOn_24, e_Ways_rockOn_27, e_Ways_rockOn_52, e_Ways_rockOn_53, kR_l, kR_r, kP_0, kP_i, kP_r, kP_n, kP_s, kP_o, kLen_I, kLen_L, kLen_R, kLdI_0, kLdI_1, kLdI_2, kLdI_3, kStI_0, kStI_1, kLdL_e, kStL_e, kLdR_e, kStR_e, kFld_e, kNth_0, kNth_s, kPut_e, fit_I, fit_Z, fit_B, fit_C, fit_A, fit_O, Option.toList_some, Option.toList_none, List.cons_append, List.nil_append, true_and, and_true, List.set_cons_zero, List.set_cons_succ, st_same, Int.toNat_natCast, Int.cast_ofNat_Int, Nat.zero_add, Nat.reduceAdd, kRcv_1, kRcv_2, kRcv_3, kRcv_0, kRcv_4, kRcv_5, setWy_set, Wyo, Wya1, Wyw1, Wya2, Wyw2, Wya3, Wyw3, Wya4, Wyw4, Wya5, Wyw5, Wya6, Wyw6, Wya7, Wyw7, Wya8, Wyw8, Wyp6, Wyp7, Wyp10, Wyp11, Wyp12, Wyp13, Wyp14, Wyp15, hb]
      all_goals ((repeat' (first | with_reducible refine And.intro ?_ ?_ | intro _)) <;> first | with_reducible assumption | exact True.intro | with_reducible exact hR | omega | (simp only [inR] at *; omega) | exact hR | with_reducible rfl | rfl | (simp; done) | (exfalso; simp_all; done) | skip)
  · rw [if_neg c1] at hR
    refine ⟨⟨by omega, by omega, by omega, by omega⟩, ⟨by unfold inR; omega, by unfold inR; omega⟩, fun z => absurd z (by omega), fun _ => ?_⟩
    all_goals ((repeat' (first | with_reducible refine And.intro ?_ ?_ | intro _)) <;> first | with_reducible assumption | exact True.intro | with_reducible exact hR | omega | (simp only [inR] at *; omega) | exact hR | with_reducible rfl | rfl | (simp; done) | (exfalso; simp_all; done) | skip)
theorem s_canStand {p : Nat} (hp : p < 192) (hb : 0 ≤ A 3 p ∧ A 3 p ≤ 100000) : CW G k_Ways_canStand [vR W, vI (p : Nat)] (setWy σ W m A) Q = Q (.inl (some (vI (b01 (A 3 p < 4096))))) (setWy σ W m A) := by
  refine CW.det' fun R hR => ?_
  simp only [c_Ways_canStand, e_Ways_canStand_0, e_Ways_canStand_1, e_Ways_canStand_4, e_Ways_canStand_5, e_Ways_canStand_6, e_Ways_canStand_9, e_Ways_canStand_10, e_Ways_canStand_13, e_Ways_canStand_14, e_Ways_canStand_17, e_Ways_canStand_18, e_Ways_canStand_19, e_Ways_canStand_22, e_Ways_canStand_25, e_Ways_canStand_26, e_Ways_canStand_29, e_Ways_canStand_30, kR_l, kR_r, kP_0, kP_i, kP_r, kP_n, kP_s, kP_o, kLen_I, kLen_L, kLen_R, kLdI_0, kLdI_1, kLdI_2, kLdI_3, kStI_0, kStI_1, kLdL_e, kStL_e, kLdR_e, kStR_e, kFld_e, kNth_0, kNth_s, kPut_e, fit_I, fit_Z, fit_B, fit_C, fit_A, fit_O, Option.toList_some, Option.toList_none, List.cons_append, List.nil_append, true_and, and_true, List.set_cons_zero, List.set_cons_succ, st_same, Int.toNat_natCast, Int.cast_ofNat_Int, Nat.zero_add, Nat.reduceAdd, kRcv_1, kRcv_2, kRcv_3, kRcv_0, kRcv_4, kRcv_5, setWy_set, Wyo, Wya1, Wyw1, Wya2, Wyw2, Wya3, Wyw3, Wya4, Wyw4, Wya5, Wyw5, Wya6, Wyw6, Wya7, Wyw7, Wya8, Wyw8, Wyp6, Wyp7, Wyp10, Wyp11, Wyp12, Wyp13, Wyp14, Wyp15]
  by_cases c1 : A 3 p < 4096
  · rw [b01_t c1] at hR
    all_goals ((repeat' (first | with_reducible refine And.intro ?_ ?_ | intro _)) <;> first | with_reducible assumption | exact True.intro | with_reducible exact hR | omega | (simp only [inR] at *; omega) | exact hR | with_reducible rfl | rfl | (simp; done) | (exfalso; simp_all; done) | skip)
  · rw [b01_f c1] at hR
    all_goals ((repeat' (first | with_reducible refine And.intro ?_ ?_ | intro _)) <;> first | with_reducible assumption | exact True.intro | with_reducible exact hR | omega | (simp only [inR] at *; omega) | exact hR | with_reducible rfl | rfl | (simp; done) | (exfalso; simp_all; done) | skip)
def lkM (m : Nat → Int) (g : Nat → Int) (r : Int) : Nat → Int := upI (upI (upI (upI m 12 (bxAt g r 0)) 13 (bxAt g r 1)) 14 (bxAt g r 0 + bxAt g r 2)) 15 (bxAt g r 1 + bxAt g r 3)
theorem s_lookAt {r : Int} (hP : ∀ m A, PlanC (setWy σ W m A) P f g h c) (hG : G 0 ≤ W) (hr : inR r) : CW G k_Ways_lookAt [vR W, vR P, vI r] (setWy σ W m A) Q = Q (.inl none) (setWy σ W (lkM m g r) A) := by
  refine CW.det' fun R hR => ?_
  have B := fun m w h Q => s_Plan_box (G := G) (Q := Q) (x := r) (y := w) (hP m A) hr h
  simp (disch := first | assumption | omega | (unfold inR; omega)) only [c_Ways_lookAt, e_Ways_lookAt_0, e_Ways_lookAt_1, e_Ways_lookAt_2, e_Ways_lookAt_3, e_Ways_lookAt_4, e_Ways_lookAt_7, e_Ways_lookAt_10, e_Ways_lookAt_11, e_Ways_lookAt_12, e_Ways_lookAt_13, e_Ways_lookAt_14, e_Ways_lookAt_17, e_Ways_lookAt_20, e_Ways_lookAt_21, e_Ways_lookAt_22, e_Ways_lookAt_25, e_Ways_lookAt_26, e_Ways_lookAt_27, e_Ways_lookAt_28, e_Ways_lookAt_31, e_Ways_lookAt_32, e_Ways_lookAt_35, e_Ways_lookAt_36, e_Ways_lookAt_37, e_Ways_lookAt_40, e_Ways_lookAt_41, e_Ways_lookAt_42, e_Ways_lookAt_43, e_Ways_lookAt_46, e_Ways_lookAt_47, e_Ways_lookAt_50, kR_l, kR_r, kP_0, kP_i, kP_r, kP_n, kP_s, kP_o, kLen_I, kLen_L, kLen_R, kLdI_0, kLdI_1, kLdI_2, kLdI_3, kStI_0, kStI_1, kLdL_e, kStL_e, kLdR_e, kStR_e, kFld_e, kNth_0, kNth_s, kPut_e, fit_I, fit_Z, fit_B, fit_C, fit_A, fit_O, Option.toList_some, Option.toList_none, List.cons_append, List.nil_append, true_and, and_true, List.set_cons_zero, List.set_cons_succ, st_same, Int.toNat_natCast, Int.cast_ofNat_Int, Nat.zero_add, Nat.reduceAdd, kRcv_1, kRcv_2, kRcv_3, kRcv_0, kRcv_4, kRcv_5, setWy_set, Wyo, Wya1, Wyw1, Wya2, Wyw2, Wya3, Wyw3, Wya4, Wyw4, Wya5, Wyw5, Wya6, Wyw6, Wya7, Wyw7, Wya8, Wyw8, Wyp6, Wyp7, Wyp10, Wyp11, Wyp12, Wyp13, Wyp14, Wyp15, (hP _ _).1, kRcv_1, B, List.length_cons, List.length_nil]
  unfold lkM at hR
  all_goals ((repeat' (first | with_reducible refine And.intro ?_ ?_ | intro _)) <;> first | with_reducible assumption | exact True.intro | with_reducible exact hR | omega | (simp only [inR] at *; omega) | exact hR | with_reducible rfl | rfl | (simp; done) | (exfalso; simp_all; done) | skip)
theorem s_isAtChamber {p : Nat} {L T R B v : Int} (hb : m 11 = (b : Nat)) (hb3 : b ≤ 3) (hp : p < 192) (hL : m 12 = L) (hT : m 13 = T) (hR : m 14 = R) (hB : m 15 = B) (h1 : 0 ≤ L ∧ L ≤ 100) (h2 : 0 ≤ T ∧ T ≤ 100) (h3 : 0 ≤ R ∧ R ≤ 100) (h4 : 0 ≤ B ∧ B ≤ 100) (hv1 : icC b L T R B p → v = 1) (hv0 : ¬ icC b L T R B p → v = 0) : CW G k_Ways_isAtChamber [vR W, vI (p : Nat)] (setWy σ W m A) Q = Q (.inl (some (vI v))) (setWy σ W m A) := by
  refine CW.det' fun R9 hR9 => ?_
  simp only [c_Ways_isAtChamber, e_Ways_isAtChamber_0, e_Ways_isAtChamber_1, e_Ways_isAtChamber_3, e_Ways_isAtChamber_4, e_Ways_isAtChamber_5, e_Ways_isAtChamber_6, e_Ways_isAtChamber_8, e_Ways_isAtChamber_9, e_Ways_isAtChamber_10, e_Ways_isAtChamber_11, e_Ways_isAtChamber_12, e_Ways_isAtChamber_15, e_Ways_isAtChamber_18, e_Ways_isAtChamber_19, e_Ways_isAtChamber_20, e_Ways_isAtChamber_23, e_Ways_isAtChamber_24, e_Ways_isAtChamber_25, e_Ways_isAtChamber_28, e_Ways_isAtChamber_31, e_Ways_isAtChamber_32, e_Ways_isAtChamber_33, e_Ways_isAtChamber_36, e_Ways_isAtChamber_39, e_Ways_isAtChamber_40, e_Ways_isAtChamber_43, e_Ways_isAtChamber_44, e_Ways_isAtChamber_45, e_Ways_isAtChamber_48, e_Ways_isAtChamber_49, e_Ways_isAtChamber_52, e_Ways_isAtChamber_53, e_Ways_isAtChamber_56, e_Ways_isAtChamber_57, e_Ways_isAtChamber_58, e_Ways_isAtChamber_59, e_Ways_isAtChamber_60, e_Ways_isAtChamber_63, e_Ways_isAtChamber_66, e_Ways_isAtChamber_67, e_Ways_isAtChamber_68, e_Ways_isAtChamber_71, e_Ways_isAtChamber_72, e_Ways_isAtChamber_73, e_Ways_isAtChamber_76, e_Ways_isAtChamber_79, e_Ways_isAtChamber_80, e_Ways_isAtChamber_81, e_Ways_isAtChamber_84, e_Ways_isAtChamber_87, e_Ways_isAtChamber_88, e_Ways_isAtChamber_91, e_Ways_isAtChamber_92, e_Ways_isAtChamber_93, e_Ways_isAtChamber_96, e_Ways_isAtChamber_97, e_Ways_isAtChamber_100, e_Ways_isAtChamber_101, e_Ways_isAtChamber_104, e_Ways_isAtChamber_105, kR_l, kR_r, kP_0, kP_i, kP_r, kP_n, kP_s, kP_o, kLen_I, kLen_L, kLen_R, kLdI_0, kLdI_1, kLdI_2, kLdI_3, kStI_0, kStI_1, kLdL_e, kStL_e, kLdR_e, kStR_e, kFld_e, kNth_0, kNth_s, kPut_e, fit_I, fit_Z, fit_B, fit_C, fit_A, fit_O, Option.toList_some, Option.toList_none, List.cons_append, List.nil_append, true_and, and_true, List.set_cons_zero, List.set_cons_succ, st_same, Int.toNat_natCast, Int.cast_ofNat_Int, Nat.zero_add, Nat.reduceAdd, kRcv_1, kRcv_2, kRcv_3, kRcv_0, kRcv_4, kRcv_5, setWy_set, Wyo, Wya1, Wyw1, Wya2, Wyw2, Wya3, Wyw3, Wya4, Wyw4, Wya5, Wyw5, Wya6, Wyw6, Wya7, Wyw7, Wya8, Wyw8, Wyp6, Wyp7, Wyp10, Wyp11, Wyp12, Wyp13, Wyp14, Wyp15, hb, hL, hT, hR, hB, pm16, pd16]
  unfold icC at hv1 hv0
  by_cases c1 : (((p % 16 : Nat) : Int) = R ∨ ((p % 16 : Nat) : Int) + b = L) ∧ ((p / 16 : Nat) : Int) < B ∧ T < ((p / 16 : Nat) : Int) + b ∨ ¬ (((p % 16 : Nat) : Int) = R ∨ ((p % 16 : Nat) : Int) + b = L) ∧ (((p / 16 : Nat) : Int) = B ∨ ((p / 16 : Nat) : Int) + b = T) ∧ ((p % 16 : Nat) : Int) < R ∧ L < ((p % 16 : Nat) : Int) + b
  · rw [hv1 c1] at hR9
    clear hv1 hv0
    all_goals ((repeat' (first | with_reducible refine And.intro ?_ ?_ | intro _)) <;> first | with_reducible assumption | exact True.intro | with_reducible exact hR9 | omega | (simp only [inR] at *; omega) | exact hR9 | with_reducible rfl | rfl | (simp; done) | (exfalso; simp_all; done) | skip)
  · rw [hv0 c1] at hR9
    clear hv1 hv0
    all_goals ((repeat' (first | with_reducible refine And.intro ?_ ?_ | intro _)) <;> first | with_reducible assumption | exact True.intro | with_reducible exact hR9 | omega | (simp only [inR] at *; omega) | exact hR9 | with_reducible rfl | rfl | (simp; done) | (exfalso; simp_all; done) | skip)
end WY1

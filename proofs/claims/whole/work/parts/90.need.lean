/-! THE CLASS'S WAYS: what is needed; squares changed; digging what was found -/
theorem setWy_P {σ : AS} {P W : Nat} {m : Nat → Int} {A : Nat → Nat → Int} {f g h : Nat → Int} {c : Int} (hd : P + 4 ≤ W) (hP : PlanC σ P f g h c) : PlanC (setWy σ W m A) P f g h c := hP.away (fun a h1 h2 => setWy_out (by omega))
theorem setP_W {σ : AS} {P W : Nat} {m : Nat → Int} {A : Nat → Nat → Int} {f g h : Nat → Int} {c : Int} (hd : P + 4 ≤ W) : setP (setWy σ W m A) P f g h c = setWy (setP σ P f g h c) W m A := by
  have hI := setWy_is σ W m A
  refine setB_eq ⟨by rw [setP_out (by omega)]; exact hI.1, fun k h1 h2 => by rw [setP_out (by omega)]; exact hI.2 k h1 h2⟩ (fun a ha => ?_) rfl
  rw [setP_at, setP_at, setWy_out ha]
def setPs (σ : AS) (P : Nat) (s : Nat → Int) : AS := setP σ P (pF s) (pG s) (pH s) (s 252)
theorem setPs_is (σ : AS) (P : Nat) (s : Nat → Int) : PlS (setPs σ P s) P s := setP_C _ _ _ _ _ _
theorem pG_hi {s s' : Nat → Int} (h : ∀ j, 192 ≤ j → s' j = s j) : pG s' = pG s := by
  funext k
  unfold pG
  rw [h (194 + 4 * (k / 4)) (by omega), h (192 + k) (by omega)]
theorem pH_hi {s s' : Nat → Int} (h : ∀ j, 192 ≤ j → s' j = s j) : pH s' = pH s := by
  funext k
  unfold pH
  rw [h (216 + k) (by omega)]
def csF (f F : Nat → Int) (v fr to : Int) (i : Nat) : Nat → Int := fun j => if j < i ∧ F j = v ∧ f j = fr then to else f j
theorem csF_0 (f F : Nat → Int) (v fr to : Int) : csF f F v fr to 0 = f := by
  funext j
  exact if_neg (by omega)
theorem csF_at (f F : Nat → Int) (v fr to : Int) (i : Nat) : csF f F v fr to i i = f i := if_neg (by omega)
theorem csF_up (f F : Nat → Int) (v fr to : Int) (i : Nat) : (F i = v ∧ f i = fr → upI (csF f F v fr to i) i to = csF f F v fr to (i + 1)) ∧ (¬ (F i = v ∧ f i = fr) → csF f F v fr to i = csF f F v fr to (i + 1)) := by
  constructor
  · intro h
    funext j
    rw [upI_at]
    unfold csF
    by_cases e : j = i
    · rw [e, if_pos rfl, if_pos ⟨by omega, h⟩]
    · rw [if_neg e]
      by_cases c : j < i ∧ F j = v ∧ f j = fr
      · rw [if_pos c, if_pos ⟨by omega, c.2⟩]
      · rw [if_neg c, if_neg (fun z => c ⟨by omega, z.2⟩)]
  · intro h
    funext j
    unfold csF
    by_cases c : j < i ∧ F j = v ∧ f j = fr
    · rw [if_pos c, if_pos ⟨by omega, c.2⟩]
    · rw [if_neg c, if_neg (fun z => c ⟨by
        have : j ≠ i := fun e => h (by rw [← e]; exact z.2)
        omega, z.2⟩)]
theorem csF_OK {f F : Nat → Int} {v fr to : Int} (hf : SqOK f) (ht : to = -1 ∨ to = -2) (i : Nat) : SqOK (csF f F v fr to i) := by
  intro j
  unfold csF
  split
  · omega
  · exact hf j
section ND
variable {G : Nat → Nat} {σ : AS} {Q : (Option AV ⊕ Nat) → AS → Prop} {P W b : Nat} {s f g h : Nat → Int} {c : Int} {m : Nat → Int} {A : Nat → Nat → Int}
theorem s_needPlace {p : Nat} {F : Nat → Int} {R : Nat → Prop} (hG : G 0 ≤ W) (m11 : m 11 = (b : Nat)) (hb1 : 1 ≤ b) (hb3 : b ≤ 3) (h16 : p % 16 + b ≤ 16) (h12 : p / 16 + b ≤ 12) (hF : MkP F R)
    (hQ : ∀ F' : Nat → Int, MkP F' (fun j => R j ∨ ∃ w, w < b * b ∧ j = p + w % b + 16 * (w / b)) → Q (.inl none) (setWy σ W m (upA A 7 F'))) :
    CW G k_Ways_needPlace [vR W, vI (p : Nat)] (setWy σ W m (upA A 7 F)) Q := by
  simp only [c_Ways_needPlace, e_Ways_needPlace_0, e_Ways_needPlace_1, kR_l, kR_r, kP_0, kP_i, kP_r, kP_n, kP_s, kP_o, kLen_I, kLen_L, kLen_R, kLdI_0, kLdI_1, kLdI_2, kLdI_3, kStI_0, kStI_1, kLdL_e, kStL_e, kLdR_e, kStR_e, kFld_e, kNth_0, kNth_s, kPut_e, fit_I, fit_Z, fit_B, fit_C, fit_A, fit_O, Option.toList_some, Option.toList_none, List.cons_append, List.nil_append, true_and, and_true, List.set_cons_zero, List.set_cons_succ, st_same, Int.toNat_natCast, Int.cast_ofNat_Int, Nat.zero_add, Nat.reduceAdd, kRcv_1, kRcv_2, kRcv_3, kRcv_0, kRcv_4, kRcv_5]
  have key := upS (fun j (F : Nat → Int) => ∀ z3 z4, zI z3 → zI z4 → WP G k_Ways_needPlace 2 [some (vR W), some (vI (p : Nat)), some (vI (j : Nat)), z3, z4] [] (setWy σ W m (upA A 7 F)) Q) (fun j F => MkP F (fun i => R i ∨ ∃ w, w < j * b ∧ i = p + w % b + 16 * (w / b))) (n := b) ?_ ?_
  · exact key F (hF.iff (fun j => ⟨Or.inl, fun z => z.elim id (fun ⟨w, h, _⟩ => absurd h (by omega))⟩)) none none zI_n zI_n
  · intro j F hj hMk ih z3 z4 h3 h4
    have inner := upS (fun i (F : Nat → Int) => ∀ z4, zI z4 → WP G k_Ways_needPlace 12 [some (vR W), some (vI (p : Nat)), some (vI (j : Nat)), some (vI (i : Nat)), z4] [] (setWy σ W m (upA A 7 F)) Q) (fun i F => MkP F (fun q => R q ∨ ∃ w, w < j * b + i ∧ q = p + w % b + 16 * (w / b))) (n := b) ?_ ?_
    · have i0 := inner F hMk z4 h4
      clear inner ih hQ
      rw [e_Ways_needPlace_2]
      simp only [e_Ways_needPlace_3, e_Ways_needPlace_4, e_Ways_needPlace_7, e_Ways_needPlace_10, e_Ways_needPlace_11, kR_l, kR_r, kP_0, kP_i, kP_r, kP_n, kP_s, kP_o, kLen_I, kLen_L, kLen_R, kLdI_0, kLdI_1, kLdI_2, kLdI_3, kStI_0, kStI_1, kLdL_e, kStL_e, kLdR_e, kStR_e, kFld_e, kNth_0, kNth_s, kPut_e, fit_I, fit_Z, fit_B, fit_C, fit_A, fit_O, Option.toList_some, Option.toList_none, List.cons_append, List.nil_append, true_and, and_true, List.set_cons_zero, List.set_cons_succ, st_same, Int.toNat_natCast, Int.cast_ofNat_Int, Nat.zero_add, Nat.reduceAdd, kRcv_1, kRcv_2, kRcv_3, kRcv_0, kRcv_4, kRcv_5, setWy_set, Wyo, Wya1, Wyw1, Wya2, Wyw2, Wya3, Wyw3, Wya4, Wyw4, Wya5, Wyw5, Wya6, Wyw6, Wya7, Wyw7, Wya8, Wyw8, Wyp6, Wyp7, Wyp10, Wyp11, Wyp12, Wyp13, Wyp14, Wyp15, m11, kP_z h3]
      all_goals ((repeat' (first | with_reducible refine And.intro ?_ ?_ | intro _)) <;> first | with_reducible assumption | exact True.intro | with_reducible exact i0 | omega | (simp only [inR] at *; omega) | exact i0 | with_reducible rfl | rfl | (simp; done) | (exfalso; simp_all; done) | skip)
    · intro i F hi hMk2 ihi z4 h4
      have hm : (j * b + i) % b = i := by rw [Nat.add_comm, Nat.add_mul_mod_self_right, Nat.mod_eq_of_lt hi]
      have hd : (j * b + i) / b = j := by rw [Nat.add_comm, Nat.add_mul_div_right _ _ hb1, Nat.div_eq_of_lt hi, Nat.zero_add]
      have nx := ihi _ (MkP.iff (hMk2.up (p + i + 16 * j)) (fun q => by
        constructor
        · rintro ((z | ⟨w, h1, h2⟩) | z)
          · exact Or.inl z
          · exact Or.inr ⟨w, by omega, h2⟩
          · exact Or.inr ⟨j * b + i, by omega, by rw [hm, hd]; exact z⟩
        · rintro (z | ⟨w, h1, h2⟩)
          · exact Or.inl (Or.inl z)
          · by_cases ee : w = j * b + i
            · rw [ee, hm, hd] at h2
              exact Or.inr h2
            · exact Or.inl (Or.inr ⟨w, by omega, h2⟩))) (some (vI (((p + i + 16 * j : Nat) : Nat) : Int))) (zI_s _)
      have e1 : ((p : Int) + (j : Int) * 16 + (i : Int)) = ((p + i + 16 * j : Nat) : Int) := by omega
      have hlt : p + i + 16 * j < 192 := by omega
      clear ihi ih hQ hMk2 hMk hF
      rw [e_Ways_needPlace_12]
      simp only [e_Ways_needPlace_13, e_Ways_needPlace_14, e_Ways_needPlace_17, e_Ways_needPlace_20, e_Ways_needPlace_21, e_Ways_needPlace_22, e_Ways_needPlace_24, e_Ways_needPlace_25, e_Ways_needPlace_26, e_Ways_needPlace_27, e_Ways_needPlace_28, e_Ways_needPlace_30, e_Ways_needPlace_32, e_Ways_needPlace_35, e_Ways_needPlace_37, e_Ways_needPlace_38, e_Ways_needPlace_41, e_Ways_needPlace_42, e_Ways_needPlace_45, e_Ways_needPlace_46, e_Ways_needPlace_49, e_Ways_needPlace_51, e_Ways_needPlace_52, e_Ways_needPlace_53, e_Ways_needPlace_56, kR_l, kR_r, kP_0, kP_i, kP_r, kP_n, kP_s, kP_o, kLen_I, kLen_L, kLen_R, kLdI_0, kLdI_1, kLdI_2, kLdI_3, kStI_0, kStI_1, kLdL_e, kStL_e, kLdR_e, kStR_e, kFld_e, kNth_0, kNth_s, kPut_e, fit_I, fit_Z, fit_B, fit_C, fit_A, fit_O, Option.toList_some, Option.toList_none, List.cons_append, List.nil_append, true_and, and_true, List.set_cons_zero, List.set_cons_succ, st_same, Int.toNat_natCast, Int.cast_ofNat_Int, Nat.zero_add, Nat.reduceAdd, kRcv_1, kRcv_2, kRcv_3, kRcv_0, kRcv_4, kRcv_5, setWy_set, Wyo, Wya1, Wyw1, Wya2, Wyw2, Wya3, Wyw3, Wya4, Wyw4, Wya5, Wyw5, Wya6, Wyw6, Wya7, Wyw7, Wya8, Wyw8, Wyp6, Wyp7, Wyp10, Wyp11, Wyp12, Wyp13, Wyp14, Wyp15, m11, kP_z h4, e1, upA_at, upA_upA, reduceIte, Nat.reduceEqDiff]
      generalize p + i + 16 * j = v at *
      all_goals ((repeat' (first | with_reducible refine And.intro ?_ ?_ | intro _)) <;> first | with_reducible assumption | exact True.intro | with_reducible exact nx | omega | (simp only [inR] at *; omega) | exact nx | with_reducible rfl | rfl | (simp; done) | (exfalso; simp_all; done) | skip)
    · intro F hMk2 z4 h4
      have nx := ih F (hMk2.iff (fun q => by rw [Nat.succ_mul])) (some (vI (b : Nat))) z4 (zI_s _) h4
      clear ih hQ hMk2 hMk hF
      rw [e_Ways_needPlace_12]
      simp only [e_Ways_needPlace_13, e_Ways_needPlace_14, e_Ways_needPlace_17, e_Ways_needPlace_59, e_Ways_needPlace_62, kR_l, kR_r, kP_0, kP_i, kP_r, kP_n, kP_s, kP_o, kLen_I, kLen_L, kLen_R, kLdI_0, kLdI_1, kLdI_2, kLdI_3, kStI_0, kStI_1, kLdL_e, kStL_e, kLdR_e, kStR_e, kFld_e, kNth_0, kNth_s, kPut_e, fit_I, fit_Z, fit_B, fit_C, fit_A, fit_O, Option.toList_some, Option.toList_none, List.cons_append, List.nil_append, true_and, and_true, List.set_cons_zero, List.set_cons_succ, st_same, Int.toNat_natCast, Int.cast_ofNat_Int, Nat.zero_add, Nat.reduceAdd, kRcv_1, kRcv_2, kRcv_3, kRcv_0, kRcv_4, kRcv_5, setWy_set, Wyo, Wya1, Wyw1, Wya2, Wyw2, Wya3, Wyw3, Wya4, Wyw4, Wya5, Wyw5, Wya6, Wyw6, Wya7, Wyw7, Wya8, Wyw8, Wyp6, Wyp7, Wyp10, Wyp11, Wyp12, Wyp13, Wyp14, Wyp15, m11]
      all_goals ((repeat' (first | with_reducible refine And.intro ?_ ?_ | intro _)) <;> first | with_reducible assumption | exact True.intro | with_reducible exact nx | omega | (simp only [inR] at *; omega) | exact nx | with_reducible rfl | rfl | (simp; done) | (exfalso; simp_all; done) | skip)
  · intro F hMk z3 z4 h3 h4
    have hq := hQ F hMk
    clear hQ hMk hF
    rw [e_Ways_needPlace_2]
    simp only [e_Ways_needPlace_3, e_Ways_needPlace_4, e_Ways_needPlace_7, e_Ways_needPlace_65, kR_l, kR_r, kP_0, kP_i, kP_r, kP_n, kP_s, kP_o, kLen_I, kLen_L, kLen_R, kLdI_0, kLdI_1, kLdI_2, kLdI_3, kStI_0, kStI_1, kLdL_e, kStL_e, kLdR_e, kStR_e, kFld_e, kNth_0, kNth_s, kPut_e, fit_I, fit_Z, fit_B, fit_C, fit_A, fit_O, Option.toList_some, Option.toList_none, List.cons_append, List.nil_append, true_and, and_true, List.set_cons_zero, List.set_cons_succ, st_same, Int.toNat_natCast, Int.cast_ofNat_Int, Nat.zero_add, Nat.reduceAdd, kRcv_1, kRcv_2, kRcv_3, kRcv_0, kRcv_4, kRcv_5, setWy_set, Wyo, Wya1, Wyw1, Wya2, Wyw2, Wya3, Wyw3, Wya4, Wyw4, Wya5, Wyw5, Wya6, Wyw6, Wya7, Wyw7, Wya8, Wyw8, Wyp6, Wyp7, Wyp10, Wyp11, Wyp12, Wyp13, Wyp14, Wyp15, m11]
    all_goals ((repeat' (first | with_reducible refine And.intro ?_ ?_ | intro _)) <;> first | with_reducible assumption | exact True.intro | with_reducible exact hq | omega | (simp only [inR] at *; omega) | exact hq | with_reducible rfl | rfl | (simp; done) | (exfalso; simp_all; done) | skip)
theorem s_needFound {N : Nat} {pl : Nat → Nat} {F : Nat → Int} {R : Nat → Prop} (hG : G 0 ≤ W) (m10 : m 10 = (N : Nat)) (m11 : m 11 = (b : Nat)) (hb1 : 1 ≤ b) (hb3 : b ≤ 3) (hN : N ≤ 192) (hpl : ∀ k, k < N → A 8 k = (pl k : Nat) ∧ pl k % 16 + b ≤ 16 ∧ pl k / 16 + b ≤ 12) (hF : MkP F R)
    (hQ : ∀ F' : Nat → Int, MkP F' (fun j => R j ∨ tcW pl b N j) → Q (.inl none) (setWy σ W m (upA A 7 F'))) :
    CW G k_Ways_needFound [vR W] (setWy σ W m (upA A 7 F)) Q := by
  simp only [c_Ways_needFound, e_Ways_needFound_0, e_Ways_needFound_1, kR_l, kR_r, kP_0, kP_i, kP_r, kP_n, kP_s, kP_o, kLen_I, kLen_L, kLen_R, kLdI_0, kLdI_1, kLdI_2, kLdI_3, kStI_0, kStI_1, kLdL_e, kStL_e, kLdR_e, kStR_e, kFld_e, kNth_0, kNth_s, kPut_e, fit_I, fit_Z, fit_B, fit_C, fit_A, fit_O, Option.toList_some, Option.toList_none, List.cons_append, List.nil_append, true_and, and_true, List.set_cons_zero, List.set_cons_succ, st_same, Int.toNat_natCast, Int.cast_ofNat_Int, Nat.zero_add, Nat.reduceAdd, kRcv_1, kRcv_2, kRcv_3, kRcv_0, kRcv_4, kRcv_5]
  have key := upS (fun k (F : Nat → Int) => WP G k_Ways_needFound 2 [some (vR W), some (vI (k : Nat))] [] (setWy σ W m (upA A 7 F)) Q) (fun k F => MkP F (fun i => R i ∨ tcW pl b k i)) (n := N) ?_ ?_
  · exact key F (hF.iff (fun j => ⟨Or.inl, fun z => z.elim id (fun ⟨w, h, _⟩ => absurd h (by omega))⟩))
  · intro k F hk hMk ih
    obtain ⟨h8, p16, p12⟩ := hpl k hk
    have e8 : upA A 7 F 8 k = (pl k : Nat) := h8
    rw [e_Ways_needFound_2]
    simp only [e_Ways_needFound_3, e_Ways_needFound_4, e_Ways_needFound_7, e_Ways_needFound_10, e_Ways_needFound_11, e_Ways_needFound_12, e_Ways_needFound_15, e_Ways_needFound_16, kR_l, kR_r, kP_0, kP_i, kP_r, kP_n, kP_s, kP_o, kLen_I, kLen_L, kLen_R, kLdI_0, kLdI_1, kLdI_2, kLdI_3, kStI_0, kStI_1, kLdL_e, kStL_e, kLdR_e, kStR_e, kFld_e, kNth_0, kNth_s, kPut_e, fit_I, fit_Z, fit_B, fit_C, fit_A, fit_O, Option.toList_some, Option.toList_none, List.cons_append, List.nil_append, true_and, and_true, List.set_cons_zero, List.set_cons_succ, st_same, Int.toNat_natCast, Int.cast_ofNat_Int, Nat.zero_add, Nat.reduceAdd, kRcv_1, kRcv_2, kRcv_3, kRcv_0, kRcv_4, kRcv_5, setWy_set, Wyo, Wya1, Wyw1, Wya2, Wyw2, Wya3, Wyw3, Wya4, Wyw4, Wya5, Wyw5, Wya6, Wyw6, Wya7, Wyw7, Wya8, Wyw8, Wyp6, Wyp7, Wyp10, Wyp11, Wyp12, Wyp13, Wyp14, Wyp15, m10]
    refine ⟨⟨by unfold inR; omega, by unfold inR; omega⟩, (fun h => by first | exact absurd h (by omega) | exact absurd trivial h | (exfalso; simp_all; done)), fun _ => ?_⟩
    rw [s_Cp_at (Wya8 σ W m (upA A 7 F)) (Or.inl rfl) (by omega) (by unfold inR; omega), if_pos (by omega), Int.toNat_natCast, e8]
    simp only [e_Ways_needFound_19, kR_l, kR_r, kP_0, kP_i, kP_r, kP_n, kP_s, kP_o, kLen_I, kLen_L, kLen_R, kLdI_0, kLdI_1, kLdI_2, kLdI_3, kStI_0, kStI_1, kLdL_e, kStL_e, kLdR_e, kStR_e, kFld_e, kNth_0, kNth_s, kPut_e, fit_I, fit_Z, fit_B, fit_C, fit_A, fit_O, Option.toList_some, Option.toList_none, List.cons_append, List.nil_append, true_and, and_true, List.set_cons_zero, List.set_cons_succ, st_same, Int.toNat_natCast, Int.cast_ofNat_Int, Nat.zero_add, Nat.reduceAdd, kRcv_1, kRcv_2, kRcv_3, kRcv_0, kRcv_4, kRcv_5, setWy_set, Wyo, Wya1, Wyw1, Wya2, Wyw2, Wya3, Wyw3, Wya4, Wyw4, Wya5, Wyw5, Wya6, Wyw6, Wya7, Wyw7, Wya8, Wyw8, Wyp6, Wyp7, Wyp10, Wyp11, Wyp12, Wyp13, Wyp14, Wyp15]
    refine s_needPlace hG m11 hb1 hb3 p16 p12 hMk (fun F' hF' => ?_)
    have nx := ih F' (hF'.iff (fun j => by
      constructor
      · rintro ((z | ⟨w, h1, h2⟩) | ⟨w, h1, h2⟩)
        · exact Or.inl z
        · exact Or.inr ⟨w, by omega, h2⟩
        · exact Or.inr ⟨k, by omega, w, h1, h2⟩
      · rintro (z | ⟨q, h1, w, h2, h3⟩)
        · exact Or.inl (Or.inl z)
        · by_cases ee : q = k
          · rw [ee] at h3
            exact Or.inr ⟨w, h2, h3⟩
          · exact Or.inl (Or.inr ⟨q, by omega, w, h2, h3⟩)))
    clear ih hQ hMk hF
    simp only [e_Ways_needFound_22, e_Ways_needFound_25, kR_l, kR_r, kP_0, kP_i, kP_r, kP_n, kP_s, kP_o, kLen_I, kLen_L, kLen_R, kLdI_0, kLdI_1, kLdI_2, kLdI_3, kStI_0, kStI_1, kLdL_e, kStL_e, kLdR_e, kStR_e, kFld_e, kNth_0, kNth_s, kPut_e, fit_I, fit_Z, fit_B, fit_C, fit_A, fit_O, Option.toList_some, Option.toList_none, List.cons_append, List.nil_append, true_and, and_true, List.set_cons_zero, List.set_cons_succ, st_same, Int.toNat_natCast, Int.cast_ofNat_Int, Nat.zero_add, Nat.reduceAdd, kRcv_1, kRcv_2, kRcv_3, kRcv_0, kRcv_4, kRcv_5]
    all_goals ((repeat' (first | with_reducible refine And.intro ?_ ?_ | intro _)) <;> first | with_reducible assumption | exact True.intro | with_reducible exact nx | omega | (simp only [inR] at *; omega) | exact nx | with_reducible rfl | rfl | (simp; done) | (exfalso; simp_all; done) | skip)
  · intro F hMk
    have hq := hQ F hMk
    clear hQ hMk hF
    rw [e_Ways_needFound_2]
    simp only [e_Ways_needFound_3, e_Ways_needFound_4, e_Ways_needFound_7, e_Ways_needFound_28, kR_l, kR_r, kP_0, kP_i, kP_r, kP_n, kP_s, kP_o, kLen_I, kLen_L, kLen_R, kLdI_0, kLdI_1, kLdI_2, kLdI_3, kStI_0, kStI_1, kLdL_e, kStL_e, kLdR_e, kStR_e, kFld_e, kNth_0, kNth_s, kPut_e, fit_I, fit_Z, fit_B, fit_C, fit_A, fit_O, Option.toList_some, Option.toList_none, List.cons_append, List.nil_append, true_and, and_true, List.set_cons_zero, List.set_cons_succ, st_same, Int.toNat_natCast, Int.cast_ofNat_Int, Nat.zero_add, Nat.reduceAdd, kRcv_1, kRcv_2, kRcv_3, kRcv_0, kRcv_4, kRcv_5, setWy_set, Wyo, Wya1, Wyw1, Wya2, Wyw2, Wya3, Wyw3, Wya4, Wyw4, Wya5, Wyw5, Wya6, Wyw6, Wya7, Wyw7, Wya8, Wyw8, Wyp6, Wyp7, Wyp10, Wyp11, Wyp12, Wyp13, Wyp14, Wyp15, m10]
    all_goals ((repeat' (first | with_reducible refine And.intro ?_ ?_ | intro _)) <;> first | with_reducible assumption | exact True.intro | with_reducible exact hq | omega | (simp only [inR] at *; omega) | exact hq | with_reducible rfl | rfl | (simp; done) | (exfalso; simp_all; done) | skip)
theorem s_changeSquares {v fr to : Int} (hP : PlanC σ P f g h c) (hd : P + 4 ≤ W) (hGP : G 0 ≤ P) (hf : SqOK f) (hv : v = 0 ∨ v = 1) (hfr : inR fr) (ht : to = -1 ∨ to = -2) (hM : ∀ j, j < 192 → A 7 j = 0 ∨ A 7 j = 1) :
    CW G k_Ways_changeSquares [vR W, vR P, vI v, vI fr, vI to] (setWy σ W m A) Q = Q (.inl (some (vI (sumTo (fun j => b01 (A 7 j = v ∧ f j = fr)) 192)))) (setWy (setP σ P (csF f (A 7) v fr to 192) g h c) W m A) := by
  refine CW.det' fun R hR => ?_
  simp only [c_Ways_changeSquares, e_Ways_changeSquares_0, e_Ways_changeSquares_1, e_Ways_changeSquares_3, e_Ways_changeSquares_4, kR_l, kR_r, kP_0, kP_i, kP_r, kP_n, kP_s, kP_o, kLen_I, kLen_L, kLen_R, kLdI_0, kLdI_1, kLdI_2, kLdI_3, kStI_0, kStI_1, kLdL_e, kStL_e, kLdR_e, kStR_e, kFld_e, kNth_0, kNth_s, kPut_e, fit_I, fit_Z, fit_B, fit_C, fit_A, fit_O, Option.toList_some, Option.toList_none, List.cons_append, List.nil_append, true_and, and_true, List.set_cons_zero, List.set_cons_succ, st_same, Int.toNat_natCast, Int.cast_ofNat_Int, Nat.zero_add, Nat.reduceAdd, kRcv_1, kRcv_2, kRcv_3, kRcv_0, kRcv_4, kRcv_5]
  have key := up (fun i => ∀ z7 z8, zI z7 → zI z8 → WP G k_Ways_changeSquares 6 [some (vR W), some (vR P), some (vI v), some (vI fr), some (vI to), some (vI (sumTo (fun j => b01 (A 7 j = v ∧ f j = fr)) i)), some (vI (i : Nat)), z7, z8] [] (setWy (setP σ P (csF f (A 7) v fr to i) g h c) W m A) R) (n := 192) ?_ ?_
  · have k0 := key none none zI_n zI_n
    rw [csF_0, setP_id hP] at k0
    exact k0
  · intro i hi ih z7 z8 h7 h8
    have hPi := setWy_P (m := m) (A := A) hd (setP_C σ P (csF f (A 7) v fr to i) g h c)
    have hb := cnt_bd (c := fun j => A 7 j = v ∧ f j = fr) i
    have hMi := hM i hi
    have hfi := hf i
    have hup := csF_up f (A 7) v fr to i
    have ex : (i : Int) % 16 = ((i % 16 : Nat) : Int) := rfl
    have ey : (i : Int) / 16 = ((i / 16 : Nat) : Int) := rfl
    have hsq : sqAt (csF f (A 7) v fr to i) ((i % 16 : Nat) : Int) ((i / 16 : Nat) : Int) = f i := by
      rw [sqAt_in (by omega), show (16 * ((i / 16 : Nat) : Int) + ((i % 16 : Nat) : Int)).toNat = i by omega, csF_at]
    have nx := ih _ _ (zI_s ((i % 16 : Nat) : Int)) (zI_s ((i / 16 : Nat) : Int))
    simp only [sum_s _ i] at nx
    clear ih hR
    rw [e_Ways_changeSquares_6]
    simp (disch := first | assumption | omega | (unfold inR; omega)) only [e_Ways_changeSquares_8, e_Ways_changeSquares_9, e_Ways_changeSquares_12, e_Ways_changeSquares_13, e_Ways_changeSquares_16, e_Ways_changeSquares_18, e_Ways_changeSquares_20, e_Ways_changeSquares_21, e_Ways_changeSquares_23, e_Ways_changeSquares_25, e_Ways_changeSquares_27, e_Ways_changeSquares_28, e_Ways_changeSquares_30, e_Ways_changeSquares_31, e_Ways_changeSquares_34, e_Ways_changeSquares_36, e_Ways_changeSquares_37, e_Ways_changeSquares_38, e_Ways_changeSquares_41, e_Ways_changeSquares_42, e_Ways_changeSquares_44, e_Ways_changeSquares_46, kR_l, kR_r, kP_0, kP_i, kP_r, kP_n, kP_s, kP_o, kLen_I, kLen_L, kLen_R, kLdI_0, kLdI_1, kLdI_2, kLdI_3, kStI_0, kStI_1, kLdL_e, kStL_e, kLdR_e, kStR_e, kFld_e, kNth_0, kNth_s, kPut_e, fit_I, fit_Z, fit_B, fit_C, fit_A, fit_O, Option.toList_some, Option.toList_none, List.cons_append, List.nil_append, true_and, and_true, List.set_cons_zero, List.set_cons_succ, st_same, Int.toNat_natCast, Int.cast_ofNat_Int, Nat.zero_add, Nat.reduceAdd, kRcv_1, kRcv_2, kRcv_3, kRcv_0, kRcv_4, kRcv_5, setWy_set, Wyo, Wya1, Wyw1, Wya2, Wyw2, Wya3, Wyw3, Wya4, Wyw4, Wya5, Wyw5, Wya6, Wyw6, Wya7, Wyw7, Wya8, Wyw8, Wyp6, Wyp7, Wyp10, Wyp11, Wyp12, Wyp13, Wyp14, Wyp15, kP_z h7, kP_z h8, ex, ey, hPi.1, s_Plan_squareAt hPi, hsq]
    by_cases c1 : A 7 i = v
    · by_cases c2 : f i = fr
      · have e5 : am_st (setWy (setP σ P (csF f (A 7) v fr to i) g h c) W m A) (P + 1) (oI 0 192 (if 0 ≤ ((i % 16 : Nat) : Int) ∧ ((i % 16 : Nat) : Int) < 16 ∧ 0 ≤ ((i / 16 : Nat) : Int) ∧ ((i / 16 : Nat) : Int) < 12 then upI (csF f (A 7) v fr to i) (16 * ((i / 16 : Nat) : Int) + ((i % 16 : Nat) : Int)).toNat to else csF f (A 7) v fr to i)) = setWy (setP σ P (csF f (A 7) v fr to (i + 1)) g h c) W m A := by
          rw [if_pos (by omega), show (16 * ((i / 16 : Nat) : Int) + ((i % 16 : Nat) : Int)).toNat = i by omega, hup.1 ⟨c1, c2⟩, setP_sq hPi, setP_W hd, setP_setP]
        rw [b01_t ⟨c1, c2⟩] at nx
        rw [c2]
        simp (disch := first | assumption | omega | (unfold inR; omega)) only [e_Ways_changeSquares_49, e_Ways_changeSquares_50, e_Ways_changeSquares_53, e_Ways_changeSquares_54, e_Ways_changeSquares_56, e_Ways_changeSquares_58, e_Ways_changeSquares_60, e_Ways_changeSquares_63, e_Ways_changeSquares_66, e_Ways_changeSquares_69, kR_l, kR_r, kP_0, kP_i, kP_r, kP_n, kP_s, kP_o, kLen_I, kLen_L, kLen_R, kLdI_0, kLdI_1, kLdI_2, kLdI_3, kStI_0, kStI_1, kLdL_e, kStL_e, kLdR_e, kStR_e, kFld_e, kNth_0, kNth_s, kPut_e, fit_I, fit_Z, fit_B, fit_C, fit_A, fit_O, Option.toList_some, Option.toList_none, List.cons_append, List.nil_append, true_and, and_true, List.set_cons_zero, List.set_cons_succ, st_same, Int.toNat_natCast, Int.cast_ofNat_Int, Nat.zero_add, Nat.reduceAdd, kRcv_1, kRcv_2, kRcv_3, kRcv_0, kRcv_4, kRcv_5, hPi.1, s_Plan_changeSquare hPi hGP, e5]
        generalize sumTo (fun j => b01 (A 7 j = v ∧ f j = fr)) i = S at *
        all_goals ((repeat' (first | with_reducible refine And.intro ?_ ?_ | intro _)) <;> first | with_reducible assumption | exact True.intro | with_reducible exact nx | omega | (simp only [inR] at *; omega) | exact nx | with_reducible rfl | rfl | (simp; done) | (exfalso; simp_all; done) | skip)
      · rw [b01_f (fun z => c2 z.2), Int.add_zero, ← hup.2 (fun z => c2 z.2)] at nx
        simp only [e_Ways_changeSquares_49, e_Ways_changeSquares_50, e_Ways_changeSquares_66, e_Ways_changeSquares_69, kR_l, kR_r, kP_0, kP_i, kP_r, kP_n, kP_s, kP_o, kLen_I, kLen_L, kLen_R, kLdI_0, kLdI_1, kLdI_2, kLdI_3, kStI_0, kStI_1, kLdL_e, kStL_e, kLdR_e, kStR_e, kFld_e, kNth_0, kNth_s, kPut_e, fit_I, fit_Z, fit_B, fit_C, fit_A, fit_O, Option.toList_some, Option.toList_none, List.cons_append, List.nil_append, true_and, and_true, List.set_cons_zero, List.set_cons_succ, st_same, Int.toNat_natCast, Int.cast_ofNat_Int, Nat.zero_add, Nat.reduceAdd, kRcv_1, kRcv_2, kRcv_3, kRcv_0, kRcv_4, kRcv_5]
        generalize sumTo (fun j => b01 (A 7 j = v ∧ f j = fr)) i = S at *
        all_goals ((repeat' (first | with_reducible refine And.intro ?_ ?_ | intro _)) <;> first | with_reducible assumption | exact True.intro | with_reducible exact nx | omega | (simp only [inR] at *; omega) | exact nx | with_reducible rfl | rfl | (simp; done) | (exfalso; simp_all; done) | skip)
    · rw [b01_f (fun z => c1 z.1), Int.add_zero, ← hup.2 (fun z => c1 z.1)] at nx
      simp only [e_Ways_changeSquares_49, e_Ways_changeSquares_50, e_Ways_changeSquares_66, e_Ways_changeSquares_69, kR_l, kR_r, kP_0, kP_i, kP_r, kP_n, kP_s, kP_o, kLen_I, kLen_L, kLen_R, kLdI_0, kLdI_1, kLdI_2, kLdI_3, kStI_0, kStI_1, kLdL_e, kStL_e, kLdR_e, kStR_e, kFld_e, kNth_0, kNth_s, kPut_e, fit_I, fit_Z, fit_B, fit_C, fit_A, fit_O, Option.toList_some, Option.toList_none, List.cons_append, List.nil_append, true_and, and_true, List.set_cons_zero, List.set_cons_succ, st_same, Int.toNat_natCast, Int.cast_ofNat_Int, Nat.zero_add, Nat.reduceAdd, kRcv_1, kRcv_2, kRcv_3, kRcv_0, kRcv_4, kRcv_5]
      generalize sumTo (fun j => b01 (A 7 j = v ∧ f j = fr)) i = S at *
      all_goals ((repeat' (first | with_reducible refine And.intro ?_ ?_ | intro _)) <;> first | with_reducible assumption | exact True.intro | with_reducible exact nx | omega | (simp only [inR] at *; omega) | exact nx | with_reducible rfl | rfl | (simp; done) | (exfalso; simp_all; done) | skip)
  · intro z7 z8 h7 h8
    rw [e_Ways_changeSquares_6]
    simp only [e_Ways_changeSquares_8, e_Ways_changeSquares_9, e_Ways_changeSquares_12, e_Ways_changeSquares_13, e_Ways_changeSquares_72, e_Ways_changeSquares_74, kR_l, kR_r, kP_0, kP_i, kP_r, kP_n, kP_s, kP_o, kLen_I, kLen_L, kLen_R, kLdI_0, kLdI_1, kLdI_2, kLdI_3, kStI_0, kStI_1, kLdL_e, kStL_e, kLdR_e, kStR_e, kFld_e, kNth_0, kNth_s, kPut_e, fit_I, fit_Z, fit_B, fit_C, fit_A, fit_O, Option.toList_some, Option.toList_none, List.cons_append, List.nil_append, true_and, and_true, List.set_cons_zero, List.set_cons_succ, st_same, Int.toNat_natCast, Int.cast_ofNat_Int, Nat.zero_add, Nat.reduceAdd, kRcv_1, kRcv_2, kRcv_3, kRcv_0, kRcv_4, kRcv_5, setWy_set, Wyo, Wya1, Wyw1, Wya2, Wyw2, Wya3, Wyw3, Wya4, Wyw4, Wya5, Wyw5, Wya6, Wyw6, Wya7, Wyw7, Wya8, Wyw8, Wyp6, Wyp7, Wyp10, Wyp11, Wyp12, Wyp13, Wyp14, Wyp15]
    generalize sumTo (fun j => b01 (A 7 j = v ∧ f j = fr)) 192 = S at *
    all_goals ((repeat' (first | with_reducible refine And.intro ?_ ?_ | intro _)) <;> first | with_reducible assumption | exact True.intro | with_reducible exact hR | omega | (simp only [inR] at *; omega) | exact hR | with_reducible rfl | rfl | (simp; done) | (exfalso; simp_all; done) | skip)
theorem MkP.bt {F : Nat → Int} {R : Nat → Prop} (h : MkP F R) : ∀ j, j < 192 → F j = 0 ∨ F j = 1 := fun j hj => by
  by_cases c : R j
  · exact Or.inr ((h j hj).1 c)
  · exact Or.inl ((h j hj).2 c)
theorem dg_sq {a o : Nat} {F : Nat → Int} (hg : Good s) (hw : 0 ≤ wkM s a o ∧ wkM s a o ≤ 3) (hF : MkP F (tcW (plW s a o) (bdM s a o) (nW s a o))) : csF (pF s) F 1 (-2) (-1) 192 = pF (dgP s a o).1 ∧ sumTo (fun j => b01 (F j = 1 ∧ pF s j = -2)) 192 = (dgP s a o).2 := by
  have hat := fun j => dgK_at (s := s) (pl := plW s a o) (b := bdM s a o) j (nW s a o)
  have hD := dgP_DgR hw
  have hbt := hF.bt
  constructor
  · funext j
    unfold csF pF
    by_cases hj : j < 192
    · rw [if_pos hj, if_pos hj]
      have hs := (hg.2.2.2.2.1 j hj)
      by_cases c : tcW (plW s a o) (bdM s a o) (nW s a o) j
      · have e : (dgP s a o).1 j = -1 := (hat j).1 c
        have hFj := (hF j hj).1 c
        obtain ⟨k, hk, w, hww, e2⟩ := c
        have hn := (tcW_neg hw hk hww).1
        rw [← e2] at hn
        rw [e]
        split <;> omega
      · have e : (dgP s a o).1 j = s j := (hat j).2 c
        have hFj := (hF j hj).2 c
        rw [e, if_neg (by omega)]
    · rw [if_neg (fun z => hj z.1), if_neg hj, if_neg hj]
  · show _ = (dgK s (plW s a o) (bdM s a o) (nW s a o)).2
    rw [(dgK_cn _ (dgP_sq hw)).2]
    unfold cnD
    refine sum_eq 192 (fun j hj => ?_)
    refine b01_c ?_
    unfold pF
    rw [if_pos hj]
    by_cases c : tcW (plW s a o) (bdM s a o) (nW s a o) j
    · have hFj := (hF j hj).1 c
      rw [(hat j).1 c]
      omega
    · have hFj := (hF j hj).2 c
      rw [(hat j).2 c]
      omega
theorem w_digFound {a o : Nat} (hP : PlS σ P s) (hd : P + 4 ≤ W) (hG : G 0 ≤ P) (hg : Good s) (ha : a < 6) (ho : o < 6) (m11 : m 11 = (bdM s a o : Nat)) (m10 : m 10 = (nW s a o : Nat)) (h8 : ∀ k, k < nW s a o → A 8 k = pW s a o k)
    (hQ : ∀ A' : Nat → Nat → Int, Q (.inl (some (vI (dgP s a o).2))) (setWy (setPs σ P (dgP s a o).1) W m A')) :
    CW G k_Ways_digFound [vR W, vR P] (setWy σ W m A) Q := by
  have hw := hg.wk a o ha ho
  have hb := bdM_bd hw
  have hGW : G 0 ≤ W := by omega
  simp only [c_Ways_digFound, e_Ways_digFound_0, e_Ways_digFound_1, e_Ways_digFound_4, kR_l, kR_r, kP_0, kP_i, kP_r, kP_n, kP_s, kP_o, kLen_I, kLen_L, kLen_R, kLdI_0, kLdI_1, kLdI_2, kLdI_3, kStI_0, kStI_1, kLdL_e, kStL_e, kLdR_e, kStR_e, kFld_e, kNth_0, kNth_s, kPut_e, fit_I, fit_Z, fit_B, fit_C, fit_A, fit_O, Option.toList_some, Option.toList_none, List.cons_append, List.nil_append, true_and, and_true, List.set_cons_zero, List.set_cons_succ, st_same, Int.toNat_natCast, Int.cast_ofNat_Int, Nat.zero_add, Nat.reduceAdd, kRcv_1, kRcv_2, kRcv_3, kRcv_0, kRcv_4, kRcv_5, setWy_set, Wyo, Wya1, Wyw1, Wya2, Wyw2, Wya3, Wyw3, Wya4, Wyw4, Wya5, Wyw5, Wya6, Wyw6, Wya7, Wyw7, Wya8, Wyw8, Wyp6, Wyp7, Wyp10, Wyp11, Wyp12, Wyp13, Wyp14, Wyp15]
  rw [s_Cp_clearMarks (Wya7 σ W m A) (by omega) (by omega), Wyw7]
  simp only [e_Ways_digFound_7, e_Ways_digFound_8, kR_l, kR_r, kP_0, kP_i, kP_r, kP_n, kP_s, kP_o, kLen_I, kLen_L, kLen_R, kLdI_0, kLdI_1, kLdI_2, kLdI_3, kStI_0, kStI_1, kLdL_e, kStL_e, kLdR_e, kStR_e, kFld_e, kNth_0, kNth_s, kPut_e, fit_I, fit_Z, fit_B, fit_C, fit_A, fit_O, Option.toList_some, Option.toList_none, List.cons_append, List.nil_append, true_and, and_true, List.set_cons_zero, List.set_cons_succ, st_same, Int.toNat_natCast, Int.cast_ofNat_Int, Nat.zero_add, Nat.reduceAdd, kRcv_1, kRcv_2, kRcv_3, kRcv_0, kRcv_4, kRcv_5, setWy_set, Wyo, Wya1, Wyw1, Wya2, Wyw2, Wya3, Wyw3, Wya4, Wyw4, Wya5, Wyw5, Wya6, Wyw6, Wya7, Wyw7, Wya8, Wyw8, Wyp6, Wyp7, Wyp10, Wyp11, Wyp12, Wyp13, Wyp14, Wyp15]
  refine s_needFound (pl := plW s a o) (R := fun _ => False) hGW m10 m11 hb.1 hb.2 (nW_le hw) (fun k hk => ?_) (fun j hj => ⟨fun z => z.elim, fun _ => if_pos hj⟩) (fun F hF => ?_)
  · rw [h8 k hk]
    exact plW_ok hw hk
  · have hF' : MkP F (tcW (plW s a o) (bdM s a o) (nW s a o)) := hF.iff (fun j => ⟨fun z => z.elim False.elim id, Or.inr⟩)
    have e := dg_sq hg hw hF'
    have hh : ∀ j, 192 ≤ j → (dgP s a o).1 j = s j := fun j hj => dgP_hi hw hj
    have hq := hQ (upA A 7 F)
    unfold setPs at hq
    rw [← e.1, ← e.2, pG_hi hh, pH_hi hh, hh 252 (by omega)] at hq
    simp only [e_Ways_digFound_11, e_Ways_digFound_12, e_Ways_digFound_13, e_Ways_digFound_14, e_Ways_digFound_16, e_Ways_digFound_17, kR_l, kR_r, kP_0, kP_i, kP_r, kP_n, kP_s, kP_o, kLen_I, kLen_L, kLen_R, kLdI_0, kLdI_1, kLdI_2, kLdI_3, kStI_0, kStI_1, kLdL_e, kStL_e, kLdR_e, kStR_e, kFld_e, kNth_0, kNth_s, kPut_e, fit_I, fit_Z, fit_B, fit_C, fit_A, fit_O, Option.toList_some, Option.toList_none, List.cons_append, List.nil_append, true_and, and_true, List.set_cons_zero, List.set_cons_succ, st_same, Int.toNat_natCast, Int.cast_ofNat_Int, Nat.zero_add, Nat.reduceAdd, kRcv_1, kRcv_2, kRcv_3, kRcv_0, kRcv_4, kRcv_5, setWy_set, Wyo, Wya1, Wyw1, Wya2, Wyw2, Wya3, Wyw3, Wya4, Wyw4, Wya5, Wyw5, Wya6, Wyw6, Wya7, Wyw7, Wya8, Wyw8, Wyp6, Wyp7, Wyp10, Wyp11, Wyp12, Wyp13, Wyp14, Wyp15]
    rw [s_changeSquares (A := upA A 7 F) hP hd hG hg.sq (Or.inr rfl) (by unfold inR; omega) (Or.inl rfl) hF'.bt]
    simp only [e_Ways_digFound_20, kR_l, kR_r, kP_0, kP_i, kP_r, kP_n, kP_s, kP_o, kLen_I, kLen_L, kLen_R, kLdI_0, kLdI_1, kLdI_2, kLdI_3, kStI_0, kStI_1, kLdL_e, kStL_e, kLdR_e, kStR_e, kFld_e, kNth_0, kNth_s, kPut_e, fit_I, fit_Z, fit_B, fit_C, fit_A, fit_O, Option.toList_some, Option.toList_none, List.cons_append, List.nil_append, true_and, and_true, List.set_cons_zero, List.set_cons_succ, st_same, Int.toNat_natCast, Int.cast_ofNat_Int, Nat.zero_add, Nat.reduceAdd, kRcv_1, kRcv_2, kRcv_3, kRcv_0, kRcv_4, kRcv_5]
    first | exact hq | exact ⟨trivial, hq⟩
end ND

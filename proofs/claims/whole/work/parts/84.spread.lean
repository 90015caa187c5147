/-! THE CLASS'S WAYS: the lengths spread -/
def KeepS (m m' : Nat → Int) (A A' : Nat → Nat → Int) : Prop := (∀ k, k ≠ 6 → k ≠ 7 → m' k = m k) ∧ (∀ k, k ≠ 4 → k ≠ 5 → k ≠ 6 → A' k = A k)
theorem KeepS.refl (m : Nat → Int) (A : Nat → Nat → Int) : KeepS m m A A := ⟨fun _ _ _ => rfl, fun _ _ _ _ => rfl⟩
theorem KeepS.trans {m m' m2 : Nat → Int} {A A' A2 : Nat → Nat → Int} (h1 : KeepS m m' A A') (h2 : KeepS m' m2 A' A2) : KeepS m m2 A A2 := ⟨fun k a b => by rw [h2.1 k a b, h1.1 k a b], fun k a b c => by rw [h2.2 k a b c, h1.2 k a b c]⟩
/-- the queue in the class's fields -/
def QW (s : Nat → Int) (b : Nat) (f : Nat → Int) (td : Nat → Nat → Prop) (j : Int) (B : Nat) (m : Nat → Int) (A : Nat → Nat → Int) (H T : Nat) : Prop := m 6 = ((H % 192 : Nat) : Int) ∧ m 7 = ((T - H : Nat) : Int) ∧ QI s b f td j B (A 4) (A 6) (A 5) H T
def StA (s : Nat → Int) (b : Nat) (A : Nat → Nat → Int) : Prop := ∀ q, q < 192 → (0 ≤ A 3 q ∧ A 3 q ≤ 100000) ∧ (A 3 q < 4096 ↔ plP s b q)
section SPR
variable {G : Nat → Nat} {σ : AS} {Q : (Option AV ⊕ Nat) → AS → Prop} {W b : Nat} {s f fp : Nat → Int} {r : Int} {m : Nat → Int} {A : Nat → Nat → Int}
theorem s_reachQ {td : Nat → Nat → Prop} {j : Int} {B H T q : Nat} {len : Int} (hG : G 0 ≤ W) (hI : QW s b f td j B m A H T) (hSt : StA s b A) (hq : q < 192) (hF0 : 1 ≤ dT f q) (hl : plP s b q → dT f q ≤ len) (hR : inR len)
    (hQ : ∀ (m' : Nat → Int) (A' : Nat → Nat → Int) (T' : Nat), KeepS m m' A A' → QW s b f td j B m' A' H T' → (plP s b q → A' 4 q ≤ len) → (∀ u, u ≠ q → A' 4 u = A 4 u) → A' 4 q ≤ A 4 q → Q (.inl none) (setWy σ W m' A')) :
    CW G k_Ways_reach [vR W, vI (q : Nat), vI len] (setWy σ W m A) Q := by
  obtain ⟨m6, m7, hI⟩ := hI
  obtain ⟨h3, hpl⟩ := hSt q hq
  have a2 := hI.2.1 q hq
  have hr4 : inR (A 4 q) := by
    unfold inR
    omega
  by_cases c : A 3 q < 4096 ∧ len < A 4 q
  · have hp := hpl.mp c.1
    rcases a2.2.2.2.1 with u0 | u1
    · have hroom := hI.room.2 q hq u0
      rw [s_reach2 (hd := H % 192) (sz := T - H) hG hq h3 hR hr4 c.1 c.2 u0 m6 m7 (by omega) (by omega)]
      have hidx : (H % 192 + (T - H)) % 192 = T % 192 := by
        have := hI.1.1
        omega
      rw [hidx]
      have hHT := hI.1.1
      refine hQ _ _ (T + 1) ⟨fun k a b => by rw [upI_at, if_neg b], fun k a b c => by rw [upA_at, if_neg b, upA_at, if_neg c, upA_at, if_neg a]⟩ ⟨m6, by show ((T - H : Nat) : Int) + 1 = ((T + 1 - H : Nat) : Int); omega, ?_⟩ (fun _ => by show upI (A 4) q len q ≤ len; rw [upI_eq]; exact Int.le_refl _) (fun u hu => by show upI (A 4) q len u = A 4 u; rw [upI_at, if_neg hu]) (by show upI (A 4) q len q ≤ A 4 q; rw [upI_eq]; omega)
      exact hI.imp2 hq hp (hl hp) c.2 u0
    · rw [s_reach1 hG hq h3 hR hr4 c.1 c.2 u1]
      refine hQ _ _ T ⟨fun _ _ _ => rfl, fun k a b c => by rw [upA_at, if_neg a]⟩ ⟨m6, m7, ?_⟩ (fun _ => by show upI (A 4) q len q ≤ len; rw [upI_eq]; exact Int.le_refl _) (fun u hu => by show upI (A 4) q len u = A 4 u; rw [upI_at, if_neg hu]) (by show upI (A 4) q len q ≤ A 4 q; rw [upI_eq]; omega)
      exact hI.imp1 hq hp (hl hp) c.2 u1
  · have c' : ¬ A 3 q < 4096 ∨ A 4 q ≤ len := by omega
    rw [s_reach0 hq h3 hR hr4 c']
    refine hQ m A T (KeepS.refl m A) ⟨m6, m7, hI⟩ (fun hp => ?_) (fun _ _ => rfl) (Int.le_refl _)
    have := hpl.mpr hp
    omega
theorem QI.stepd {p d H T B : Nat} {j : Int} {F U K : Nat → Int} {R R' : Nat → Prop} (h : QI s b f (fun u d => u = p ∧ R d) j B F U K H T) (hd : ∀ d', R d' → R' d' ∨ d' = d) (he : ∀ q, nxM s b p d = ((q : Nat) : Int) → F q ≤ F p + 1 + 256 * rk1 s b p q) : QI s b f (fun u d => u = p ∧ R' d) j B F U K H T :=
  h.edge (fun u d' q _ _ hn ⟨z1, z2⟩ => by
    rcases hd d' z2 with y | y
    · exact Or.inl ⟨z1, y⟩
    · right
      rw [z1, y] at hn
      rw [z1]
      exact he q hn)
/-- within a turn at p -/
def TI (s : Nat → Int) (b : Nat) (f : Nat → Int) (j : Int) (B H p : Nat) (Fp : Int) (m0 : Nat → Int) (A0 : Nat → Nat → Int) (R : Nat → Prop) (m : Nat → Int) (A : Nat → Nat → Int) (T : Nat) : Prop := KeepS m0 m A0 A ∧ QW s b f (fun u d => u = p ∧ R d) j B m A H T ∧ A 4 p = Fp
theorem ti_reach {j : Int} {B H p d q T : Nat} {Fp wv : Int} {m0 : Nat → Int} {A0 : Nat → Nat → Int} {R R' : Nat → Prop} (hG : G 0 ≤ W) (hb1 : 1 ≤ b) (hb3 : b ≤ 3) (hf : SolM s b r f) (hSt : StA s b A0) (hp : p < 192) (hd : d < 4) (hFp : 1 ≤ Fp ∧ Fp < 16777216) (hfp : f p < 1000000) (hTp : dT f p ≤ Fp) (hpl : plP s b p)
    (hdir : (d = 0 ∧ q % 16 + 1 = p % 16 ∧ q / 16 = p / 16) ∨ (d = 1 ∧ q % 16 = p % 16 + 1 ∧ q / 16 = p / 16) ∨ (d = 2 ∧ q % 16 = p % 16 ∧ q / 16 + 1 = p / 16) ∨ (d = 3 ∧ q % 16 = p % 16 ∧ q / 16 = p / 16 + 1)) (hq : q < 192) (hw : wv = rk1 s b p q) (hR : ∀ d', R d' → R' d' ∨ d' = d)
    (hT : TI s b f j B H p Fp m0 A0 R m A T) (hQ : ∀ (m' : Nat → Int) (A' : Nat → Nat → Int) (T' : Nat), TI s b f j B H p Fp m0 A0 R' m' A' T' → Q (.inl none) (setWy σ W m' A')) :
    CW G k_Ways_reach [vR W, vI (q : Nat), vI (Fp + 1 + 256 * wv)] (setWy σ W m A) Q := by
  obtain ⟨hK, hW, h4⟩ := hT
  have hbw := rk1_bd s hb3 p q
  have hSt' : StA s b A := fun x hx => by
    rw [hK.2 3 (by decide) (by decide) (by decide)]
    exact hSt x hx
  have hlen : plP s b q → dT f q ≤ Fp + 1 + 256 * wv := fun z => by
    have := dT_le hb1 hb3 hf hp hd hfp (nxM_mk hd hb1 z hq hdir)
    omega
  have hF0 : 1 ≤ dT f q := by
    by_cases c : f q < 1000000
    · exact (dT_fin hf hq c).2.2.2.1
    · have e : dT f q = 16777216 := if_neg c
      omega
  refine s_reachQ hG hW hSt' hq hF0 hlen (by unfold inR; omega) (fun m' A' T' k1 k2 k3 k4 k5 => hQ m' A' T' ⟨hK.trans k1, ⟨k2.1, k2.2.1, k2.2.2.stepd hR (fun q' hn => ?_)⟩, ?_⟩)
  · have hd2 := nxM_dir hb1 hd hn
    have hq' := (nxM_pl hb1 hn)
    have e : q' = q := by omega
    rw [e] at hq' ⊢
    have := k3 hq'.1
    rw [k4 p (by omega), h4]
    omega
  · rw [k4 p (by omega), h4]
theorem ti_skip {j : Int} {B H p d T : Nat} {Fp : Int} {m0 : Nat → Int} {A0 : Nat → Nat → Int} {R R' : Nat → Prop} (hn : ∀ q : Nat, nxM s b p d ≠ ((q : Nat) : Int)) (hR : ∀ d', R d' → R' d' ∨ d' = d) (hT : TI s b f j B H p Fp m0 A0 R m A T) : TI s b f j B H p Fp m0 A0 R' m A T :=
  ⟨hT.1, ⟨hT.2.1.1, hT.2.1.2.1, hT.2.1.2.2.stepd hR (fun q h => absurd h (hn q))⟩, hT.2.2⟩
def MeA (fp : Nat → Int) (b : Nat) (A : Nat → Nat → Int) : Prop := ∀ k, k < 192 → A 1 k = acV fp b k ∧ A 2 k = dwV fp b k ∧ A 3 k = stV fp b k
theorem MeA.St {s : Nat → Int} (h : MeA fp b A) (hE : EqS fp s) (hs : SOK s) (hb1 : 1 ≤ b) (hb3 : b ≤ 3) : StA s b A := by
  intro q hq
  rw [(h q hq).2.2]
  have hbd := stV_bd fp q hb3
  refine ⟨by omega, fun z => ?_, fun z => ?_⟩
  · refine Classical.byContradiction fun y => ?_
    have := stV_no hE hs hb1 hb3 y
    omega
  · rw [stV_pl hE hs hb1 hb3 z]
    have := rk0_bd s hb3 q
    omega
/-- one turn -/
theorem sp_turn {j : Int} {B H p T : Nat} {Fp t : Int} {m0 : Nat → Int} {A0 : Nat → Nat → Int} (hG : G 0 ≤ W) (hb1 : 1 ≤ b) (hb3 : b ≤ 3) (hf : SolM s b r f) (hE : EqS fp s) (hs : SOK s) (hMe : MeA fp b A0) (m11 : m0 11 = (b : Nat)) (hp : p < 192) (hFp : 1 ≤ Fp ∧ Fp < 16777216) (hfp : f p < 1000000) (hTp : dT f p ≤ Fp) (hpl : plP s b p)
    (hT : TI s b f j B H p Fp m0 A0 (fun _ => True) m A T)
    (hQ : ∀ (m' : Nat → Int) (A' : Nat → Nat → Int) (T' : Nat), TI s b f j B H p Fp m0 A0 (fun d => 4 ≤ d) m' A' T' → WP G k_Ways_spread 176 [some (vR W), some (vI t), some (vI (p : Nat)), some (vI ((p % 16 : Nat) : Int)), some (vI ((p / 16 : Nat) : Int)), some (vI (Fp + 1))] [] (setWy σ W m' A') Q) :
    WP G k_Ways_spread 43 [some (vR W), some (vI t), some (vI (p : Nat)), some (vI ((p % 16 : Nat) : Int)), some (vI ((p / 16 : Nat) : Int)), some (vI (Fp + 1))] [] (setWy σ W m A) Q := by
  have hSt := hMe.St hE hs hb1 hb3
  obtain ⟨g1, g2, -⟩ := (plP_mk hb1).mp hpl
  have arr : ∀ (R : Nat → Prop) (m : Nat → Int) (A : Nat → Nat → Int) (T : Nat), TI s b f j B H p Fp m0 A0 R m A T → A 1 = A0 1 ∧ A 2 = A0 2 ∧ m 11 = (b : Nat) := fun R m A T h => ⟨h.1.2 1 (by decide) (by decide) (by decide), h.1.2 2 (by decide) (by decide) (by decide), by rw [h.1.1 11 (by decide) (by decide), m11]⟩
  -- up
  have up_ : ∀ (m : Nat → Int) (A : Nat → Nat → Int) (T : Nat), TI s b f j B H p Fp m0 A0 (fun d => d = 2 ∨ 4 ≤ d) m A T → WP G k_Ways_spread 138 [some (vR W), some (vI t), some (vI (p : Nat)), some (vI ((p % 16 : Nat) : Int)), some (vI ((p / 16 : Nat) : Int)), some (vI (Fp + 1))] [] (setWy σ W m A) Q := by
    intro m A T hT
    obtain ⟨e1, e2, e11⟩ := arr _ _ _ _ hT
    by_cases c : p / 16 = 0
    · have := hQ m A T (ti_skip (d := 2) (fun q hn => by have := nxM_dir hb1 (by omega) hn; omega) (fun d' z => by omega) hT)
      simp only [e_Ways_spread_138, e_Ways_spread_140, kR_l, kR_r, kP_0, kP_i, kP_r, kP_n, kP_s, kP_o, kLen_I, kLen_L, kLen_R, kLdI_0, kLdI_1, kLdI_2, kLdI_3, kStI_0, kStI_1, kLdL_e, kStL_e, kLdR_e, kStR_e, kFld_e, kNth_0, kNth_s, kPut_e, fit_I, fit_Z, fit_B, fit_C, fit_A, fit_O, Option.toList_some, Option.toList_none, List.cons_append, List.nil_append, true_and, and_true, List.set_cons_zero, List.set_cons_succ, st_same, Int.toNat_natCast, Int.cast_ofNat_Int, Nat.zero_add, Nat.reduceAdd, kRcv_1, kRcv_2, kRcv_3, kRcv_0, kRcv_4, kRcv_5]
      refine ⟨by unfold inR; omega, fun _ => this, fun z => absurd z (by omega)⟩
    · simp only [e_Ways_spread_138, e_Ways_spread_140, e_Ways_spread_143, e_Ways_spread_144, e_Ways_spread_145, e_Ways_spread_147, e_Ways_spread_148, e_Ways_spread_150, e_Ways_spread_153, e_Ways_spread_154, e_Ways_spread_157, e_Ways_spread_158, e_Ways_spread_159, e_Ways_spread_162, e_Ways_spread_163, e_Ways_spread_164, e_Ways_spread_166, e_Ways_spread_167, e_Ways_spread_168, kR_l, kR_r, kP_0, kP_i, kP_r, kP_n, kP_s, kP_o, kLen_I, kLen_L, kLen_R, kLdI_0, kLdI_1, kLdI_2, kLdI_3, kStI_0, kStI_1, kLdL_e, kStL_e, kLdR_e, kStR_e, kFld_e, kNth_0, kNth_s, kPut_e, fit_I, fit_Z, fit_B, fit_C, fit_A, fit_O, Option.toList_some, Option.toList_none, List.cons_append, List.nil_append, true_and, and_true, List.set_cons_zero, List.set_cons_succ, st_same, Int.toNat_natCast, Int.cast_ofNat_Int, Nat.zero_add, Nat.reduceAdd, kRcv_1, kRcv_2, kRcv_3, kRcv_0, kRcv_4, kRcv_5, setWy_set, Wyo, Wya1, Wyw1, Wya2, Wyw2, Wya3, Wyw3, Wya4, Wyw4, Wya5, Wyw5, Wya6, Wyw6, Wya7, Wyw7, Wya8, Wyw8, Wyp6, Wyp7, Wyp10, Wyp11, Wyp12, Wyp13, Wyp14, Wyp15, e11]
      refine ⟨by unfold inR; omega, fun z => absurd z (by omega), fun _ => ?_⟩
      rw [s_Cp_at (Wya1 σ W m A) (Or.inl rfl) (by omega) (by unfold inR; omega), if_pos (by omega), show ((p : Int) + ((b : Int) - 1) * 16).toNat = p + (b - 1) * 16 by omega, e1, (hMe _ (by omega)).1]
      simp only [e_Ways_spread_171, e_Ways_spread_172, e_Ways_spread_173, kR_l, kR_r, kP_0, kP_i, kP_r, kP_n, kP_s, kP_o, kLen_I, kLen_L, kLen_R, kLdI_0, kLdI_1, kLdI_2, kLdI_3, kStI_0, kStI_1, kLdL_e, kStL_e, kLdR_e, kStR_e, kFld_e, kNth_0, kNth_s, kPut_e, fit_I, fit_Z, fit_B, fit_C, fit_A, fit_O, Option.toList_some, Option.toList_none, List.cons_append, List.nil_append, true_and, and_true, List.set_cons_zero, List.set_cons_succ, st_same, Int.toNat_natCast, Int.cast_ofNat_Int, Nat.zero_add, Nat.reduceAdd, kRcv_1, kRcv_2, kRcv_3, kRcv_0, kRcv_4, kRcv_5, setWy_set, Wyo, Wya1, Wyw1, Wya2, Wyw2, Wya3, Wyw3, Wya4, Wyw4, Wya5, Wyw5, Wya6, Wyw6, Wya7, Wyw7, Wya8, Wyw8, Wyp6, Wyp7, Wyp10, Wyp11, Wyp12, Wyp13, Wyp14, Wyp15]
      rw [show ((p : Int) - 16) = ((p - 16 : Nat) : Int) by omega]
      refine ti_reach (d := 2) (q := p - 16) hG hb1 hb3 hf hSt hp (by omega) hFp hfp hTp hpl (by omega) (by omega) (w_up hE hs hb1 hpl (by omega) (by omega)) (R' := fun d => 4 ≤ d) (fun d' z => by omega) hT (fun m' A' T' hT' => ?_)
      exact hQ m' A' T' hT'
  -- down
  have dn_ : ∀ (m : Nat → Int) (A : Nat → Nat → Int) (T : Nat), TI s b f j B H p Fp m0 A0 (fun d => d = 3 ∨ d = 2 ∨ 4 ≤ d) m A T → WP G k_Ways_spread 106 [some (vR W), some (vI t), some (vI (p : Nat)), some (vI ((p % 16 : Nat) : Int)), some (vI ((p / 16 : Nat) : Int)), some (vI (Fp + 1))] [] (setWy σ W m A) Q := by
    intro m A T hT
    obtain ⟨e1, e2, e11⟩ := arr _ _ _ _ hT
    by_cases c : p / 16 + 1 = 12
    · have := up_ m A T (ti_skip (d := 3) (fun q hn => by have := nxM_dir hb1 (by omega) hn; have := (nxM_pl hb1 hn).2; omega) (fun d' z => by omega) hT)
      simp only [e_Ways_spread_106, e_Ways_spread_108, e_Ways_spread_109, e_Ways_spread_110, e_Ways_spread_112, kR_l, kR_r, kP_0, kP_i, kP_r, kP_n, kP_s, kP_o, kLen_I, kLen_L, kLen_R, kLdI_0, kLdI_1, kLdI_2, kLdI_3, kStI_0, kStI_1, kLdL_e, kStL_e, kLdR_e, kStR_e, kFld_e, kNth_0, kNth_s, kPut_e, fit_I, fit_Z, fit_B, fit_C, fit_A, fit_O, Option.toList_some, Option.toList_none, List.cons_append, List.nil_append, true_and, and_true, List.set_cons_zero, List.set_cons_succ, st_same, Int.toNat_natCast, Int.cast_ofNat_Int, Nat.zero_add, Nat.reduceAdd, kRcv_1, kRcv_2, kRcv_3, kRcv_0, kRcv_4, kRcv_5]
      refine ⟨⟨by unfold inR; omega, by unfold inR; omega⟩, fun _ => this, fun z => absurd z (by omega)⟩
    · simp only [e_Ways_spread_106, e_Ways_spread_108, e_Ways_spread_109, e_Ways_spread_110, e_Ways_spread_112, e_Ways_spread_115, e_Ways_spread_116, e_Ways_spread_117, e_Ways_spread_119, e_Ways_spread_120, e_Ways_spread_122, e_Ways_spread_125, e_Ways_spread_126, e_Ways_spread_129, e_Ways_spread_130, kR_l, kR_r, kP_0, kP_i, kP_r, kP_n, kP_s, kP_o, kLen_I, kLen_L, kLen_R, kLdI_0, kLdI_1, kLdI_2, kLdI_3, kStI_0, kStI_1, kLdL_e, kStL_e, kLdR_e, kStR_e, kFld_e, kNth_0, kNth_s, kPut_e, fit_I, fit_Z, fit_B, fit_C, fit_A, fit_O, Option.toList_some, Option.toList_none, List.cons_append, List.nil_append, true_and, and_true, List.set_cons_zero, List.set_cons_succ, st_same, Int.toNat_natCast, Int.cast_ofNat_Int, Nat.zero_add, Nat.reduceAdd, kRcv_1, kRcv_2, kRcv_3, kRcv_0, kRcv_4, kRcv_5, setWy_set, Wyo, Wya1, Wyw1, Wya2, Wyw2, Wya3, Wyw3, Wya4, Wyw4, Wya5, Wyw5, Wya6, Wyw6, Wya7, Wyw7, Wya8, Wyw8, Wyp6, Wyp7, Wyp10, Wyp11, Wyp12, Wyp13, Wyp14, Wyp15]
      refine ⟨⟨by unfold inR; omega, by unfold inR; omega⟩, fun z => absurd z (by omega), fun _ => ?_⟩
      rw [s_Cp_at (Wya1 σ W m A) (Or.inl rfl) (by omega) (by unfold inR; omega), if_pos (by omega), Int.toNat_natCast, e1, (hMe _ hp).1]
      simp only [e_Ways_spread_133, e_Ways_spread_134, e_Ways_spread_135, kR_l, kR_r, kP_0, kP_i, kP_r, kP_n, kP_s, kP_o, kLen_I, kLen_L, kLen_R, kLdI_0, kLdI_1, kLdI_2, kLdI_3, kStI_0, kStI_1, kLdL_e, kStL_e, kLdR_e, kStR_e, kFld_e, kNth_0, kNth_s, kPut_e, fit_I, fit_Z, fit_B, fit_C, fit_A, fit_O, Option.toList_some, Option.toList_none, List.cons_append, List.nil_append, true_and, and_true, List.set_cons_zero, List.set_cons_succ, st_same, Int.toNat_natCast, Int.cast_ofNat_Int, Nat.zero_add, Nat.reduceAdd, kRcv_1, kRcv_2, kRcv_3, kRcv_0, kRcv_4, kRcv_5, setWy_set, Wyo, Wya1, Wyw1, Wya2, Wyw2, Wya3, Wyw3, Wya4, Wyw4, Wya5, Wyw5, Wya6, Wyw6, Wya7, Wyw7, Wya8, Wyw8, Wyp6, Wyp7, Wyp10, Wyp11, Wyp12, Wyp13, Wyp14, Wyp15]
      rw [show ((p : Int) + 16) = ((p + 16 : Nat) : Int) by omega]
      refine ti_reach (d := 3) (q := p + 16) hG hb1 hb3 hf hSt hp (by omega) hFp hfp hTp hpl (by omega) (by omega) (w_down hE hs hb1 hpl (by omega) (by omega)) (R' := fun d => d = 2 ∨ 4 ≤ d) (fun d' z => by omega) hT (fun m' A' T' hT' => ?_)
      exact up_ m' A' T' hT'
  -- left
  have lf_ : ∀ (m : Nat → Int) (A : Nat → Nat → Int) (T : Nat), TI s b f j B H p Fp m0 A0 (fun d => d = 0 ∨ d = 3 ∨ d = 2 ∨ 4 ≤ d) m A T → WP G k_Ways_spread 73 [some (vR W), some (vI t), some (vI (p : Nat)), some (vI ((p % 16 : Nat) : Int)), some (vI ((p / 16 : Nat) : Int)), some (vI (Fp + 1))] [] (setWy σ W m A) Q := by
    intro m A T hT
    obtain ⟨e1, e2, e11⟩ := arr _ _ _ _ hT
    by_cases c : p % 16 = 0
    · have := dn_ m A T (ti_skip (d := 0) (fun q hn => by have := nxM_dir hb1 (by omega) hn; omega) (fun d' z => by omega) hT)
      simp only [e_Ways_spread_73, e_Ways_spread_74, kR_l, kR_r, kP_0, kP_i, kP_r, kP_n, kP_s, kP_o, kLen_I, kLen_L, kLen_R, kLdI_0, kLdI_1, kLdI_2, kLdI_3, kStI_0, kStI_1, kLdL_e, kStL_e, kLdR_e, kStR_e, kFld_e, kNth_0, kNth_s, kPut_e, fit_I, fit_Z, fit_B, fit_C, fit_A, fit_O, Option.toList_some, Option.toList_none, List.cons_append, List.nil_append, true_and, and_true, List.set_cons_zero, List.set_cons_succ, st_same, Int.toNat_natCast, Int.cast_ofNat_Int, Nat.zero_add, Nat.reduceAdd, kRcv_1, kRcv_2, kRcv_3, kRcv_0, kRcv_4, kRcv_5]
      refine ⟨by unfold inR; omega, fun _ => this, fun z => absurd z (by omega)⟩
    · simp only [e_Ways_spread_73, e_Ways_spread_74, e_Ways_spread_77, e_Ways_spread_78, e_Ways_spread_79, e_Ways_spread_80, e_Ways_spread_81, e_Ways_spread_83, e_Ways_spread_86, e_Ways_spread_87, e_Ways_spread_90, e_Ways_spread_91, e_Ways_spread_92, e_Ways_spread_95, e_Ways_spread_96, e_Ways_spread_97, e_Ways_spread_98, kR_l, kR_r, kP_0, kP_i, kP_r, kP_n, kP_s, kP_o, kLen_I, kLen_L, kLen_R, kLdI_0, kLdI_1, kLdI_2, kLdI_3, kStI_0, kStI_1, kLdL_e, kStL_e, kLdR_e, kStR_e, kFld_e, kNth_0, kNth_s, kPut_e, fit_I, fit_Z, fit_B, fit_C, fit_A, fit_O, Option.toList_some, Option.toList_none, List.cons_append, List.nil_append, true_and, and_true, List.set_cons_zero, List.set_cons_succ, st_same, Int.toNat_natCast, Int.cast_ofNat_Int, Nat.zero_add, Nat.reduceAdd, kRcv_1, kRcv_2, kRcv_3, kRcv_0, kRcv_4, kRcv_5, setWy_set, Wyo, Wya1, Wyw1, Wya2, Wyw2, Wya3, Wyw3, Wya4, Wyw4, Wya5, Wyw5, Wya6, Wyw6, Wya7, Wyw7, Wya8, Wyw8, Wyp6, Wyp7, Wyp10, Wyp11, Wyp12, Wyp13, Wyp14, Wyp15, e11]
      refine ⟨by unfold inR; omega, fun z => absurd z (by omega), fun _ => ?_⟩
      rw [s_Cp_at (Wya2 σ W m A) (Or.inl rfl) (by omega) (by unfold inR; omega), if_pos (by omega), show ((p : Int) + (b : Int) - 1).toNat = p + b - 1 by omega, e2, (hMe _ (by omega)).2.1]
      simp only [e_Ways_spread_101, e_Ways_spread_102, e_Ways_spread_103, kR_l, kR_r, kP_0, kP_i, kP_r, kP_n, kP_s, kP_o, kLen_I, kLen_L, kLen_R, kLdI_0, kLdI_1, kLdI_2, kLdI_3, kStI_0, kStI_1, kLdL_e, kStL_e, kLdR_e, kStR_e, kFld_e, kNth_0, kNth_s, kPut_e, fit_I, fit_Z, fit_B, fit_C, fit_A, fit_O, Option.toList_some, Option.toList_none, List.cons_append, List.nil_append, true_and, and_true, List.set_cons_zero, List.set_cons_succ, st_same, Int.toNat_natCast, Int.cast_ofNat_Int, Nat.zero_add, Nat.reduceAdd, kRcv_1, kRcv_2, kRcv_3, kRcv_0, kRcv_4, kRcv_5, setWy_set, Wyo, Wya1, Wyw1, Wya2, Wyw2, Wya3, Wyw3, Wya4, Wyw4, Wya5, Wyw5, Wya6, Wyw6, Wya7, Wyw7, Wya8, Wyw8, Wyp6, Wyp7, Wyp10, Wyp11, Wyp12, Wyp13, Wyp14, Wyp15]
      rw [show ((p : Int) - 1) = ((p - 1 : Nat) : Int) by omega]
      refine ti_reach (d := 0) (q := p - 1) hG hb1 hb3 hf hSt hp (by omega) hFp hfp hTp hpl (by omega) (by omega) (w_left hE hs hb1 hpl (by omega) (by omega)) (R' := fun d => d = 3 ∨ d = 2 ∨ 4 ≤ d) (fun d' z => by omega) hT (fun m' A' T' hT' => ?_)
      exact dn_ m' A' T' hT'
  -- right
  obtain ⟨e1, e2, e11⟩ := arr _ _ _ _ hT
  by_cases c : p % 16 + 1 = 16
  · have := lf_ m A T (ti_skip (d := 1) (fun q hn => by have := nxM_dir hb1 (by omega) hn; omega) (fun d' z => by omega) hT)
    simp only [e_Ways_spread_43, e_Ways_spread_44, e_Ways_spread_45, e_Ways_spread_46, e_Ways_spread_48, kR_l, kR_r, kP_0, kP_i, kP_r, kP_n, kP_s, kP_o, kLen_I, kLen_L, kLen_R, kLdI_0, kLdI_1, kLdI_2, kLdI_3, kStI_0, kStI_1, kLdL_e, kStL_e, kLdR_e, kStR_e, kFld_e, kNth_0, kNth_s, kPut_e, fit_I, fit_Z, fit_B, fit_C, fit_A, fit_O, Option.toList_some, Option.toList_none, List.cons_append, List.nil_append, true_and, and_true, List.set_cons_zero, List.set_cons_succ, st_same, Int.toNat_natCast, Int.cast_ofNat_Int, Nat.zero_add, Nat.reduceAdd, kRcv_1, kRcv_2, kRcv_3, kRcv_0, kRcv_4, kRcv_5]
    refine ⟨⟨by unfold inR; omega, by unfold inR; omega⟩, fun _ => this, fun z => absurd z (by omega)⟩
  · simp only [e_Ways_spread_43, e_Ways_spread_44, e_Ways_spread_45, e_Ways_spread_46, e_Ways_spread_48, e_Ways_spread_51, e_Ways_spread_52, e_Ways_spread_53, e_Ways_spread_54, e_Ways_spread_55, e_Ways_spread_57, e_Ways_spread_60, e_Ways_spread_61, e_Ways_spread_64, e_Ways_spread_65, kR_l, kR_r, kP_0, kP_i, kP_r, kP_n, kP_s, kP_o, kLen_I, kLen_L, kLen_R, kLdI_0, kLdI_1, kLdI_2, kLdI_3, kStI_0, kStI_1, kLdL_e, kStL_e, kLdR_e, kStR_e, kFld_e, kNth_0, kNth_s, kPut_e, fit_I, fit_Z, fit_B, fit_C, fit_A, fit_O, Option.toList_some, Option.toList_none, List.cons_append, List.nil_append, true_and, and_true, List.set_cons_zero, List.set_cons_succ, st_same, Int.toNat_natCast, Int.cast_ofNat_Int, Nat.zero_add, Nat.reduceAdd, kRcv_1, kRcv_2, kRcv_3, kRcv_0, kRcv_4, kRcv_5, setWy_set, Wyo, Wya1, Wyw1, Wya2, Wyw2, Wya3, Wyw3, Wya4, Wyw4, Wya5, Wyw5, Wya6, Wyw6, Wya7, Wyw7, Wya8, Wyw8, Wyp6, Wyp7, Wyp10, Wyp11, Wyp12, Wyp13, Wyp14, Wyp15]
    refine ⟨⟨by unfold inR; omega, by unfold inR; omega⟩, fun z => absurd z (by omega), fun _ => ?_⟩
    rw [s_Cp_at (Wya2 σ W m A) (Or.inl rfl) (by omega) (by unfold inR; omega), if_pos (by omega), Int.toNat_natCast, e2, (hMe _ hp).2.1]
    simp only [e_Ways_spread_68, e_Ways_spread_69, e_Ways_spread_70, kR_l, kR_r, kP_0, kP_i, kP_r, kP_n, kP_s, kP_o, kLen_I, kLen_L, kLen_R, kLdI_0, kLdI_1, kLdI_2, kLdI_3, kStI_0, kStI_1, kLdL_e, kStL_e, kLdR_e, kStR_e, kFld_e, kNth_0, kNth_s, kPut_e, fit_I, fit_Z, fit_B, fit_C, fit_A, fit_O, Option.toList_some, Option.toList_none, List.cons_append, List.nil_append, true_and, and_true, List.set_cons_zero, List.set_cons_succ, st_same, Int.toNat_natCast, Int.cast_ofNat_Int, Nat.zero_add, Nat.reduceAdd, kRcv_1, kRcv_2, kRcv_3, kRcv_0, kRcv_4, kRcv_5, setWy_set, Wyo, Wya1, Wyw1, Wya2, Wyw2, Wya3, Wyw3, Wya4, Wyw4, Wya5, Wyw5, Wya6, Wyw6, Wya7, Wyw7, Wya8, Wyw8, Wyp6, Wyp7, Wyp10, Wyp11, Wyp12, Wyp13, Wyp14, Wyp15]
    rw [show ((p : Int) + 1) = ((p + 1 : Nat) : Int) by omega]
    refine ti_reach (d := 1) (q := p + 1) hG hb1 hb3 hf hSt hp (by omega) hFp hfp hTp hpl (by omega) (by omega) (w_right hE hs hb1 hpl (by omega) (by omega)) (R' := fun d => d = 0 ∨ d = 3 ∨ d = 2 ∨ 4 ≤ d) (fun d' z => by omega) hT (fun m' A' T' hT' => ?_)
    exact lf_ m' A' T' hT'
end SPR

/-! THE CLASS'S WAYS: the way followed; find -/
def atW (F : Nat → Int) (k : Nat) : Int := if k < 192 then F k else 0
def npC (b : Nat) (A : Nat → Nat → Int) (p : Nat) : Int := if A 4 p - 1 ≤ 0 then -1 else if 0 < p / 16 ∧ A 4 (p - 16) + 256 * A 1 (p - 16) = A 4 p - 1 then (p : Int) - 16 else if 0 < p % 16 ∧ A 4 (p - 1) + 256 * A 2 (p - 1) = A 4 p - 1 then (p : Int) - 1 else if p % 16 + 1 < 16 ∧ A 4 (p + 1) + 256 * atW (A 2) (p + b) = A 4 p - 1 then (p : Int) + 1 else if p / 16 + 1 < 12 ∧ A 4 (p + 16) + 256 * atW (A 1) (p + 16 * b) = A 4 p - 1 then (p : Int) + 16 else -1
def cdM (s : Nat → Int) (b : Nat) (f : Nat → Int) (p d : Nat) : Prop := nxM s b p d ≠ -1 ∧ f (nxM s b p d).toNat + 1 + 1000 * rk1 s b (nxM s b p d).toNat p = f p
theorem folM_s (s : Nat → Int) (b : Nat) (f : Nat → Int) (p n : Nat) : (cdM s b f p n → folM s b f p (n + 1) = if folM s b f p n = -1 ∨ nxM s b p n < folM s b f p n then nxM s b p n else folM s b f p n) ∧ (¬ cdM s b f p n → folM s b f p (n + 1) = folM s b f p n) := by
  unfold cdM
  constructor
  · intro h
    conv => lhs; unfold folM
    rw [if_pos h]
  · intro h
    conv => lhs; unfold folM
    rw [if_neg h]
theorem cdM_iff {s f : Nat → Int} {b p q d : Nat} {r w : Int} (hb1 : 1 ≤ b) (hb3 : b ≤ 3) (hf : SolM s b r f) (hp : p < 192) (hfp : f p < 1000000) (hq : q < 192) (hd : d < 4)
    (hdir : (d = 0 ∧ q % 16 + 1 = p % 16 ∧ q / 16 = p / 16) ∨ (d = 1 ∧ q % 16 = p % 16 + 1 ∧ q / 16 = p / 16) ∨ (d = 2 ∧ q % 16 = p % 16 ∧ q / 16 + 1 = p / 16) ∨ (d = 3 ∧ q % 16 = p % 16 ∧ q / 16 = p / 16 + 1)) (hw : plP s b q → w = rk1 s b q p) (hw0 : 0 ≤ w) :
    (dT f q + 256 * w = dT f p - 1 ↔ cdM s b f p d) ∧ (cdM s b f p d → nxM s b p d = (q : Nat)) := by
  have hcd : cdM s b f p d → nxM s b p d = (q : Nat) := by
    rintro ⟨h1, -⟩
    have h0 := nxM_bd s hb1 p d
    obtain ⟨q', hq'⟩ : ∃ q' : Nat, nxM s b p d = q' := ⟨(nxM s b p d).toNat, by omega⟩
    have h2 := nxM_dir hb1 hd hq'
    rw [hq']
    omega
  have edp := dT_fin hf hp hfp
  have hmp := Sol_mod' hf hp hfp
  have hp1 := (hf.1 p hp).2.1
  refine ⟨⟨fun h => ?_, fun h => ?_⟩, hcd⟩
  · by_cases c : f q < 1000000
    · have hpl := (hf.1 q hq).2.2 c
      have edq := dT_fin hf hq c
      have hmq := Sol_mod' hf hq c
      have hn := nxM_mk hd hb1 hpl hq hdir
      have hq1 := (hf.1 q hq).2.1
      rw [hw hpl] at h
      have hrk := rk1_bd s hb3 q p
      refine ⟨by omega, ?_⟩
      rw [hn, Int.toNat_natCast]
      omega
    · have e : dT f q = 16777216 := if_neg c
      omega
  · have hn := hcd h
    have hpl := (nxM_pl hb1 hn).1
    obtain ⟨-, h2⟩ := h
    rw [hn, Int.toNat_natCast] at h2
    have hrk := rk1_bd s hb3 q p
    have hq1 := (hf.1 q hq).2.1
    have c : f q < 1000000 := by omega
    have edq := dT_fin hf hq c
    have hmq := Sol_mod' hf hq c
    rw [hw hpl]
    omega
theorem folM_s' (s : Nat → Int) (b : Nat) (f : Nat → Int) (p n n1 : Nat) (e : n1 = n + 1) : (cdM s b f p n → (folM s b f p n = -1 ∨ nxM s b p n < folM s b f p n) ∧ folM s b f p n1 = nxM s b p n ∨ ¬ (folM s b f p n = -1 ∨ nxM s b p n < folM s b f p n) ∧ folM s b f p n1 = folM s b f p n) ∧ (¬ cdM s b f p n → folM s b f p n1 = folM s b f p n) := by
  subst e
  have h := folM_s s b f p n
  refine ⟨fun z => ?_, h.2⟩
  have h1 := h.1 z
  by_cases c : folM s b f p n = -1 ∨ nxM s b p n < folM s b f p n
  · rw [if_pos c] at h1
    exact Or.inl ⟨c, h1⟩
  · rw [if_neg c] at h1
    exact Or.inr ⟨c, h1⟩
theorem fol_pure {P0 P1 P2 P3 : Prop} {F1 F2 F3 F4 n0 n1 n2 n3 u l r d : Int} (hul : u < l) (hlr : l < r) (hrd : r < d) (h0 : P0 → n0 = l ∧ 0 ≤ l) (h1 : P1 → n1 = r ∧ 0 ≤ r) (h2 : P2 → n2 = u ∧ 0 ≤ u) (h3 : P3 → n3 = d ∧ 0 ≤ d)
    (s0 : (P0 → ((-1 : Int) = -1 ∨ n0 < -1) ∧ F1 = n0 ∨ ¬ ((-1 : Int) = -1 ∨ n0 < -1) ∧ F1 = -1) ∧ (¬ P0 → F1 = -1))
    (s1 : (P1 → (F1 = -1 ∨ n1 < F1) ∧ F2 = n1 ∨ ¬ (F1 = -1 ∨ n1 < F1) ∧ F2 = F1) ∧ (¬ P1 → F2 = F1))
    (s2 : (P2 → (F2 = -1 ∨ n2 < F2) ∧ F3 = n2 ∨ ¬ (F2 = -1 ∨ n2 < F2) ∧ F3 = F2) ∧ (¬ P2 → F3 = F2))
    (s3 : (P3 → (F3 = -1 ∨ n3 < F3) ∧ F4 = n3 ∨ ¬ (F3 = -1 ∨ n3 < F3) ∧ F4 = F3) ∧ (¬ P3 → F4 = F3)) :
    (P2 → F4 = u) ∧ (¬ P2 → P0 → F4 = l) ∧ (¬ P2 → ¬ P0 → P1 → F4 = r) ∧ (¬ P2 → ¬ P0 → ¬ P1 → P3 → F4 = d) ∧ (¬ P2 → ¬ P0 → ¬ P1 → ¬ P3 → F4 = -1) := by
  by_cases c0 : P0
  · have a0 := h0 c0
    have b0 := s0.1 c0
    by_cases c1 : P1
    · have a1 := h1 c1
      have b1 := s1.1 c1
      by_cases c2 : P2
      · have a2 := h2 c2
        have b2 := s2.1 c2
        by_cases c3 : P3
        · have a3 := h3 c3
          have b3 := s3.1 c3
          exact ⟨fun _ => by omega, fun z => absurd c2 z, fun z => absurd c2 z, fun z => absurd c2 z, fun z => absurd c2 z⟩
        · have b3 := s3.2 c3
          exact ⟨fun _ => by omega, fun z => absurd c2 z, fun z => absurd c2 z, fun z => absurd c2 z, fun z => absurd c2 z⟩
      · have b2 := s2.2 c2
        by_cases c3 : P3
        · have a3 := h3 c3
          have b3 := s3.1 c3
          exact ⟨fun z => absurd z c2, fun _ _ => by omega, fun _ z => absurd c0 z, fun _ z => absurd c0 z, fun _ z => absurd c0 z⟩
        · have b3 := s3.2 c3
          exact ⟨fun z => absurd z c2, fun _ _ => by omega, fun _ z => absurd c0 z, fun _ z => absurd c0 z, fun _ z => absurd c0 z⟩
    · have b1 := s1.2 c1
      by_cases c2 : P2
      · have a2 := h2 c2
        have b2 := s2.1 c2
        by_cases c3 : P3
        · have a3 := h3 c3
          have b3 := s3.1 c3
          exact ⟨fun _ => by omega, fun z => absurd c2 z, fun z => absurd c2 z, fun z => absurd c2 z, fun z => absurd c2 z⟩
        · have b3 := s3.2 c3
          exact ⟨fun _ => by omega, fun z => absurd c2 z, fun z => absurd c2 z, fun z => absurd c2 z, fun z => absurd c2 z⟩
      · have b2 := s2.2 c2
        by_cases c3 : P3
        · have a3 := h3 c3
          have b3 := s3.1 c3
          exact ⟨fun z => absurd z c2, fun _ _ => by omega, fun _ z => absurd c0 z, fun _ z => absurd c0 z, fun _ z => absurd c0 z⟩
        · have b3 := s3.2 c3
          exact ⟨fun z => absurd z c2, fun _ _ => by omega, fun _ z => absurd c0 z, fun _ z => absurd c0 z, fun _ z => absurd c0 z⟩
  · have b0 := s0.2 c0
    by_cases c1 : P1
    · have a1 := h1 c1
      have b1 := s1.1 c1
      by_cases c2 : P2
      · have a2 := h2 c2
        have b2 := s2.1 c2
        by_cases c3 : P3
        · have a3 := h3 c3
          have b3 := s3.1 c3
          exact ⟨fun _ => by omega, fun z => absurd c2 z, fun z => absurd c2 z, fun z => absurd c2 z, fun z => absurd c2 z⟩
        · have b3 := s3.2 c3
          exact ⟨fun _ => by omega, fun z => absurd c2 z, fun z => absurd c2 z, fun z => absurd c2 z, fun z => absurd c2 z⟩
      · have b2 := s2.2 c2
        by_cases c3 : P3
        · have a3 := h3 c3
          have b3 := s3.1 c3
          exact ⟨fun z => absurd z c2, fun _ z => absurd z c0, fun _ _ _ => by omega, fun _ _ z => absurd c1 z, fun _ _ z => absurd c1 z⟩
        · have b3 := s3.2 c3
          exact ⟨fun z => absurd z c2, fun _ z => absurd z c0, fun _ _ _ => by omega, fun _ _ z => absurd c1 z, fun _ _ z => absurd c1 z⟩
    · have b1 := s1.2 c1
      by_cases c2 : P2
      · have a2 := h2 c2
        have b2 := s2.1 c2
        by_cases c3 : P3
        · have a3 := h3 c3
          have b3 := s3.1 c3
          exact ⟨fun _ => by omega, fun z => absurd c2 z, fun z => absurd c2 z, fun z => absurd c2 z, fun z => absurd c2 z⟩
        · have b3 := s3.2 c3
          exact ⟨fun _ => by omega, fun z => absurd c2 z, fun z => absurd c2 z, fun z => absurd c2 z, fun z => absurd c2 z⟩
      · have b2 := s2.2 c2
        by_cases c3 : P3
        · have a3 := h3 c3
          have b3 := s3.1 c3
          exact ⟨fun z => absurd z c2, fun _ z => absurd z c0, fun _ _ z => absurd z c1, fun _ _ _ _ => by omega, fun _ _ _ z => absurd c3 z⟩
        · have b3 := s3.2 c3
          exact ⟨fun z => absurd z c2, fun _ z => absurd z c0, fun _ _ z => absurd z c1, fun _ _ _ z => absurd z c3, fun _ _ _ _ => by omega⟩
theorem fol_val {s f : Nat → Int} {b p : Nat} {u l r d : Int} (hul : u < l) (hlr : l < r) (hrd : r < d) (h0 : cdM s b f p 0 → nxM s b p 0 = l ∧ 0 ≤ l) (h1 : cdM s b f p 1 → nxM s b p 1 = r ∧ 0 ≤ r) (h2 : cdM s b f p 2 → nxM s b p 2 = u ∧ 0 ≤ u) (h3 : cdM s b f p 3 → nxM s b p 3 = d ∧ 0 ≤ d) :
    (cdM s b f p 2 → folM s b f p 4 = u) ∧ (¬ cdM s b f p 2 → cdM s b f p 0 → folM s b f p 4 = l) ∧ (¬ cdM s b f p 2 → ¬ cdM s b f p 0 → cdM s b f p 1 → folM s b f p 4 = r) ∧ (¬ cdM s b f p 2 → ¬ cdM s b f p 0 → ¬ cdM s b f p 1 → cdM s b f p 3 → folM s b f p 4 = d) ∧ (¬ cdM s b f p 2 → ¬ cdM s b f p 0 → ¬ cdM s b f p 1 → ¬ cdM s b f p 3 → folM s b f p 4 = -1) :=
  fol_pure hul hlr hrd h0 h1 h2 h3 (folM_s' s b f p 0 1 rfl) (folM_s' s b f p 1 2 rfl) (folM_s' s b f p 2 3 rfl) (folM_s' s b f p 3 4 rfl)
section FND2
variable {G : Nat → Nat} {σ : AS} {Q : (Option AV ⊕ Nat) → AS → Prop} {W b : Nat} {s f fp : Nat → Int} {r : Int} {m : Nat → Int} {A : Nat → Nat → Int}
theorem s_nextPlace {p : Nat} (m11 : m 11 = (b : Nat)) (hb1 : 1 ≤ b) (hb3 : b ≤ 3) (hp : p < 192) (hF : ∀ k, k < 192 → 0 ≤ A 4 k ∧ A 4 k ≤ 16777216) (hw : ∀ k, k < 192 → (0 ≤ A 1 k ∧ A 1 k ≤ 4096) ∧ 0 ≤ A 2 k ∧ A 2 k ≤ 4096) : CW G k_Ways_nextPlace [vR W, vI (p : Nat)] (setWy σ W m A) Q = Q (.inl (some (vI (npC b A p)))) (setWy σ W m A) := by
  refine CW.det' fun R hR => ?_
  have hFp := hF p hp
  have at4 : ∀ (k : Nat) (i : Int) (Q : (Option AV ⊕ Nat) → AS → Prop), i = (k : Nat) → k < 192 → CW G k_Cp_at [vR (W + 4), vI i] (setWy σ W m A) Q = Q (.inl (some (vI (A 4 k)))) (setWy σ W m A) := fun k i Q e hk => by
    rw [e, s_Cp_at (Wya4 σ W m A) (Or.inl rfl) (by omega) (by unfold inR; omega), if_pos (by omega), Int.toNat_natCast]
  have at1 : ∀ (k : Nat) (i : Int) (Q : (Option AV ⊕ Nat) → AS → Prop), i = (k : Nat) → k < 1000 → CW G k_Cp_at [vR (W + 1), vI i] (setWy σ W m A) Q = Q (.inl (some (vI (atW (A 1) k)))) (setWy σ W m A) := fun k i Q e hk => by
    rw [e, s_Cp_at (Wya1 σ W m A) (Or.inl rfl) (by omega) (by unfold inR; omega)]
    unfold atW
    by_cases c : k < 192
    · rw [if_pos (by omega), if_pos c, Int.toNat_natCast]
    · rw [if_neg (by omega), if_neg c]
  have at2 : ∀ (k : Nat) (i : Int) (Q : (Option AV ⊕ Nat) → AS → Prop), i = (k : Nat) → k < 1000 → CW G k_Cp_at [vR (W + 2), vI i] (setWy σ W m A) Q = Q (.inl (some (vI (atW (A 2) k)))) (setWy σ W m A) := fun k i Q e hk => by
    rw [e, s_Cp_at (Wya2 σ W m A) (Or.inl rfl) (by omega) (by unfold inR; omega)]
    unfold atW
    by_cases c : k < 192
    · rw [if_pos (by omega), if_pos c, Int.toNat_natCast]
    · rw [if_neg (by omega), if_neg c]
  have bd1 : ∀ k, 0 ≤ atW (A 1) k ∧ atW (A 1) k ≤ 4096 := fun k => by
    unfold atW
    split
    · rename_i hk
      exact (hw k hk).1
    · omega
  have bd2 : ∀ k, 0 ≤ atW (A 2) k ∧ atW (A 2) k ≤ 4096 := fun k => by
    unfold atW
    split
    · rename_i hk
      exact (hw k hk).2
    · omega
  have ea1 : ∀ k, k < 192 → atW (A 1) k = A 1 k := fun k hk => if_pos hk
  have ea2 : ∀ k, k < 192 → atW (A 2) k = A 2 k := fun k hk => if_pos hk
  simp only [c_Ways_nextPlace, e_Ways_nextPlace_0, e_Ways_nextPlace_1, e_Ways_nextPlace_3, e_Ways_nextPlace_4, e_Ways_nextPlace_5, e_Ways_nextPlace_6, e_Ways_nextPlace_8, e_Ways_nextPlace_9, e_Ways_nextPlace_10, e_Ways_nextPlace_11, e_Ways_nextPlace_14, e_Ways_nextPlace_15, kR_l, kR_r, kP_0, kP_i, kP_r, kP_n, kP_s, kP_o, kLen_I, kLen_L, kLen_R, kLdI_0, kLdI_1, kLdI_2, kLdI_3, kStI_0, kStI_1, kLdL_e, kStL_e, kLdR_e, kStR_e, kFld_e, kNth_0, kNth_s, kPut_e, fit_I, fit_Z, fit_B, fit_C, fit_A, fit_O, Option.toList_some, Option.toList_none, List.cons_append, List.nil_append, true_and, and_true, List.set_cons_zero, List.set_cons_succ, st_same, Int.toNat_natCast, Int.cast_ofNat_Int, Nat.zero_add, Nat.reduceAdd, kRcv_1, kRcv_2, kRcv_3, kRcv_0, kRcv_4, kRcv_5, setWy_set, Wyo, Wya1, Wyw1, Wya2, Wyw2, Wya3, Wyw3, Wya4, Wyw4, Wya5, Wyw5, Wya6, Wyw6, Wya7, Wyw7, Wya8, Wyw8, Wyp6, Wyp7, Wyp10, Wyp11, Wyp12, Wyp13, Wyp14, Wyp15, pm16, pd16, at4 p _ _ rfl hp]
  refine ⟨⟨by omega, by omega, by omega, by omega⟩, ⟨by omega, by omega, by omega, by omega⟩, ?_⟩
  unfold npC at hR
  by_cases c0 : A 4 p - 1 ≤ 0
  · rw [if_pos c0] at hR
    simp only [e_Ways_nextPlace_18, e_Ways_nextPlace_19, e_Ways_nextPlace_20, e_Ways_nextPlace_22, e_Ways_nextPlace_24, e_Ways_nextPlace_27, e_Ways_nextPlace_28, kR_l, kR_r, kP_0, kP_i, kP_r, kP_n, kP_s, kP_o, kLen_I, kLen_L, kLen_R, kLdI_0, kLdI_1, kLdI_2, kLdI_3, kStI_0, kStI_1, kLdL_e, kStL_e, kLdR_e, kStR_e, kFld_e, kNth_0, kNth_s, kPut_e, fit_I, fit_Z, fit_B, fit_C, fit_A, fit_O, Option.toList_some, Option.toList_none, List.cons_append, List.nil_append, true_and, and_true, List.set_cons_zero, List.set_cons_succ, st_same, Int.toNat_natCast, Int.cast_ofNat_Int, Nat.zero_add, Nat.reduceAdd, kRcv_1, kRcv_2, kRcv_3, kRcv_0, kRcv_4, kRcv_5]
    clear at1 at2 at4
    all_goals ((repeat' (first | with_reducible refine And.intro ?_ ?_ | intro _)) <;> first | with_reducible assumption | exact True.intro | with_reducible exact hR | omega | (simp only [inR] at *; omega) | exact hR | with_reducible rfl | rfl | (simp; done) | (exfalso; simp_all; done) | skip)
  · rw [if_neg c0] at hR
    simp only [e_Ways_nextPlace_18, e_Ways_nextPlace_19, e_Ways_nextPlace_20, e_Ways_nextPlace_22, e_Ways_nextPlace_24, e_Ways_nextPlace_29, e_Ways_nextPlace_30, e_Ways_nextPlace_32, e_Ways_nextPlace_33, e_Ways_nextPlace_35, e_Ways_nextPlace_36, e_Ways_nextPlace_37, e_Ways_nextPlace_38, e_Ways_nextPlace_40, e_Ways_nextPlace_41, e_Ways_nextPlace_42, e_Ways_nextPlace_43, e_Ways_nextPlace_45, e_Ways_nextPlace_46, e_Ways_nextPlace_48, e_Ways_nextPlace_49, kR_l, kR_r, kP_0, kP_i, kP_r, kP_n, kP_s, kP_o, kLen_I, kLen_L, kLen_R, kLdI_0, kLdI_1, kLdI_2, kLdI_3, kStI_0, kStI_1, kLdL_e, kStL_e, kLdR_e, kStR_e, kFld_e, kNth_0, kNth_s, kPut_e, fit_I, fit_Z, fit_B, fit_C, fit_A, fit_O, Option.toList_some, Option.toList_none, List.cons_append, List.nil_append, true_and, and_true, List.set_cons_zero, List.set_cons_succ, st_same, Int.toNat_natCast, Int.cast_ofNat_Int, Nat.zero_add, Nat.reduceAdd, kRcv_1, kRcv_2, kRcv_3, kRcv_0, kRcv_4, kRcv_5]
    refine ⟨by unfold inR; omega, fun _ => ?_, fun z => absurd (by omega) z⟩
    -- below
    have seg4 : R (.inl (some (vI (if p / 16 + 1 < 12 ∧ A 4 (p + 16) + 256 * atW (A 1) (p + 16 * b) = A 4 p - 1 then (p : Int) + 16 else -1)))) (setWy σ W m A) → WP G k_Ways_nextPlace 167 [some (vR W), some (vI (p : Nat)), some (vI ((p % 16 : Nat) : Int)), some (vI ((p / 16 : Nat) : Int)), some (vI (A 4 p - 1)), some (vI ((p : Int) - 16)), some (vI ((p : Int) - 1)), some (vI ((p : Int) + 1)), some (vI ((p : Int) + 16))] [] (setWy σ W m A) R := by
      intro hR
      by_cases c1 : p / 16 + 1 < 12
      · have hFq := hF (p + 16) (by omega)
        have hbq := bd1 (p + 16 * b)
        simp only [e_Ways_nextPlace_167, e_Ways_nextPlace_168, e_Ways_nextPlace_169, e_Ways_nextPlace_170, e_Ways_nextPlace_172, e_Ways_nextPlace_175, e_Ways_nextPlace_176, e_Ways_nextPlace_179, e_Ways_nextPlace_181, kR_l, kR_r, kP_0, kP_i, kP_r, kP_n, kP_s, kP_o, kLen_I, kLen_L, kLen_R, kLdI_0, kLdI_1, kLdI_2, kLdI_3, kStI_0, kStI_1, kLdL_e, kStL_e, kLdR_e, kStR_e, kFld_e, kNth_0, kNth_s, kPut_e, fit_I, fit_Z, fit_B, fit_C, fit_A, fit_O, Option.toList_some, Option.toList_none, List.cons_append, List.nil_append, true_and, and_true, List.set_cons_zero, List.set_cons_succ, st_same, Int.toNat_natCast, Int.cast_ofNat_Int, Nat.zero_add, Nat.reduceAdd, kRcv_1, kRcv_2, kRcv_3, kRcv_0, kRcv_4, kRcv_5, setWy_set, Wyo, Wya1, Wyw1, Wya2, Wyw2, Wya3, Wyw3, Wya4, Wyw4, Wya5, Wyw5, Wya6, Wyw6, Wya7, Wyw7, Wya8, Wyw8, Wyp6, Wyp7, Wyp10, Wyp11, Wyp12, Wyp13, Wyp14, Wyp15, at4 (p + 16) _ _ (show (p : Int) + 16 = ((p + 16 : Nat) : Int) by omega) (by omega)]
        simp only [e_Ways_nextPlace_184, e_Ways_nextPlace_187, e_Ways_nextPlace_188, e_Ways_nextPlace_191, e_Ways_nextPlace_193, e_Ways_nextPlace_194, e_Ways_nextPlace_197, e_Ways_nextPlace_198, e_Ways_nextPlace_199, e_Ways_nextPlace_201, e_Ways_nextPlace_202, e_Ways_nextPlace_203, kR_l, kR_r, kP_0, kP_i, kP_r, kP_n, kP_s, kP_o, kLen_I, kLen_L, kLen_R, kLdI_0, kLdI_1, kLdI_2, kLdI_3, kStI_0, kStI_1, kLdL_e, kStL_e, kLdR_e, kStR_e, kFld_e, kNth_0, kNth_s, kPut_e, fit_I, fit_Z, fit_B, fit_C, fit_A, fit_O, Option.toList_some, Option.toList_none, List.cons_append, List.nil_append, true_and, and_true, List.set_cons_zero, List.set_cons_succ, st_same, Int.toNat_natCast, Int.cast_ofNat_Int, Nat.zero_add, Nat.reduceAdd, kRcv_1, kRcv_2, kRcv_3, kRcv_0, kRcv_4, kRcv_5, setWy_set, Wyo, Wya1, Wyw1, Wya2, Wyw2, Wya3, Wyw3, Wya4, Wyw4, Wya5, Wyw5, Wya6, Wyw6, Wya7, Wyw7, Wya8, Wyw8, Wyp6, Wyp7, Wyp10, Wyp11, Wyp12, Wyp13, Wyp14, Wyp15, m11]
        rw [at1 (p + 16 * b) _ _ (by omega) (by omega)]
        simp only [e_Ways_nextPlace_206, e_Ways_nextPlace_207, e_Ways_nextPlace_208, e_Ways_nextPlace_210, e_Ways_nextPlace_213, e_Ways_nextPlace_215, e_Ways_nextPlace_216, e_Ways_nextPlace_217, kR_l, kR_r, kP_0, kP_i, kP_r, kP_n, kP_s, kP_o, kLen_I, kLen_L, kLen_R, kLdI_0, kLdI_1, kLdI_2, kLdI_3, kStI_0, kStI_1, kLdL_e, kStL_e, kLdR_e, kStR_e, kFld_e, kNth_0, kNth_s, kPut_e, fit_I, fit_Z, fit_B, fit_C, fit_A, fit_O, Option.toList_some, Option.toList_none, List.cons_append, List.nil_append, true_and, and_true, List.set_cons_zero, List.set_cons_succ, st_same, Int.toNat_natCast, Int.cast_ofNat_Int, Nat.zero_add, Nat.reduceAdd, kRcv_1, kRcv_2, kRcv_3, kRcv_0, kRcv_4, kRcv_5]
        clear at1 at2 at4
        by_cases c2 : A 4 (p + 16) + 256 * atW (A 1) (p + 16 * b) = A 4 p - 1
        · rw [if_pos ⟨c1, c2⟩] at hR
          all_goals ((repeat' (first | with_reducible refine And.intro ?_ ?_ | intro _)) <;> first | with_reducible assumption | exact True.intro | with_reducible exact hR | omega | (simp only [inR] at *; omega) | exact hR | with_reducible rfl | rfl | (simp; done) | (exfalso; simp_all; done) | skip)
        · rw [if_neg (fun z => c2 z.2)] at hR
          all_goals ((repeat' (first | with_reducible refine And.intro ?_ ?_ | intro _)) <;> first | with_reducible assumption | exact True.intro | with_reducible exact hR | omega | (simp only [inR] at *; omega) | exact hR | with_reducible rfl | rfl | (simp; done) | (exfalso; simp_all; done) | skip)
      · rw [if_neg (fun z => c1 z.1)] at hR
        simp only [e_Ways_nextPlace_167, e_Ways_nextPlace_168, e_Ways_nextPlace_169, e_Ways_nextPlace_170, e_Ways_nextPlace_172, e_Ways_nextPlace_216, e_Ways_nextPlace_217, kR_l, kR_r, kP_0, kP_i, kP_r, kP_n, kP_s, kP_o, kLen_I, kLen_L, kLen_R, kLdI_0, kLdI_1, kLdI_2, kLdI_3, kStI_0, kStI_1, kLdL_e, kStL_e, kLdR_e, kStR_e, kFld_e, kNth_0, kNth_s, kPut_e, fit_I, fit_Z, fit_B, fit_C, fit_A, fit_O, Option.toList_some, Option.toList_none, List.cons_append, List.nil_append, true_and, and_true, List.set_cons_zero, List.set_cons_succ, st_same, Int.toNat_natCast, Int.cast_ofNat_Int, Nat.zero_add, Nat.reduceAdd, kRcv_1, kRcv_2, kRcv_3, kRcv_0, kRcv_4, kRcv_5]
        clear at1 at2 at4
        all_goals ((repeat' (first | with_reducible refine And.intro ?_ ?_ | intro _)) <;> first | with_reducible assumption | exact True.intro | with_reducible exact hR | omega | (simp only [inR] at *; omega) | exact hR | with_reducible rfl | rfl | (simp; done) | (exfalso; simp_all; done) | skip)
    have seg3 : R (.inl (some (vI (if p % 16 + 1 < 16 ∧ A 4 (p + 1) + 256 * atW (A 2) (p + b) = A 4 p - 1 then (p : Int) + 1 else if p / 16 + 1 < 12 ∧ A 4 (p + 16) + 256 * atW (A 1) (p + 16 * b) = A 4 p - 1 then (p : Int) + 16 else -1)))) (setWy σ W m A) → WP G k_Ways_nextPlace 121 [some (vR W), some (vI (p : Nat)), some (vI ((p % 16 : Nat) : Int)), some (vI ((p / 16 : Nat) : Int)), some (vI (A 4 p - 1)), some (vI ((p : Int) - 16)), some (vI ((p : Int) - 1)), some (vI ((p : Int) + 1)), some (vI ((p : Int) + 16))] [] (setWy σ W m A) R := by
      intro hR
      by_cases c1 : p % 16 + 1 < 16
      · have hFq := hF (p + 1) (by omega)
        have hbq := bd2 (p + b)
        simp only [e_Ways_nextPlace_121, e_Ways_nextPlace_122, e_Ways_nextPlace_123, e_Ways_nextPlace_124, e_Ways_nextPlace_126, e_Ways_nextPlace_129, e_Ways_nextPlace_130, e_Ways_nextPlace_133, e_Ways_nextPlace_135, kR_l, kR_r, kP_0, kP_i, kP_r, kP_n, kP_s, kP_o, kLen_I, kLen_L, kLen_R, kLdI_0, kLdI_1, kLdI_2, kLdI_3, kStI_0, kStI_1, kLdL_e, kStL_e, kLdR_e, kStR_e, kFld_e, kNth_0, kNth_s, kPut_e, fit_I, fit_Z, fit_B, fit_C, fit_A, fit_O, Option.toList_some, Option.toList_none, List.cons_append, List.nil_append, true_and, and_true, List.set_cons_zero, List.set_cons_succ, st_same, Int.toNat_natCast, Int.cast_ofNat_Int, Nat.zero_add, Nat.reduceAdd, kRcv_1, kRcv_2, kRcv_3, kRcv_0, kRcv_4, kRcv_5, setWy_set, Wyo, Wya1, Wyw1, Wya2, Wyw2, Wya3, Wyw3, Wya4, Wyw4, Wya5, Wyw5, Wya6, Wyw6, Wya7, Wyw7, Wya8, Wyw8, Wyp6, Wyp7, Wyp10, Wyp11, Wyp12, Wyp13, Wyp14, Wyp15, at4 (p + 1) _ _ (show (p : Int) + 1 = ((p + 1 : Nat) : Int) by omega) (by omega)]
        simp only [e_Ways_nextPlace_138, e_Ways_nextPlace_141, e_Ways_nextPlace_142, e_Ways_nextPlace_145, e_Ways_nextPlace_147, e_Ways_nextPlace_148, e_Ways_nextPlace_151, e_Ways_nextPlace_152, e_Ways_nextPlace_153, e_Ways_nextPlace_154, kR_l, kR_r, kP_0, kP_i, kP_r, kP_n, kP_s, kP_o, kLen_I, kLen_L, kLen_R, kLdI_0, kLdI_1, kLdI_2, kLdI_3, kStI_0, kStI_1, kLdL_e, kStL_e, kLdR_e, kStR_e, kFld_e, kNth_0, kNth_s, kPut_e, fit_I, fit_Z, fit_B, fit_C, fit_A, fit_O, Option.toList_some, Option.toList_none, List.cons_append, List.nil_append, true_and, and_true, List.set_cons_zero, List.set_cons_succ, st_same, Int.toNat_natCast, Int.cast_ofNat_Int, Nat.zero_add, Nat.reduceAdd, kRcv_1, kRcv_2, kRcv_3, kRcv_0, kRcv_4, kRcv_5, setWy_set, Wyo, Wya1, Wyw1, Wya2, Wyw2, Wya3, Wyw3, Wya4, Wyw4, Wya5, Wyw5, Wya6, Wyw6, Wya7, Wyw7, Wya8, Wyw8, Wyp6, Wyp7, Wyp10, Wyp11, Wyp12, Wyp13, Wyp14, Wyp15, m11]
        rw [at2 (p + b) _ _ (by omega) (by omega)]
        simp only [e_Ways_nextPlace_157, e_Ways_nextPlace_158, e_Ways_nextPlace_159, e_Ways_nextPlace_161, e_Ways_nextPlace_164, e_Ways_nextPlace_166, kR_l, kR_r, kP_0, kP_i, kP_r, kP_n, kP_s, kP_o, kLen_I, kLen_L, kLen_R, kLdI_0, kLdI_1, kLdI_2, kLdI_3, kStI_0, kStI_1, kLdL_e, kStL_e, kLdR_e, kStR_e, kFld_e, kNth_0, kNth_s, kPut_e, fit_I, fit_Z, fit_B, fit_C, fit_A, fit_O, Option.toList_some, Option.toList_none, List.cons_append, List.nil_append, true_and, and_true, List.set_cons_zero, List.set_cons_succ, st_same, Int.toNat_natCast, Int.cast_ofNat_Int, Nat.zero_add, Nat.reduceAdd, kRcv_1, kRcv_2, kRcv_3, kRcv_0, kRcv_4, kRcv_5]
        clear at1 at2 at4
        by_cases c2 : A 4 (p + 1) + 256 * atW (A 2) (p + b) = A 4 p - 1
        · rw [if_pos ⟨c1, c2⟩] at hR
          all_goals ((repeat' (first | with_reducible refine And.intro ?_ ?_ | intro _)) <;> first | with_reducible assumption | exact True.intro | with_reducible exact hR | omega | (simp only [inR] at *; omega) | exact hR | with_reducible rfl | rfl | (simp; done) | (exfalso; simp_all; done) | skip)
        · rw [if_neg (fun z => c2 z.2)] at hR
          all_goals ((repeat' (first | with_reducible refine And.intro ?_ ?_ | intro _)) <;> first | with_reducible assumption | exact True.intro | with_reducible exact seg4 hR | omega | (simp only [inR] at *; omega) | exact seg4 hR | with_reducible rfl | rfl | (simp; done) | (exfalso; simp_all; done) | skip)
      · rw [if_neg (fun z => c1 z.1)] at hR
        simp only [e_Ways_nextPlace_121, e_Ways_nextPlace_122, e_Ways_nextPlace_123, e_Ways_nextPlace_124, e_Ways_nextPlace_126, kR_l, kR_r, kP_0, kP_i, kP_r, kP_n, kP_s, kP_o, kLen_I, kLen_L, kLen_R, kLdI_0, kLdI_1, kLdI_2, kLdI_3, kStI_0, kStI_1, kLdL_e, kStL_e, kLdR_e, kStR_e, kFld_e, kNth_0, kNth_s, kPut_e, fit_I, fit_Z, fit_B, fit_C, fit_A, fit_O, Option.toList_some, Option.toList_none, List.cons_append, List.nil_append, true_and, and_true, List.set_cons_zero, List.set_cons_succ, st_same, Int.toNat_natCast, Int.cast_ofNat_Int, Nat.zero_add, Nat.reduceAdd, kRcv_1, kRcv_2, kRcv_3, kRcv_0, kRcv_4, kRcv_5]
        clear at1 at2 at4
        all_goals ((repeat' (first | with_reducible refine And.intro ?_ ?_ | intro _)) <;> first | with_reducible assumption | exact True.intro | with_reducible exact seg4 hR | omega | (simp only [inR] at *; omega) | exact seg4 hR | with_reducible rfl | rfl | (simp; done) | (exfalso; simp_all; done) | skip)
    have seg2 : R (.inl (some (vI (if 0 < p % 16 ∧ A 4 (p - 1) + 256 * A 2 (p - 1) = A 4 p - 1 then (p : Int) - 1 else if p % 16 + 1 < 16 ∧ A 4 (p + 1) + 256 * atW (A 2) (p + b) = A 4 p - 1 then (p : Int) + 1 else if p / 16 + 1 < 12 ∧ A 4 (p + 16) + 256 * atW (A 1) (p + 16 * b) = A 4 p - 1 then (p : Int) + 16 else -1)))) (setWy σ W m A) → WP G k_Ways_nextPlace 86 [some (vR W), some (vI (p : Nat)), some (vI ((p % 16 : Nat) : Int)), some (vI ((p / 16 : Nat) : Int)), some (vI (A 4 p - 1)), some (vI ((p : Int) - 16)), some (vI ((p : Int) - 1)), some (vI ((p : Int) + 1)), some (vI ((p : Int) + 16))] [] (setWy σ W m A) R := by
      intro hR
      by_cases c1 : 0 < p % 16
      · have hFq := hF (p - 1) (by omega)
        have hbq := (hw (p - 1) (by omega)).2
        simp only [e_Ways_nextPlace_86, e_Ways_nextPlace_87, e_Ways_nextPlace_90, e_Ways_nextPlace_91, e_Ways_nextPlace_94, e_Ways_nextPlace_96, kR_l, kR_r, kP_0, kP_i, kP_r, kP_n, kP_s, kP_o, kLen_I, kLen_L, kLen_R, kLdI_0, kLdI_1, kLdI_2, kLdI_3, kStI_0, kStI_1, kLdL_e, kStL_e, kLdR_e, kStR_e, kFld_e, kNth_0, kNth_s, kPut_e, fit_I, fit_Z, fit_B, fit_C, fit_A, fit_O, Option.toList_some, Option.toList_none, List.cons_append, List.nil_append, true_and, and_true, List.set_cons_zero, List.set_cons_succ, st_same, Int.toNat_natCast, Int.cast_ofNat_Int, Nat.zero_add, Nat.reduceAdd, kRcv_1, kRcv_2, kRcv_3, kRcv_0, kRcv_4, kRcv_5, setWy_set, Wyo, Wya1, Wyw1, Wya2, Wyw2, Wya3, Wyw3, Wya4, Wyw4, Wya5, Wyw5, Wya6, Wyw6, Wya7, Wyw7, Wya8, Wyw8, Wyp6, Wyp7, Wyp10, Wyp11, Wyp12, Wyp13, Wyp14, Wyp15, at4 (p - 1) _ _ (show (p : Int) - 1 = ((p - 1 : Nat) : Int) by omega) (by omega)]
        simp only [e_Ways_nextPlace_99, e_Ways_nextPlace_102, e_Ways_nextPlace_103, e_Ways_nextPlace_106, e_Ways_nextPlace_108, kR_l, kR_r, kP_0, kP_i, kP_r, kP_n, kP_s, kP_o, kLen_I, kLen_L, kLen_R, kLdI_0, kLdI_1, kLdI_2, kLdI_3, kStI_0, kStI_1, kLdL_e, kStL_e, kLdR_e, kStR_e, kFld_e, kNth_0, kNth_s, kPut_e, fit_I, fit_Z, fit_B, fit_C, fit_A, fit_O, Option.toList_some, Option.toList_none, List.cons_append, List.nil_append, true_and, and_true, List.set_cons_zero, List.set_cons_succ, st_same, Int.toNat_natCast, Int.cast_ofNat_Int, Nat.zero_add, Nat.reduceAdd, kRcv_1, kRcv_2, kRcv_3, kRcv_0, kRcv_4, kRcv_5, setWy_set, Wyo, Wya1, Wyw1, Wya2, Wyw2, Wya3, Wyw3, Wya4, Wyw4, Wya5, Wyw5, Wya6, Wyw6, Wya7, Wyw7, Wya8, Wyw8, Wyp6, Wyp7, Wyp10, Wyp11, Wyp12, Wyp13, Wyp14, Wyp15, at2 (p - 1) _ _ (show (p : Int) - 1 = ((p - 1 : Nat) : Int) by omega) (by omega), ea2 (p - 1) (by omega)]
        simp only [e_Ways_nextPlace_111, e_Ways_nextPlace_112, e_Ways_nextPlace_113, e_Ways_nextPlace_115, e_Ways_nextPlace_118, e_Ways_nextPlace_120, kR_l, kR_r, kP_0, kP_i, kP_r, kP_n, kP_s, kP_o, kLen_I, kLen_L, kLen_R, kLdI_0, kLdI_1, kLdI_2, kLdI_3, kStI_0, kStI_1, kLdL_e, kStL_e, kLdR_e, kStR_e, kFld_e, kNth_0, kNth_s, kPut_e, fit_I, fit_Z, fit_B, fit_C, fit_A, fit_O, Option.toList_some, Option.toList_none, List.cons_append, List.nil_append, true_and, and_true, List.set_cons_zero, List.set_cons_succ, st_same, Int.toNat_natCast, Int.cast_ofNat_Int, Nat.zero_add, Nat.reduceAdd, kRcv_1, kRcv_2, kRcv_3, kRcv_0, kRcv_4, kRcv_5]
        clear at1 at2 at4
        by_cases c2 : A 4 (p - 1) + 256 * A 2 (p - 1) = A 4 p - 1
        · rw [if_pos ⟨c1, c2⟩] at hR
          all_goals ((repeat' (first | with_reducible refine And.intro ?_ ?_ | intro _)) <;> first | with_reducible assumption | exact True.intro | with_reducible exact hR | omega | (simp only [inR] at *; omega) | exact hR | with_reducible rfl | rfl | (simp; done) | (exfalso; simp_all; done) | skip)
        · rw [if_neg (fun z => c2 z.2)] at hR
          all_goals ((repeat' (first | with_reducible refine And.intro ?_ ?_ | intro _)) <;> first | with_reducible assumption | exact True.intro | with_reducible exact seg3 hR | omega | (simp only [inR] at *; omega) | exact seg3 hR | with_reducible rfl | rfl | (simp; done) | (exfalso; simp_all; done) | skip)
      · rw [if_neg (fun z => c1 z.1)] at hR
        simp only [e_Ways_nextPlace_86, e_Ways_nextPlace_87, kR_l, kR_r, kP_0, kP_i, kP_r, kP_n, kP_s, kP_o, kLen_I, kLen_L, kLen_R, kLdI_0, kLdI_1, kLdI_2, kLdI_3, kStI_0, kStI_1, kLdL_e, kStL_e, kLdR_e, kStR_e, kFld_e, kNth_0, kNth_s, kPut_e, fit_I, fit_Z, fit_B, fit_C, fit_A, fit_O, Option.toList_some, Option.toList_none, List.cons_append, List.nil_append, true_and, and_true, List.set_cons_zero, List.set_cons_succ, st_same, Int.toNat_natCast, Int.cast_ofNat_Int, Nat.zero_add, Nat.reduceAdd, kRcv_1, kRcv_2, kRcv_3, kRcv_0, kRcv_4, kRcv_5]
        clear at1 at2 at4
        all_goals ((repeat' (first | with_reducible refine And.intro ?_ ?_ | intro _)) <;> first | with_reducible assumption | exact True.intro | with_reducible exact seg3 hR | omega | (simp only [inR] at *; omega) | exact seg3 hR | with_reducible rfl | rfl | (simp; done) | (exfalso; simp_all; done) | skip)
    by_cases c1 : 0 < p / 16
    · have hFq := hF (p - 16) (by omega)
      have hbq := (hw (p - 16) (by omega)).1
      simp only [e_Ways_nextPlace_51, e_Ways_nextPlace_52, e_Ways_nextPlace_55, e_Ways_nextPlace_56, e_Ways_nextPlace_59, e_Ways_nextPlace_61, kR_l, kR_r, kP_0, kP_i, kP_r, kP_n, kP_s, kP_o, kLen_I, kLen_L, kLen_R, kLdI_0, kLdI_1, kLdI_2, kLdI_3, kStI_0, kStI_1, kLdL_e, kStL_e, kLdR_e, kStR_e, kFld_e, kNth_0, kNth_s, kPut_e, fit_I, fit_Z, fit_B, fit_C, fit_A, fit_O, Option.toList_some, Option.toList_none, List.cons_append, List.nil_append, true_and, and_true, List.set_cons_zero, List.set_cons_succ, st_same, Int.toNat_natCast, Int.cast_ofNat_Int, Nat.zero_add, Nat.reduceAdd, kRcv_1, kRcv_2, kRcv_3, kRcv_0, kRcv_4, kRcv_5, setWy_set, Wyo, Wya1, Wyw1, Wya2, Wyw2, Wya3, Wyw3, Wya4, Wyw4, Wya5, Wyw5, Wya6, Wyw6, Wya7, Wyw7, Wya8, Wyw8, Wyp6, Wyp7, Wyp10, Wyp11, Wyp12, Wyp13, Wyp14, Wyp15, at4 (p - 16) _ _ (show (p : Int) - 16 = ((p - 16 : Nat) : Int) by omega) (by omega)]
      simp only [e_Ways_nextPlace_64, e_Ways_nextPlace_67, e_Ways_nextPlace_68, e_Ways_nextPlace_71, e_Ways_nextPlace_73, kR_l, kR_r, kP_0, kP_i, kP_r, kP_n, kP_s, kP_o, kLen_I, kLen_L, kLen_R, kLdI_0, kLdI_1, kLdI_2, kLdI_3, kStI_0, kStI_1, kLdL_e, kStL_e, kLdR_e, kStR_e, kFld_e, kNth_0, kNth_s, kPut_e, fit_I, fit_Z, fit_B, fit_C, fit_A, fit_O, Option.toList_some, Option.toList_none, List.cons_append, List.nil_append, true_and, and_true, List.set_cons_zero, List.set_cons_succ, st_same, Int.toNat_natCast, Int.cast_ofNat_Int, Nat.zero_add, Nat.reduceAdd, kRcv_1, kRcv_2, kRcv_3, kRcv_0, kRcv_4, kRcv_5, setWy_set, Wyo, Wya1, Wyw1, Wya2, Wyw2, Wya3, Wyw3, Wya4, Wyw4, Wya5, Wyw5, Wya6, Wyw6, Wya7, Wyw7, Wya8, Wyw8, Wyp6, Wyp7, Wyp10, Wyp11, Wyp12, Wyp13, Wyp14, Wyp15, at1 (p - 16) _ _ (show (p : Int) - 16 = ((p - 16 : Nat) : Int) by omega) (by omega), ea1 (p - 16) (by omega)]
      simp only [e_Ways_nextPlace_76, e_Ways_nextPlace_77, e_Ways_nextPlace_78, e_Ways_nextPlace_80, e_Ways_nextPlace_83, e_Ways_nextPlace_85, kR_l, kR_r, kP_0, kP_i, kP_r, kP_n, kP_s, kP_o, kLen_I, kLen_L, kLen_R, kLdI_0, kLdI_1, kLdI_2, kLdI_3, kStI_0, kStI_1, kLdL_e, kStL_e, kLdR_e, kStR_e, kFld_e, kNth_0, kNth_s, kPut_e, fit_I, fit_Z, fit_B, fit_C, fit_A, fit_O, Option.toList_some, Option.toList_none, List.cons_append, List.nil_append, true_and, and_true, List.set_cons_zero, List.set_cons_succ, st_same, Int.toNat_natCast, Int.cast_ofNat_Int, Nat.zero_add, Nat.reduceAdd, kRcv_1, kRcv_2, kRcv_3, kRcv_0, kRcv_4, kRcv_5]
      clear at1 at2 at4
      by_cases c2 : A 4 (p - 16) + 256 * A 1 (p - 16) = A 4 p - 1
      · rw [if_pos ⟨c1, c2⟩] at hR
        all_goals ((repeat' (first | with_reducible refine And.intro ?_ ?_ | intro _)) <;> first | with_reducible assumption | exact True.intro | with_reducible exact hR | omega | (simp only [inR] at *; omega) | exact hR | with_reducible rfl | rfl | (simp; done) | (exfalso; simp_all; done) | skip)
      · rw [if_neg (fun z => c2 z.2)] at hR
        all_goals ((repeat' (first | with_reducible refine And.intro ?_ ?_ | intro _)) <;> first | with_reducible assumption | exact True.intro | with_reducible exact seg2 hR | omega | (simp only [inR] at *; omega) | exact seg2 hR | with_reducible rfl | rfl | (simp; done) | (exfalso; simp_all; done) | skip)
    · rw [if_neg (fun z => c1 z.1)] at hR
      simp only [e_Ways_nextPlace_51, e_Ways_nextPlace_52, kR_l, kR_r, kP_0, kP_i, kP_r, kP_n, kP_s, kP_o, kLen_I, kLen_L, kLen_R, kLdI_0, kLdI_1, kLdI_2, kLdI_3, kStI_0, kStI_1, kLdL_e, kStL_e, kLdR_e, kStR_e, kFld_e, kNth_0, kNth_s, kPut_e, fit_I, fit_Z, fit_B, fit_C, fit_A, fit_O, Option.toList_some, Option.toList_none, List.cons_append, List.nil_append, true_and, and_true, List.set_cons_zero, List.set_cons_succ, st_same, Int.toNat_natCast, Int.cast_ofNat_Int, Nat.zero_add, Nat.reduceAdd, kRcv_1, kRcv_2, kRcv_3, kRcv_0, kRcv_4, kRcv_5]
      clear at1 at2 at4
      all_goals ((repeat' (first | with_reducible refine And.intro ?_ ?_ | intro _)) <;> first | with_reducible assumption | exact True.intro | with_reducible exact seg2 hR | omega | (simp only [inR] at *; omega) | exact seg2 hR | with_reducible rfl | rfl | (simp; done) | (exfalso; simp_all; done) | skip)
theorem npC_eq {p : Nat} (hb1 : 1 ≤ b) (hb3 : b ≤ 3) (hf : SolM s b r f) (hE : EqS fp s) (hs : SOK s) (hMe : MeA fp b A) (h4 : ∀ p, p < 192 → A 4 p = dT f p) (hp : p < 192) (hfp : f p < 1000000) : npC b A p = if f p = 1 then -1 else folM s b f p 4 := by
  have hpl := (hf.1 p hp).2.2 hfp
  obtain ⟨g1, g2, -⟩ := (plP_mk hb1).mp hpl
  have ed := dT_fin hf hp hfp
  have hm := Sol_mod' hf hp hfp
  have hp1 := (hf.1 p hp).2.1
  unfold npC
  rw [h4 p hp]
  by_cases c0 : f p = 1
  · rw [if_pos c0]
    have : dT f p = 1 := by
      unfold dT
      rw [c0]
      decide
    rw [if_pos (by omega)]
  · rw [if_neg c0, if_neg (by omega)]
    have a1 : ∀ k, k < 192 → A 1 k = acV fp b k := fun k hk => (hMe k hk).1
    have a2 : ∀ k, k < 192 → A 2 k = dwV fp b k := fun k hk => (hMe k hk).2.1
    have n1 : ∀ k, 0 ≤ acV fp b k := fun k => (rkV_bd fp b k hb3 (by omega)).1
    have n2 : ∀ k, 0 ≤ dwV fp b k := fun k => (rkV_bd fp b k (by omega) hb3).1
    have z1 : ∀ k, 0 ≤ atW (A 1) k := fun k => by
      unfold atW
      split
      · rename_i hk; rw [a1 k hk]; exact n1 k
      · omega
    have z2 : ∀ k, 0 ≤ atW (A 2) k := fun k => by
      unfold atW
      split
      · rename_i hk; rw [a2 k hk]; exact n2 k
      · omega
    have no : ∀ d, d < 4 → (∀ q : Nat, ¬ nxM s b p d = q) → ¬ cdM s b f p d := fun d hd h z => by
      have := nxM_bd s hb1 p d
      exact h (nxM s b p d).toNat (by have := z.1; omega)
    -- up
    have hu : (0 < p / 16 ∧ A 4 (p - 16) + 256 * A 1 (p - 16) = dT f p - 1 ↔ cdM s b f p 2) ∧ (cdM s b f p 2 → nxM s b p 2 = (p : Int) - 16 ∧ 16 ≤ p) := by
      by_cases c : 0 < p / 16
      · have k := cdM_iff (q := p - 16) (d := 2) (w := A 1 (p - 16)) hb1 hb3 hf hp hfp (by omega) (by omega) (by omega) (fun z => by rw [a1 _ (by omega)]; exact w_down hE hs hb1 z (by omega) (by omega)) (by rw [a1 _ (by omega)]; exact n1 _)
        rw [h4 _ (by omega)]
        exact ⟨⟨fun z => k.1.mp z.2, fun z => ⟨c, k.1.mpr z⟩⟩, fun z => ⟨by rw [k.2 z]; omega, by omega⟩⟩
      · have hn := no 2 (by omega) (fun q hq => by have := nxM_dir hb1 (by omega) hq; omega)
        exact ⟨⟨fun z => absurd z.1 c, fun z => absurd z hn⟩, fun z => absurd z hn⟩
    have hl : (0 < p % 16 ∧ A 4 (p - 1) + 256 * A 2 (p - 1) = dT f p - 1 ↔ cdM s b f p 0) ∧ (cdM s b f p 0 → nxM s b p 0 = (p : Int) - 1 ∧ 1 ≤ p) := by
      by_cases c : 0 < p % 16
      · have k := cdM_iff (q := p - 1) (d := 0) (w := A 2 (p - 1)) hb1 hb3 hf hp hfp (by omega) (by omega) (by omega) (fun z => by rw [a2 _ (by omega)]; exact w_right hE hs hb1 z (by omega) (by omega)) (by rw [a2 _ (by omega)]; exact n2 _)
        rw [h4 _ (by omega)]
        exact ⟨⟨fun z => k.1.mp z.2, fun z => ⟨c, k.1.mpr z⟩⟩, fun z => ⟨by rw [k.2 z]; omega, by omega⟩⟩
      · have hn := no 0 (by omega) (fun q hq => by have := nxM_dir hb1 (by omega) hq; omega)
        exact ⟨⟨fun z => absurd z.1 c, fun z => absurd z hn⟩, fun z => absurd z hn⟩
    have hr : (p % 16 + 1 < 16 ∧ A 4 (p + 1) + 256 * atW (A 2) (p + b) = dT f p - 1 ↔ cdM s b f p 1) ∧ (cdM s b f p 1 → nxM s b p 1 = (p : Int) + 1) := by
      by_cases c : p % 16 + 1 < 16
      · have k := cdM_iff (q := p + 1) (d := 1) (w := atW (A 2) (p + b)) hb1 hb3 hf hp hfp (by omega) (by omega) (by omega) (fun z => by
          have hz := (plP_mk hb1).mp z
          have e : p + b = (p + 1) + b - 1 := by omega
          have hlt : p + b < 192 := by omega
          unfold atW
          rw [if_pos hlt, a2 _ hlt, e]
          exact w_left hE hs hb1 z (by omega) (by omega)) (z2 _)
        rw [h4 _ (by omega)]
        exact ⟨⟨fun z => k.1.mp z.2, fun z => ⟨c, k.1.mpr z⟩⟩, fun z => by rw [k.2 z]; omega⟩
      · have hn := no 1 (by omega) (fun q hq => by have := nxM_dir hb1 (by omega) hq; omega)
        exact ⟨⟨fun z => absurd z.1 c, fun z => absurd z hn⟩, fun z => absurd z hn⟩
    have hd : (p / 16 + 1 < 12 ∧ A 4 (p + 16) + 256 * atW (A 1) (p + 16 * b) = dT f p - 1 ↔ cdM s b f p 3) ∧ (cdM s b f p 3 → nxM s b p 3 = (p : Int) + 16) := by
      by_cases c : p / 16 + 1 < 12
      · have k := cdM_iff (q := p + 16) (d := 3) (w := atW (A 1) (p + 16 * b)) hb1 hb3 hf hp hfp (by omega) (by omega) (by omega) (fun z => by
          have hz := (plP_mk hb1).mp z
          have e : p + 16 * b = (p + 16) + (b - 1) * 16 := by omega
          have hlt : p + 16 * b < 192 := by omega
          unfold atW
          rw [if_pos hlt, a1 _ hlt, e]
          exact w_up hE hs hb1 z (by omega) (by omega)) (z1 _)
        rw [h4 _ (by omega)]
        exact ⟨⟨fun z => k.1.mp z.2, fun z => ⟨c, k.1.mpr z⟩⟩, fun z => by rw [k.2 z]; omega⟩
      · have hn := no 3 (by omega) (fun q hq => by have := nxM_dir hb1 (by omega) hq; have := (nxM_pl hb1 hq).2; omega)
        exact ⟨⟨fun z => absurd z.1 c, fun z => absurd z hn⟩, fun z => absurd z hn⟩
    have fv := fol_val (s := s) (b := b) (f := f) (p := p) (u := (p : Int) - 16) (l := (p : Int) - 1) (r := (p : Int) + 1) (d := (p : Int) + 16) (by omega) (by omega) (by omega) (fun z => ⟨(hl.2 z).1, by have := (hl.2 z).2; omega⟩) (fun z => ⟨hr.2 z, by omega⟩) (fun z => ⟨(hu.2 z).1, by have := (hu.2 z).2; omega⟩) (fun z => ⟨hd.2 z, by omega⟩)
    by_cases c2 : cdM s b f p 2
    · rw [if_pos (hu.1.mpr c2), fv.1 c2]
    · rw [if_neg (fun z => c2 (hu.1.mp z))]
      by_cases c3 : cdM s b f p 0
      · rw [if_pos (hl.1.mpr c3), fv.2.1 c2 c3]
      · rw [if_neg (fun z => c3 (hl.1.mp z))]
        by_cases c4 : cdM s b f p 1
        · rw [if_pos (hr.1.mpr c4), fv.2.2.1 c2 c3 c4]
        · rw [if_neg (fun z => c4 (hr.1.mp z))]
          by_cases c5 : cdM s b f p 3
          · rw [if_pos (hd.1.mpr c5), fv.2.2.2.1 c2 c3 c4 c5]
          · rw [if_neg (fun z => c5 (hd.1.mp z)), fv.2.2.2.2 c2 c3 c4 c5]
end FND2

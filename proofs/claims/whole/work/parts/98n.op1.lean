/-! THE LAW: one call of each, class and reference side by side -/
abbrev XS : Type := (Nat → Int) × (Nat × ((Nat → Int) × (Nat × (Nat → Int))))
def mkX (s : Nat → Int) (kp : Nat) (p : Nat → Int) (n : Nat) (t : Nat → Int) : XS := (s, (kp, (p, (n, t))))
def ClsX (G : Nat → Nat) (σ : AS) (B : Nat) (X : XS) : Prop := ClsI G σ B X.1 X.2.1 X.2.2.1 X.2.2.2.1 X.2.2.2.2
def GdX (X : XS) : Prop := GdI X.1 X.2.1 X.2.2.1 X.2.2.2.1 X.2.2.2.2
def MdX (m : Nat → Int) (A : Nat → Nat → Int) (X : XS) : Prop := MdG m A X.1 X.2.1 X.2.2.2.1 X.2.2.2.2 ∧ A 3 = X.2.2.1
theorem ClsI.out {G : Nat → Nat} {σ σ' : AS} {B kp n lo hi : Nat} {s p t : Nat → Int} (h : ClsI G σ B s kp p n t) (hG : G 0 ≤ B) (k : FrB lo hi σ σ') (hd : B + 46 ≤ lo) : ClsI G σ' B s kp p n t := by
  obtain ⟨c1, c2, c3, c4, c5, c6, c7⟩ := h
  exact ⟨c1.fr k (by omega), c2.fr k (by omega), c3.fr k (by omega), c4.fr k (by omega), c5.fr k (by omega), c6.fr k (by omega), c7.fr k (by omega)⟩
def CRet (G : Nat → Nat) (B : Nat) (σ : AS) (X : XS) (v : Int) (j : Nat) (as : List AV) : Prop := ∀ Q : (Option AV ⊕ Nat) → AS → Prop, (∀ σ' : AS, ClsX G σ' B X → FrB B (B + 46) σ σ' → Q (.inl (some (vI v))) σ') → CW G j as σ Q
def CThr (G : Nat → Nat) (B : Nat) (σ : AS) (X : XS) (e : Nat) (j : Nat) (as : List AV) : Prop := ∀ Q : (Option AV ⊕ Nat) → AS → Prop, (∀ σ' : AS, ClsX G σ' B X → FrB B (B + 46) σ σ' → Q (.inr e) (am_th σ')) → CW G j as σ Q
def FrO (B : Nat) (σ σ' : AS) : Prop := (∀ a, (a < B ∨ B + 46 ≤ a) → a ≠ B + 58 → σ'.1 a = σ.1 a) ∧ σ'.2.2.1 ≤ σ.2.2.1 + 1 ∧ σ'.2.2.2 ≤ σ.2.2.2 + 6
def LRes (G : Nat → Nat) (B : Nat) (σ : AS) (X : XS) (k v : Int) (j : Nat) (as : List AV) : Prop := ∀ Q : (Option AV ⊕ Nat) → AS → Prop, (∀ σ' : AS, ClsX G σ' B X → FrO B σ σ' → (∃ f, σ'.1 (B + 58) = some (oL 1 f) ∧ (k = 0 → f 0 = (Int32.ofInt v).toInt64)) → Q (.inl (some (vI k))) σ') → CW G j as σ Q
def MRet (G : Nat → Nat) (M : Nat) (X X' : XS) (k v : Int) (j : Nat) (as : List AV) : Prop := ∀ (σ : AS) (m : Nat → Int) (A : Nat → Nat → Int) (Q : (Option AV ⊕ Nat) → AS → Prop), MdX m A X → (∀ (m' : Nat → Int) (A' : Nat → Nat → Int) (b : Int), MdX m' A' X' → m' 6 = k → (k = 0 → b = v) → Q (.inl (some (vI b))) (setMd σ M m' A')) → CW G j as (setMd σ M m A) Q
def OpR (G : Nat → Nat) (B : Nat) (σ : AS) (X : XS) (jL : Nat) (asL : List AV) (jM : Nat) (asM : List AV) : Prop := ∃ (X' : XS) (k v : Int), GdX X' ∧ (0 ≤ k ∧ k ≤ 3) ∧ LRes G B σ X' k v jL asL ∧ MRet G (B + 46) X X' k v jM asM
theorem l_ret {G : Nat → Nat} {B : Nat} {σ : AS} {X' : XS} {v : Int} {cd : Nat → Option Int} {jL jC : Nat} {asL asC : List AV} (hG : G 0 ≤ B) (hL : LwW G B (B + 58) cd jL asL jC asC) (hB : CpC σ B) (hO : ∃ f, σ.1 (B + 58) = some (oL 1 f)) (hc : CRet G B σ X' v jC asC) : LRes G B σ X' 0 v jL asL := by
  intro Q hQ
  obtain ⟨f, hf⟩ := hO
  refine hL σ Q hB (hc _ (fun σ' h1 h2 => ?_))
  have hf' : σ'.1 (B + 58) = some (oL 1 f) := by rw [h2.1 _ (by omega)]; exact hf
  have fr := st_fr σ' (B + 58) (oL 1 (upL f 0 (Int32.ofInt v).toInt64))
  refine ⟨v, f, rfl, hf', hQ _ (ClsI.out h1 hG fr (by omega)) ⟨fun a ha hne => ?_, ?_, ?_⟩ ⟨_, by rw [st_hp, if_pos rfl], fun _ => if_pos rfl⟩⟩
  · rw [fr.1 a (by omega), h2.1 a (by omega)]
  · rw [fr.2, h2.2]; omega
  · rw [fr.2, h2.2]; omega
theorem l_thr {G : Nat → Nat} {B : Nat} {σ : AS} {X' : XS} {k v : Int} {e : Nat} {cd : Nat → Option Int} {jL jC : Nat} {asL asC : List AV} (hL : LwW G B (B + 58) cd jL asL jC asC) (hB : CpC σ B) (hO : ∃ f, σ.1 (B + 58) = some (oL 1 f)) (hc : CThr G B σ X' e jC asC) (hcd : cd e = some k) (hk : k ≠ 0) : LRes G B σ X' k v jL asL := by
  intro Q hQ
  obtain ⟨f, hf⟩ := hO
  refine hL σ Q hB (hc _ (fun σ' h1 h2 => ?_))
  have hf' : (am_th σ').1 (B + 58) = some (oL 1 f) := by
    show σ'.1 (B + 58) = _
    rw [h2.1 _ (by omega)]; exact hf
  have e2 : (am_th σ').2 = (0, (σ'.2.2.1 + 1, σ'.2.2.2 + 6)) := rfl
  refine ⟨k, hcd, hQ _ h1 ⟨fun a ha hne => h2.1 a (by omega), ?_, ?_⟩ ⟨f, hf', fun z => absurd z hk⟩⟩
  · rw [e2, h2.2]; exact Nat.le_refl _
  · rw [e2, h2.2]; exact Nat.le_refl _
theorem CThr.of {G : Nat → Nat} {B : Nat} {σ : AS} {X : XS} {e j : Nat} {as : List AV} (hC : ClsX G σ B X) (h : ∀ Q : (Option AV ⊕ Nat) → AS → Prop, CW G j as σ Q = Q (.inr e) (am_th σ)) : CThr G B σ X e j as := fun Q hQ => by
  rw [h Q]
  exact hQ σ hC (FrB.refl _ _ _)
theorem CRet.of {G : Nat → Nat} {B : Nat} {σ : AS} {X : XS} {v : Int} {j : Nat} {as : List AV} (hC : ClsX G σ B X) (h : ∀ Q : (Option AV ⊕ Nat) → AS → Prop, CW G j as σ Q = Q (.inl (some (vI v))) σ) : CRet G B σ X v j as := fun Q hQ => by
  rw [h Q]
  exact hQ σ hC (FrB.refl _ _ _)
section MX
variable {m m' : Nat → Int} {A A' : Nat → Nat → Int} {s s' p t : Nat → Int} {kp n : Nat}
theorem MdX.th (h : MdX m A (mkX s kp p n t)) (v : Int) : MdX (upI m 6 v) A (mkX s kp p n t) := h
theorem MdX.kw (h : MdX m A (mkX s kp p n t)) {v : Int} (k : KeepW (upI m 6 v) m' A A') : MdX m' A' (mkX s kp p n t) ∧ m' 6 = v := by
  obtain ⟨⟨e1, e4, k3, k5, hA, hT2⟩, e3⟩ := h
  exact ⟨⟨⟨by rw [k.2.1 1 (by decide) (by decide) (by decide)]; exact e1, by rw [k.2.1 4 (by decide) (by decide) (by decide)]; exact e4, by rw [k.1 3 (by decide) (by decide) (by decide)]; exact k3, by rw [k.1 5 (by decide) (by decide) (by decide)]; exact k5, k.2.2, by rw [k.2.1 2 (by decide) (by decide) (by decide)]; exact hT2⟩, by rw [k.2.1 3 (by decide) (by decide) (by decide)]; exact e3⟩, by rw [k.1 6 (by decide) (by decide) (by decide)]; exact upI_eq _ _ _⟩
theorem MdX.kl (h : MdX m A (mkX s kp p n t)) {v : Int} (k : KeepL (upI m 6 v) m' A A') : MdX m' A' (mkX s kp p n t) ∧ m' 6 = v := by
  obtain ⟨⟨e1, e4, k3, k5, hA, hT2⟩, e3⟩ := h
  exact ⟨⟨⟨by rw [k.2.1 1 (by decide) (by decide) (by decide) (by decide)]; exact e1, by rw [k.2.1 4 (by decide) (by decide) (by decide) (by decide)]; exact e4, by rw [k.1 3 (by decide) (by decide) (by decide)]; exact k3, by rw [k.1 5 (by decide) (by decide) (by decide)]; exact k5, k.2.2.1, k.2.2.2⟩, by rw [k.2.1 3 (by decide) (by decide) (by decide) (by decide)]; exact e3⟩, by rw [k.1 6 (by decide) (by decide) (by decide)]; exact upI_eq _ _ _⟩
theorem MdX.kt (h : MdX m A (mkX s kp p n t)) {v : Int} (k : KeepT (upI m 6 v) m' A A') : MdX m' A' (mkX s kp p n t) ∧ m' 6 = v := by
  obtain ⟨⟨e1, e4, k3, k5, hA, hT2⟩, e3⟩ := h
  refine ⟨⟨⟨by rw [k.2 1 (by decide)]; exact e1, by rw [k.2 4 (by decide)]; exact e4, by rw [k.1 3 (by decide) (by decide) (by decide)]; exact k3, by rw [k.1 5 (by decide) (by decide) (by decide)]; exact k5, ⟨?_, ?_, ?_, ?_⟩, by rw [k.2 2 (by decide)]; exact hT2⟩, by rw [k.2 3 (by decide)]; exact e3⟩, by rw [k.1 6 (by decide) (by decide) (by decide)]; exact upI_eq _ _ _⟩
  · rw [k.2 6 (by decide)]; exact hA.1
  · rw [k.2 7 (by decide)]; exact hA.2.1
  · rw [k.2 8 (by decide)]; exact hA.2.2.1
  · rw [k.2 9 (by decide)]; exact hA.2.2.2
theorem sv3 (h : MdX m A (mkX s kp p n t)) : svA A kp 3 = svF s p kp := by
  obtain ⟨⟨e1, -⟩, e3⟩ := h
  show svF (A 1) (A 3) kp = _
  rw [e1, e3]
  rfl
theorem MdX.sv (h : MdX m A (mkX s kp p n t)) : MdX (upI (upI m 6 0) 3 (svK kp : Nat)) (upA (svA A kp) 1 s') (mkX s' (svK kp) (svF s p kp) n t) := by
  obtain ⟨⟨e1, e4, k3, k5, hA, hT2⟩, e3⟩ := id h
  exact ⟨⟨rfl, e4, rfl, k5, ⟨hA.1, hA.2.1, hA.2.2.1, hA.2.2.2⟩, hT2⟩, sv3 h⟩
theorem MdX.svW (h : MdX m A (mkX s kp p n t)) (k : KeepW (upI (upI m 6 0) 3 (svK kp : Nat)) m' (svA A kp) A') : MdX m' (upA A' 1 s') (mkX s' (svK kp) (svF s p kp) n t) ∧ m' 6 = 0 := by
  obtain ⟨⟨e1, e4, k3, k5, hA, hT2⟩, e3⟩ := id h
  exact ⟨⟨⟨rfl, by rw [upA_at, if_neg (by decide), k.2.1 4 (by decide) (by decide) (by decide)]; exact e4, by rw [k.1 3 (by decide) (by decide) (by decide)]; exact upI_eq _ _ _, by rw [k.1 5 (by decide) (by decide) (by decide)]; exact k5, ⟨k.2.2.1, k.2.2.2.1, k.2.2.2.2.1, k.2.2.2.2.2⟩, by rw [upA_at, if_neg (by decide), k.2.1 2 (by decide) (by decide) (by decide)]; exact hT2⟩, by rw [upA_at, if_neg (by decide), k.2.1 3 (by decide) (by decide) (by decide)]; exact sv3 h⟩, by rw [k.1 6 (by decide) (by decide) (by decide)]; rfl⟩
theorem MdX.svF (h : MdX m A (mkX s kp p n t)) (k : KeepF (upI (upI m 6 0) 3 (svK kp : Nat)) m' (svA A kp) A') : MdX m' (upA A' 1 s') (mkX s' (svK kp) (Jvm.Pilot.CCorridorPlanLaw_law_r5521_75f438.svF s p kp) n t) ∧ m' 6 = 0 := by
  obtain ⟨⟨e1, e4, k3, k5, hA, hT2⟩, e3⟩ := id h
  exact ⟨⟨⟨rfl, by rw [upA_at, if_neg (by decide), k.2.1 4 (by decide) (by decide) (by decide) (by decide)]; exact e4, by rw [k.1 3 (by decide) (by decide) (by decide)]; exact upI_eq _ _ _, by rw [k.1 5 (by decide) (by decide) (by decide)]; exact k5, ⟨k.2.2.1, k.2.2.2.1, k.2.2.2.2.1, k.2.2.2.2.2⟩, by rw [upA_at, if_neg (by decide), k.2.1 2 (by decide) (by decide) (by decide) (by decide)]; exact hT2⟩, by rw [upA_at, if_neg (by decide), k.2.1 3 (by decide) (by decide) (by decide) (by decide)]; exact sv3 h⟩, by rw [k.1 6 (by decide) (by decide) (by decide)]; rfl⟩
theorem MdX.svD (h : MdX m A (mkX s kp p n t)) (k : KeepD (upI (upI m 6 0) 3 (svK kp : Nat)) m' (svA A kp) A') (e : A' 1 = s') : MdX m' A' (mkX s' (svK kp) (Jvm.Pilot.CCorridorPlanLaw_law_r5521_75f438.svF s p kp) n t) ∧ m' 6 = 0 := by
  obtain ⟨⟨e1, e4, k3, k5, hA, hT2⟩, e3⟩ := id h
  exact ⟨⟨⟨e, by rw [k.2.1 4 (by decide) (by decide) (by decide) (by decide)]; exact e4, by rw [k.1 3 (by decide) (by decide) (by decide)]; exact upI_eq _ _ _, by rw [k.1 5 (by decide) (by decide) (by decide)]; exact k5, k.2.2, by rw [k.2.1 2 (by decide) (by decide) (by decide) (by decide)]; exact hT2⟩, by rw [k.2.1 3 (by decide) (by decide) (by decide) (by decide)]; exact sv3 h⟩, by rw [k.1 6 (by decide) (by decide) (by decide)]; rfl⟩
theorem MdX.svR (h : MdX m A (mkX s kp p n t)) (k : KeepR (upI (upI (upI m 6 0) 3 (svK kp : Nat)) 5 0) m' (svA A kp) A') (e : A' 1 = s') : MdX m' A' (mkX s' (svK kp) (Jvm.Pilot.CCorridorPlanLaw_law_r5521_75f438.svF s p kp) 0 t) ∧ m' 6 = 0 := by
  obtain ⟨⟨e1, e4, k3, k5, hA, hT2⟩, e3⟩ := id h
  exact ⟨⟨⟨e, by rw [k.2.1 4 (by decide) (by decide) (by decide) (by decide) (by decide)]; exact e4, by rw [k.1 3 (by decide) (by decide) (by decide) (by decide) (by decide) (by decide)]; rfl, by rw [k.1 5 (by decide) (by decide) (by decide) (by decide) (by decide) (by decide)]; rfl, k.2.2, by rw [k.2.1 2 (by decide) (by decide) (by decide) (by decide) (by decide)]; exact hT2⟩, by rw [k.2.1 3 (by decide) (by decide) (by decide) (by decide) (by decide)]; exact sv3 h⟩, by rw [k.1 6 (by decide) (by decide) (by decide) (by decide) (by decide) (by decide)]; rfl⟩
end MX

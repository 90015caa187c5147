/-! THE LAW: one call of each, looks; those that catch nothing -/
theorem lcmp0 (a : Int64) : (lg_cmp a a).toInt = 0 := by
  unfold lg_cmp
  simp
theorem ca_bd {s : Nat → Int} (hg : Good s) : ∀ f : Nat, (0 ≤ (caM f s).1 ∧ (caM f s).1 ≤ f) ∧ 0 ≤ (caM f s).2.1 ∧ (caM f s).2.1 ≤ 192 * f := by
  intro f
  induction f generalizing s with
  | zero =>
    unfold caM
    dsimp only
    omega
  | succ f ih =>
    unfold caM
    by_cases e : (dnM s 36).1 = -1
    · rw [if_pos e]
      dsimp only
      omega
    · rw [if_neg e]
      have hb := dnM_bd hg.wk 36 (Nat.le_refl _)
      have h1 := ih (hg.nx e)
      have h2 := nxS_lt hg.wk (k := (dnM s 36).1.toNat) (by omega)
      dsimp only
      omega
theorem flN_bd (s : Nat → Int) : 0 ≤ flN s ∧ flN s ≤ 192 := by
  have := sum_bd (f := fun j => cl01 (s j = -1 ∧ ¬ stP s 36 j)) (a := 0) (b := 1) 192 (fun i _ => cl01_bd _)
  unfold flN
  omega
def OpU (G : Nat → Nat) (B : Nat) (σ : AS) (X : XS) (jC jM : Nat) : Prop := ∃ (X' : XS) (v : Int), GdX X' ∧ inR v ∧ CRet G B σ X' v jC [vR B] ∧ MRet G (B + 46) X X' 0 v jM [vR (B + 46)]
section OPL
variable {G : Nat → Nat} {σ : AS} {B kp n : Nat} {s p t : Nat → Int}
theorem p_square {x y w : Int} (hC : ClsI G σ B s kp p n t) (hI : GdI s kp p n t) (hG : G 0 ≤ B) (hO : ∃ f, σ.1 (B + 58) = some (oL 1 f)) (hx : inR x) (hy : inR y) (hw : inR w) :
    OpR G B σ (mkX s kp p n t) k_Law_square [vR B, vI x, vI y, vI w, vR (B + 58)] k_Model_square [vR (B + 46), vI x, vI y, vI w] := by
  by_cases c1 : (0 ≤ x ∧ x ≤ 15 ∧ 0 ≤ y ∧ y ≤ 11) ∧ 0 ≤ w ∧ w ≤ 1
  · obtain ⟨x, rfl⟩ := nat_of (x := x) (by omega)
    obtain ⟨y, rfl⟩ := nat_of (x := y) (by omega)
    obtain ⟨w, rfl⟩ := nat_of (x := w) (by omega)
    have hx6 : x < 16 := by omega
    have hy6 : y < 12 := by omega
    have hw6 : w ≤ 1 := by omega
    refine ⟨mkX s kp p n t, 0, if w = 0 then s (16 * y + x) else sdM s x y, hI, ⟨by decide, by decide⟩, l_ret hG (L_square (by omega)) hC.1 hO (CRet.of hC (fun Q => o_square0 hC hI hx6 hy6 hw6)), fun σ m A Q hM hQ => ?_⟩
    obtain ⟨⟨e1, e4, k3, k5, hA, hT2⟩, e3⟩ := id hM
    have e1' : A 1 = s := e1
    rw [s_square0 (by omega) (by rw [e1']; exact hI.1.1) hx6 hy6 hw6, e1']
    exact hQ _ _ _ (hM.th 0) (upI_eq _ _ _) (fun _ => rfl)
  · refine ⟨mkX s kp p n t, 1, 0, hI, ⟨by decide, by decide⟩, l_thr (e := 0) (L_square (by omega)) hC.1 hO (CThr.of hC (fun Q => o_square1 hx hy hw c1)) rfl (by decide), fun σ m A Q hM hQ => ?_⟩
    rw [s_square1 (by omega) hx hy hw c1]
    exact hQ _ _ _ (hM.th 1) (upI_eq _ _ _) (fun z => absurd z (by decide))
theorem far_of (hI : GdI s kp p n t) : ∃ far : Nat, s 252 = (far : Nat) := nat_of hI.1.2.2.1.1
theorem p_chamber {r w : Int} (hC : ClsI G σ B s kp p n t) (hI : GdI s kp p n t) (hG : G 0 ≤ B) (hO : ∃ f, σ.1 (B + 58) = some (oL 1 f)) (hr : inR r) (hw : inR w) :
    OpR G B σ (mkX s kp p n t) k_Law_chamber [vR B, vI r, vI w, vR (B + 58)] k_Model_chamber [vR (B + 46), vI r, vI w] := by
  have hb := thM_bd s r
  obtain ⟨far, hfar⟩ := far_of hI
  by_cases c1 : thM s r = 1
  · have h1 := thM_1 c1
    by_cases c2 : 0 ≤ w ∧ w ≤ 7
    · obtain ⟨r, rfl⟩ := nat_of (x := r) (by omega)
      obtain ⟨w, rfl⟩ := nat_of (x := w) (by omega)
      have h6 : r < 6 := by omega
      have hw6 : w < 8 := by omega
      refine ⟨mkX s kp p n t, 0, orM s far r w, hI, ⟨by decide, by decide⟩, l_ret hG (L_chamber (by omega)) hC.1 hO (fun Q hQ => o_chamber0 hC hI hG hfar h6 c1 hw6 hQ), fun σ m A Q hM hQ => ?_⟩
      obtain ⟨⟨e1, e4, k3, k5, hA, hT2⟩, e3⟩ := id hM
      have e1' : A 1 = s := e1
      refine s_chamber0 (far := far) (by rw [e1']; exact hI.1.1) (by rw [e1']; exact hI.1.wk) (by rw [e1']; exact hfar) (by omega) hA h6 (by rw [e1']; exact c1) hw6 (fun m' A' hK => ?_)
      rw [e1']
      have hX := hM.kw hK
      exact hQ _ _ _ hX.1 hX.2 (fun _ => rfl)
    · refine ⟨mkX s kp p n t, 2, 0, hI, ⟨by decide, by decide⟩, l_thr (e := 0) (L_chamber (by omega)) hC.1 hO (CThr.of hC (fun Q => o_chamber2 hC hI hr hw c1 c2)) rfl (by decide), fun σ m A Q hM hQ => ?_⟩
      obtain ⟨⟨e1, e4, k3, k5, hA, hT2⟩, e3⟩ := id hM
      have e1' : A 1 = s := e1
      rw [s_chamber2 (by omega) (by rw [e1']; exact hI.1.1) hr hw (by rw [e1']; exact c1) c2]
      exact hQ _ _ _ (hM.th 2) (upI_eq _ _ _) (fun z => absurd z (by decide))
  · refine ⟨mkX s kp p n t, 1, 0, hI, ⟨by decide, by decide⟩, l_thr (e := 2) (L_chamber (by omega)) hC.1 hO (CThr.of hC (fun Q => o_chamber1 hC hI hr (by omega))) rfl (by decide), fun σ m A Q hM hQ => ?_⟩
    obtain ⟨⟨e1, e4, k3, k5, hA, hT2⟩, e3⟩ := id hM
    have e1' : A 1 = s := e1
    rw [s_chamber1 (by omega) (by rw [e1']; exact hI.1.1) hr (by rw [e1']; omega)]
    exact hQ _ _ _ (hM.th 1) (upI_eq _ _ _) (fun z => absurd z (by decide))
theorem p_way {a b w : Int} (hC : ClsI G σ B s kp p n t) (hI : GdI s kp p n t) (hG : G 0 ≤ B) (hO : ∃ f, σ.1 (B + 58) = some (oL 1 f)) (ha : inR a) (hb : inR b) (hw : inR w) :
    OpR G B σ (mkX s kp p n t) k_Law_way [vR B, vI a, vI b, vI w, vR (B + 58)] k_Model_way [vR (B + 46), vI a, vI b, vI w] := by
  have hm := mayM_bd s a b (inB w 0 4)
  by_cases c0 : mayM s a b (inB w 0 4) = 0
  · have h0 := mayM_0 c0
    have t1 := thM_1 h0.1
    have t2 := thM_1 h0.2.1
    have hw3 : 0 ≤ w ∧ w ≤ 4 := Classical.byContradiction (fun z => h0.2.2.2 (if_neg z))
    have ew : inB w 0 4 = 1 := if_pos hw3
    rw [ew] at c0
    obtain ⟨a, rfl⟩ := nat_of (x := a) (by omega)
    obtain ⟨b, rfl⟩ := nat_of (x := b) (by omega)
    obtain ⟨w, rfl⟩ := nat_of (x := w) (by omega)
    have ha6 : a < 6 := by omega
    have hb6 : b < 6 := by omega
    have hw6 : w < 5 := by omega
    refine ⟨mkX s kp p n t, 0, owM s a b w, hI, ⟨by decide, by decide⟩, l_ret hG (L_way (by omega)) hC.1 hO (fun Q hQ => o_way0 hC hI hG ha6 hb6 hw6 c0 hQ), fun σ m A Q hM hQ => ?_⟩
    obtain ⟨⟨e1, e4, k3, k5, hA, hT2⟩, e3⟩ := id hM
    have e1' : A 1 = s := e1
    refine s_way0 (by rw [e1']; exact hI.1.1) (by rw [e1']; exact hI.1.wk) (by omega) hA ha6 hb6 hw6 (by rw [e1']; exact c0) (fun m' A' hK => ?_)
    rw [e1']
    have hX := hM.kw hK
    exact hQ _ _ _ hX.1 hX.2 (fun _ => rfl)
  · have md : ∀ v : Int, v = mayM s a b (inB w 0 4) → MRet G (B + 46) (mkX s kp p n t) (mkX s kp p n t) v 0 k_Model_way [vR (B + 46), vI a, vI b, vI w] := fun v hv σ m A Q hM hQ => by
      obtain ⟨⟨e1, e4, k3, k5, hA, hT2⟩, e3⟩ := id hM
      have e1' : A 1 = s := e1
      rw [s_way1 (by omega) (by rw [e1']; exact hI.1.1) ha hb hw (by rw [e1']; exact c0), e1', ← hv]
      exact hQ _ _ _ (hM.th v) (upI_eq _ _ _) (fun _ => rfl)
    by_cases c1 : mayM s a b (inB w 0 4) = 1
    · exact ⟨mkX s kp p n t, 1, 0, hI, ⟨by decide, by decide⟩, l_thr (e := 2) (L_way (by omega)) hC.1 hO (CThr.of hC (fun Q => o_way1 hC hI ha hb hw c1)) rfl (by decide), md 1 c1.symm⟩
    · have c2 : mayM s a b (inB w 0 4) = 2 := by omega
      exact ⟨mkX s kp p n t, 2, 0, hI, ⟨by decide, by decide⟩, l_thr (e := 0) (L_way (by omega)) hC.1 hO (CThr.of hC (fun Q => o_way2 hC hI ha hb hw c2)) rfl (by decide), md 2 c2.symm⟩
theorem p_count {w : Int} (hC : ClsI G σ B s kp p n t) (hI : GdI s kp p n t) (hG : G 0 ≤ B) (hO : ∃ f, σ.1 (B + 58) = some (oL 1 f)) (hw : inR w) :
    OpR G B σ (mkX s kp p n t) k_Law_count [vR B, vI w, vR (B + 58)] k_Model_count [vR (B + 46), vI w] := by
  obtain ⟨far, hfar⟩ := far_of hI
  by_cases c1 : 0 ≤ w ∧ w ≤ 8
  · obtain ⟨w, rfl⟩ := nat_of (x := w) (by omega)
    have hw6 : w < 9 := by omega
    refine ⟨mkX s kp p n t, 0, cnM s far kp w, hI, ⟨by decide, by decide⟩, l_ret hG (L_count (by omega)) hC.1 hO (fun Q hQ => o_count0 hC hI hG hfar hw6 hQ), fun σ m A Q hM hQ => ?_⟩
    obtain ⟨⟨e1, e4, k3, k5, hA, hT2⟩, e3⟩ := id hM
    have e1' : A 1 = s := e1
    refine s_count0 (far := far) (kp := kp) (by rw [e1']; exact hI.1.1) (by rw [e1']; exact hI.1.wk) (by rw [e1']; exact hfar) k3 (by omega) hA hw6 (fun m' A' hK => ?_)
    rw [e1']
    have hX := hM.kw hK
    exact hQ _ _ _ hX.1 hX.2 (fun _ => rfl)
  · refine ⟨mkX s kp p n t, 1, 0, hI, ⟨by decide, by decide⟩, l_thr (e := 0) (L_count (by omega)) hC.1 hO (CThr.of hC (fun Q => o_count1 hw c1)) rfl (by decide), fun σ m A Q hM hQ => ?_⟩
    rw [s_count1 (by omega) hw c1]
    exact hQ _ _ _ (hM.th 1) (upI_eq _ _ _) (fun z => absurd z (by decide))
theorem p_ifDug {x y w : Int} (hC : ClsI G σ B s kp p n t) (hI : GdI s kp p n t) (hG : G 0 ≤ B) (hO : ∃ f, σ.1 (B + 58) = some (oL 1 f)) (hx : inR x) (hy : inR y) (hw : inR w) :
    OpR G B σ (mkX s kp p n t) k_Law_ifDug [vR B, vI x, vI y, vI w, vR (B + 58)] k_Model_ifDug [vR (B + 46), vI x, vI y, vI w] := by
  obtain ⟨far, hfar⟩ := far_of hI
  by_cases c1 : (0 ≤ x ∧ x ≤ 15 ∧ 0 ≤ y ∧ y ≤ 11) ∧ 0 ≤ w ∧ w ≤ 2
  · obtain ⟨x, rfl⟩ := nat_of (x := x) (by omega)
    obtain ⟨y, rfl⟩ := nat_of (x := y) (by omega)
    obtain ⟨w, rfl⟩ := nat_of (x := w) (by omega)
    have hx6 : x < 16 := by omega
    have hy6 : y < 12 := by omega
    have hw6 : w < 3 := by omega
    refine ⟨mkX s kp p n t, 0, dgbM s far (16 * y + x) w, hI, ⟨by decide, by decide⟩, l_ret hG (L_ifDug (by omega)) hC.1 hO (fun Q hQ => o_ifDug0 hC hI hG hfar hx6 hy6 hw6 hQ), fun σ m A Q hM hQ => ?_⟩
    obtain ⟨⟨e1, e4, k3, k5, hA, hT2⟩, e3⟩ := id hM
    have e1' : A 1 = s := e1
    refine s_ifDug0 (far := far) (by rw [e1']; exact hI.1.1) (by rw [e1']; exact hI.1.wk) (by rw [e1']; exact hfar) (by rw [e1']; exact hI.1.2.1) hT2 (by omega) hA hx6 hy6 hw6 (fun m' A' hK => ?_)
    rw [e1']
    have hX := hM.kl hK
    exact hQ _ _ _ hX.1 hX.2 (fun _ => rfl)
  · refine ⟨mkX s kp p n t, 1, 0, hI, ⟨by decide, by decide⟩, l_thr (e := 0) (L_ifDug (by omega)) hC.1 hO (CThr.of hC (fun Q => o_ifDug1 hx hy hw c1)) rfl (by decide), fun σ m A Q hM hQ => ?_⟩
    rw [s_ifDug1 (by omega) hx hy hw c1]
    exact hQ _ _ _ (hM.th 1) (upI_eq _ _ _) (fun z => absurd z (by decide))
theorem p_ifGiven {r : Int} (hC : ClsI G σ B s kp p n t) (hI : GdI s kp p n t) (hG : G 0 ≤ B) (hO : ∃ f, σ.1 (B + 58) = some (oL 1 f)) (hr : inR r) :
    OpR G B σ (mkX s kp p n t) k_Law_ifGiven [vR B, vI r, vR (B + 58)] k_Model_ifGiven [vR (B + 46), vI r] := by
  have hb := thM_bd s r
  by_cases c1 : thM s r = 1
  · have h1 := thM_1 c1
    obtain ⟨r, rfl⟩ := nat_of (x := r) (by omega)
    have h6 : r < 6 := by omega
    refine ⟨mkX s kp p n t, 0, prM (gvS s r) 2, hI, ⟨by decide, by decide⟩, l_ret hG (L_ifGiven (by omega)) hC.1 hO (fun Q hQ => o_ifGiven0 hC hI hG h6 c1 hQ), fun σ m A Q hM hQ => ?_⟩
    obtain ⟨⟨e1, e4, k3, k5, hA, hT2⟩, e3⟩ := id hM
    have e1' : A 1 = s := e1
    refine s_ifGiven0 (by rw [e1']; exact hI.1.1) (by rw [e1']; exact hI.1.wk) (by rw [e1']; exact hI.1.2.1) hT2 (by omega) hA h6 (by rw [e1']; exact c1) (fun m' A' hK => ?_)
    rw [e1']
    have hX := hM.kl hK
    exact hQ _ _ _ hX.1 hX.2 (fun _ => rfl)
  · refine ⟨mkX s kp p n t, 1, 0, hI, ⟨by decide, by decide⟩, l_thr (e := 2) (L_ifGiven (by omega)) hC.1 hO (CThr.of hC (fun Q => o_ifGiven1 hC hI hr (by omega))) rfl (by decide), fun σ m A Q hM hQ => ?_⟩
    obtain ⟨⟨e1, e4, k3, k5, hA, hT2⟩, e3⟩ := id hM
    have e1' : A 1 = s := e1
    rw [s_ifGiven1 (by omega) (by rw [e1']; exact hI.1.1) hr (by rw [e1']; omega)]
    exact hQ _ _ _ (hM.th 1) (upI_eq _ _ _) (fun z => absurd z (by decide))
theorem u_carveAll (hC : ClsI G σ B s kp p n t) (hI : GdI s kp p n t) (hG : G 0 ≤ B) : OpU G B σ (mkX s kp p n t) k_Cp_carveAll k_Model_carveAll := by
  have hb := ca_bd hI.1 16
  refine ⟨mkX (caM 16 s).2.2 (svK kp) (svF s p kp) n t, (caM 16 s).1, hI.push (hI.1.ca 16), by unfold inR; omega, fun Q hQ => o_carveAll hC hI hG hQ, fun σ m A Q hM hQ => ?_⟩
  obtain ⟨⟨e1, e4, k3, k5, hA, hT2⟩, e3⟩ := id hM
  have e1' : A 1 = s := e1
  refine s_carveAll (kp := kp) (by omega) (by rw [e1']; exact hI.1.1) (by rw [e1']; exact hI.1.wk) hA k3 hI.2.1 (fun m' A' hK hA1 => ?_)
  rw [e1'] at hA1
  rw [e1']
  have hX := hM.svD hK hA1
  exact hQ _ _ _ hX.1 hX.2 (fun _ => rfl)
theorem u_fillUp (hC : ClsI G σ B s kp p n t) (hI : GdI s kp p n t) (hG : G 0 ≤ B) : OpU G B σ (mkX s kp p n t) k_Cp_fillUp k_Model_fillUp := by
  have hb := flN_bd s
  refine ⟨mkX (flS s) (svK kp) (svF s p kp) n t, flN s, hI.push hI.1.fl, by unfold inR; omega, fun Q hQ => o_fillUp hC hI hG hQ, fun σ m A Q hM hQ => ?_⟩
  obtain ⟨⟨e1, e4, k3, k5, hA, hT2⟩, e3⟩ := id hM
  have e1' : A 1 = s := e1
  refine s_fillUp (kp := kp) (by omega) (by rw [e1']; exact hI.1.1) (by rw [e1']; exact hI.1.wk) hA k3 hI.2.1 (fun m' A' hK => ?_)
  rw [e1']
  have hX := hM.svF (s' := flS s) hK
  exact hQ _ _ _ hX.1 hX.2 (fun _ => rfl)
theorem u_clearBuffer (hC : ClsI G σ B s kp p n t) (hI : GdI s kp p n t) (hG : G 0 ≤ B) : OpU G B σ (mkX s kp p n t) k_Cp_clearBuffer k_Model_clearBuffer := by
  have hn := hI.2.2.2.1
  refine ⟨mkX s kp p 0 t, (n : Nat), ⟨hI.1, hI.2.1, hI.2.2.1, by show (0 : Nat) ≤ 60; omega, hI.2.2.2.2⟩, by unfold inR; omega, fun Q hQ => o_clearBuffer hC hG hQ, fun σ m A Q hM hQ => ?_⟩
  obtain ⟨⟨e1, e4, k3, k5, hA, hT2⟩, e3⟩ := id hM
  have k5' : m 5 = (n : Nat) := k5
  rw [s_Model_clearBuffer (by omega), k5']
  exact hQ _ _ _ ⟨⟨e1, e4, k3, rfl, hA, hT2⟩, e3⟩ rfl (fun _ => rfl)
theorem u_firstError (hC : ClsI G σ B s kp p n t) (hI : GdI s kp p n t) (hG : G 0 ≤ B) : OpU G B σ (mkX s kp p n t) k_Cp_firstError k_Model_firstError := by
  obtain ⟨kl, hkl⟩ : ∃ kl, KpO (cA t n) kl := ctO_ex t hI.2.2.2.1
  have hle := enO_le t hkl
  have hn := hI.2.2.2.1
  refine ⟨mkX s kp p n t, (enO (cA t n) kl : Nat), hI, by unfold inR; omega, fun Q hQ => o_firstError hC hI hG hkl hQ, fun σ m A Q hM hQ => ?_⟩
  obtain ⟨⟨e1, e4, k3, k5, hA, hT2⟩, e3⟩ := id hM
  have e4' : A 4 = t := e4
  refine s_firstError (n := n) (kl := kl) (by omega) k5 hI.2.2.2.1 (by rw [e4']; exact hI.2.2.2.2) (by rw [e4']; exact hkl) (fun m' A' hK => ?_)
  rw [e4']
  have hX := hM.kt hK
  exact hQ _ _ _ hX.1 hX.2 (fun _ => rfl)
theorem u_allCost (hC : ClsI G σ B s kp p n t) (hI : GdI s kp p n t) (hG : G 0 ≤ B) : OpU G B σ (mkX s kp p n t) k_Cp_allCost k_Model_allCost := by
  have hb := ca_bd hI.1 16
  refine ⟨mkX s kp p n t, (caM 16 s).2.1, hI, by unfold inR; omega, fun Q hQ => o_allCost hC hI hG hQ, fun σ m A Q hM hQ => ?_⟩
  obtain ⟨⟨e1, e4, k3, k5, hA, hT2⟩, e3⟩ := id hM
  have e1' : A 1 = s := e1
  refine s_allCost (by omega) (by rw [e1']; exact hI.1.1) (by rw [e1']; exact hI.1.wk) (by rw [e1']; exact hI.1.2.1) hT2 hA (fun m' A' hK => ?_)
  rw [e1']
  have hX := hM.kl hK
  exact hQ _ _ _ hX.1 hX.2 (fun _ => rfl)
end OPL

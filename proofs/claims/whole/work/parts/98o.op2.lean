/-! THE LAW: one call of each -/
section OPS
variable {G : Nat → Nat} {σ : AS} {B kp n : Nat} {s p t : Nat → Int}
theorem nat_of {x : Int} (h : 0 ≤ x) : ∃ k : Nat, x = (k : Nat) := ⟨x.toNat, by omega⟩
theorem p_room {x y c w : Int} (hC : ClsI G σ B s kp p n t) (hI : GdI s kp p n t) (hG : G 0 ≤ B) (hO : ∃ f, σ.1 (B + 58) = some (oL 1 f)) (hx : inR x) (hy : inR y) (hc : inR c) (hw : inR w) :
    OpR G B σ (mkX s kp p n t) k_Law_room [vR B, vI x, vI y, vI c, vI w, vR (B + 58)] k_Model_room [vR (B + 46), vI x, vI y, vI c, vI w] := by
  by_cases c1 : (1 ≤ c ∧ c ≤ 6) ∧ (1 ≤ w ∧ w ≤ 6) ∧ (0 ≤ x ∧ x ≤ 16 - c) ∧ (0 ≤ y ∧ y ≤ 12 - w)
  · obtain ⟨x, rfl⟩ := nat_of (x := x) (by omega)
    obtain ⟨y, rfl⟩ := nat_of (x := y) (by omega)
    obtain ⟨c, rfl⟩ := nat_of (x := c) (by omega)
    obtain ⟨w, rfl⟩ := nat_of (x := w) (by omega)
    have hc6 : 1 ≤ c ∧ c ≤ 6 := by omega
    have hw6 : 1 ≤ w ∧ w ≤ 6 := by omega
    have hx6 : x + c ≤ 16 := by omega
    have hy6 : y + w ≤ 12 := by omega
    have hfb := firstN_bd (fun r => thM s r) 6 0
    by_cases c2 : firstN (fun r => thM s r) 6 0 = 6 ∨ ¬ canM s (x : Nat) (y : Nat) c w
    · refine ⟨mkX s kp p n t, 2, 0, hI, ⟨by decide, by decide⟩, l_thr (e := 1) (L_room (by omega)) hC.1 hO (CThr.of hC (fun Q => o_room2 hC hI hc6 hw6 hx6 hy6 c2)) rfl (by decide), fun σ m A Q hM hQ => ?_⟩
      obtain ⟨⟨e1, e4, k3, k5, hA, hT2⟩, e3⟩ := id hM
      have e1' : A 1 = s := e1
      rw [s_room_2 (by omega) (by rw [e1']; exact hI.1.1) hc6 hw6 hx6 hy6 (by rw [e1']; exact c2)]
      exact hQ _ _ _ (hM.th 2) (upI_eq _ _ _) (fun z => absurd z (by decide))
    · have hcan : canM s (x : Nat) (y : Nat) c w := Classical.byContradiction (fun z => c2 (Or.inr z))
      have h6 : firstN (fun r => thM s r) 6 0 < 6 := by
        have : firstN (fun r => thM s r) 6 0 ≠ 6 := fun z => c2 (Or.inl z)
        omega
      have hno : ¬ isR s (firstN (fun r => thM s r) 6 0) := fun z => by
        have h1 := firstN_no (s := s) 6 0 (by omega)
        rw [(th_R h6).mpr z] at h1
        omega
      refine ⟨mkX (rmS s (firstN (fun r => thM s r) 6 0) x y c w) (svK kp) (svF s p kp) n t, 0, (firstN (fun r => thM s r) 6 0 : Nat), hI.push (hI.1.rm h6 hno hc6 hw6 hx6 hy6 hcan), ⟨by decide, by decide⟩, l_ret hG (L_room (by omega)) hC.1 hO (fun Q hQ => o_room0 hC hI hG hc6 hw6 hx6 hy6 rfl h6 hcan hQ), fun σ m A Q hM hQ => ?_⟩
      obtain ⟨⟨e1, e4, k3, k5, hA, hT2⟩, e3⟩ := id hM
      have e1' : A 1 = s := e1
      rw [s_room_0 (r := firstN (fun r => thM s r) 6 0) (by omega) (by rw [e1']; exact hI.1.1) k3 hI.2.1 hc6 hw6 hx6 hy6 (by rw [e1']) h6 (by rw [e1']; exact hcan), e1']
      exact hQ _ _ _ hM.sv rfl (fun _ => rfl)
  · refine ⟨mkX s kp p n t, 1, 0, hI, ⟨by decide, by decide⟩, l_thr (e := 0) (L_room (by omega)) hC.1 hO (CThr.of hC (fun Q => o_room1 hx hy hc hw c1)) rfl (by decide), fun σ m A Q hM hQ => ?_⟩
    rw [s_room_1 (by omega) hx hy hc hw c1]
    exact hQ _ _ _ (hM.th 1) (upI_eq _ _ _) (fun z => absurd z (by decide))
theorem p_give {r : Int} (hC : ClsI G σ B s kp p n t) (hI : GdI s kp p n t) (hG : G 0 ≤ B) (hO : ∃ f, σ.1 (B + 58) = some (oL 1 f)) (hr : inR r) :
    OpR G B σ (mkX s kp p n t) k_Law_give [vR B, vI r, vR (B + 58)] k_Model_give [vR (B + 46), vI r] := by
  have hb := thM_bd s r
  by_cases c1 : thM s r = 1
  · have h1 := thM_1 c1
    obtain ⟨r, rfl⟩ := nat_of (x := r) (by omega)
    have h6 : r < 6 := by omega
    refine ⟨mkX (gvS s r) (svK kp) (svF s p kp) n t, 0, sumTo (fun k => b01 (s k = r)) 192, hI.push (hI.1.gv h6), ⟨by decide, by decide⟩, l_ret hG (L_give (by omega)) hC.1 hO (fun Q hQ => o_give1 hC hI hG h6 c1 hQ), fun σ m A Q hM hQ => ?_⟩
    obtain ⟨⟨e1, e4, k3, k5, hA, hT2⟩, e3⟩ := id hM
    have e1' : A 1 = s := e1
    rw [s_give1 (by omega) (by rw [e1']; exact hI.1.1) k3 hI.2.1 h6 (by rw [e1']; exact c1), e1']
    exact hQ _ _ _ hM.sv rfl (fun _ => rfl)
  · refine ⟨mkX s kp p n t, 1, 0, hI, ⟨by decide, by decide⟩, l_thr (e := 2) (L_give (by omega)) hC.1 hO (CThr.of hC (fun Q => o_give0 hC hI hr (by omega))) rfl (by decide), fun σ m A Q hM hQ => ?_⟩
    obtain ⟨⟨e1, e4, k3, k5, hA, hT2⟩, e3⟩ := id hM
    have e1' : A 1 = s := e1
    rw [s_give0 (by omega) (by rw [e1']; exact hI.1.1) hr (by rw [e1']; omega)]
    exact hQ _ _ _ (hM.th 1) (upI_eq _ _ _) (fun z => absurd z (by decide))
theorem p_walk {a b w : Int} (hC : ClsI G σ B s kp p n t) (hI : GdI s kp p n t) (hG : G 0 ≤ B) (hO : ∃ f, σ.1 (B + 58) = some (oL 1 f)) (ha : inR a) (hb : inR b) (hw : inR w) :
    OpR G B σ (mkX s kp p n t) k_Law_walk [vR B, vI a, vI b, vI w, vR (B + 58)] k_Model_walk [vR (B + 46), vI a, vI b, vI w] := by
  have hm := mayM_bd s a b (inB w 0 3)
  by_cases c0 : mayM s a b (inB w 0 3) = 0
  · have h0 := mayM_0 c0
    have t1 := thM_1 h0.1
    have t2 := thM_1 h0.2.1
    have hw3 : 0 ≤ w ∧ w ≤ 3 := Classical.byContradiction (fun z => h0.2.2.2 (if_neg z))
    have ew : inB w 0 3 = 1 := if_pos hw3
    rw [ew] at c0
    obtain ⟨a, rfl⟩ := nat_of (x := a) (by omega)
    obtain ⟨b, rfl⟩ := nat_of (x := b) (by omega)
    have ha6 : a < 6 := by omega
    have hb6 : b < 6 := by omega
    refine ⟨mkX (wkS s a b w) (svK kp) (svF s p kp) n t, 0, wkM s a b, hI.push (hI.1.wkS ha6 hb6 (fun e => h0.2.2.1 (by rw [e])) hw3 ((th_R ha6).mp h0.1) ((th_R hb6).mp h0.2.1)), ⟨by decide, by decide⟩, l_ret hG (L_walk (by omega)) hC.1 hO (fun Q hQ => o_walk0 hC hI hG ha6 hb6 hw3 c0 hQ), fun σ m A Q hM hQ => ?_⟩
    obtain ⟨⟨e1, e4, k3, k5, hA, hT2⟩, e3⟩ := id hM
    have e1' : A 1 = s := e1
    rw [s_walk1 (by omega) (by rw [e1']; exact hI.1.1) k3 hI.2.1 ha6 hb6 hw3 (by rw [e1']; exact c0), e1']
    exact hQ _ _ _ hM.sv rfl (fun _ => rfl)
  · have md : ∀ v : Int, v = mayM s a b (inB w 0 3) → MRet G (B + 46) (mkX s kp p n t) (mkX s kp p n t) v 0 k_Model_walk [vR (B + 46), vI a, vI b, vI w] := fun v hv σ m A Q hM hQ => by
      obtain ⟨⟨e1, e4, k3, k5, hA, hT2⟩, e3⟩ := id hM
      have e1' : A 1 = s := e1
      rw [s_walk0 (by omega) (by rw [e1']; exact hI.1.1) ha hb hw (by rw [e1']; exact c0), e1', ← hv]
      exact hQ _ _ _ (hM.th v) (upI_eq _ _ _) (fun _ => rfl)
    by_cases c1 : mayM s a b (inB w 0 3) = 1
    · exact ⟨mkX s kp p n t, 1, 0, hI, ⟨by decide, by decide⟩, l_thr (e := 2) (L_walk (by omega)) hC.1 hO (CThr.of hC (fun Q => o_walk1 hC hI ha hb hw c1)) rfl (by decide), md 1 c1.symm⟩
    · have c2 : mayM s a b (inB w 0 3) = 2 := by omega
      exact ⟨mkX s kp p n t, 2, 0, hI, ⟨by decide, by decide⟩, l_thr (e := 0) (L_walk (by omega)) hC.1 hO (CThr.of hC (fun Q => o_walk2 hC hI ha hb hw c2)) rfl (by decide), md 2 c2.symm⟩
theorem p_dig {x y : Int} (hC : ClsI G σ B s kp p n t) (hI : GdI s kp p n t) (hG : G 0 ≤ B) (hO : ∃ f, σ.1 (B + 58) = some (oL 1 f)) (hx : inR x) (hy : inR y) :
    OpR G B σ (mkX s kp p n t) k_Law_dig [vR B, vI x, vI y, vR (B + 58)] k_Model_dig [vR (B + 46), vI x, vI y] := by
  by_cases c1 : 0 ≤ x ∧ x ≤ 15 ∧ 0 ≤ y ∧ y ≤ 11
  · obtain ⟨x, rfl⟩ := nat_of (x := x) (by omega)
    obtain ⟨y, rfl⟩ := nat_of (x := y) (by omega)
    have hx6 : x < 16 := by omega
    have hy6 : y < 12 := by omega
    by_cases c2 : 0 ≤ s (16 * y + x)
    · refine ⟨mkX s kp p n t, 2, 0, hI, ⟨by decide, by decide⟩, l_thr (e := 1) (L_dig (by omega)) hC.1 hO (CThr.of hC (fun Q => o_dig2 hC hI hx6 hy6 c2)) rfl (by decide), fun σ m A Q hM hQ => ?_⟩
      obtain ⟨⟨e1, e4, k3, k5, hA, hT2⟩, e3⟩ := id hM
      have e1' : A 1 = s := e1
      rw [s_dig2 (by omega) (by rw [e1']; exact hI.1.1) hx6 hy6 (by rw [e1']; exact c2)]
      exact hQ _ _ _ (hM.th 2) (upI_eq _ _ _) (fun z => absurd z (by decide))
    · refine ⟨mkX (tgS s (16 * y + x)) (svK kp) (svF s p kp) n t, 0, if s (16 * y + x) = -1 then 0 else 1, hI.push (hI.1.tg (by omega) (by omega)), ⟨by decide, by decide⟩, l_ret hG (L_dig (by omega)) hC.1 hO (fun Q hQ => o_dig0 hC hI hG hx6 hy6 (by omega) hQ), fun σ m A Q hM hQ => ?_⟩
      obtain ⟨⟨e1, e4, k3, k5, hA, hT2⟩, e3⟩ := id hM
      have e1' : A 1 = s := e1
      rw [s_dig0 (by omega) (by rw [e1']; exact hI.1.1) k3 hI.2.1 hx6 hy6 (by rw [e1']; omega), e1']
      exact hQ _ _ _ hM.sv rfl (fun _ => rfl)
  · refine ⟨mkX s kp p n t, 1, 0, hI, ⟨by decide, by decide⟩, l_thr (e := 0) (L_dig (by omega)) hC.1 hO (CThr.of hC (fun Q => o_dig1 hx hy c1)) rfl (by decide), fun σ m A Q hM hQ => ?_⟩
    rw [s_dig1 (by omega) hx hy c1]
    exact hQ _ _ _ (hM.th 1) (upI_eq _ _ _) (fun z => absurd z (by decide))
theorem p_carve {a b : Int} (hC : ClsI G σ B s kp p n t) (hI : GdI s kp p n t) (hG : G 0 ≤ B) (hO : ∃ f, σ.1 (B + 58) = some (oL 1 f)) (ha : inR a) (hb : inR b) :
    OpR G B σ (mkX s kp p n t) k_Law_carve [vR B, vI a, vI b, vR (B + 58)] k_Model_carve [vR (B + 46), vI a, vI b] := by
  have hm := mayM_bd s a b 1
  by_cases c0 : mayM s a b 1 = 0
  · have h0 := mayM_0 c0
    have t1 := thM_1 h0.1
    have t2 := thM_1 h0.2.1
    obtain ⟨a, rfl⟩ := nat_of (x := a) (by omega)
    obtain ⟨b, rfl⟩ := nat_of (x := b) (by omega)
    have ha6 : a < 6 := by omega
    have hb6 : b < 6 := by omega
    have h01 := isW_bd s a b
    by_cases c2 : isW s a b = 1
    · refine ⟨mkX (dgP s a b).1 (svK kp) (svF s p kp) n t, 0, (dgP s a b).2, hI.push (hI.1.dgP ha6 hb6), ⟨by decide, by decide⟩, l_ret hG (L_carve (by omega)) hC.1 hO (fun Q hQ => o_carve0 hC hI hG ha6 hb6 c0 c2 hQ), fun σ m A Q hM hQ => ?_⟩
      obtain ⟨⟨e1, e4, k3, k5, hA, hT2⟩, e3⟩ := id hM
      have e1' : A 1 = s := e1
      refine s_carve1 (by omega) (by rw [e1']; exact hI.1.1) (by rw [e1']; exact hI.1.wk) hA k3 hI.2.1 ha6 hb6 (by rw [e1']; exact c0) (by rw [e1']; exact c2) (fun m' A' hK => ?_)
      rw [e1']
      have hX := hM.svW (s' := (dgP s a b).1) hK
      exact hQ _ _ _ hX.1 hX.2 (fun _ => rfl)
    · refine ⟨mkX s kp p n t, 3, 0, hI, ⟨by decide, by decide⟩, l_thr (e := 1) (L_carve (by omega)) hC.1 hO (fun Q hQ => o_carve3 hC hI hG ha6 hb6 c0 (by omega) hQ) rfl (by decide), fun σ m A Q hM hQ => ?_⟩
      obtain ⟨⟨e1, e4, k3, k5, hA, hT2⟩, e3⟩ := id hM
      have e1' : A 1 = s := e1
      refine s_carve3 (by omega) (by rw [e1']; exact hI.1.1) (by rw [e1']; exact hI.1.wk) hA ha6 hb6 (by rw [e1']; exact c0) (by rw [e1']; omega) (fun m' A' hK => ?_)
      have hX := hM.kw hK
      exact hQ _ _ _ hX.1 hX.2 (fun z => absurd z (by decide))
  · have md : ∀ v : Int, v = mayM s a b 1 → MRet G (B + 46) (mkX s kp p n t) (mkX s kp p n t) v 0 k_Model_carve [vR (B + 46), vI a, vI b] := fun v hv σ m A Q hM hQ => by
      obtain ⟨⟨e1, e4, k3, k5, hA, hT2⟩, e3⟩ := id hM
      have e1' : A 1 = s := e1
      rw [s_carve0 (by omega) (by rw [e1']; exact hI.1.1) ha hb (by rw [e1']; exact c0), e1', ← hv]
      exact hQ _ _ _ (hM.th v) (upI_eq _ _ _) (fun _ => rfl)
    by_cases c1 : mayM s a b 1 = 1
    · exact ⟨mkX s kp p n t, 1, 0, hI, ⟨by decide, by decide⟩, l_thr (e := 2) (L_carve (by omega)) hC.1 hO (CThr.of hC (fun Q => o_carve1 hC hI ha hb c1)) rfl (by decide), md 1 c1.symm⟩
    · have c2 : mayM s a b 1 = 2 := by omega
      exact ⟨mkX s kp p n t, 2, 0, hI, ⟨by decide, by decide⟩, l_thr (e := 0) (L_carve (by omega)) hC.1 hO (CThr.of hC (fun Q => o_carve2 hC hI ha hb c2)) rfl (by decide), md 2 c2.symm⟩
theorem p_set {v : Int} (hC : ClsI G σ B s kp p n t) (hI : GdI s kp p n t) (hG : G 0 ≤ B) (hO : ∃ f, σ.1 (B + 58) = some (oL 1 f)) (hv : inR v) :
    OpR G B σ (mkX s kp p n t) k_Law_set [vR B, vI v, vR (B + 58)] k_Model_set [vR (B + 46), vI v] := by
  by_cases c1 : 0 ≤ v ∧ v ≤ 9
  · refine ⟨mkX (upI s 252 v) (svK kp) (svF s p kp) n t, 0, s 252, hI.push (hI.1.set c1), ⟨by decide, by decide⟩, l_ret hG (L_set (by omega)) hC.1 hO (fun Q hQ => o_set0 hC hI hG c1 hQ), fun σ m A Q hM hQ => ?_⟩
    obtain ⟨⟨e1, e4, k3, k5, hA, hT2⟩, e3⟩ := id hM
    have e1' : A 1 = s := e1
    rw [s_Model_set (by omega) k3 hI.2.1 hv, if_pos c1, if_pos c1, e1']
    have hX := hM.sv (s' := upI s 252 v)
    unfold svA at hX
    rw [e1'] at hX
    exact hQ _ _ _ hX rfl (fun _ => rfl)
  · refine ⟨mkX s kp p n t, 1, 0, hI, ⟨by decide, by decide⟩, l_thr (e := 0) (L_set (by omega)) hC.1 hO (CThr.of hC (fun Q => o_set1 hv c1)) rfl (by decide), fun σ m A Q hM hQ => ?_⟩
    obtain ⟨⟨e1, e4, k3, k5, hA, hT2⟩, e3⟩ := id hM
    rw [s_Model_set (by omega) k3 hI.2.1 hv, if_neg c1, if_neg c1]
    exact hQ _ _ _ (hM.th 1) (upI_eq _ _ _) (fun z => absurd z (by decide))
theorem p_append {c : Int} (hC : ClsI G σ B s kp p n t) (hI : GdI s kp p n t) (hG : G 0 ≤ B) (hO : ∃ f, σ.1 (B + 58) = some (oL 1 f)) (hc : inR c) :
    OpR G B σ (mkX s kp p n t) k_Law_append [vR B, vI c, vR (B + 58)] k_Model_append [vR (B + 46), vI c] := by
  by_cases c1 : 33 ≤ c ∧ c ≤ 126
  · by_cases c2 : n = 60
    · refine ⟨mkX s kp p n t, 2, 0, hI, ⟨by decide, by decide⟩, l_thr (e := 1) (L_append (by omega)) hC.1 hO (CThr.of hC (fun Q => o_append2 hC c1 c2)) rfl (by decide), fun σ m A Q hM hQ => ?_⟩
      obtain ⟨⟨e1, e4, k3, k5, hA, hT2⟩, e3⟩ := id hM
      rw [s_Model_append (by omega) k5 hI.2.2.2.1 hc, if_pos c1, if_pos (show mkX s kp p n t |>.2.2.2.1 = 60 from c2)]
      exact hQ _ _ _ (hM.th 2) (upI_eq _ _ _) (fun z => absurd z (by decide))
    · have hn := hI.2.2.2.1
      have hGd : GdI s kp p (n + 1) (upI t n c) := ⟨hI.1, hI.2.1, hI.2.2.1, by omega, fun k => by
        rw [upI_at]
        split
        · omega
        · exact hI.2.2.2.2 k⟩
      refine ⟨mkX s kp p (n + 1) (upI t n c), 0, (n : Int) + 1, hGd, ⟨by decide, by decide⟩, l_ret hG (L_append (by omega)) hC.1 hO (fun Q hQ => o_append0 hC hG c1 (by omega) hQ), fun σ m A Q hM hQ => ?_⟩
      obtain ⟨⟨e1, e4, k3, k5, hA, hT2⟩, e3⟩ := id hM
      have k5' : m 5 = (n : Nat) := k5
      have e4' : A 4 = t := e4
      rw [s_Model_append (by omega) k5' hI.2.2.2.1 hc, if_pos c1, if_neg c2, if_pos ⟨c1.1, c1.2, c2⟩, e4']
      exact hQ _ _ _ ⟨⟨e1, rfl, k3, rfl, ⟨hA.1, hA.2.1, hA.2.2.1, hA.2.2.2⟩, hT2⟩, e3⟩ rfl (fun _ => rfl)
  · refine ⟨mkX s kp p n t, 1, 0, hI, ⟨by decide, by decide⟩, l_thr (e := 0) (L_append (by omega)) hC.1 hO (CThr.of hC (fun Q => o_append1 hc c1)) rfl (by decide), fun σ m A Q hM hQ => ?_⟩
    obtain ⟨⟨e1, e4, k3, k5, hA, hT2⟩, e3⟩ := id hM
    rw [s_Model_append (by omega) k5 hI.2.2.2.1 hc, if_neg c1]
    exact hQ _ _ _ (hM.th 1) (upI_eq _ _ _) (fun z => absurd z (by decide))
theorem p_run (hC : ClsI G σ B s kp p n t) (hI : GdI s kp p n t) (hG : G 0 ≤ B) (hO : ∃ f, σ.1 (B + 58) = some (oL 1 f)) :
    OpR G B σ (mkX s kp p n t) k_Law_run [vR B, vR (B + 58)] k_Model_run [vR (B + 46)] := by
  obtain ⟨kl, hkl⟩ : ∃ kl, KpO (cA t n) kl := ctO_ex t hI.2.2.2.1
  by_cases c1 : okO (cA t n) kl n = 1
  · -- the state after it, and that it is good
    have hg2 : Good (rnM (ordO (cA t n)) (kl + 1) 0 s).2 := by
      have hall := okO_all hkl c1
      have key : ∀ f k (s : Nat → Int), k + f = kl + 1 → Good s → Good (rnM (ordO (cA t n)) f k s).2 := by
        intro f
        induction f with
        | zero => intro k s _ h; exact h
        | succ f ih =>
          intro k s hk h
          have ho := ordO_ok (hall k (by omega))
          have h2 := h.dm ho.1 ho.2.1 ho.2.2.1 ⟨ho.2.2.2.1, ho.2.2.2.2.1⟩
          rw [rnM]
          split
          · exact ih (k + 1) _ (by omega) h2
          · exact h2
      exact key (kl + 1) 0 s (by omega) hI.1
    have hGd0 := hI.push hg2
    refine ⟨mkX (rnM (ordO (cA t n)) (kl + 1) 0 s).2 (svK kp) (svF s p kp) 0 t, 0, ((rnM (ordO (cA t n)) (kl + 1) 0 s).1 : Nat), ⟨hGd0.1, hGd0.2.1, hGd0.2.2.1, by show (0 : Nat) ≤ 60; omega, hGd0.2.2.2.2⟩, ⟨by decide, by decide⟩, l_ret hG (L_run (by omega)) hC.1 hO (fun Q hQ => o_run0 hC hI hG hkl c1 (fun σ' h1 _ h2 => hQ σ' h1 h2)), fun σ m A Q hM hQ => ?_⟩
    obtain ⟨⟨e1, e4, k3, k5, hA, hT2⟩, e3⟩ := id hM
    have e1' : A 1 = s := e1
    have e4' : A 4 = t := e4
    refine s_run0 (n := n) (kl := kl) (kp := kp) (by omega) (by rw [e1']; exact hI.1.1) (by rw [e1']; exact hI.1.wk) hA k3 hI.2.1 k5 hI.2.2.2.1 (by rw [e4']; exact hI.2.2.2.2) (by rw [e4']; exact hkl) (by rw [e4']; exact c1) (fun m' A' hK hA1 => ?_)
    rw [e1', e4'] at hA1
    rw [e1', e4']
    have hX := hM.svR hK hA1
    exact hQ _ _ _ hX.1 hX.2 (fun _ => rfl)
  · have c0 : okO (cA t n) kl n = 0 := (okO_01 (cA t n) kl n).elim id (fun z => absurd z c1)
    refine ⟨mkX s kp p n t, 1, 0, hI, ⟨by decide, by decide⟩, l_thr (e := 0) (L_run (by omega)) hC.1 hO (fun Q hQ => o_run1 hC hI hG hkl c0 hQ) rfl (by decide), fun σ m A Q hM hQ => ?_⟩
    obtain ⟨⟨e1, e4, k3, k5, hA, hT2⟩, e3⟩ := id hM
    have e4' : A 4 = t := e4
    refine s_run1 (n := n) (kl := kl) (by omega) k5 hI.2.2.2.1 (by rw [e4']; exact hI.2.2.2.2) (by rw [e4']; exact hkl) (by rw [e4']; exact c0) (fun m' A' hK => ?_)
    have hX := hM.kt hK
    exact hQ _ _ _ hX.1 hX.2 (fun z => absurd z (by decide))
theorem p_undo (hC : ClsI G σ B s kp p n t) (hI : GdI s kp p n t) (hG : G 0 ≤ B) (hO : ∃ f, σ.1 (B + 58) = some (oL 1 f)) :
    OpR G B σ (mkX s kp p n t) k_Law_undo [vR B, vR (B + 58)] k_Model_undo [vR (B + 46)] := by
  by_cases c1 : kp = 0
  · refine ⟨mkX s kp p n t, 1, 0, hI, ⟨by decide, by decide⟩, l_thr (e := 1) (L_undo (by omega)) hC.1 hO (CThr.of hC (fun Q => o_undo1 hC c1)) rfl (by decide), fun σ m A Q hM hQ => ?_⟩
    obtain ⟨⟨e1, e4, k3, k5, hA, hT2⟩, e3⟩ := id hM
    have k3' : m 3 = (kp : Nat) := k3
    rw [s_Model_undo (by omega) k3' hI.2.1, if_pos c1, if_pos c1]
    exact hQ _ _ _ (hM.th 1) (upI_eq _ _ _) (fun z => absurd z (by decide))
  · have hGd : GdI (pastS p (kp - 1)) (kp - 1) p n t := ⟨hI.2.2.1 _ (by omega), by have := hI.2.1; omega, fun i hi => hI.2.2.1 i (by omega), hI.2.2.2.1, hI.2.2.2.2⟩
    refine ⟨mkX (pastS p (kp - 1)) (kp - 1) p n t, 0, (kp : Int) - 1, hGd, ⟨by decide, by decide⟩, l_ret hG (L_undo (by omega)) hC.1 hO (fun Q hQ => o_undo0 hC hI hG (by omega) hQ), fun σ m A Q hM hQ => ?_⟩
    obtain ⟨⟨e1, e4, k3, k5, hA, hT2⟩, e3⟩ := id hM
    have k3' : m 3 = (kp : Nat) := k3
    have e1' : A 1 = s := e1
    have e3' : A 3 = p := e3
    rw [s_Model_undo (by omega) k3' hI.2.1, if_neg c1, if_neg c1, e1', e3', past_undo hI.1.2.1]
    refine hQ _ _ _ ⟨⟨rfl, e4, ?_, k5, ⟨hA.1, hA.2.1, hA.2.2.1, hA.2.2.2⟩, hT2⟩, e3⟩ rfl (fun _ => rfl)
    show (kp : Int) - 1 = ((kp - 1 : Nat) : Int)
    omega
end OPS

/-! BLOCKS: an object with its arrays behind it -/
def upA (A : Nat → Nat → Int) (k : Nat) (f : Nat → Int) : Nat → Nat → Int := fun j => if j = k then f else A j
theorem upA_at (A : Nat → Nat → Int) (k : Nat) (f : Nat → Int) (j : Nat) : upA A k f j = if j = k then f else A j := rfl
def setB (σ : AS) (M : Nat) (o : AO) (n : Nat) (tg sz : Nat → Nat) (A : Nat → Nat → Int) : AS := (fun a => if a = M then some o else if M < a ∧ a ≤ M + n then some (oI (tg (a - M)) (sz (a - M)) (A (a - M))) else σ.1 a, σ.2)
def BlkC (σ : AS) (M : Nat) (o : AO) (n : Nat) (tg sz : Nat → Nat) (A : Nat → Nat → Int) : Prop := σ.1 M = some o ∧ ∀ k, 1 ≤ k → k ≤ n → σ.1 (M + k) = some (oI (tg k) (sz k) (A k))
theorem setB_out {σ : AS} {M : Nat} {o : AO} {n : Nat} {tg sz : Nat → Nat} {A : Nat → Nat → Int} {a : Nat} (h : a < M ∨ M + n < a) : (setB σ M o n tg sz A).1 a = σ.1 a := by
  show (if a = M then some o else if M < a ∧ a ≤ M + n then _ else σ.1 a) = σ.1 a
  rw [if_neg (by omega), if_neg (by omega)]
theorem setB_C (σ : AS) (M : Nat) (o : AO) (n : Nat) (tg sz : Nat → Nat) (A : Nat → Nat → Int) : BlkC (setB σ M o n tg sz A) M o n tg sz A := by
  refine ⟨if_pos rfl, fun k h1 h2 => ?_⟩
  show (if M + k = M then some o else if M < M + k ∧ M + k ≤ M + n then some (oI (tg (M + k - M)) (sz (M + k - M)) (A (M + k - M))) else σ.1 (M + k)) = _
  rw [if_neg (by omega), if_pos (by omega), show M + k - M = k by omega]
theorem setB_eq {σ τ : AS} {M : Nat} {o : AO} {n : Nat} {tg sz : Nat → Nat} {A : Nat → Nat → Int} (h : BlkC τ M o n tg sz A) (ho : ∀ a, a < M ∨ M + n < a → τ.1 a = σ.1 a) (h2 : τ.2 = σ.2) : τ = setB σ M o n tg sz A := by
  refine as_ext (fun a => ?_) h2
  by_cases h0 : a < M ∨ M + n < a
  · rw [setB_out h0, ho a h0]
  · by_cases e : a = M
    · rw [e, h.1, (setB_C σ M o n tg sz A).1]
    · have := h.2 (a - M) (by omega) (by omega)
      have h3 := (setB_C σ M o n tg sz A).2 (a - M) (by omega) (by omega)
      rw [show M + (a - M) = a by omega] at this h3
      rw [this, h3]
theorem setB_id {σ : AS} {M : Nat} {o : AO} {n : Nat} {tg sz : Nat → Nat} {A : Nat → Nat → Int} (h : BlkC σ M o n tg sz A) : setB σ M o n tg sz A = σ := (setB_eq h (fun _ _ => rfl) rfl).symm
theorem setB_setB (σ : AS) (M : Nat) (o o2 : AO) (n : Nat) (tg sz : Nat → Nat) (A A2 : Nat → Nat → Int) : setB (setB σ M o n tg sz A) M o2 n tg sz A2 = setB σ M o2 n tg sz A2 := setB_eq (setB_C _ _ _ _ _ _ _) (fun a h => by rw [setB_out h, setB_out h]) rfl
theorem setB_obj {σ : AS} {M : Nat} {o : AO} {n : Nat} {tg sz : Nat → Nat} {A : Nat → Nat → Int} (o2 : AO) : am_st (setB σ M o n tg sz A) M o2 = setB σ M o2 n tg sz A := by
  refine setB_eq ⟨by rw [st_hp, if_pos rfl], fun k h1 h2 => ?_⟩ (fun a h => ?_) rfl
  · rw [st_hp, if_neg (by omega), (setB_C σ M o n tg sz A).2 k h1 h2]
  · by_cases e : a = M
    · omega
    · rw [st_hp, if_neg e, setB_out h]
theorem setB_arr {σ : AS} {M : Nat} {o : AO} {n : Nat} {tg sz : Nat → Nat} {A : Nat → Nat → Int} {f : Nat → Int} (k : Nat) (h1 : 1 ≤ k) (h2 : k ≤ n) : am_st (setB σ M o n tg sz A) (M + k) (oI (tg k) (sz k) f) = setB σ M o n tg sz (upA A k f) := by
  refine setB_eq ⟨by rw [st_hp, if_neg (by omega), (setB_C σ M o n tg sz A).1], fun j h3 h4 => ?_⟩ (fun a h => ?_) rfl
  · rw [st_hp, upA_at]
    by_cases e : j = k
    · rw [e, if_pos rfl, if_pos rfl]
    · rw [if_neg (by omega), if_neg e, (setB_C σ M o n tg sz A).2 j h3 h4]
  · rw [st_hp, if_neg (by omega), setB_out h]
/-! Md with its arrays -/
def oMd (M : Nat) (m : Nat → Int) : AO := oC 5 [vR (M + 1), vR (M + 2), vR (M + 3), vI (m 3), vR (M + 4), vI (m 5), vI (m 6), vI (m 7), vI (m 8), vR (M + 5), vI (m 10), vR (M + 6), vR (M + 7), vR (M + 8), vR (M + 9), vR (M + 10), vI (m 16), vI (m 17), vI (m 18), vR (M + 11)]
def tgMd (k : Nat) : Nat := ([0, 0, 0, 0, 0, 0, 0, 0, 0, 1, 0, 1] : List Nat).getD k 0
def szMd (k : Nat) : Nat := ([0, 253, 253, 1518, 60, 63, 4, 4, 192, 192, 192, 192] : List Nat).getD k 0
def setMd (σ : AS) (M : Nat) (m : Nat → Int) (A : Nat → Nat → Int) : AS := setB σ M (oMd M m) 11 tgMd szMd A
def IsMd (σ : AS) (M : Nat) (m : Nat → Int) (A : Nat → Nat → Int) : Prop := BlkC σ M (oMd M m) 11 tgMd szMd A
theorem setMd_id {σ : AS} {M : Nat} {m : Nat → Int} {A : Nat → Nat → Int} (h : IsMd σ M m A) : setMd σ M m A = σ := setB_id h
theorem setMd_is (σ : AS) (M : Nat) (m : Nat → Int) (A : Nat → Nat → Int) : IsMd (setMd σ M m A) M m A := setB_C _ _ _ _ _ _ _
theorem setMd_set (σ : AS) (M : Nat) (m m2 : Nat → Int) (A A2 : Nat → Nat → Int) : setMd (setMd σ M m A) M m2 A2 = setMd σ M m2 A2 := setB_setB _ _ _ _ _ _ _ _ _
theorem setMd_out {σ : AS} {M : Nat} {m : Nat → Int} {A : Nat → Nat → Int} {a : Nat} (h : a < M ∨ M + 11 < a) : (setMd σ M m A).1 a = σ.1 a := setB_out h
theorem setMd_2 (σ : AS) (M : Nat) (m : Nat → Int) (A : Nat → Nat → Int) : (setMd σ M m A).2 = σ.2 := rfl
theorem Mdo (σ : AS) (M : Nat) (m : Nat → Int) (A : Nat → Nat → Int) : (setMd σ M m A).1 M = some (oC 5 [vR (M + 1), vR (M + 2), vR (M + 3), vI (m 3), vR (M + 4), vI (m 5), vI (m 6), vI (m 7), vI (m 8), vR (M + 5), vI (m 10), vR (M + 6), vR (M + 7), vR (M + 8), vR (M + 9), vR (M + 10), vI (m 16), vI (m 17), vI (m 18), vR (M + 11)]) := (setMd_is σ M m A).1
theorem Mda1 (σ : AS) (M : Nat) (m : Nat → Int) (A : Nat → Nat → Int) : (setMd σ M m A).1 (M + 1) = some (oI 0 253 (A 1)) := (setMd_is σ M m A).2 1 (by decide) (by decide)
theorem Mdw1 (σ : AS) (M : Nat) (m : Nat → Int) (A : Nat → Nat → Int) (f : Nat → Int) : am_st (setMd σ M m A) (M + 1) (oI 0 253 f) = setMd σ M m (upA A 1 f) := setB_arr 1 (by decide) (by decide)
theorem Mda2 (σ : AS) (M : Nat) (m : Nat → Int) (A : Nat → Nat → Int) : (setMd σ M m A).1 (M + 2) = some (oI 0 253 (A 2)) := (setMd_is σ M m A).2 2 (by decide) (by decide)
theorem Mdw2 (σ : AS) (M : Nat) (m : Nat → Int) (A : Nat → Nat → Int) (f : Nat → Int) : am_st (setMd σ M m A) (M + 2) (oI 0 253 f) = setMd σ M m (upA A 2 f) := setB_arr 2 (by decide) (by decide)
theorem Mda3 (σ : AS) (M : Nat) (m : Nat → Int) (A : Nat → Nat → Int) : (setMd σ M m A).1 (M + 3) = some (oI 0 1518 (A 3)) := (setMd_is σ M m A).2 3 (by decide) (by decide)
theorem Mdw3 (σ : AS) (M : Nat) (m : Nat → Int) (A : Nat → Nat → Int) (f : Nat → Int) : am_st (setMd σ M m A) (M + 3) (oI 0 1518 f) = setMd σ M m (upA A 3 f) := setB_arr 3 (by decide) (by decide)
theorem Mda4 (σ : AS) (M : Nat) (m : Nat → Int) (A : Nat → Nat → Int) : (setMd σ M m A).1 (M + 4) = some (oI 0 60 (A 4)) := (setMd_is σ M m A).2 4 (by decide) (by decide)
theorem Mdw4 (σ : AS) (M : Nat) (m : Nat → Int) (A : Nat → Nat → Int) (f : Nat → Int) : am_st (setMd σ M m A) (M + 4) (oI 0 60 f) = setMd σ M m (upA A 4 f) := setB_arr 4 (by decide) (by decide)
theorem Mda5 (σ : AS) (M : Nat) (m : Nat → Int) (A : Nat → Nat → Int) : (setMd σ M m A).1 (M + 5) = some (oI 0 63 (A 5)) := (setMd_is σ M m A).2 5 (by decide) (by decide)
theorem Mdw5 (σ : AS) (M : Nat) (m : Nat → Int) (A : Nat → Nat → Int) (f : Nat → Int) : am_st (setMd σ M m A) (M + 5) (oI 0 63 f) = setMd σ M m (upA A 5 f) := setB_arr 5 (by decide) (by decide)
theorem Mda6 (σ : AS) (M : Nat) (m : Nat → Int) (A : Nat → Nat → Int) : (setMd σ M m A).1 (M + 6) = some (oI 0 4 (A 6)) := (setMd_is σ M m A).2 6 (by decide) (by decide)
theorem Mdw6 (σ : AS) (M : Nat) (m : Nat → Int) (A : Nat → Nat → Int) (f : Nat → Int) : am_st (setMd σ M m A) (M + 6) (oI 0 4 f) = setMd σ M m (upA A 6 f) := setB_arr 6 (by decide) (by decide)
theorem Mda7 (σ : AS) (M : Nat) (m : Nat → Int) (A : Nat → Nat → Int) : (setMd σ M m A).1 (M + 7) = some (oI 0 4 (A 7)) := (setMd_is σ M m A).2 7 (by decide) (by decide)
theorem Mdw7 (σ : AS) (M : Nat) (m : Nat → Int) (A : Nat → Nat → Int) (f : Nat → Int) : am_st (setMd σ M m A) (M + 7) (oI 0 4 f) = setMd σ M m (upA A 7 f) := setB_arr 7 (by decide) (by decide)
theorem Mda8 (σ : AS) (M : Nat) (m : Nat → Int) (A : Nat → Nat → Int) : (setMd σ M m A).1 (M + 8) = some (oI 0 192 (A 8)) := (setMd_is σ M m A).2 8 (by decide) (by decide)
theorem Mdw8 (σ : AS) (M : Nat) (m : Nat → Int) (A : Nat → Nat → Int) (f : Nat → Int) : am_st (setMd σ M m A) (M + 8) (oI 0 192 f) = setMd σ M m (upA A 8 f) := setB_arr 8 (by decide) (by decide)
theorem Mda9 (σ : AS) (M : Nat) (m : Nat → Int) (A : Nat → Nat → Int) : (setMd σ M m A).1 (M + 9) = some (oI 1 192 (A 9)) := (setMd_is σ M m A).2 9 (by decide) (by decide)
theorem Mdw9 (σ : AS) (M : Nat) (m : Nat → Int) (A : Nat → Nat → Int) (f : Nat → Int) : am_st (setMd σ M m A) (M + 9) (oI 1 192 f) = setMd σ M m (upA A 9 f) := setB_arr 9 (by decide) (by decide)
theorem Mda10 (σ : AS) (M : Nat) (m : Nat → Int) (A : Nat → Nat → Int) : (setMd σ M m A).1 (M + 10) = some (oI 0 192 (A 10)) := (setMd_is σ M m A).2 10 (by decide) (by decide)
theorem Mdw10 (σ : AS) (M : Nat) (m : Nat → Int) (A : Nat → Nat → Int) (f : Nat → Int) : am_st (setMd σ M m A) (M + 10) (oI 0 192 f) = setMd σ M m (upA A 10 f) := setB_arr 10 (by decide) (by decide)
theorem Mda11 (σ : AS) (M : Nat) (m : Nat → Int) (A : Nat → Nat → Int) : (setMd σ M m A).1 (M + 11) = some (oI 1 192 (A 11)) := (setMd_is σ M m A).2 11 (by decide) (by decide)
theorem Mdw11 (σ : AS) (M : Nat) (m : Nat → Int) (A : Nat → Nat → Int) (f : Nat → Int) : am_st (setMd σ M m A) (M + 11) (oI 1 192 f) = setMd σ M m (upA A 11 f) := setB_arr 11 (by decide) (by decide)
theorem Mdp3 (σ : AS) (M : Nat) (m : Nat → Int) (A : Nat → Nat → Int) (v : Int) : am_st (setMd σ M m A) M (oC 5 [vR (M + 1), vR (M + 2), vR (M + 3), vI v, vR (M + 4), vI (m 5), vI (m 6), vI (m 7), vI (m 8), vR (M + 5), vI (m 10), vR (M + 6), vR (M + 7), vR (M + 8), vR (M + 9), vR (M + 10), vI (m 16), vI (m 17), vI (m 18), vR (M + 11)]) = setMd σ M (upI m 3 v) A := setB_obj (oMd M (upI m 3 v))
theorem Mdp5 (σ : AS) (M : Nat) (m : Nat → Int) (A : Nat → Nat → Int) (v : Int) : am_st (setMd σ M m A) M (oC 5 [vR (M + 1), vR (M + 2), vR (M + 3), vI (m 3), vR (M + 4), vI v, vI (m 6), vI (m 7), vI (m 8), vR (M + 5), vI (m 10), vR (M + 6), vR (M + 7), vR (M + 8), vR (M + 9), vR (M + 10), vI (m 16), vI (m 17), vI (m 18), vR (M + 11)]) = setMd σ M (upI m 5 v) A := setB_obj (oMd M (upI m 5 v))
theorem Mdp6 (σ : AS) (M : Nat) (m : Nat → Int) (A : Nat → Nat → Int) (v : Int) : am_st (setMd σ M m A) M (oC 5 [vR (M + 1), vR (M + 2), vR (M + 3), vI (m 3), vR (M + 4), vI (m 5), vI v, vI (m 7), vI (m 8), vR (M + 5), vI (m 10), vR (M + 6), vR (M + 7), vR (M + 8), vR (M + 9), vR (M + 10), vI (m 16), vI (m 17), vI (m 18), vR (M + 11)]) = setMd σ M (upI m 6 v) A := setB_obj (oMd M (upI m 6 v))
theorem Mdp7 (σ : AS) (M : Nat) (m : Nat → Int) (A : Nat → Nat → Int) (v : Int) : am_st (setMd σ M m A) M (oC 5 [vR (M + 1), vR (M + 2), vR (M + 3), vI (m 3), vR (M + 4), vI (m 5), vI (m 6), vI v, vI (m 8), vR (M + 5), vI (m 10), vR (M + 6), vR (M + 7), vR (M + 8), vR (M + 9), vR (M + 10), vI (m 16), vI (m 17), vI (m 18), vR (M + 11)]) = setMd σ M (upI m 7 v) A := setB_obj (oMd M (upI m 7 v))
theorem Mdp8 (σ : AS) (M : Nat) (m : Nat → Int) (A : Nat → Nat → Int) (v : Int) : am_st (setMd σ M m A) M (oC 5 [vR (M + 1), vR (M + 2), vR (M + 3), vI (m 3), vR (M + 4), vI (m 5), vI (m 6), vI (m 7), vI v, vR (M + 5), vI (m 10), vR (M + 6), vR (M + 7), vR (M + 8), vR (M + 9), vR (M + 10), vI (m 16), vI (m 17), vI (m 18), vR (M + 11)]) = setMd σ M (upI m 8 v) A := setB_obj (oMd M (upI m 8 v))
theorem Mdp10 (σ : AS) (M : Nat) (m : Nat → Int) (A : Nat → Nat → Int) (v : Int) : am_st (setMd σ M m A) M (oC 5 [vR (M + 1), vR (M + 2), vR (M + 3), vI (m 3), vR (M + 4), vI (m 5), vI (m 6), vI (m 7), vI (m 8), vR (M + 5), vI v, vR (M + 6), vR (M + 7), vR (M + 8), vR (M + 9), vR (M + 10), vI (m 16), vI (m 17), vI (m 18), vR (M + 11)]) = setMd σ M (upI m 10 v) A := setB_obj (oMd M (upI m 10 v))
theorem Mdp16 (σ : AS) (M : Nat) (m : Nat → Int) (A : Nat → Nat → Int) (v : Int) : am_st (setMd σ M m A) M (oC 5 [vR (M + 1), vR (M + 2), vR (M + 3), vI (m 3), vR (M + 4), vI (m 5), vI (m 6), vI (m 7), vI (m 8), vR (M + 5), vI (m 10), vR (M + 6), vR (M + 7), vR (M + 8), vR (M + 9), vR (M + 10), vI v, vI (m 17), vI (m 18), vR (M + 11)]) = setMd σ M (upI m 16 v) A := setB_obj (oMd M (upI m 16 v))
theorem Mdp17 (σ : AS) (M : Nat) (m : Nat → Int) (A : Nat → Nat → Int) (v : Int) : am_st (setMd σ M m A) M (oC 5 [vR (M + 1), vR (M + 2), vR (M + 3), vI (m 3), vR (M + 4), vI (m 5), vI (m 6), vI (m 7), vI (m 8), vR (M + 5), vI (m 10), vR (M + 6), vR (M + 7), vR (M + 8), vR (M + 9), vR (M + 10), vI (m 16), vI v, vI (m 18), vR (M + 11)]) = setMd σ M (upI m 17 v) A := setB_obj (oMd M (upI m 17 v))
theorem Mdp18 (σ : AS) (M : Nat) (m : Nat → Int) (A : Nat → Nat → Int) (v : Int) : am_st (setMd σ M m A) M (oC 5 [vR (M + 1), vR (M + 2), vR (M + 3), vI (m 3), vR (M + 4), vI (m 5), vI (m 6), vI (m 7), vI (m 8), vR (M + 5), vI (m 10), vR (M + 6), vR (M + 7), vR (M + 8), vR (M + 9), vR (M + 10), vI (m 16), vI (m 17), vI v, vR (M + 11)]) = setMd σ M (upI m 18 v) A := setB_obj (oMd M (upI m 18 v))
/-! Wy with its arrays -/
def oWy (M : Nat) (m : Nat → Int) : AO := oC 3 [vR (M + 1), vR (M + 2), vR (M + 3), vR (M + 4), vR (M + 5), vR (M + 6), vI (m 6), vI (m 7), vR (M + 7), vR (M + 8), vI (m 10), vI (m 11), vI (m 12), vI (m 13), vI (m 14), vI (m 15)]
def tgWy (k : Nat) : Nat := ([0, 0, 0, 0, 0, 0, 1, 1, 0] : List Nat).getD k 0
def szWy (k : Nat) : Nat := ([0, 192, 192, 192, 192, 192, 192, 192, 192] : List Nat).getD k 0
def setWy (σ : AS) (M : Nat) (m : Nat → Int) (A : Nat → Nat → Int) : AS := setB σ M (oWy M m) 8 tgWy szWy A
def IsWy (σ : AS) (M : Nat) (m : Nat → Int) (A : Nat → Nat → Int) : Prop := BlkC σ M (oWy M m) 8 tgWy szWy A
theorem setWy_id {σ : AS} {M : Nat} {m : Nat → Int} {A : Nat → Nat → Int} (h : IsWy σ M m A) : setWy σ M m A = σ := setB_id h
theorem setWy_is (σ : AS) (M : Nat) (m : Nat → Int) (A : Nat → Nat → Int) : IsWy (setWy σ M m A) M m A := setB_C _ _ _ _ _ _ _
theorem setWy_set (σ : AS) (M : Nat) (m m2 : Nat → Int) (A A2 : Nat → Nat → Int) : setWy (setWy σ M m A) M m2 A2 = setWy σ M m2 A2 := setB_setB _ _ _ _ _ _ _ _ _
theorem setWy_out {σ : AS} {M : Nat} {m : Nat → Int} {A : Nat → Nat → Int} {a : Nat} (h : a < M ∨ M + 8 < a) : (setWy σ M m A).1 a = σ.1 a := setB_out h
theorem setWy_2 (σ : AS) (M : Nat) (m : Nat → Int) (A : Nat → Nat → Int) : (setWy σ M m A).2 = σ.2 := rfl
theorem Wyo (σ : AS) (M : Nat) (m : Nat → Int) (A : Nat → Nat → Int) : (setWy σ M m A).1 M = some (oC 3 [vR (M + 1), vR (M + 2), vR (M + 3), vR (M + 4), vR (M + 5), vR (M + 6), vI (m 6), vI (m 7), vR (M + 7), vR (M + 8), vI (m 10), vI (m 11), vI (m 12), vI (m 13), vI (m 14), vI (m 15)]) := (setWy_is σ M m A).1
theorem Wya1 (σ : AS) (M : Nat) (m : Nat → Int) (A : Nat → Nat → Int) : (setWy σ M m A).1 (M + 1) = some (oI 0 192 (A 1)) := (setWy_is σ M m A).2 1 (by decide) (by decide)
theorem Wyw1 (σ : AS) (M : Nat) (m : Nat → Int) (A : Nat → Nat → Int) (f : Nat → Int) : am_st (setWy σ M m A) (M + 1) (oI 0 192 f) = setWy σ M m (upA A 1 f) := setB_arr 1 (by decide) (by decide)
theorem Wya2 (σ : AS) (M : Nat) (m : Nat → Int) (A : Nat → Nat → Int) : (setWy σ M m A).1 (M + 2) = some (oI 0 192 (A 2)) := (setWy_is σ M m A).2 2 (by decide) (by decide)
theorem Wyw2 (σ : AS) (M : Nat) (m : Nat → Int) (A : Nat → Nat → Int) (f : Nat → Int) : am_st (setWy σ M m A) (M + 2) (oI 0 192 f) = setWy σ M m (upA A 2 f) := setB_arr 2 (by decide) (by decide)
theorem Wya3 (σ : AS) (M : Nat) (m : Nat → Int) (A : Nat → Nat → Int) : (setWy σ M m A).1 (M + 3) = some (oI 0 192 (A 3)) := (setWy_is σ M m A).2 3 (by decide) (by decide)
theorem Wyw3 (σ : AS) (M : Nat) (m : Nat → Int) (A : Nat → Nat → Int) (f : Nat → Int) : am_st (setWy σ M m A) (M + 3) (oI 0 192 f) = setWy σ M m (upA A 3 f) := setB_arr 3 (by decide) (by decide)
theorem Wya4 (σ : AS) (M : Nat) (m : Nat → Int) (A : Nat → Nat → Int) : (setWy σ M m A).1 (M + 4) = some (oI 0 192 (A 4)) := (setWy_is σ M m A).2 4 (by decide) (by decide)
theorem Wyw4 (σ : AS) (M : Nat) (m : Nat → Int) (A : Nat → Nat → Int) (f : Nat → Int) : am_st (setWy σ M m A) (M + 4) (oI 0 192 f) = setWy σ M m (upA A 4 f) := setB_arr 4 (by decide) (by decide)
theorem Wya5 (σ : AS) (M : Nat) (m : Nat → Int) (A : Nat → Nat → Int) : (setWy σ M m A).1 (M + 5) = some (oI 0 192 (A 5)) := (setWy_is σ M m A).2 5 (by decide) (by decide)
theorem Wyw5 (σ : AS) (M : Nat) (m : Nat → Int) (A : Nat → Nat → Int) (f : Nat → Int) : am_st (setWy σ M m A) (M + 5) (oI 0 192 f) = setWy σ M m (upA A 5 f) := setB_arr 5 (by decide) (by decide)
theorem Wya6 (σ : AS) (M : Nat) (m : Nat → Int) (A : Nat → Nat → Int) : (setWy σ M m A).1 (M + 6) = some (oI 1 192 (A 6)) := (setWy_is σ M m A).2 6 (by decide) (by decide)
theorem Wyw6 (σ : AS) (M : Nat) (m : Nat → Int) (A : Nat → Nat → Int) (f : Nat → Int) : am_st (setWy σ M m A) (M + 6) (oI 1 192 f) = setWy σ M m (upA A 6 f) := setB_arr 6 (by decide) (by decide)
theorem Wya7 (σ : AS) (M : Nat) (m : Nat → Int) (A : Nat → Nat → Int) : (setWy σ M m A).1 (M + 7) = some (oI 1 192 (A 7)) := (setWy_is σ M m A).2 7 (by decide) (by decide)
theorem Wyw7 (σ : AS) (M : Nat) (m : Nat → Int) (A : Nat → Nat → Int) (f : Nat → Int) : am_st (setWy σ M m A) (M + 7) (oI 1 192 f) = setWy σ M m (upA A 7 f) := setB_arr 7 (by decide) (by decide)
theorem Wya8 (σ : AS) (M : Nat) (m : Nat → Int) (A : Nat → Nat → Int) : (setWy σ M m A).1 (M + 8) = some (oI 0 192 (A 8)) := (setWy_is σ M m A).2 8 (by decide) (by decide)
theorem Wyw8 (σ : AS) (M : Nat) (m : Nat → Int) (A : Nat → Nat → Int) (f : Nat → Int) : am_st (setWy σ M m A) (M + 8) (oI 0 192 f) = setWy σ M m (upA A 8 f) := setB_arr 8 (by decide) (by decide)
theorem Wyp6 (σ : AS) (M : Nat) (m : Nat → Int) (A : Nat → Nat → Int) (v : Int) : am_st (setWy σ M m A) M (oC 3 [vR (M + 1), vR (M + 2), vR (M + 3), vR (M + 4), vR (M + 5), vR (M + 6), vI v, vI (m 7), vR (M + 7), vR (M + 8), vI (m 10), vI (m 11), vI (m 12), vI (m 13), vI (m 14), vI (m 15)]) = setWy σ M (upI m 6 v) A := setB_obj (oWy M (upI m 6 v))
theorem Wyp7 (σ : AS) (M : Nat) (m : Nat → Int) (A : Nat → Nat → Int) (v : Int) : am_st (setWy σ M m A) M (oC 3 [vR (M + 1), vR (M + 2), vR (M + 3), vR (M + 4), vR (M + 5), vR (M + 6), vI (m 6), vI v, vR (M + 7), vR (M + 8), vI (m 10), vI (m 11), vI (m 12), vI (m 13), vI (m 14), vI (m 15)]) = setWy σ M (upI m 7 v) A := setB_obj (oWy M (upI m 7 v))
theorem Wyp10 (σ : AS) (M : Nat) (m : Nat → Int) (A : Nat → Nat → Int) (v : Int) : am_st (setWy σ M m A) M (oC 3 [vR (M + 1), vR (M + 2), vR (M + 3), vR (M + 4), vR (M + 5), vR (M + 6), vI (m 6), vI (m 7), vR (M + 7), vR (M + 8), vI v, vI (m 11), vI (m 12), vI (m 13), vI (m 14), vI (m 15)]) = setWy σ M (upI m 10 v) A := setB_obj (oWy M (upI m 10 v))
theorem Wyp11 (σ : AS) (M : Nat) (m : Nat → Int) (A : Nat → Nat → Int) (v : Int) : am_st (setWy σ M m A) M (oC 3 [vR (M + 1), vR (M + 2), vR (M + 3), vR (M + 4), vR (M + 5), vR (M + 6), vI (m 6), vI (m 7), vR (M + 7), vR (M + 8), vI (m 10), vI v, vI (m 12), vI (m 13), vI (m 14), vI (m 15)]) = setWy σ M (upI m 11 v) A := setB_obj (oWy M (upI m 11 v))
theorem Wyp12 (σ : AS) (M : Nat) (m : Nat → Int) (A : Nat → Nat → Int) (v : Int) : am_st (setWy σ M m A) M (oC 3 [vR (M + 1), vR (M + 2), vR (M + 3), vR (M + 4), vR (M + 5), vR (M + 6), vI (m 6), vI (m 7), vR (M + 7), vR (M + 8), vI (m 10), vI (m 11), vI v, vI (m 13), vI (m 14), vI (m 15)]) = setWy σ M (upI m 12 v) A := setB_obj (oWy M (upI m 12 v))
theorem Wyp13 (σ : AS) (M : Nat) (m : Nat → Int) (A : Nat → Nat → Int) (v : Int) : am_st (setWy σ M m A) M (oC 3 [vR (M + 1), vR (M + 2), vR (M + 3), vR (M + 4), vR (M + 5), vR (M + 6), vI (m 6), vI (m 7), vR (M + 7), vR (M + 8), vI (m 10), vI (m 11), vI (m 12), vI v, vI (m 14), vI (m 15)]) = setWy σ M (upI m 13 v) A := setB_obj (oWy M (upI m 13 v))
theorem Wyp14 (σ : AS) (M : Nat) (m : Nat → Int) (A : Nat → Nat → Int) (v : Int) : am_st (setWy σ M m A) M (oC 3 [vR (M + 1), vR (M + 2), vR (M + 3), vR (M + 4), vR (M + 5), vR (M + 6), vI (m 6), vI (m 7), vR (M + 7), vR (M + 8), vI (m 10), vI (m 11), vI (m 12), vI (m 13), vI v, vI (m 15)]) = setWy σ M (upI m 14 v) A := setB_obj (oWy M (upI m 14 v))
theorem Wyp15 (σ : AS) (M : Nat) (m : Nat → Int) (A : Nat → Nat → Int) (v : Int) : am_st (setWy σ M m A) M (oC 3 [vR (M + 1), vR (M + 2), vR (M + 3), vR (M + 4), vR (M + 5), vR (M + 6), vI (m 6), vI (m 7), vR (M + 7), vR (M + 8), vI (m 10), vI (m 11), vI (m 12), vI (m 13), vI (m 14), vI v]) = setWy σ M (upI m 15 v) A := setB_obj (oWy M (upI m 15 v))

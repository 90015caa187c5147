/-! THE PLAN'S METHODS, by what they answer -/
theorem st_hp (σ : AS) (a : Nat) (o : AO) (b : Nat) : (am_st σ a o).1 b = if b = a then some o else σ.1 b := rfl
theorem nw_hp (σ : AS) (o : AO) (k : Nat) (b : Nat) : (am_nw σ o k).1 b = if b = σ.2.1 then some o else σ.1 b := rfl
theorem st_same (σ : AS) (a : Nat) (o o' : AO) : am_st (am_st σ a o) a o' = am_st σ a o' := by
  unfold am_st am_up
  congr 1
  funext b
  dsimp only
  split <;> rfl
abbrev PS : Type := (Nat → Int) × (Nat → Int) × (Nat → Int) × Int
/-- a plan's cells -/
def PlanAt (σ : AS) (P : Nat) (π : PS) : Prop := σ.1 P = some (oC 1 [vR (P + 1), vR (P + 2), vR (P + 3), vI π.2.2.2]) ∧ σ.1 (P + 1) = some (oI 0 192 π.1) ∧ σ.1 (P + 2) = some (oI 0 24 π.2.1) ∧ σ.1 (P + 3) = some (oI 0 36 π.2.2.1)
def PlanOK (π : PS) : Prop := (∀ k, -2 ≤ π.1 k ∧ π.1 k ≤ 5) ∧ (∀ k, 0 ≤ π.2.1 k ∧ π.2.1 k ≤ 16) ∧ (∀ k, 0 ≤ π.2.2.1 k ∧ π.2.2.1 k ≤ 3) ∧ 0 ≤ π.2.2.2 ∧ π.2.2.2 ≤ 9
def sqAt (f : Nat → Int) (x y : Int) : Int := if 0 ≤ x ∧ x < 16 ∧ 0 ≤ y ∧ y < 12 then f (16 * y + x).toNat else -3
section PL1
variable {G : Nat → Nat} {σ : AS} {Q : (Option AV ⊕ Nat) → AS → Prop}
theorem s_Cp_at {a n : Nat} {j : Int} {f : Nat → Int} (h : σ.1 a = some (oI 0 n f) ∨ σ.1 a = some (oI 2 n f)) (hn : n < 100000) (hj : inR j) : CW G k_Cp_at [vR a, vI j] σ Q = Q (.inl (some (vI (if 0 ≤ j ∧ j < n then f j.toNat else 0)))) σ := by
  apply CW.det
  rcases h with h | h
  · simp only [c_Cp_at, e_Cp_at_0, e_Cp_at_1, e_Cp_at_4, e_Cp_at_5, e_Cp_at_6, e_Cp_at_7, e_Cp_at_10, e_Cp_at_11, e_Cp_at_12, e_Cp_at_13, e_Cp_at_16, e_Cp_at_17, kR_l, kR_r, kP_0, kP_i, kP_r, kP_n, kP_s, kP_o, kLen_I, kLen_L, kLen_R, kLdI_0, kLdI_1, kLdI_2, kLdI_3, kStI_0, kStI_1, kLdL_e, kStL_e, kLdR_e, kStR_e, kFld_e, kNth_0, kNth_s, kPut_e, fit_I, fit_Z, fit_B, fit_C, fit_A, fit_O, Option.toList_some, Option.toList_none, List.cons_append, List.nil_append, true_and, and_true, List.set_cons_zero, List.set_cons_succ, st_hp, st_same, nw_hp, h]
    refine ⟨hj, fun h1 => ?_, fun h1 => ?_⟩
    · refine ⟨⟨hj, by omega, by omega⟩, fun h2 => ?_, fun h2 => ?_⟩
      · simp [h1, h2]
        omega
      · rw [if_neg (by omega)]
        simp
    · rw [if_neg (by omega)]
      simp
  · simp only [c_Cp_at, e_Cp_at_0, e_Cp_at_1, e_Cp_at_4, e_Cp_at_5, e_Cp_at_6, e_Cp_at_7, e_Cp_at_10, e_Cp_at_11, e_Cp_at_12, e_Cp_at_13, e_Cp_at_16, e_Cp_at_17, kR_l, kR_r, kP_0, kP_i, kP_r, kP_n, kP_s, kP_o, kLen_I, kLen_L, kLen_R, kLdI_0, kLdI_1, kLdI_2, kLdI_3, kStI_0, kStI_1, kLdL_e, kStL_e, kLdR_e, kStR_e, kFld_e, kNth_0, kNth_s, kPut_e, fit_I, fit_Z, fit_B, fit_C, fit_A, fit_O, Option.toList_some, Option.toList_none, List.cons_append, List.nil_append, true_and, and_true, List.set_cons_zero, List.set_cons_succ, st_hp, st_same, nw_hp, h]
    sorry
theorem s_Plan_squareAt {P : Nat} {π : PS} {x y : Int} (hP : PlanAt σ P π) (hx : inR x) (hy : inR y) : CW G k_Plan_squareAt [vR P, vI x, vI y] σ Q = Q (.inl (some (vI (sqAt π.1 x y)))) σ := by
  apply CW.det
  obtain ⟨h1, h2, h3, h4⟩ := hP
  simp only [c_Plan_squareAt, e_Plan_squareAt_0, e_Plan_squareAt_1, e_Plan_squareAt_4, e_Plan_squareAt_5, e_Plan_squareAt_7, e_Plan_squareAt_10, e_Plan_squareAt_11, e_Plan_squareAt_14, e_Plan_squareAt_15, e_Plan_squareAt_17, e_Plan_squareAt_20, e_Plan_squareAt_22, e_Plan_squareAt_23, e_Plan_squareAt_24, e_Plan_squareAt_26, e_Plan_squareAt_27, e_Plan_squareAt_28, e_Plan_squareAt_29, e_Plan_squareAt_30, e_Plan_squareAt_31, e_Plan_squareAt_34, e_Plan_squareAt_35, e_Plan_squareAt_36, e_Plan_squareAt_39, e_Plan_squareAt_40, e_Plan_squareAt_43, e_Plan_squareAt_44, e_Plan_squareAt_47, e_Plan_squareAt_48, e_Plan_squareAt_49, e_Plan_squareAt_52, e_Plan_squareAt_54, kR_l, kR_r, kP_0, kP_i, kP_r, kP_n, kP_s, kP_o, kLen_I, kLen_L, kLen_R, kLdI_0, kLdI_1, kLdI_2, kLdI_3, kStI_0, kStI_1, kLdL_e, kStL_e, kLdR_e, kStR_e, kFld_e, kNth_0, kNth_s, kPut_e, fit_I, fit_Z, fit_B, fit_C, fit_A, fit_O, Option.toList_some, Option.toList_none, List.cons_append, List.nil_append, true_and, and_true, List.set_cons_zero, List.set_cons_succ, st_hp, st_same, nw_hp, h1, h2]
  sorry
end PL1

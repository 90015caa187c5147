/-! THE PURE LEVEL: sums, loops, arrays -/
theorem st_hp (σ : AS) (a : Nat) (o : AO) (b : Nat) : (am_st σ a o).1 b = if b = a then some o else σ.1 b := rfl
theorem nw_hp (σ : AS) (o : AO) (k : Nat) (b : Nat) : (am_nw σ o k).1 b = if b = σ.2.1 then some o else σ.1 b := rfl
theorem st_same (σ : AS) (a : Nat) (o o' : AO) : am_st (am_st σ a o) a o' = am_st σ a o' := by
  unfold am_st am_up
  refine Prod.ext (funext fun b => ?_) rfl
  show (if b = a then some o' else if b = a then some o else σ.1 b) = if b = a then some o' else σ.1 b
  split <;> rfl
theorem st_id (σ : AS) (a : Nat) (o : AO) (h : σ.1 a = some o) : am_st σ a o = σ := by
  unfold am_st am_up
  refine Prod.ext (funext fun b => ?_) rfl
  show (if b = a then some o else σ.1 b) = σ.1 b
  split
  · rename_i e
    rw [e, h]
  · rfl
/-- a loop upwards -/
theorem up (P : Nat → Prop) {n : Nat} (h : ∀ i, i < n → P (i + 1) → P i) (hn : P n) : P 0 := by
  have key : ∀ k i, i + k = n → P i := by
    intro k
    induction k with
    | zero =>
      intro i e
      rw [show i = n by omega]
      exact hn
    | succ k ih =>
      intro i e
      exact h i (by omega) (ih (i + 1) (by omega))
  exact key n 0 (by omega)
/-- a loop upwards over states of which something is known -/
theorem upS {S : Type} (P : Nat → S → Prop) (I : Nat → S → Prop) {n : Nat} (h : ∀ i s, i < n → I i s → (∀ s', I (i + 1) s' → P (i + 1) s') → P i s) (hn : ∀ s, I n s → P n s) : ∀ s, I 0 s → P 0 s :=
  up (fun i => ∀ s, I i s → P i s) (fun i hi ih s hs => h i s hi hs ih) hn
/-- sums -/
def sumTo (f : Nat → Int) : Nat → Int
  | 0 => 0
  | n + 1 => sumTo f n + f n
theorem sum_0 (f : Nat → Int) : sumTo f 0 = 0 := rfl
theorem sum_s (f : Nat → Int) (n : Nat) : sumTo f (n + 1) = sumTo f n + f n := rfl
theorem sum_bd {f : Nat → Int} {a b : Int} : ∀ n, (∀ i, i < n → a ≤ f i ∧ f i ≤ b) → n * a ≤ sumTo f n ∧ sumTo f n ≤ n * b
  | 0, _ => by simp [sumTo]
  | n + 1, h => by
    have h1 := sum_bd n (fun i hi => h i (by omega))
    have h2 := h n (by omega)
    rw [sum_s, Int.natCast_add, Int.add_mul, Int.add_mul]
    omega
theorem sum_eq {f g : Nat → Int} : ∀ n, (∀ i, i < n → f i = g i) → sumTo f n = sumTo g n
  | 0, _ => rfl
  | n + 1, h => by rw [sum_s, sum_s, sum_eq n (fun i hi => h i (by omega)), h n (by omega)]
/-- one or nothing -/
def b01 (c : Prop) [Decidable c] : Int := if c then 1 else 0
theorem b01_t {c : Prop} [Decidable c] (h : c) : b01 c = 1 := if_pos h
theorem b01_f {c : Prop} [Decidable c] (h : ¬ c) : b01 c = 0 := if_neg h
theorem b01_bd (c : Prop) [Decidable c] : 0 ≤ b01 c ∧ b01 c ≤ 1 := by
  unfold b01
  split <;> omega
theorem cnt_bd {c : Nat → Prop} [∀ i, Decidable (c i)] (n : Nat) : 0 ≤ sumTo (fun i => b01 (c i)) n ∧ sumTo (fun i => b01 (c i)) n ≤ n := by
  have := sum_bd (f := fun i => b01 (c i)) (a := 0) (b := 1) n (fun i _ => b01_bd _)
  omega
theorem upI_at (f : Nat → Int) (k : Nat) (v : Int) (j : Nat) : upI f k v j = if j = k then v else f j := rfl
theorem kRcv_0 (fs : List AV) (P : Prop) : kRcv (some (oC 0 fs)) 0 P = P := kRcv_e fs P (by decide)
theorem kRcv_1 (fs : List AV) (P : Prop) : kRcv (some (oC 1 fs)) 1 P = P := kRcv_e fs P (by decide)
theorem kRcv_2 (fs : List AV) (P : Prop) : kRcv (some (oC 2 fs)) 2 P = P := kRcv_e fs P (by decide)
theorem kRcv_3 (fs : List AV) (P : Prop) : kRcv (some (oC 3 fs)) 3 P = P := kRcv_e fs P (by decide)
theorem kRcv_4 (fs : List AV) (P : Prop) : kRcv (some (oC 4 fs)) 4 P = P := kRcv_e fs P (by decide)
theorem kRcv_5 (fs : List AV) (P : Prop) : kRcv (some (oC 5 fs)) 5 P = P := kRcv_e fs P (by decide)
theorem sum_zero {f : Nat → Int} : ∀ n, (∀ i, i < n → f i = 0) → sumTo f n = 0
  | 0, _ => rfl
  | n + 1, h => by rw [sum_s, sum_zero n (fun i hi => h i (by omega)), h n (by omega)]; rfl
theorem sum_app (f : Nat → Int) (a : Nat) : ∀ b, sumTo f (a + b) = sumTo f a + sumTo (fun i => f (a + i)) b
  | 0 => by simp [sumTo]
  | b + 1 => by rw [show a + (b + 1) = (a + b) + 1 by omega, sum_s, sum_s, sum_app f a b]; omega
/-- two loops as one -/
theorem sum_flat (g : Nat → Nat → Int) (m : Nat) (hm : 0 < m) : ∀ n, sumTo (fun a => sumTo (g a) m) n = sumTo (fun k => g (k / m) (k % m)) (n * m)
  | 0 => by simp [sumTo]
  | n + 1 => by
    rw [sum_s, sum_flat g m hm n, Nat.add_mul, Nat.one_mul, sum_app]
    congr 1
    refine sum_eq m fun i hi => ?_
    rw [Nat.add_comm (n * m) i, Nat.add_mul_div_right _ _ hm, Nat.add_mul_mod_self_right, Nat.div_eq_of_lt hi, Nat.mod_eq_of_lt hi, Nat.zero_add]
theorem sum_add (f g : Nat → Int) : ∀ n, sumTo (fun i => f i + g i) n = sumTo f n + sumTo g n
  | 0 => rfl
  | n + 1 => by rw [sum_s, sum_s, sum_s, sum_add f g n]; omega
theorem sum_comm (g : Nat → Nat → Int) (m : Nat) : ∀ n, sumTo (fun a => sumTo (fun b => g a b) m) n = sumTo (fun b => sumTo (fun a => g a b) n) m
  | 0 => by rw [sum_0, sum_zero]; intro i _; rfl
  | n + 1 => by
    rw [sum_s, sum_comm g m n, ← sum_add]
    rfl
theorem upF (P : Nat → Prop) {a n : Nat} (ha : a ≤ n) (h : ∀ i, a ≤ i → i < n → P (i + 1) → P i) (hn : P n) : P a := by
  have := up (fun i => P (a + i)) (n := n - a) (fun i hi ih => h (a + i) (by omega) (by omega) ih) (by rw [show a + (n - a) = n by omega]; exact hn)
  exact this
section PL1
variable {G : Nat → Nat} {σ : AS} {Q : (Option AV ⊕ Nat) → AS → Prop}
/-- CorridorPlan.at, put, clearMarks, copyRow -/
theorem s_Cp_at {a n t : Nat} {j : Int} {f : Nat → Int} (h : σ.1 a = some (oI t n f)) (ht : t = 0 ∨ t = 2) (hn : n < 100000) (hj : inR j) : CW G k_Cp_at [vR a, vI j] σ Q = Q (.inl (some (vI (if 0 ≤ j ∧ j < n then f j.toNat else 0)))) σ := by
  apply CW.det
  rcases ht with rfl | rfl <;> simp only [c_Cp_at, e_Cp_at_0, e_Cp_at_1, e_Cp_at_4, e_Cp_at_5, e_Cp_at_6, e_Cp_at_7, e_Cp_at_10, e_Cp_at_11, e_Cp_at_12, e_Cp_at_13, e_Cp_at_16, e_Cp_at_17, kR_l, kR_r, kP_0, kP_i, kP_r, kP_n, kP_s, kP_o, kLen_I, kLen_L, kLen_R, kLdI_0, kLdI_1, kLdI_2, kLdI_3, kStI_0, kStI_1, kLdL_e, kStL_e, kLdR_e, kStR_e, kFld_e, kNth_0, kNth_s, kPut_e, fit_I, fit_Z, fit_B, fit_C, fit_A, fit_O, Option.toList_some, Option.toList_none, List.cons_append, List.nil_append, true_and, and_true, List.set_cons_zero, List.set_cons_succ, st_same, Int.toNat_natCast, Int.cast_ofNat_Int, Nat.zero_add, Nat.reduceAdd, kRcv_1, kRcv_2, kRcv_3, kRcv_0, kRcv_4, kRcv_5, h]
  all_goals
    by_cases hc : 0 ≤ j ∧ j < n
    · simp only [if_pos hc]
      all_goals ((repeat' (first | with_reducible refine And.intro ?_ ?_ | intro _)) <;> first | assumption | exact True.intro | omega | (simp only [inR] at *; omega) | with_reducible rfl | rfl | (simp; done) | (exfalso; simp_all; done) | skip)
    · simp only [if_neg hc]
      all_goals ((repeat' (first | with_reducible refine And.intro ?_ ?_ | intro _)) <;> first | assumption | exact True.intro | omega | (simp only [inR] at *; omega) | with_reducible rfl | rfl | (simp; done) | (exfalso; simp_all; done) | skip)
end PL1

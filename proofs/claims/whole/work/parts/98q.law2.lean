/-! THE LAW: its cases -/
def LI (G : Nat → Nat) (B L : Nat) (fx : Nat → Int) (σ : AS) (X : XS) : Prop := ClsX G σ B X ∧ GdX X ∧ (∃ (m : Nat → Int) (A : Nat → Nat → Int), IsMd σ (B + 46) m A ∧ MdX m A X) ∧ (∃ f, σ.1 (B + 58) = some (oL 1 f)) ∧ σ.1 (G 1) = some (oI 2 L fx)
def Cnt (σ σ2 : AS) : Prop := σ2.2.2.1 ≤ σ.2.2.1 + 1 ∧ σ2.2.2.2 ≤ σ.2.2.2 + 6
def NxQ (G : Nat → Nat) (B L : Nat) (fx : Nat → Int) (σ : AS) (i : Nat) (Q : (Option AV ⊕ Nat) → AS → Prop) : Prop := ∀ (σ2 : AS) (X2 : XS) (z5 z6 z7 z8 : Option AV), LI G B L fx σ2 X2 → Cnt σ σ2 → WP G k_Law_law 1244 [some (vR (G 1)), some (vR B), some (vR (B + 46)), some (vR (B + 58)), some (vI (i : Nat)), z5, z6, z7, z8] [] σ2 Q
theorem md_id {G : Nat → Nat} {σ : AS} {Q : (Option AV ⊕ Nat) → AS → Prop} {M : Nat} {m : Nat → Int} {A : Nat → Nat → Int} {k : Nat} {as : List AV} (hy : IsMd σ M m A) (h : CW G k as (setMd σ M m A) Q) : CW G k as σ Q := by
  rw [setMd_id hy] at h
  exact h
theorem md_rc {σ : AS} {M : Nat} {m : Nat → Int} {A : Nat → Nat → Int} (h : IsMd σ M m A) (P : Prop) : kRcv (σ.1 M) 5 P = P := by
  rw [h.1]
  exact kRcv_e _ _ (by decide)
theorem setMd_fr (σ : AS) (M : Nat) (m : Nat → Int) (A : Nat → Nat → Int) : FrB M (M + 12) σ (setMd σ M m A) := ⟨fun a ha => setMd_out (by omega), rfl⟩
theorem LI.md {G : Nat → Nat} {B L : Nat} {fx : Nat → Int} {σ σ' : AS} {X' : XS} {m' : Nat → Int} {A' : Nat → Nat → Int} {f : Nat → Int64} (hG : G 0 ≤ B) (hG1 : G 1 < G 0) (hC : ClsX G σ' B X') (hg : GdX X') (hf : σ'.1 (B + 58) = some (oL 1 f)) (hS : σ'.1 (G 1) = some (oI 2 L fx)) (hM : MdX m' A' X') : LI G B L fx (setMd σ' (B + 46) m' A') X' := ⟨ClsI.out hC hG (setMd_fr _ _ _ _) (by omega), hg, ⟨m', A', setMd_is _ _ _ _, hM⟩, ⟨f, by rw [setMd_out (by omega)]; exact hf⟩, by rw [setMd_out (by omega)]; exact hS⟩
section LW2
variable {G : Nat → Nat} {B L i : Nat} {fx : Nat → Int} {σ : AS} {X : XS} {Q : (Option AV ⊕ Nat) → AS → Prop} {z5 z6 z7 z8 : Option AV}
theorem c_kroom (h : LI G B L fx σ X) (hi : i + 5 ≤ L) (hL : L ≤ 2560) (hx : ∀ j, j < L → inR (fx j)) (hG : G 0 ≤ B) (hG1 : G 1 < G 0) (nx : NxQ G B L fx σ i Q) : WP G k_Law_law 140 [some (vR (G 1)), some (vR B), some (vR (B + 46)), some (vR (B + 58)), some (vI (i : Nat)), z5, z6, z7, z8] [] σ Q := by
  obtain ⟨hC, hI, ⟨m, A, hmd, hMX⟩, hO, hS⟩ := h
  have t1 : ((i : Int) + 1).toNat = i + 1 := by omega
  have t2 : ((i : Int) + 2).toNat = i + 2 := by omega
  have t3 : ((i : Int) + 3).toNat = i + 3 := by omega
  have t4 : ((i : Int) + 4).toNat = i + 4 := by omega
  obtain ⟨X', k, v, hGd, hk, hLR, hMR⟩ := p_room (s := X.1) (kp := X.2.1) (p := X.2.2.1) (n := X.2.2.2.1) (t := X.2.2.2.2) hC hI hG hO (hx (i + 1) (by omega)) (hx (i + 2) (by omega)) (hx (i + 3) (by omega)) (hx (i + 4) (by omega))
  simp only [e_Law_law_140, e_Law_law_141, e_Law_law_142, e_Law_law_144, e_Law_law_145, e_Law_law_146, e_Law_law_147, e_Law_law_148, e_Law_law_150, e_Law_law_151, e_Law_law_152, e_Law_law_153, e_Law_law_154, e_Law_law_156, e_Law_law_157, e_Law_law_158, e_Law_law_159, e_Law_law_160, e_Law_law_162, e_Law_law_163, e_Law_law_164, e_Law_law_165, e_Law_law_166, kR_l, kR_r, kP_0, kP_i, kP_r, kP_n, kP_s, kP_o, kLen_I, kLen_L, kLen_R, kLdI_0, kLdI_1, kLdI_2, kLdI_3, kStI_0, kStI_1, kLdL_e, kStL_e, kLdR_e, kStR_e, kFld_e, kNth_0, kNth_s, kPut_e, fit_I, fit_Z, fit_B, fit_C, fit_A, fit_O, Option.toList_some, Option.toList_none, List.cons_append, List.nil_append, true_and, and_true, List.set_cons_zero, List.set_cons_succ, st_same, Int.toNat_natCast, Int.cast_ofNat_Int, Nat.zero_add, Nat.reduceAdd, kRcv_1, kRcv_2, kRcv_3, kRcv_0, kRcv_4, kRcv_5, hS, t1, t2, t3, t4]
  refine ⟨⟨by omega, by omega, by omega⟩, ⟨by omega, by omega, by omega⟩, ⟨by omega, by omega, by omega⟩, ⟨by omega, by omega, by omega⟩, ?_⟩
  refine hLR _ (fun σ1 hC1 fO hf => ?_)
  obtain ⟨f, hf1, hf2⟩ := hf
  have hS1 : σ1.1 (G 1) = some (oI 2 L fx) := by rw [fO.1 _ (by omega) (by omega)]; exact hS
  have hmd1 : IsMd σ1 (B + 46) m A := ⟨by rw [fO.1 _ (by omega) (by omega)]; exact hmd.1, fun j j1 j2 => by rw [fO.1 _ (by omega) (by omega)]; exact hmd.2 j j1 j2⟩
  have hrc := md_rc hmd1
  simp only [e_Law_law_169, e_Law_law_171, e_Law_law_172, e_Law_law_173, e_Law_law_175, e_Law_law_176, e_Law_law_177, e_Law_law_178, e_Law_law_179, e_Law_law_181, e_Law_law_182, e_Law_law_183, e_Law_law_184, e_Law_law_185, e_Law_law_187, e_Law_law_188, e_Law_law_189, e_Law_law_190, e_Law_law_191, e_Law_law_193, e_Law_law_194, e_Law_law_195, e_Law_law_196, kR_l, kR_r, kP_0, kP_i, kP_r, kP_n, kP_s, kP_o, kLen_I, kLen_L, kLen_R, kLdI_0, kLdI_1, kLdI_2, kLdI_3, kStI_0, kStI_1, kLdL_e, kStL_e, kLdR_e, kStR_e, kFld_e, kNth_0, kNth_s, kPut_e, fit_I, fit_Z, fit_B, fit_C, fit_A, fit_O, Option.toList_some, Option.toList_none, List.cons_append, List.nil_append, true_and, and_true, List.set_cons_zero, List.set_cons_succ, st_same, Int.toNat_natCast, Int.cast_ofNat_Int, Nat.zero_add, Nat.reduceAdd, kRcv_1, kRcv_2, kRcv_3, kRcv_0, kRcv_4, kRcv_5, hS1, hrc, t1, t2, t3, t4]
  refine ⟨⟨by omega, by omega, by omega⟩, ⟨by omega, by omega, by omega⟩, ⟨by omega, by omega, by omega⟩, ⟨by omega, by omega, by omega⟩, ?_⟩
  refine md_id hmd1 (hMR σ1 m A _ hMX (fun m2 A2 b h1 h2 h3 => ?_))
  have hLI := LI.md (σ := σ) hG hG1 hC1 hGd hf1 hS1 h1
  have hf3 : (setMd σ1 (B + 46) m2 A2).1 (B + 58) = some (oL 1 f) := by rw [setMd_out (by omega)]; exact hf1
  have fin := fun z5 z6 z7 z8 => nx (setMd σ1 (B + 46) m2 A2) X' z5 z6 z7 z8 hLI fO.2
  clear nx hLR hMR
  simp only [e_Law_law_199, e_Law_law_201, e_Law_law_202, kR_l, kR_r, kP_0, kP_i, kP_r, kP_n, kP_s, kP_o, kLen_I, kLen_L, kLen_R, kLdI_0, kLdI_1, kLdI_2, kLdI_3, kStI_0, kStI_1, kLdL_e, kStL_e, kLdR_e, kStR_e, kFld_e, kNth_0, kNth_s, kPut_e, fit_I, fit_Z, fit_B, fit_C, fit_A, fit_O, Option.toList_some, Option.toList_none, List.cons_append, List.nil_append, true_and, and_true, List.set_cons_zero, List.set_cons_succ, st_same, Int.toNat_natCast, Int.cast_ofNat_Int, Nat.zero_add, Nat.reduceAdd, kRcv_1, kRcv_2, kRcv_3, kRcv_0, kRcv_4, kRcv_5, setMd_set, Mdo, Mda1, Mdw1, Mda2, Mdw2, Mda3, Mdw3, Mda4, Mdw4, Mda5, Mdw5, Mda6, Mdw6, Mda7, Mdw7, Mda8, Mdw8, Mda9, Mdw9, Mda10, Mdw10, Mda11, Mdw11, Mdp3, Mdp5, Mdp6, Mdp7, Mdp8, Mdp10, Mdp16, Mdp17, Mdp18]
  rw [s_Model_thrown, h2]
  simp only [e_Law_law_205, e_Law_law_207, kR_l, kR_r, kP_0, kP_i, kP_r, kP_n, kP_s, kP_o, kLen_I, kLen_L, kLen_R, kLdI_0, kLdI_1, kLdI_2, kLdI_3, kStI_0, kStI_1, kLdL_e, kStL_e, kLdR_e, kStR_e, kFld_e, kNth_0, kNth_s, kPut_e, fit_I, fit_Z, fit_B, fit_C, fit_A, fit_O, Option.toList_some, Option.toList_none, List.cons_append, List.nil_append, true_and, and_true, List.set_cons_zero, List.set_cons_succ, st_same, Int.toNat_natCast, Int.cast_ofNat_Int, Nat.zero_add, Nat.reduceAdd, kRcv_1, kRcv_2, kRcv_3, kRcv_0, kRcv_4, kRcv_5]
  refine ⟨⟨by unfold inR; omega, by unfold inR; omega⟩, fun _ => ?_, fun z => absurd trivial z⟩
  simp only [e_Law_law_212, e_Law_law_214, kR_l, kR_r, kP_0, kP_i, kP_r, kP_n, kP_s, kP_o, kLen_I, kLen_L, kLen_R, kLdI_0, kLdI_1, kLdI_2, kLdI_3, kStI_0, kStI_1, kLdL_e, kStL_e, kLdR_e, kStR_e, kFld_e, kNth_0, kNth_s, kPut_e, fit_I, fit_Z, fit_B, fit_C, fit_A, fit_O, Option.toList_some, Option.toList_none, List.cons_append, List.nil_append, true_and, and_true, List.set_cons_zero, List.set_cons_succ, st_same, Int.toNat_natCast, Int.cast_ofNat_Int, Nat.zero_add, Nat.reduceAdd, kRcv_1, kRcv_2, kRcv_3, kRcv_0, kRcv_4, kRcv_5]
  refine ⟨by unfold inR; omega, fun _ => ?_, fun c => ?_⟩
  · simp only [e_Law_law_229, kR_l, kR_r, kP_0, kP_i, kP_r, kP_n, kP_s, kP_o, kLen_I, kLen_L, kLen_R, kLdI_0, kLdI_1, kLdI_2, kLdI_3, kStI_0, kStI_1, kLdL_e, kStL_e, kLdR_e, kStR_e, kFld_e, kNth_0, kNth_s, kPut_e, fit_I, fit_Z, fit_B, fit_C, fit_A, fit_O, Option.toList_some, Option.toList_none, List.cons_append, List.nil_append, true_and, and_true, List.set_cons_zero, List.set_cons_succ, st_same, Int.toNat_natCast, Int.cast_ofNat_Int, Nat.zero_add, Nat.reduceAdd, kRcv_1, kRcv_2, kRcv_3, kRcv_0, kRcv_4, kRcv_5]
    exact fin _ _ _ _
  · have k0 : k = 0 := Classical.byContradiction c
    simp only [e_Law_law_217, e_Law_law_218, e_Law_law_219, e_Law_law_220, e_Law_law_222, e_Law_law_223, kR_l, kR_r, kP_0, kP_i, kP_r, kP_n, kP_s, kP_o, kLen_I, kLen_L, kLen_R, kLdI_0, kLdI_1, kLdI_2, kLdI_3, kStI_0, kStI_1, kLdL_e, kStL_e, kLdR_e, kStR_e, kFld_e, kNth_0, kNth_s, kPut_e, fit_I, fit_Z, fit_B, fit_C, fit_A, fit_O, Option.toList_some, Option.toList_none, List.cons_append, List.nil_append, true_and, and_true, List.set_cons_zero, List.set_cons_succ, st_same, Int.toNat_natCast, Int.cast_ofNat_Int, Nat.zero_add, Nat.reduceAdd, kRcv_1, kRcv_2, kRcv_3, kRcv_0, kRcv_4, kRcv_5, hf3, Int.reduceToNat]
    rw [hf2 k0, h3 k0, lcmp0]
    refine ⟨⟨by omega, by omega, by omega⟩, ?_⟩
    simp only [e_Law_law_224, e_Law_law_229, kR_l, kR_r, kP_0, kP_i, kP_r, kP_n, kP_s, kP_o, kLen_I, kLen_L, kLen_R, kLdI_0, kLdI_1, kLdI_2, kLdI_3, kStI_0, kStI_1, kLdL_e, kStL_e, kLdR_e, kStR_e, kFld_e, kNth_0, kNth_s, kPut_e, fit_I, fit_Z, fit_B, fit_C, fit_A, fit_O, Option.toList_some, Option.toList_none, List.cons_append, List.nil_append, true_and, and_true, List.set_cons_zero, List.set_cons_succ, st_same, Int.toNat_natCast, Int.cast_ofNat_Int, Nat.zero_add, Nat.reduceAdd, kRcv_1, kRcv_2, kRcv_3, kRcv_0, kRcv_4, kRcv_5]
    exact ⟨by unfold inR; omega, fun _ => fin _ _ _ _, fun z => absurd trivial z⟩
theorem c_kgive (h : LI G B L fx σ X) (hi : i + 5 ≤ L) (hL : L ≤ 2560) (hx : ∀ j, j < L → inR (fx j)) (hG : G 0 ≤ B) (hG1 : G 1 < G 0) (nx : NxQ G B L fx σ i Q) : WP G k_Law_law 232 [some (vR (G 1)), some (vR B), some (vR (B + 46)), some (vR (B + 58)), some (vI (i : Nat)), z5, z6, z7, z8] [] σ Q := by
  obtain ⟨hC, hI, ⟨m, A, hmd, hMX⟩, hO, hS⟩ := h
  have t1 : ((i : Int) + 1).toNat = i + 1 := by omega
  have t2 : ((i : Int) + 2).toNat = i + 2 := by omega
  have t3 : ((i : Int) + 3).toNat = i + 3 := by omega
  have t4 : ((i : Int) + 4).toNat = i + 4 := by omega
  obtain ⟨X', k, v, hGd, hk, hLR, hMR⟩ := p_give (s := X.1) (kp := X.2.1) (p := X.2.2.1) (n := X.2.2.2.1) (t := X.2.2.2.2) hC hI hG hO (hx (i + 1) (by omega))
  simp only [e_Law_law_232, e_Law_law_233, e_Law_law_234, e_Law_law_236, e_Law_law_237, e_Law_law_238, e_Law_law_239, e_Law_law_240, kR_l, kR_r, kP_0, kP_i, kP_r, kP_n, kP_s, kP_o, kLen_I, kLen_L, kLen_R, kLdI_0, kLdI_1, kLdI_2, kLdI_3, kStI_0, kStI_1, kLdL_e, kStL_e, kLdR_e, kStR_e, kFld_e, kNth_0, kNth_s, kPut_e, fit_I, fit_Z, fit_B, fit_C, fit_A, fit_O, Option.toList_some, Option.toList_none, List.cons_append, List.nil_append, true_and, and_true, List.set_cons_zero, List.set_cons_succ, st_same, Int.toNat_natCast, Int.cast_ofNat_Int, Nat.zero_add, Nat.reduceAdd, kRcv_1, kRcv_2, kRcv_3, kRcv_0, kRcv_4, kRcv_5, hS, t1, t2, t3, t4]
  refine ⟨⟨by omega, by omega, by omega⟩, ?_⟩
  refine hLR _ (fun σ1 hC1 fO hf => ?_)
  obtain ⟨f, hf1, hf2⟩ := hf
  have hS1 : σ1.1 (G 1) = some (oI 2 L fx) := by rw [fO.1 _ (by omega) (by omega)]; exact hS
  have hmd1 : IsMd σ1 (B + 46) m A := ⟨by rw [fO.1 _ (by omega) (by omega)]; exact hmd.1, fun j j1 j2 => by rw [fO.1 _ (by omega) (by omega)]; exact hmd.2 j j1 j2⟩
  have hrc := md_rc hmd1
  simp only [e_Law_law_243, e_Law_law_245, e_Law_law_246, e_Law_law_247, e_Law_law_249, e_Law_law_250, e_Law_law_251, e_Law_law_252, kR_l, kR_r, kP_0, kP_i, kP_r, kP_n, kP_s, kP_o, kLen_I, kLen_L, kLen_R, kLdI_0, kLdI_1, kLdI_2, kLdI_3, kStI_0, kStI_1, kLdL_e, kStL_e, kLdR_e, kStR_e, kFld_e, kNth_0, kNth_s, kPut_e, fit_I, fit_Z, fit_B, fit_C, fit_A, fit_O, Option.toList_some, Option.toList_none, List.cons_append, List.nil_append, true_and, and_true, List.set_cons_zero, List.set_cons_succ, st_same, Int.toNat_natCast, Int.cast_ofNat_Int, Nat.zero_add, Nat.reduceAdd, kRcv_1, kRcv_2, kRcv_3, kRcv_0, kRcv_4, kRcv_5, hS1, hrc, t1, t2, t3, t4]
  refine ⟨⟨by omega, by omega, by omega⟩, ?_⟩
  refine md_id hmd1 (hMR σ1 m A _ hMX (fun m2 A2 b h1 h2 h3 => ?_))
  have hLI := LI.md (σ := σ) hG hG1 hC1 hGd hf1 hS1 h1
  have hf3 : (setMd σ1 (B + 46) m2 A2).1 (B + 58) = some (oL 1 f) := by rw [setMd_out (by omega)]; exact hf1
  have fin := fun z5 z6 z7 z8 => nx (setMd σ1 (B + 46) m2 A2) X' z5 z6 z7 z8 hLI fO.2
  clear nx hLR hMR
  simp only [e_Law_law_255, e_Law_law_257, e_Law_law_258, kR_l, kR_r, kP_0, kP_i, kP_r, kP_n, kP_s, kP_o, kLen_I, kLen_L, kLen_R, kLdI_0, kLdI_1, kLdI_2, kLdI_3, kStI_0, kStI_1, kLdL_e, kStL_e, kLdR_e, kStR_e, kFld_e, kNth_0, kNth_s, kPut_e, fit_I, fit_Z, fit_B, fit_C, fit_A, fit_O, Option.toList_some, Option.toList_none, List.cons_append, List.nil_append, true_and, and_true, List.set_cons_zero, List.set_cons_succ, st_same, Int.toNat_natCast, Int.cast_ofNat_Int, Nat.zero_add, Nat.reduceAdd, kRcv_1, kRcv_2, kRcv_3, kRcv_0, kRcv_4, kRcv_5, setMd_set, Mdo, Mda1, Mdw1, Mda2, Mdw2, Mda3, Mdw3, Mda4, Mdw4, Mda5, Mdw5, Mda6, Mdw6, Mda7, Mdw7, Mda8, Mdw8, Mda9, Mdw9, Mda10, Mdw10, Mda11, Mdw11, Mdp3, Mdp5, Mdp6, Mdp7, Mdp8, Mdp10, Mdp16, Mdp17, Mdp18]
  rw [s_Model_thrown, h2]
  simp only [e_Law_law_261, e_Law_law_263, kR_l, kR_r, kP_0, kP_i, kP_r, kP_n, kP_s, kP_o, kLen_I, kLen_L, kLen_R, kLdI_0, kLdI_1, kLdI_2, kLdI_3, kStI_0, kStI_1, kLdL_e, kStL_e, kLdR_e, kStR_e, kFld_e, kNth_0, kNth_s, kPut_e, fit_I, fit_Z, fit_B, fit_C, fit_A, fit_O, Option.toList_some, Option.toList_none, List.cons_append, List.nil_append, true_and, and_true, List.set_cons_zero, List.set_cons_succ, st_same, Int.toNat_natCast, Int.cast_ofNat_Int, Nat.zero_add, Nat.reduceAdd, kRcv_1, kRcv_2, kRcv_3, kRcv_0, kRcv_4, kRcv_5]
  refine ⟨⟨by unfold inR; omega, by unfold inR; omega⟩, fun _ => ?_, fun z => absurd trivial z⟩
  simp only [e_Law_law_268, e_Law_law_270, kR_l, kR_r, kP_0, kP_i, kP_r, kP_n, kP_s, kP_o, kLen_I, kLen_L, kLen_R, kLdI_0, kLdI_1, kLdI_2, kLdI_3, kStI_0, kStI_1, kLdL_e, kStL_e, kLdR_e, kStR_e, kFld_e, kNth_0, kNth_s, kPut_e, fit_I, fit_Z, fit_B, fit_C, fit_A, fit_O, Option.toList_some, Option.toList_none, List.cons_append, List.nil_append, true_and, and_true, List.set_cons_zero, List.set_cons_succ, st_same, Int.toNat_natCast, Int.cast_ofNat_Int, Nat.zero_add, Nat.reduceAdd, kRcv_1, kRcv_2, kRcv_3, kRcv_0, kRcv_4, kRcv_5]
  refine ⟨by unfold inR; omega, fun _ => ?_, fun c => ?_⟩
  · simp only [e_Law_law_285, kR_l, kR_r, kP_0, kP_i, kP_r, kP_n, kP_s, kP_o, kLen_I, kLen_L, kLen_R, kLdI_0, kLdI_1, kLdI_2, kLdI_3, kStI_0, kStI_1, kLdL_e, kStL_e, kLdR_e, kStR_e, kFld_e, kNth_0, kNth_s, kPut_e, fit_I, fit_Z, fit_B, fit_C, fit_A, fit_O, Option.toList_some, Option.toList_none, List.cons_append, List.nil_append, true_and, and_true, List.set_cons_zero, List.set_cons_succ, st_same, Int.toNat_natCast, Int.cast_ofNat_Int, Nat.zero_add, Nat.reduceAdd, kRcv_1, kRcv_2, kRcv_3, kRcv_0, kRcv_4, kRcv_5]
    exact fin _ _ _ _
  · have k0 : k = 0 := Classical.byContradiction c
    simp only [e_Law_law_273, e_Law_law_274, e_Law_law_275, e_Law_law_276, e_Law_law_278, e_Law_law_279, kR_l, kR_r, kP_0, kP_i, kP_r, kP_n, kP_s, kP_o, kLen_I, kLen_L, kLen_R, kLdI_0, kLdI_1, kLdI_2, kLdI_3, kStI_0, kStI_1, kLdL_e, kStL_e, kLdR_e, kStR_e, kFld_e, kNth_0, kNth_s, kPut_e, fit_I, fit_Z, fit_B, fit_C, fit_A, fit_O, Option.toList_some, Option.toList_none, List.cons_append, List.nil_append, true_and, and_true, List.set_cons_zero, List.set_cons_succ, st_same, Int.toNat_natCast, Int.cast_ofNat_Int, Nat.zero_add, Nat.reduceAdd, kRcv_1, kRcv_2, kRcv_3, kRcv_0, kRcv_4, kRcv_5, hf3, Int.reduceToNat]
    rw [hf2 k0, h3 k0, lcmp0]
    refine ⟨⟨by omega, by omega, by omega⟩, ?_⟩
    simp only [e_Law_law_280, e_Law_law_285, kR_l, kR_r, kP_0, kP_i, kP_r, kP_n, kP_s, kP_o, kLen_I, kLen_L, kLen_R, kLdI_0, kLdI_1, kLdI_2, kLdI_3, kStI_0, kStI_1, kLdL_e, kStL_e, kLdR_e, kStR_e, kFld_e, kNth_0, kNth_s, kPut_e, fit_I, fit_Z, fit_B, fit_C, fit_A, fit_O, Option.toList_some, Option.toList_none, List.cons_append, List.nil_append, true_and, and_true, List.set_cons_zero, List.set_cons_succ, st_same, Int.toNat_natCast, Int.cast_ofNat_Int, Nat.zero_add, Nat.reduceAdd, kRcv_1, kRcv_2, kRcv_3, kRcv_0, kRcv_4, kRcv_5]
    exact ⟨by unfold inR; omega, fun _ => fin _ _ _ _, fun z => absurd trivial z⟩
theorem c_kwalk (h : LI G B L fx σ X) (hi : i + 5 ≤ L) (hL : L ≤ 2560) (hx : ∀ j, j < L → inR (fx j)) (hG : G 0 ≤ B) (hG1 : G 1 < G 0) (nx : NxQ G B L fx σ i Q) : WP G k_Law_law 288 [some (vR (G 1)), some (vR B), some (vR (B + 46)), some (vR (B + 58)), some (vI (i : Nat)), z5, z6, z7, z8] [] σ Q := by
  obtain ⟨hC, hI, ⟨m, A, hmd, hMX⟩, hO, hS⟩ := h
  have t1 : ((i : Int) + 1).toNat = i + 1 := by omega
  have t2 : ((i : Int) + 2).toNat = i + 2 := by omega
  have t3 : ((i : Int) + 3).toNat = i + 3 := by omega
  have t4 : ((i : Int) + 4).toNat = i + 4 := by omega
  obtain ⟨X', k, v, hGd, hk, hLR, hMR⟩ := p_walk (s := X.1) (kp := X.2.1) (p := X.2.2.1) (n := X.2.2.2.1) (t := X.2.2.2.2) hC hI hG hO (hx (i + 1) (by omega)) (hx (i + 2) (by omega)) (hx (i + 3) (by omega))
  simp only [e_Law_law_288, e_Law_law_289, e_Law_law_290, e_Law_law_292, e_Law_law_293, e_Law_law_294, e_Law_law_295, e_Law_law_296, e_Law_law_298, e_Law_law_299, e_Law_law_300, e_Law_law_301, e_Law_law_302, e_Law_law_304, e_Law_law_305, e_Law_law_306, e_Law_law_307, e_Law_law_308, kR_l, kR_r, kP_0, kP_i, kP_r, kP_n, kP_s, kP_o, kLen_I, kLen_L, kLen_R, kLdI_0, kLdI_1, kLdI_2, kLdI_3, kStI_0, kStI_1, kLdL_e, kStL_e, kLdR_e, kStR_e, kFld_e, kNth_0, kNth_s, kPut_e, fit_I, fit_Z, fit_B, fit_C, fit_A, fit_O, Option.toList_some, Option.toList_none, List.cons_append, List.nil_append, true_and, and_true, List.set_cons_zero, List.set_cons_succ, st_same, Int.toNat_natCast, Int.cast_ofNat_Int, Nat.zero_add, Nat.reduceAdd, kRcv_1, kRcv_2, kRcv_3, kRcv_0, kRcv_4, kRcv_5, hS, t1, t2, t3, t4]
  refine ⟨⟨by omega, by omega, by omega⟩, ⟨by omega, by omega, by omega⟩, ⟨by omega, by omega, by omega⟩, ?_⟩
  refine hLR _ (fun σ1 hC1 fO hf => ?_)
  obtain ⟨f, hf1, hf2⟩ := hf
  have hS1 : σ1.1 (G 1) = some (oI 2 L fx) := by rw [fO.1 _ (by omega) (by omega)]; exact hS
  have hmd1 : IsMd σ1 (B + 46) m A := ⟨by rw [fO.1 _ (by omega) (by omega)]; exact hmd.1, fun j j1 j2 => by rw [fO.1 _ (by omega) (by omega)]; exact hmd.2 j j1 j2⟩
  have hrc := md_rc hmd1
  simp only [e_Law_law_311, e_Law_law_313, e_Law_law_314, e_Law_law_315, e_Law_law_317, e_Law_law_318, e_Law_law_319, e_Law_law_320, e_Law_law_321, e_Law_law_323, e_Law_law_324, e_Law_law_325, e_Law_law_326, e_Law_law_327, e_Law_law_329, e_Law_law_330, e_Law_law_331, e_Law_law_332, kR_l, kR_r, kP_0, kP_i, kP_r, kP_n, kP_s, kP_o, kLen_I, kLen_L, kLen_R, kLdI_0, kLdI_1, kLdI_2, kLdI_3, kStI_0, kStI_1, kLdL_e, kStL_e, kLdR_e, kStR_e, kFld_e, kNth_0, kNth_s, kPut_e, fit_I, fit_Z, fit_B, fit_C, fit_A, fit_O, Option.toList_some, Option.toList_none, List.cons_append, List.nil_append, true_and, and_true, List.set_cons_zero, List.set_cons_succ, st_same, Int.toNat_natCast, Int.cast_ofNat_Int, Nat.zero_add, Nat.reduceAdd, kRcv_1, kRcv_2, kRcv_3, kRcv_0, kRcv_4, kRcv_5, hS1, hrc, t1, t2, t3, t4]
  refine ⟨⟨by omega, by omega, by omega⟩, ⟨by omega, by omega, by omega⟩, ⟨by omega, by omega, by omega⟩, ?_⟩
  refine md_id hmd1 (hMR σ1 m A _ hMX (fun m2 A2 b h1 h2 h3 => ?_))
  have hLI := LI.md (σ := σ) hG hG1 hC1 hGd hf1 hS1 h1
  have hf3 : (setMd σ1 (B + 46) m2 A2).1 (B + 58) = some (oL 1 f) := by rw [setMd_out (by omega)]; exact hf1
  have fin := fun z5 z6 z7 z8 => nx (setMd σ1 (B + 46) m2 A2) X' z5 z6 z7 z8 hLI fO.2
  clear nx hLR hMR
  simp only [e_Law_law_335, e_Law_law_337, e_Law_law_338, kR_l, kR_r, kP_0, kP_i, kP_r, kP_n, kP_s, kP_o, kLen_I, kLen_L, kLen_R, kLdI_0, kLdI_1, kLdI_2, kLdI_3, kStI_0, kStI_1, kLdL_e, kStL_e, kLdR_e, kStR_e, kFld_e, kNth_0, kNth_s, kPut_e, fit_I, fit_Z, fit_B, fit_C, fit_A, fit_O, Option.toList_some, Option.toList_none, List.cons_append, List.nil_append, true_and, and_true, List.set_cons_zero, List.set_cons_succ, st_same, Int.toNat_natCast, Int.cast_ofNat_Int, Nat.zero_add, Nat.reduceAdd, kRcv_1, kRcv_2, kRcv_3, kRcv_0, kRcv_4, kRcv_5, setMd_set, Mdo, Mda1, Mdw1, Mda2, Mdw2, Mda3, Mdw3, Mda4, Mdw4, Mda5, Mdw5, Mda6, Mdw6, Mda7, Mdw7, Mda8, Mdw8, Mda9, Mdw9, Mda10, Mdw10, Mda11, Mdw11, Mdp3, Mdp5, Mdp6, Mdp7, Mdp8, Mdp10, Mdp16, Mdp17, Mdp18]
  rw [s_Model_thrown, h2]
  simp only [e_Law_law_341, e_Law_law_343, kR_l, kR_r, kP_0, kP_i, kP_r, kP_n, kP_s, kP_o, kLen_I, kLen_L, kLen_R, kLdI_0, kLdI_1, kLdI_2, kLdI_3, kStI_0, kStI_1, kLdL_e, kStL_e, kLdR_e, kStR_e, kFld_e, kNth_0, kNth_s, kPut_e, fit_I, fit_Z, fit_B, fit_C, fit_A, fit_O, Option.toList_some, Option.toList_none, List.cons_append, List.nil_append, true_and, and_true, List.set_cons_zero, List.set_cons_succ, st_same, Int.toNat_natCast, Int.cast_ofNat_Int, Nat.zero_add, Nat.reduceAdd, kRcv_1, kRcv_2, kRcv_3, kRcv_0, kRcv_4, kRcv_5]
  refine ⟨⟨by unfold inR; omega, by unfold inR; omega⟩, fun _ => ?_, fun z => absurd trivial z⟩
  simp only [e_Law_law_348, e_Law_law_350, kR_l, kR_r, kP_0, kP_i, kP_r, kP_n, kP_s, kP_o, kLen_I, kLen_L, kLen_R, kLdI_0, kLdI_1, kLdI_2, kLdI_3, kStI_0, kStI_1, kLdL_e, kStL_e, kLdR_e, kStR_e, kFld_e, kNth_0, kNth_s, kPut_e, fit_I, fit_Z, fit_B, fit_C, fit_A, fit_O, Option.toList_some, Option.toList_none, List.cons_append, List.nil_append, true_and, and_true, List.set_cons_zero, List.set_cons_succ, st_same, Int.toNat_natCast, Int.cast_ofNat_Int, Nat.zero_add, Nat.reduceAdd, kRcv_1, kRcv_2, kRcv_3, kRcv_0, kRcv_4, kRcv_5]
  refine ⟨by unfold inR; omega, fun _ => ?_, fun c => ?_⟩
  · simp only [e_Law_law_365, kR_l, kR_r, kP_0, kP_i, kP_r, kP_n, kP_s, kP_o, kLen_I, kLen_L, kLen_R, kLdI_0, kLdI_1, kLdI_2, kLdI_3, kStI_0, kStI_1, kLdL_e, kStL_e, kLdR_e, kStR_e, kFld_e, kNth_0, kNth_s, kPut_e, fit_I, fit_Z, fit_B, fit_C, fit_A, fit_O, Option.toList_some, Option.toList_none, List.cons_append, List.nil_append, true_and, and_true, List.set_cons_zero, List.set_cons_succ, st_same, Int.toNat_natCast, Int.cast_ofNat_Int, Nat.zero_add, Nat.reduceAdd, kRcv_1, kRcv_2, kRcv_3, kRcv_0, kRcv_4, kRcv_5]
    exact fin _ _ _ _
  · have k0 : k = 0 := Classical.byContradiction c
    simp only [e_Law_law_353, e_Law_law_354, e_Law_law_355, e_Law_law_356, e_Law_law_358, e_Law_law_359, kR_l, kR_r, kP_0, kP_i, kP_r, kP_n, kP_s, kP_o, kLen_I, kLen_L, kLen_R, kLdI_0, kLdI_1, kLdI_2, kLdI_3, kStI_0, kStI_1, kLdL_e, kStL_e, kLdR_e, kStR_e, kFld_e, kNth_0, kNth_s, kPut_e, fit_I, fit_Z, fit_B, fit_C, fit_A, fit_O, Option.toList_some, Option.toList_none, List.cons_append, List.nil_append, true_and, and_true, List.set_cons_zero, List.set_cons_succ, st_same, Int.toNat_natCast, Int.cast_ofNat_Int, Nat.zero_add, Nat.reduceAdd, kRcv_1, kRcv_2, kRcv_3, kRcv_0, kRcv_4, kRcv_5, hf3, Int.reduceToNat]
    rw [hf2 k0, h3 k0, lcmp0]
    refine ⟨⟨by omega, by omega, by omega⟩, ?_⟩
    simp only [e_Law_law_360, e_Law_law_365, kR_l, kR_r, kP_0, kP_i, kP_r, kP_n, kP_s, kP_o, kLen_I, kLen_L, kLen_R, kLdI_0, kLdI_1, kLdI_2, kLdI_3, kStI_0, kStI_1, kLdL_e, kStL_e, kLdR_e, kStR_e, kFld_e, kNth_0, kNth_s, kPut_e, fit_I, fit_Z, fit_B, fit_C, fit_A, fit_O, Option.toList_some, Option.toList_none, List.cons_append, List.nil_append, true_and, and_true, List.set_cons_zero, List.set_cons_succ, st_same, Int.toNat_natCast, Int.cast_ofNat_Int, Nat.zero_add, Nat.reduceAdd, kRcv_1, kRcv_2, kRcv_3, kRcv_0, kRcv_4, kRcv_5]
    exact ⟨by unfold inR; omega, fun _ => fin _ _ _ _, fun z => absurd trivial z⟩
theorem c_kdig (h : LI G B L fx σ X) (hi : i + 5 ≤ L) (hL : L ≤ 2560) (hx : ∀ j, j < L → inR (fx j)) (hG : G 0 ≤ B) (hG1 : G 1 < G 0) (nx : NxQ G B L fx σ i Q) : WP G k_Law_law 368 [some (vR (G 1)), some (vR B), some (vR (B + 46)), some (vR (B + 58)), some (vI (i : Nat)), z5, z6, z7, z8] [] σ Q := by
  obtain ⟨hC, hI, ⟨m, A, hmd, hMX⟩, hO, hS⟩ := h
  have t1 : ((i : Int) + 1).toNat = i + 1 := by omega
  have t2 : ((i : Int) + 2).toNat = i + 2 := by omega
  have t3 : ((i : Int) + 3).toNat = i + 3 := by omega
  have t4 : ((i : Int) + 4).toNat = i + 4 := by omega
  obtain ⟨X', k, v, hGd, hk, hLR, hMR⟩ := p_dig (s := X.1) (kp := X.2.1) (p := X.2.2.1) (n := X.2.2.2.1) (t := X.2.2.2.2) hC hI hG hO (hx (i + 1) (by omega)) (hx (i + 2) (by omega))
  simp only [e_Law_law_368, e_Law_law_369, e_Law_law_370, e_Law_law_372, e_Law_law_373, e_Law_law_374, e_Law_law_375, e_Law_law_376, e_Law_law_378, e_Law_law_379, e_Law_law_380, e_Law_law_381, e_Law_law_382, kR_l, kR_r, kP_0, kP_i, kP_r, kP_n, kP_s, kP_o, kLen_I, kLen_L, kLen_R, kLdI_0, kLdI_1, kLdI_2, kLdI_3, kStI_0, kStI_1, kLdL_e, kStL_e, kLdR_e, kStR_e, kFld_e, kNth_0, kNth_s, kPut_e, fit_I, fit_Z, fit_B, fit_C, fit_A, fit_O, Option.toList_some, Option.toList_none, List.cons_append, List.nil_append, true_and, and_true, List.set_cons_zero, List.set_cons_succ, st_same, Int.toNat_natCast, Int.cast_ofNat_Int, Nat.zero_add, Nat.reduceAdd, kRcv_1, kRcv_2, kRcv_3, kRcv_0, kRcv_4, kRcv_5, hS, t1, t2, t3, t4]
  refine ⟨⟨by omega, by omega, by omega⟩, ⟨by omega, by omega, by omega⟩, ?_⟩
  refine hLR _ (fun σ1 hC1 fO hf => ?_)
  obtain ⟨f, hf1, hf2⟩ := hf
  have hS1 : σ1.1 (G 1) = some (oI 2 L fx) := by rw [fO.1 _ (by omega) (by omega)]; exact hS
  have hmd1 : IsMd σ1 (B + 46) m A := ⟨by rw [fO.1 _ (by omega) (by omega)]; exact hmd.1, fun j j1 j2 => by rw [fO.1 _ (by omega) (by omega)]; exact hmd.2 j j1 j2⟩
  have hrc := md_rc hmd1
  simp only [e_Law_law_385, e_Law_law_387, e_Law_law_388, e_Law_law_389, e_Law_law_391, e_Law_law_392, e_Law_law_393, e_Law_law_394, e_Law_law_395, e_Law_law_397, e_Law_law_398, e_Law_law_399, e_Law_law_400, kR_l, kR_r, kP_0, kP_i, kP_r, kP_n, kP_s, kP_o, kLen_I, kLen_L, kLen_R, kLdI_0, kLdI_1, kLdI_2, kLdI_3, kStI_0, kStI_1, kLdL_e, kStL_e, kLdR_e, kStR_e, kFld_e, kNth_0, kNth_s, kPut_e, fit_I, fit_Z, fit_B, fit_C, fit_A, fit_O, Option.toList_some, Option.toList_none, List.cons_append, List.nil_append, true_and, and_true, List.set_cons_zero, List.set_cons_succ, st_same, Int.toNat_natCast, Int.cast_ofNat_Int, Nat.zero_add, Nat.reduceAdd, kRcv_1, kRcv_2, kRcv_3, kRcv_0, kRcv_4, kRcv_5, hS1, hrc, t1, t2, t3, t4]
  refine ⟨⟨by omega, by omega, by omega⟩, ⟨by omega, by omega, by omega⟩, ?_⟩
  refine md_id hmd1 (hMR σ1 m A _ hMX (fun m2 A2 b h1 h2 h3 => ?_))
  have hLI := LI.md (σ := σ) hG hG1 hC1 hGd hf1 hS1 h1
  have hf3 : (setMd σ1 (B + 46) m2 A2).1 (B + 58) = some (oL 1 f) := by rw [setMd_out (by omega)]; exact hf1
  have fin := fun z5 z6 z7 z8 => nx (setMd σ1 (B + 46) m2 A2) X' z5 z6 z7 z8 hLI fO.2
  clear nx hLR hMR
  simp only [e_Law_law_403, e_Law_law_405, e_Law_law_406, kR_l, kR_r, kP_0, kP_i, kP_r, kP_n, kP_s, kP_o, kLen_I, kLen_L, kLen_R, kLdI_0, kLdI_1, kLdI_2, kLdI_3, kStI_0, kStI_1, kLdL_e, kStL_e, kLdR_e, kStR_e, kFld_e, kNth_0, kNth_s, kPut_e, fit_I, fit_Z, fit_B, fit_C, fit_A, fit_O, Option.toList_some, Option.toList_none, List.cons_append, List.nil_append, true_and, and_true, List.set_cons_zero, List.set_cons_succ, st_same, Int.toNat_natCast, Int.cast_ofNat_Int, Nat.zero_add, Nat.reduceAdd, kRcv_1, kRcv_2, kRcv_3, kRcv_0, kRcv_4, kRcv_5, setMd_set, Mdo, Mda1, Mdw1, Mda2, Mdw2, Mda3, Mdw3, Mda4, Mdw4, Mda5, Mdw5, Mda6, Mdw6, Mda7, Mdw7, Mda8, Mdw8, Mda9, Mdw9, Mda10, Mdw10, Mda11, Mdw11, Mdp3, Mdp5, Mdp6, Mdp7, Mdp8, Mdp10, Mdp16, Mdp17, Mdp18]
  rw [s_Model_thrown, h2]
  simp only [e_Law_law_409, e_Law_law_411, kR_l, kR_r, kP_0, kP_i, kP_r, kP_n, kP_s, kP_o, kLen_I, kLen_L, kLen_R, kLdI_0, kLdI_1, kLdI_2, kLdI_3, kStI_0, kStI_1, kLdL_e, kStL_e, kLdR_e, kStR_e, kFld_e, kNth_0, kNth_s, kPut_e, fit_I, fit_Z, fit_B, fit_C, fit_A, fit_O, Option.toList_some, Option.toList_none, List.cons_append, List.nil_append, true_and, and_true, List.set_cons_zero, List.set_cons_succ, st_same, Int.toNat_natCast, Int.cast_ofNat_Int, Nat.zero_add, Nat.reduceAdd, kRcv_1, kRcv_2, kRcv_3, kRcv_0, kRcv_4, kRcv_5]
  refine ⟨⟨by unfold inR; omega, by unfold inR; omega⟩, fun _ => ?_, fun z => absurd trivial z⟩
  simp only [e_Law_law_416, e_Law_law_418, kR_l, kR_r, kP_0, kP_i, kP_r, kP_n, kP_s, kP_o, kLen_I, kLen_L, kLen_R, kLdI_0, kLdI_1, kLdI_2, kLdI_3, kStI_0, kStI_1, kLdL_e, kStL_e, kLdR_e, kStR_e, kFld_e, kNth_0, kNth_s, kPut_e, fit_I, fit_Z, fit_B, fit_C, fit_A, fit_O, Option.toList_some, Option.toList_none, List.cons_append, List.nil_append, true_and, and_true, List.set_cons_zero, List.set_cons_succ, st_same, Int.toNat_natCast, Int.cast_ofNat_Int, Nat.zero_add, Nat.reduceAdd, kRcv_1, kRcv_2, kRcv_3, kRcv_0, kRcv_4, kRcv_5]
  refine ⟨by unfold inR; omega, fun _ => ?_, fun c => ?_⟩
  · simp only [e_Law_law_433, kR_l, kR_r, kP_0, kP_i, kP_r, kP_n, kP_s, kP_o, kLen_I, kLen_L, kLen_R, kLdI_0, kLdI_1, kLdI_2, kLdI_3, kStI_0, kStI_1, kLdL_e, kStL_e, kLdR_e, kStR_e, kFld_e, kNth_0, kNth_s, kPut_e, fit_I, fit_Z, fit_B, fit_C, fit_A, fit_O, Option.toList_some, Option.toList_none, List.cons_append, List.nil_append, true_and, and_true, List.set_cons_zero, List.set_cons_succ, st_same, Int.toNat_natCast, Int.cast_ofNat_Int, Nat.zero_add, Nat.reduceAdd, kRcv_1, kRcv_2, kRcv_3, kRcv_0, kRcv_4, kRcv_5]
    exact fin _ _ _ _
  · have k0 : k = 0 := Classical.byContradiction c
    simp only [e_Law_law_421, e_Law_law_422, e_Law_law_423, e_Law_law_424, e_Law_law_426, e_Law_law_427, kR_l, kR_r, kP_0, kP_i, kP_r, kP_n, kP_s, kP_o, kLen_I, kLen_L, kLen_R, kLdI_0, kLdI_1, kLdI_2, kLdI_3, kStI_0, kStI_1, kLdL_e, kStL_e, kLdR_e, kStR_e, kFld_e, kNth_0, kNth_s, kPut_e, fit_I, fit_Z, fit_B, fit_C, fit_A, fit_O, Option.toList_some, Option.toList_none, List.cons_append, List.nil_append, true_and, and_true, List.set_cons_zero, List.set_cons_succ, st_same, Int.toNat_natCast, Int.cast_ofNat_Int, Nat.zero_add, Nat.reduceAdd, kRcv_1, kRcv_2, kRcv_3, kRcv_0, kRcv_4, kRcv_5, hf3, Int.reduceToNat]
    rw [hf2 k0, h3 k0, lcmp0]
    refine ⟨⟨by omega, by omega, by omega⟩, ?_⟩
    simp only [e_Law_law_428, e_Law_law_433, kR_l, kR_r, kP_0, kP_i, kP_r, kP_n, kP_s, kP_o, kLen_I, kLen_L, kLen_R, kLdI_0, kLdI_1, kLdI_2, kLdI_3, kStI_0, kStI_1, kLdL_e, kStL_e, kLdR_e, kStR_e, kFld_e, kNth_0, kNth_s, kPut_e, fit_I, fit_Z, fit_B, fit_C, fit_A, fit_O, Option.toList_some, Option.toList_none, List.cons_append, List.nil_append, true_and, and_true, List.set_cons_zero, List.set_cons_succ, st_same, Int.toNat_natCast, Int.cast_ofNat_Int, Nat.zero_add, Nat.reduceAdd, kRcv_1, kRcv_2, kRcv_3, kRcv_0, kRcv_4, kRcv_5]
    exact ⟨by unfold inR; omega, fun _ => fin _ _ _ _, fun z => absurd trivial z⟩
theorem c_kcarve (h : LI G B L fx σ X) (hi : i + 5 ≤ L) (hL : L ≤ 2560) (hx : ∀ j, j < L → inR (fx j)) (hG : G 0 ≤ B) (hG1 : G 1 < G 0) (nx : NxQ G B L fx σ i Q) : WP G k_Law_law 436 [some (vR (G 1)), some (vR B), some (vR (B + 46)), some (vR (B + 58)), some (vI (i : Nat)), z5, z6, z7, z8] [] σ Q := by
  obtain ⟨hC, hI, ⟨m, A, hmd, hMX⟩, hO, hS⟩ := h
  have t1 : ((i : Int) + 1).toNat = i + 1 := by omega
  have t2 : ((i : Int) + 2).toNat = i + 2 := by omega
  have t3 : ((i : Int) + 3).toNat = i + 3 := by omega
  have t4 : ((i : Int) + 4).toNat = i + 4 := by omega
  obtain ⟨X', k, v, hGd, hk, hLR, hMR⟩ := p_carve (s := X.1) (kp := X.2.1) (p := X.2.2.1) (n := X.2.2.2.1) (t := X.2.2.2.2) hC hI hG hO (hx (i + 1) (by omega)) (hx (i + 2) (by omega))
  simp only [e_Law_law_436, e_Law_law_437, e_Law_law_438, e_Law_law_440, e_Law_law_441, e_Law_law_442, e_Law_law_443, e_Law_law_444, e_Law_law_446, e_Law_law_447, e_Law_law_448, e_Law_law_449, e_Law_law_450, kR_l, kR_r, kP_0, kP_i, kP_r, kP_n, kP_s, kP_o, kLen_I, kLen_L, kLen_R, kLdI_0, kLdI_1, kLdI_2, kLdI_3, kStI_0, kStI_1, kLdL_e, kStL_e, kLdR_e, kStR_e, kFld_e, kNth_0, kNth_s, kPut_e, fit_I, fit_Z, fit_B, fit_C, fit_A, fit_O, Option.toList_some, Option.toList_none, List.cons_append, List.nil_append, true_and, and_true, List.set_cons_zero, List.set_cons_succ, st_same, Int.toNat_natCast, Int.cast_ofNat_Int, Nat.zero_add, Nat.reduceAdd, kRcv_1, kRcv_2, kRcv_3, kRcv_0, kRcv_4, kRcv_5, hS, t1, t2, t3, t4]
  refine ⟨⟨by omega, by omega, by omega⟩, ⟨by omega, by omega, by omega⟩, ?_⟩
  refine hLR _ (fun σ1 hC1 fO hf => ?_)
  obtain ⟨f, hf1, hf2⟩ := hf
  have hS1 : σ1.1 (G 1) = some (oI 2 L fx) := by rw [fO.1 _ (by omega) (by omega)]; exact hS
  have hmd1 : IsMd σ1 (B + 46) m A := ⟨by rw [fO.1 _ (by omega) (by omega)]; exact hmd.1, fun j j1 j2 => by rw [fO.1 _ (by omega) (by omega)]; exact hmd.2 j j1 j2⟩
  have hrc := md_rc hmd1
  simp only [e_Law_law_453, e_Law_law_455, e_Law_law_456, e_Law_law_457, e_Law_law_459, e_Law_law_460, e_Law_law_461, e_Law_law_462, e_Law_law_463, e_Law_law_465, e_Law_law_466, e_Law_law_467, e_Law_law_468, kR_l, kR_r, kP_0, kP_i, kP_r, kP_n, kP_s, kP_o, kLen_I, kLen_L, kLen_R, kLdI_0, kLdI_1, kLdI_2, kLdI_3, kStI_0, kStI_1, kLdL_e, kStL_e, kLdR_e, kStR_e, kFld_e, kNth_0, kNth_s, kPut_e, fit_I, fit_Z, fit_B, fit_C, fit_A, fit_O, Option.toList_some, Option.toList_none, List.cons_append, List.nil_append, true_and, and_true, List.set_cons_zero, List.set_cons_succ, st_same, Int.toNat_natCast, Int.cast_ofNat_Int, Nat.zero_add, Nat.reduceAdd, kRcv_1, kRcv_2, kRcv_3, kRcv_0, kRcv_4, kRcv_5, hS1, hrc, t1, t2, t3, t4]
  refine ⟨⟨by omega, by omega, by omega⟩, ⟨by omega, by omega, by omega⟩, ?_⟩
  refine md_id hmd1 (hMR σ1 m A _ hMX (fun m2 A2 b h1 h2 h3 => ?_))
  have hLI := LI.md (σ := σ) hG hG1 hC1 hGd hf1 hS1 h1
  have hf3 : (setMd σ1 (B + 46) m2 A2).1 (B + 58) = some (oL 1 f) := by rw [setMd_out (by omega)]; exact hf1
  have fin := fun z5 z6 z7 z8 => nx (setMd σ1 (B + 46) m2 A2) X' z5 z6 z7 z8 hLI fO.2
  clear nx hLR hMR
  simp only [e_Law_law_471, e_Law_law_473, e_Law_law_474, kR_l, kR_r, kP_0, kP_i, kP_r, kP_n, kP_s, kP_o, kLen_I, kLen_L, kLen_R, kLdI_0, kLdI_1, kLdI_2, kLdI_3, kStI_0, kStI_1, kLdL_e, kStL_e, kLdR_e, kStR_e, kFld_e, kNth_0, kNth_s, kPut_e, fit_I, fit_Z, fit_B, fit_C, fit_A, fit_O, Option.toList_some, Option.toList_none, List.cons_append, List.nil_append, true_and, and_true, List.set_cons_zero, List.set_cons_succ, st_same, Int.toNat_natCast, Int.cast_ofNat_Int, Nat.zero_add, Nat.reduceAdd, kRcv_1, kRcv_2, kRcv_3, kRcv_0, kRcv_4, kRcv_5, setMd_set, Mdo, Mda1, Mdw1, Mda2, Mdw2, Mda3, Mdw3, Mda4, Mdw4, Mda5, Mdw5, Mda6, Mdw6, Mda7, Mdw7, Mda8, Mdw8, Mda9, Mdw9, Mda10, Mdw10, Mda11, Mdw11, Mdp3, Mdp5, Mdp6, Mdp7, Mdp8, Mdp10, Mdp16, Mdp17, Mdp18]
  rw [s_Model_thrown, h2]
  simp only [e_Law_law_477, e_Law_law_479, kR_l, kR_r, kP_0, kP_i, kP_r, kP_n, kP_s, kP_o, kLen_I, kLen_L, kLen_R, kLdI_0, kLdI_1, kLdI_2, kLdI_3, kStI_0, kStI_1, kLdL_e, kStL_e, kLdR_e, kStR_e, kFld_e, kNth_0, kNth_s, kPut_e, fit_I, fit_Z, fit_B, fit_C, fit_A, fit_O, Option.toList_some, Option.toList_none, List.cons_append, List.nil_append, true_and, and_true, List.set_cons_zero, List.set_cons_succ, st_same, Int.toNat_natCast, Int.cast_ofNat_Int, Nat.zero_add, Nat.reduceAdd, kRcv_1, kRcv_2, kRcv_3, kRcv_0, kRcv_4, kRcv_5]
  refine ⟨⟨by unfold inR; omega, by unfold inR; omega⟩, fun _ => ?_, fun z => absurd trivial z⟩
  simp only [e_Law_law_484, e_Law_law_486, kR_l, kR_r, kP_0, kP_i, kP_r, kP_n, kP_s, kP_o, kLen_I, kLen_L, kLen_R, kLdI_0, kLdI_1, kLdI_2, kLdI_3, kStI_0, kStI_1, kLdL_e, kStL_e, kLdR_e, kStR_e, kFld_e, kNth_0, kNth_s, kPut_e, fit_I, fit_Z, fit_B, fit_C, fit_A, fit_O, Option.toList_some, Option.toList_none, List.cons_append, List.nil_append, true_and, and_true, List.set_cons_zero, List.set_cons_succ, st_same, Int.toNat_natCast, Int.cast_ofNat_Int, Nat.zero_add, Nat.reduceAdd, kRcv_1, kRcv_2, kRcv_3, kRcv_0, kRcv_4, kRcv_5]
  refine ⟨by unfold inR; omega, fun _ => ?_, fun c => ?_⟩
  · simp only [e_Law_law_501, kR_l, kR_r, kP_0, kP_i, kP_r, kP_n, kP_s, kP_o, kLen_I, kLen_L, kLen_R, kLdI_0, kLdI_1, kLdI_2, kLdI_3, kStI_0, kStI_1, kLdL_e, kStL_e, kLdR_e, kStR_e, kFld_e, kNth_0, kNth_s, kPut_e, fit_I, fit_Z, fit_B, fit_C, fit_A, fit_O, Option.toList_some, Option.toList_none, List.cons_append, List.nil_append, true_and, and_true, List.set_cons_zero, List.set_cons_succ, st_same, Int.toNat_natCast, Int.cast_ofNat_Int, Nat.zero_add, Nat.reduceAdd, kRcv_1, kRcv_2, kRcv_3, kRcv_0, kRcv_4, kRcv_5]
    exact fin _ _ _ _
  · have k0 : k = 0 := Classical.byContradiction c
    simp only [e_Law_law_489, e_Law_law_490, e_Law_law_491, e_Law_law_492, e_Law_law_494, e_Law_law_495, kR_l, kR_r, kP_0, kP_i, kP_r, kP_n, kP_s, kP_o, kLen_I, kLen_L, kLen_R, kLdI_0, kLdI_1, kLdI_2, kLdI_3, kStI_0, kStI_1, kLdL_e, kStL_e, kLdR_e, kStR_e, kFld_e, kNth_0, kNth_s, kPut_e, fit_I, fit_Z, fit_B, fit_C, fit_A, fit_O, Option.toList_some, Option.toList_none, List.cons_append, List.nil_append, true_and, and_true, List.set_cons_zero, List.set_cons_succ, st_same, Int.toNat_natCast, Int.cast_ofNat_Int, Nat.zero_add, Nat.reduceAdd, kRcv_1, kRcv_2, kRcv_3, kRcv_0, kRcv_4, kRcv_5, hf3, Int.reduceToNat]
    rw [hf2 k0, h3 k0, lcmp0]
    refine ⟨⟨by omega, by omega, by omega⟩, ?_⟩
    simp only [e_Law_law_496, e_Law_law_501, kR_l, kR_r, kP_0, kP_i, kP_r, kP_n, kP_s, kP_o, kLen_I, kLen_L, kLen_R, kLdI_0, kLdI_1, kLdI_2, kLdI_3, kStI_0, kStI_1, kLdL_e, kStL_e, kLdR_e, kStR_e, kFld_e, kNth_0, kNth_s, kPut_e, fit_I, fit_Z, fit_B, fit_C, fit_A, fit_O, Option.toList_some, Option.toList_none, List.cons_append, List.nil_append, true_and, and_true, List.set_cons_zero, List.set_cons_succ, st_same, Int.toNat_natCast, Int.cast_ofNat_Int, Nat.zero_add, Nat.reduceAdd, kRcv_1, kRcv_2, kRcv_3, kRcv_0, kRcv_4, kRcv_5]
    exact ⟨by unfold inR; omega, fun _ => fin _ _ _ _, fun z => absurd trivial z⟩
theorem c_kcarveAll (h : LI G B L fx σ X) (hG : G 0 ≤ B) (hG1 : G 1 < G 0) (nx : NxQ G B L fx σ i Q) : WP G k_Law_law 504 [some (vR (G 1)), some (vR B), some (vR (B + 46)), some (vR (B + 58)), some (vI (i : Nat)), z5, z6, z7, z8] [] σ Q := by
  obtain ⟨hC, hI, ⟨m, A, hmd, hMX⟩, ⟨f, hf⟩, hS⟩ := h
  have hB : σ.1 B = _ := hC.1
  obtain ⟨X', v, hGd, hv, hCR, hMR⟩ := u_carveAll (s := X.1) (kp := X.2.1) (p := X.2.2.1) (n := X.2.2.2.1) (t := X.2.2.2.2) hC hI hG
  simp only [e_Law_law_504, e_Law_law_505, kR_l, kR_r, kP_0, kP_i, kP_r, kP_n, kP_s, kP_o, kLen_I, kLen_L, kLen_R, kLdI_0, kLdI_1, kLdI_2, kLdI_3, kStI_0, kStI_1, kLdL_e, kStL_e, kLdR_e, kStR_e, kFld_e, kNth_0, kNth_s, kPut_e, fit_I, fit_Z, fit_B, fit_C, fit_A, fit_O, Option.toList_some, Option.toList_none, List.cons_append, List.nil_append, true_and, and_true, List.set_cons_zero, List.set_cons_succ, st_same, Int.toNat_natCast, Int.cast_ofNat_Int, Nat.zero_add, Nat.reduceAdd, kRcv_1, kRcv_2, kRcv_3, kRcv_0, kRcv_4, kRcv_5, hB]
  refine hCR _ (fun σ1 hC1 fO => ?_)
  have hf1 : σ1.1 (B + 58) = some (oL 1 f) := by rw [fO.1 _ (by omega)]; exact hf
  have hS1 : σ1.1 (G 1) = some (oI 2 L fx) := by rw [fO.1 _ (by omega)]; exact hS
  have hmd1 := hmd.fr fO (by omega)
  have hrc := md_rc hmd1
  simp only [e_Law_law_508, e_Law_law_509, kR_l, kR_r, kP_0, kP_i, kP_r, kP_n, kP_s, kP_o, kLen_I, kLen_L, kLen_R, kLdI_0, kLdI_1, kLdI_2, kLdI_3, kStI_0, kStI_1, kLdL_e, kStL_e, kLdR_e, kStR_e, kFld_e, kNth_0, kNth_s, kPut_e, fit_I, fit_Z, fit_B, fit_C, fit_A, fit_O, Option.toList_some, Option.toList_none, List.cons_append, List.nil_append, true_and, and_true, List.set_cons_zero, List.set_cons_succ, st_same, Int.toNat_natCast, Int.cast_ofNat_Int, Nat.zero_add, Nat.reduceAdd, kRcv_1, kRcv_2, kRcv_3, kRcv_0, kRcv_4, kRcv_5, hrc]
  refine md_id hmd1 (hMR σ1 m A _ hMX (fun m2 A2 b h1 h2 h3 => ?_))
  have hLI := LI.md (σ := σ) hG hG1 hC1 hGd hf1 hS1 h1
  have fin := fun z5 z6 z7 z8 => nx (setMd σ1 (B + 46) m2 A2) X' z5 z6 z7 z8 hLI ⟨by rw [setMd_2, fO.2]; omega, by rw [setMd_2, fO.2]; omega⟩
  clear nx hCR hMR
  rw [h3 rfl]
  simp only [e_Law_law_512, kR_l, kR_r, kP_0, kP_i, kP_r, kP_n, kP_s, kP_o, kLen_I, kLen_L, kLen_R, kLdI_0, kLdI_1, kLdI_2, kLdI_3, kStI_0, kStI_1, kLdL_e, kStL_e, kLdR_e, kStR_e, kFld_e, kNth_0, kNth_s, kPut_e, fit_I, fit_Z, fit_B, fit_C, fit_A, fit_O, Option.toList_some, Option.toList_none, List.cons_append, List.nil_append, true_and, and_true, List.set_cons_zero, List.set_cons_succ, st_same, Int.toNat_natCast, Int.cast_ofNat_Int, Nat.zero_add, Nat.reduceAdd, kRcv_1, kRcv_2, kRcv_3, kRcv_0, kRcv_4, kRcv_5]
  exact ⟨⟨hv, hv⟩, fun _ => fin _ _ _ _, fun z => absurd trivial z⟩
theorem c_kfillUp (h : LI G B L fx σ X) (hG : G 0 ≤ B) (hG1 : G 1 < G 0) (nx : NxQ G B L fx σ i Q) : WP G k_Law_law 517 [some (vR (G 1)), some (vR B), some (vR (B + 46)), some (vR (B + 58)), some (vI (i : Nat)), z5, z6, z7, z8] [] σ Q := by
  obtain ⟨hC, hI, ⟨m, A, hmd, hMX⟩, ⟨f, hf⟩, hS⟩ := h
  have hB : σ.1 B = _ := hC.1
  obtain ⟨X', v, hGd, hv, hCR, hMR⟩ := u_fillUp (s := X.1) (kp := X.2.1) (p := X.2.2.1) (n := X.2.2.2.1) (t := X.2.2.2.2) hC hI hG
  simp only [e_Law_law_517, e_Law_law_518, kR_l, kR_r, kP_0, kP_i, kP_r, kP_n, kP_s, kP_o, kLen_I, kLen_L, kLen_R, kLdI_0, kLdI_1, kLdI_2, kLdI_3, kStI_0, kStI_1, kLdL_e, kStL_e, kLdR_e, kStR_e, kFld_e, kNth_0, kNth_s, kPut_e, fit_I, fit_Z, fit_B, fit_C, fit_A, fit_O, Option.toList_some, Option.toList_none, List.cons_append, List.nil_append, true_and, and_true, List.set_cons_zero, List.set_cons_succ, st_same, Int.toNat_natCast, Int.cast_ofNat_Int, Nat.zero_add, Nat.reduceAdd, kRcv_1, kRcv_2, kRcv_3, kRcv_0, kRcv_4, kRcv_5, hB]
  refine hCR _ (fun σ1 hC1 fO => ?_)
  have hf1 : σ1.1 (B + 58) = some (oL 1 f) := by rw [fO.1 _ (by omega)]; exact hf
  have hS1 : σ1.1 (G 1) = some (oI 2 L fx) := by rw [fO.1 _ (by omega)]; exact hS
  have hmd1 := hmd.fr fO (by omega)
  have hrc := md_rc hmd1
  simp only [e_Law_law_521, e_Law_law_522, kR_l, kR_r, kP_0, kP_i, kP_r, kP_n, kP_s, kP_o, kLen_I, kLen_L, kLen_R, kLdI_0, kLdI_1, kLdI_2, kLdI_3, kStI_0, kStI_1, kLdL_e, kStL_e, kLdR_e, kStR_e, kFld_e, kNth_0, kNth_s, kPut_e, fit_I, fit_Z, fit_B, fit_C, fit_A, fit_O, Option.toList_some, Option.toList_none, List.cons_append, List.nil_append, true_and, and_true, List.set_cons_zero, List.set_cons_succ, st_same, Int.toNat_natCast, Int.cast_ofNat_Int, Nat.zero_add, Nat.reduceAdd, kRcv_1, kRcv_2, kRcv_3, kRcv_0, kRcv_4, kRcv_5, hrc]
  refine md_id hmd1 (hMR σ1 m A _ hMX (fun m2 A2 b h1 h2 h3 => ?_))
  have hLI := LI.md (σ := σ) hG hG1 hC1 hGd hf1 hS1 h1
  have fin := fun z5 z6 z7 z8 => nx (setMd σ1 (B + 46) m2 A2) X' z5 z6 z7 z8 hLI ⟨by rw [setMd_2, fO.2]; omega, by rw [setMd_2, fO.2]; omega⟩
  clear nx hCR hMR
  rw [h3 rfl]
  simp only [e_Law_law_525, kR_l, kR_r, kP_0, kP_i, kP_r, kP_n, kP_s, kP_o, kLen_I, kLen_L, kLen_R, kLdI_0, kLdI_1, kLdI_2, kLdI_3, kStI_0, kStI_1, kLdL_e, kStL_e, kLdR_e, kStR_e, kFld_e, kNth_0, kNth_s, kPut_e, fit_I, fit_Z, fit_B, fit_C, fit_A, fit_O, Option.toList_some, Option.toList_none, List.cons_append, List.nil_append, true_and, and_true, List.set_cons_zero, List.set_cons_succ, st_same, Int.toNat_natCast, Int.cast_ofNat_Int, Nat.zero_add, Nat.reduceAdd, kRcv_1, kRcv_2, kRcv_3, kRcv_0, kRcv_4, kRcv_5]
  exact ⟨⟨hv, hv⟩, fun _ => fin _ _ _ _, fun z => absurd trivial z⟩
theorem c_kset (h : LI G B L fx σ X) (hi : i + 5 ≤ L) (hL : L ≤ 2560) (hx : ∀ j, j < L → inR (fx j)) (hG : G 0 ≤ B) (hG1 : G 1 < G 0) (nx : NxQ G B L fx σ i Q) : WP G k_Law_law 530 [some (vR (G 1)), some (vR B), some (vR (B + 46)), some (vR (B + 58)), some (vI (i : Nat)), z5, z6, z7, z8] [] σ Q := by
  obtain ⟨hC, hI, ⟨m, A, hmd, hMX⟩, hO, hS⟩ := h
  have t1 : ((i : Int) + 1).toNat = i + 1 := by omega
  have t2 : ((i : Int) + 2).toNat = i + 2 := by omega
  have t3 : ((i : Int) + 3).toNat = i + 3 := by omega
  have t4 : ((i : Int) + 4).toNat = i + 4 := by omega
  obtain ⟨X', k, v, hGd, hk, hLR, hMR⟩ := p_set (s := X.1) (kp := X.2.1) (p := X.2.2.1) (n := X.2.2.2.1) (t := X.2.2.2.2) hC hI hG hO (hx (i + 1) (by omega))
  simp only [e_Law_law_530, e_Law_law_531, e_Law_law_532, e_Law_law_534, e_Law_law_535, e_Law_law_536, e_Law_law_537, e_Law_law_538, kR_l, kR_r, kP_0, kP_i, kP_r, kP_n, kP_s, kP_o, kLen_I, kLen_L, kLen_R, kLdI_0, kLdI_1, kLdI_2, kLdI_3, kStI_0, kStI_1, kLdL_e, kStL_e, kLdR_e, kStR_e, kFld_e, kNth_0, kNth_s, kPut_e, fit_I, fit_Z, fit_B, fit_C, fit_A, fit_O, Option.toList_some, Option.toList_none, List.cons_append, List.nil_append, true_and, and_true, List.set_cons_zero, List.set_cons_succ, st_same, Int.toNat_natCast, Int.cast_ofNat_Int, Nat.zero_add, Nat.reduceAdd, kRcv_1, kRcv_2, kRcv_3, kRcv_0, kRcv_4, kRcv_5, hS, t1, t2, t3, t4]
  refine ⟨⟨by omega, by omega, by omega⟩, ?_⟩
  refine hLR _ (fun σ1 hC1 fO hf => ?_)
  obtain ⟨f, hf1, hf2⟩ := hf
  have hS1 : σ1.1 (G 1) = some (oI 2 L fx) := by rw [fO.1 _ (by omega) (by omega)]; exact hS
  have hmd1 : IsMd σ1 (B + 46) m A := ⟨by rw [fO.1 _ (by omega) (by omega)]; exact hmd.1, fun j j1 j2 => by rw [fO.1 _ (by omega) (by omega)]; exact hmd.2 j j1 j2⟩
  have hrc := md_rc hmd1
  simp only [e_Law_law_541, e_Law_law_543, e_Law_law_544, e_Law_law_545, e_Law_law_547, e_Law_law_548, e_Law_law_549, e_Law_law_550, kR_l, kR_r, kP_0, kP_i, kP_r, kP_n, kP_s, kP_o, kLen_I, kLen_L, kLen_R, kLdI_0, kLdI_1, kLdI_2, kLdI_3, kStI_0, kStI_1, kLdL_e, kStL_e, kLdR_e, kStR_e, kFld_e, kNth_0, kNth_s, kPut_e, fit_I, fit_Z, fit_B, fit_C, fit_A, fit_O, Option.toList_some, Option.toList_none, List.cons_append, List.nil_append, true_and, and_true, List.set_cons_zero, List.set_cons_succ, st_same, Int.toNat_natCast, Int.cast_ofNat_Int, Nat.zero_add, Nat.reduceAdd, kRcv_1, kRcv_2, kRcv_3, kRcv_0, kRcv_4, kRcv_5, hS1, hrc, t1, t2, t3, t4]
  refine ⟨⟨by omega, by omega, by omega⟩, ?_⟩
  refine md_id hmd1 (hMR σ1 m A _ hMX (fun m2 A2 b h1 h2 h3 => ?_))
  have hLI := LI.md (σ := σ) hG hG1 hC1 hGd hf1 hS1 h1
  have hf3 : (setMd σ1 (B + 46) m2 A2).1 (B + 58) = some (oL 1 f) := by rw [setMd_out (by omega)]; exact hf1
  have fin := fun z5 z6 z7 z8 => nx (setMd σ1 (B + 46) m2 A2) X' z5 z6 z7 z8 hLI fO.2
  clear nx hLR hMR
  simp only [e_Law_law_553, e_Law_law_555, e_Law_law_556, kR_l, kR_r, kP_0, kP_i, kP_r, kP_n, kP_s, kP_o, kLen_I, kLen_L, kLen_R, kLdI_0, kLdI_1, kLdI_2, kLdI_3, kStI_0, kStI_1, kLdL_e, kStL_e, kLdR_e, kStR_e, kFld_e, kNth_0, kNth_s, kPut_e, fit_I, fit_Z, fit_B, fit_C, fit_A, fit_O, Option.toList_some, Option.toList_none, List.cons_append, List.nil_append, true_and, and_true, List.set_cons_zero, List.set_cons_succ, st_same, Int.toNat_natCast, Int.cast_ofNat_Int, Nat.zero_add, Nat.reduceAdd, kRcv_1, kRcv_2, kRcv_3, kRcv_0, kRcv_4, kRcv_5, setMd_set, Mdo, Mda1, Mdw1, Mda2, Mdw2, Mda3, Mdw3, Mda4, Mdw4, Mda5, Mdw5, Mda6, Mdw6, Mda7, Mdw7, Mda8, Mdw8, Mda9, Mdw9, Mda10, Mdw10, Mda11, Mdw11, Mdp3, Mdp5, Mdp6, Mdp7, Mdp8, Mdp10, Mdp16, Mdp17, Mdp18]
  rw [s_Model_thrown, h2]
  simp only [e_Law_law_559, e_Law_law_561, kR_l, kR_r, kP_0, kP_i, kP_r, kP_n, kP_s, kP_o, kLen_I, kLen_L, kLen_R, kLdI_0, kLdI_1, kLdI_2, kLdI_3, kStI_0, kStI_1, kLdL_e, kStL_e, kLdR_e, kStR_e, kFld_e, kNth_0, kNth_s, kPut_e, fit_I, fit_Z, fit_B, fit_C, fit_A, fit_O, Option.toList_some, Option.toList_none, List.cons_append, List.nil_append, true_and, and_true, List.set_cons_zero, List.set_cons_succ, st_same, Int.toNat_natCast, Int.cast_ofNat_Int, Nat.zero_add, Nat.reduceAdd, kRcv_1, kRcv_2, kRcv_3, kRcv_0, kRcv_4, kRcv_5]
  refine ⟨⟨by unfold inR; omega, by unfold inR; omega⟩, fun _ => ?_, fun z => absurd trivial z⟩
  simp only [e_Law_law_566, e_Law_law_568, kR_l, kR_r, kP_0, kP_i, kP_r, kP_n, kP_s, kP_o, kLen_I, kLen_L, kLen_R, kLdI_0, kLdI_1, kLdI_2, kLdI_3, kStI_0, kStI_1, kLdL_e, kStL_e, kLdR_e, kStR_e, kFld_e, kNth_0, kNth_s, kPut_e, fit_I, fit_Z, fit_B, fit_C, fit_A, fit_O, Option.toList_some, Option.toList_none, List.cons_append, List.nil_append, true_and, and_true, List.set_cons_zero, List.set_cons_succ, st_same, Int.toNat_natCast, Int.cast_ofNat_Int, Nat.zero_add, Nat.reduceAdd, kRcv_1, kRcv_2, kRcv_3, kRcv_0, kRcv_4, kRcv_5]
  refine ⟨by unfold inR; omega, fun _ => ?_, fun c => ?_⟩
  · simp only [e_Law_law_583, kR_l, kR_r, kP_0, kP_i, kP_r, kP_n, kP_s, kP_o, kLen_I, kLen_L, kLen_R, kLdI_0, kLdI_1, kLdI_2, kLdI_3, kStI_0, kStI_1, kLdL_e, kStL_e, kLdR_e, kStR_e, kFld_e, kNth_0, kNth_s, kPut_e, fit_I, fit_Z, fit_B, fit_C, fit_A, fit_O, Option.toList_some, Option.toList_none, List.cons_append, List.nil_append, true_and, and_true, List.set_cons_zero, List.set_cons_succ, st_same, Int.toNat_natCast, Int.cast_ofNat_Int, Nat.zero_add, Nat.reduceAdd, kRcv_1, kRcv_2, kRcv_3, kRcv_0, kRcv_4, kRcv_5]
    exact fin _ _ _ _
  · have k0 : k = 0 := Classical.byContradiction c
    simp only [e_Law_law_571, e_Law_law_572, e_Law_law_573, e_Law_law_574, e_Law_law_576, e_Law_law_577, kR_l, kR_r, kP_0, kP_i, kP_r, kP_n, kP_s, kP_o, kLen_I, kLen_L, kLen_R, kLdI_0, kLdI_1, kLdI_2, kLdI_3, kStI_0, kStI_1, kLdL_e, kStL_e, kLdR_e, kStR_e, kFld_e, kNth_0, kNth_s, kPut_e, fit_I, fit_Z, fit_B, fit_C, fit_A, fit_O, Option.toList_some, Option.toList_none, List.cons_append, List.nil_append, true_and, and_true, List.set_cons_zero, List.set_cons_succ, st_same, Int.toNat_natCast, Int.cast_ofNat_Int, Nat.zero_add, Nat.reduceAdd, kRcv_1, kRcv_2, kRcv_3, kRcv_0, kRcv_4, kRcv_5, hf3, Int.reduceToNat]
    rw [hf2 k0, h3 k0, lcmp0]
    refine ⟨⟨by omega, by omega, by omega⟩, ?_⟩
    simp only [e_Law_law_578, e_Law_law_583, kR_l, kR_r, kP_0, kP_i, kP_r, kP_n, kP_s, kP_o, kLen_I, kLen_L, kLen_R, kLdI_0, kLdI_1, kLdI_2, kLdI_3, kStI_0, kStI_1, kLdL_e, kStL_e, kLdR_e, kStR_e, kFld_e, kNth_0, kNth_s, kPut_e, fit_I, fit_Z, fit_B, fit_C, fit_A, fit_O, Option.toList_some, Option.toList_none, List.cons_append, List.nil_append, true_and, and_true, List.set_cons_zero, List.set_cons_succ, st_same, Int.toNat_natCast, Int.cast_ofNat_Int, Nat.zero_add, Nat.reduceAdd, kRcv_1, kRcv_2, kRcv_3, kRcv_0, kRcv_4, kRcv_5]
    exact ⟨by unfold inR; omega, fun _ => fin _ _ _ _, fun z => absurd trivial z⟩
theorem c_kappend (h : LI G B L fx σ X) (hi : i + 5 ≤ L) (hL : L ≤ 2560) (hx : ∀ j, j < L → inR (fx j)) (hG : G 0 ≤ B) (hG1 : G 1 < G 0) (nx : NxQ G B L fx σ i Q) : WP G k_Law_law 586 [some (vR (G 1)), some (vR B), some (vR (B + 46)), some (vR (B + 58)), some (vI (i : Nat)), z5, z6, z7, z8] [] σ Q := by
  obtain ⟨hC, hI, ⟨m, A, hmd, hMX⟩, hO, hS⟩ := h
  have t1 : ((i : Int) + 1).toNat = i + 1 := by omega
  have t2 : ((i : Int) + 2).toNat = i + 2 := by omega
  have t3 : ((i : Int) + 3).toNat = i + 3 := by omega
  have t4 : ((i : Int) + 4).toNat = i + 4 := by omega
  obtain ⟨X', k, v, hGd, hk, hLR, hMR⟩ := p_append (s := X.1) (kp := X.2.1) (p := X.2.2.1) (n := X.2.2.2.1) (t := X.2.2.2.2) hC hI hG hO (hx (i + 1) (by omega))
  simp only [e_Law_law_586, e_Law_law_587, e_Law_law_588, e_Law_law_590, e_Law_law_591, e_Law_law_592, e_Law_law_593, e_Law_law_594, kR_l, kR_r, kP_0, kP_i, kP_r, kP_n, kP_s, kP_o, kLen_I, kLen_L, kLen_R, kLdI_0, kLdI_1, kLdI_2, kLdI_3, kStI_0, kStI_1, kLdL_e, kStL_e, kLdR_e, kStR_e, kFld_e, kNth_0, kNth_s, kPut_e, fit_I, fit_Z, fit_B, fit_C, fit_A, fit_O, Option.toList_some, Option.toList_none, List.cons_append, List.nil_append, true_and, and_true, List.set_cons_zero, List.set_cons_succ, st_same, Int.toNat_natCast, Int.cast_ofNat_Int, Nat.zero_add, Nat.reduceAdd, kRcv_1, kRcv_2, kRcv_3, kRcv_0, kRcv_4, kRcv_5, hS, t1, t2, t3, t4]
  refine ⟨⟨by omega, by omega, by omega⟩, ?_⟩
  refine hLR _ (fun σ1 hC1 fO hf => ?_)
  obtain ⟨f, hf1, hf2⟩ := hf
  have hS1 : σ1.1 (G 1) = some (oI 2 L fx) := by rw [fO.1 _ (by omega) (by omega)]; exact hS
  have hmd1 : IsMd σ1 (B + 46) m A := ⟨by rw [fO.1 _ (by omega) (by omega)]; exact hmd.1, fun j j1 j2 => by rw [fO.1 _ (by omega) (by omega)]; exact hmd.2 j j1 j2⟩
  have hrc := md_rc hmd1
  simp only [e_Law_law_597, e_Law_law_599, e_Law_law_600, e_Law_law_601, e_Law_law_603, e_Law_law_604, e_Law_law_605, e_Law_law_606, kR_l, kR_r, kP_0, kP_i, kP_r, kP_n, kP_s, kP_o, kLen_I, kLen_L, kLen_R, kLdI_0, kLdI_1, kLdI_2, kLdI_3, kStI_0, kStI_1, kLdL_e, kStL_e, kLdR_e, kStR_e, kFld_e, kNth_0, kNth_s, kPut_e, fit_I, fit_Z, fit_B, fit_C, fit_A, fit_O, Option.toList_some, Option.toList_none, List.cons_append, List.nil_append, true_and, and_true, List.set_cons_zero, List.set_cons_succ, st_same, Int.toNat_natCast, Int.cast_ofNat_Int, Nat.zero_add, Nat.reduceAdd, kRcv_1, kRcv_2, kRcv_3, kRcv_0, kRcv_4, kRcv_5, hS1, hrc, t1, t2, t3, t4]
  refine ⟨⟨by omega, by omega, by omega⟩, ?_⟩
  refine md_id hmd1 (hMR σ1 m A _ hMX (fun m2 A2 b h1 h2 h3 => ?_))
  have hLI := LI.md (σ := σ) hG hG1 hC1 hGd hf1 hS1 h1
  have hf3 : (setMd σ1 (B + 46) m2 A2).1 (B + 58) = some (oL 1 f) := by rw [setMd_out (by omega)]; exact hf1
  have fin := fun z5 z6 z7 z8 => nx (setMd σ1 (B + 46) m2 A2) X' z5 z6 z7 z8 hLI fO.2
  clear nx hLR hMR
  simp only [e_Law_law_609, e_Law_law_611, e_Law_law_612, kR_l, kR_r, kP_0, kP_i, kP_r, kP_n, kP_s, kP_o, kLen_I, kLen_L, kLen_R, kLdI_0, kLdI_1, kLdI_2, kLdI_3, kStI_0, kStI_1, kLdL_e, kStL_e, kLdR_e, kStR_e, kFld_e, kNth_0, kNth_s, kPut_e, fit_I, fit_Z, fit_B, fit_C, fit_A, fit_O, Option.toList_some, Option.toList_none, List.cons_append, List.nil_append, true_and, and_true, List.set_cons_zero, List.set_cons_succ, st_same, Int.toNat_natCast, Int.cast_ofNat_Int, Nat.zero_add, Nat.reduceAdd, kRcv_1, kRcv_2, kRcv_3, kRcv_0, kRcv_4, kRcv_5, setMd_set, Mdo, Mda1, Mdw1, Mda2, Mdw2, Mda3, Mdw3, Mda4, Mdw4, Mda5, Mdw5, Mda6, Mdw6, Mda7, Mdw7, Mda8, Mdw8, Mda9, Mdw9, Mda10, Mdw10, Mda11, Mdw11, Mdp3, Mdp5, Mdp6, Mdp7, Mdp8, Mdp10, Mdp16, Mdp17, Mdp18]
  rw [s_Model_thrown, h2]
  simp only [e_Law_law_615, e_Law_law_617, kR_l, kR_r, kP_0, kP_i, kP_r, kP_n, kP_s, kP_o, kLen_I, kLen_L, kLen_R, kLdI_0, kLdI_1, kLdI_2, kLdI_3, kStI_0, kStI_1, kLdL_e, kStL_e, kLdR_e, kStR_e, kFld_e, kNth_0, kNth_s, kPut_e, fit_I, fit_Z, fit_B, fit_C, fit_A, fit_O, Option.toList_some, Option.toList_none, List.cons_append, List.nil_append, true_and, and_true, List.set_cons_zero, List.set_cons_succ, st_same, Int.toNat_natCast, Int.cast_ofNat_Int, Nat.zero_add, Nat.reduceAdd, kRcv_1, kRcv_2, kRcv_3, kRcv_0, kRcv_4, kRcv_5]
  refine ⟨⟨by unfold inR; omega, by unfold inR; omega⟩, fun _ => ?_, fun z => absurd trivial z⟩
  simp only [e_Law_law_622, e_Law_law_624, kR_l, kR_r, kP_0, kP_i, kP_r, kP_n, kP_s, kP_o, kLen_I, kLen_L, kLen_R, kLdI_0, kLdI_1, kLdI_2, kLdI_3, kStI_0, kStI_1, kLdL_e, kStL_e, kLdR_e, kStR_e, kFld_e, kNth_0, kNth_s, kPut_e, fit_I, fit_Z, fit_B, fit_C, fit_A, fit_O, Option.toList_some, Option.toList_none, List.cons_append, List.nil_append, true_and, and_true, List.set_cons_zero, List.set_cons_succ, st_same, Int.toNat_natCast, Int.cast_ofNat_Int, Nat.zero_add, Nat.reduceAdd, kRcv_1, kRcv_2, kRcv_3, kRcv_0, kRcv_4, kRcv_5]
  refine ⟨by unfold inR; omega, fun _ => ?_, fun c => ?_⟩
  · simp only [e_Law_law_639, kR_l, kR_r, kP_0, kP_i, kP_r, kP_n, kP_s, kP_o, kLen_I, kLen_L, kLen_R, kLdI_0, kLdI_1, kLdI_2, kLdI_3, kStI_0, kStI_1, kLdL_e, kStL_e, kLdR_e, kStR_e, kFld_e, kNth_0, kNth_s, kPut_e, fit_I, fit_Z, fit_B, fit_C, fit_A, fit_O, Option.toList_some, Option.toList_none, List.cons_append, List.nil_append, true_and, and_true, List.set_cons_zero, List.set_cons_succ, st_same, Int.toNat_natCast, Int.cast_ofNat_Int, Nat.zero_add, Nat.reduceAdd, kRcv_1, kRcv_2, kRcv_3, kRcv_0, kRcv_4, kRcv_5]
    exact fin _ _ _ _
  · have k0 : k = 0 := Classical.byContradiction c
    simp only [e_Law_law_627, e_Law_law_628, e_Law_law_629, e_Law_law_630, e_Law_law_632, e_Law_law_633, kR_l, kR_r, kP_0, kP_i, kP_r, kP_n, kP_s, kP_o, kLen_I, kLen_L, kLen_R, kLdI_0, kLdI_1, kLdI_2, kLdI_3, kStI_0, kStI_1, kLdL_e, kStL_e, kLdR_e, kStR_e, kFld_e, kNth_0, kNth_s, kPut_e, fit_I, fit_Z, fit_B, fit_C, fit_A, fit_O, Option.toList_some, Option.toList_none, List.cons_append, List.nil_append, true_and, and_true, List.set_cons_zero, List.set_cons_succ, st_same, Int.toNat_natCast, Int.cast_ofNat_Int, Nat.zero_add, Nat.reduceAdd, kRcv_1, kRcv_2, kRcv_3, kRcv_0, kRcv_4, kRcv_5, hf3, Int.reduceToNat]
    rw [hf2 k0, h3 k0, lcmp0]
    refine ⟨⟨by omega, by omega, by omega⟩, ?_⟩
    simp only [e_Law_law_634, e_Law_law_639, kR_l, kR_r, kP_0, kP_i, kP_r, kP_n, kP_s, kP_o, kLen_I, kLen_L, kLen_R, kLdI_0, kLdI_1, kLdI_2, kLdI_3, kStI_0, kStI_1, kLdL_e, kStL_e, kLdR_e, kStR_e, kFld_e, kNth_0, kNth_s, kPut_e, fit_I, fit_Z, fit_B, fit_C, fit_A, fit_O, Option.toList_some, Option.toList_none, List.cons_append, List.nil_append, true_and, and_true, List.set_cons_zero, List.set_cons_succ, st_same, Int.toNat_natCast, Int.cast_ofNat_Int, Nat.zero_add, Nat.reduceAdd, kRcv_1, kRcv_2, kRcv_3, kRcv_0, kRcv_4, kRcv_5]
    exact ⟨by unfold inR; omega, fun _ => fin _ _ _ _, fun z => absurd trivial z⟩
theorem c_kclearBuffer (h : LI G B L fx σ X) (hG : G 0 ≤ B) (hG1 : G 1 < G 0) (nx : NxQ G B L fx σ i Q) : WP G k_Law_law 642 [some (vR (G 1)), some (vR B), some (vR (B + 46)), some (vR (B + 58)), some (vI (i : Nat)), z5, z6, z7, z8] [] σ Q := by
  obtain ⟨hC, hI, ⟨m, A, hmd, hMX⟩, ⟨f, hf⟩, hS⟩ := h
  have hB : σ.1 B = _ := hC.1
  obtain ⟨X', v, hGd, hv, hCR, hMR⟩ := u_clearBuffer (s := X.1) (kp := X.2.1) (p := X.2.2.1) (n := X.2.2.2.1) (t := X.2.2.2.2) hC hI hG
  simp only [e_Law_law_642, e_Law_law_643, kR_l, kR_r, kP_0, kP_i, kP_r, kP_n, kP_s, kP_o, kLen_I, kLen_L, kLen_R, kLdI_0, kLdI_1, kLdI_2, kLdI_3, kStI_0, kStI_1, kLdL_e, kStL_e, kLdR_e, kStR_e, kFld_e, kNth_0, kNth_s, kPut_e, fit_I, fit_Z, fit_B, fit_C, fit_A, fit_O, Option.toList_some, Option.toList_none, List.cons_append, List.nil_append, true_and, and_true, List.set_cons_zero, List.set_cons_succ, st_same, Int.toNat_natCast, Int.cast_ofNat_Int, Nat.zero_add, Nat.reduceAdd, kRcv_1, kRcv_2, kRcv_3, kRcv_0, kRcv_4, kRcv_5, hB]
  refine hCR _ (fun σ1 hC1 fO => ?_)
  have hf1 : σ1.1 (B + 58) = some (oL 1 f) := by rw [fO.1 _ (by omega)]; exact hf
  have hS1 : σ1.1 (G 1) = some (oI 2 L fx) := by rw [fO.1 _ (by omega)]; exact hS
  have hmd1 := hmd.fr fO (by omega)
  have hrc := md_rc hmd1
  simp only [e_Law_law_646, e_Law_law_647, kR_l, kR_r, kP_0, kP_i, kP_r, kP_n, kP_s, kP_o, kLen_I, kLen_L, kLen_R, kLdI_0, kLdI_1, kLdI_2, kLdI_3, kStI_0, kStI_1, kLdL_e, kStL_e, kLdR_e, kStR_e, kFld_e, kNth_0, kNth_s, kPut_e, fit_I, fit_Z, fit_B, fit_C, fit_A, fit_O, Option.toList_some, Option.toList_none, List.cons_append, List.nil_append, true_and, and_true, List.set_cons_zero, List.set_cons_succ, st_same, Int.toNat_natCast, Int.cast_ofNat_Int, Nat.zero_add, Nat.reduceAdd, kRcv_1, kRcv_2, kRcv_3, kRcv_0, kRcv_4, kRcv_5, hrc]
  refine md_id hmd1 (hMR σ1 m A _ hMX (fun m2 A2 b h1 h2 h3 => ?_))
  have hLI := LI.md (σ := σ) hG hG1 hC1 hGd hf1 hS1 h1
  have fin := fun z5 z6 z7 z8 => nx (setMd σ1 (B + 46) m2 A2) X' z5 z6 z7 z8 hLI ⟨by rw [setMd_2, fO.2]; omega, by rw [setMd_2, fO.2]; omega⟩
  clear nx hCR hMR
  rw [h3 rfl]
  simp only [e_Law_law_650, kR_l, kR_r, kP_0, kP_i, kP_r, kP_n, kP_s, kP_o, kLen_I, kLen_L, kLen_R, kLdI_0, kLdI_1, kLdI_2, kLdI_3, kStI_0, kStI_1, kLdL_e, kStL_e, kLdR_e, kStR_e, kFld_e, kNth_0, kNth_s, kPut_e, fit_I, fit_Z, fit_B, fit_C, fit_A, fit_O, Option.toList_some, Option.toList_none, List.cons_append, List.nil_append, true_and, and_true, List.set_cons_zero, List.set_cons_succ, st_same, Int.toNat_natCast, Int.cast_ofNat_Int, Nat.zero_add, Nat.reduceAdd, kRcv_1, kRcv_2, kRcv_3, kRcv_0, kRcv_4, kRcv_5]
  exact ⟨⟨hv, hv⟩, fun _ => fin _ _ _ _, fun z => absurd trivial z⟩
theorem c_kfirstError (h : LI G B L fx σ X) (hG : G 0 ≤ B) (hG1 : G 1 < G 0) (nx : NxQ G B L fx σ i Q) : WP G k_Law_law 655 [some (vR (G 1)), some (vR B), some (vR (B + 46)), some (vR (B + 58)), some (vI (i : Nat)), z5, z6, z7, z8] [] σ Q := by
  obtain ⟨hC, hI, ⟨m, A, hmd, hMX⟩, ⟨f, hf⟩, hS⟩ := h
  have hB : σ.1 B = _ := hC.1
  obtain ⟨X', v, hGd, hv, hCR, hMR⟩ := u_firstError (s := X.1) (kp := X.2.1) (p := X.2.2.1) (n := X.2.2.2.1) (t := X.2.2.2.2) hC hI hG
  simp only [e_Law_law_655, e_Law_law_656, kR_l, kR_r, kP_0, kP_i, kP_r, kP_n, kP_s, kP_o, kLen_I, kLen_L, kLen_R, kLdI_0, kLdI_1, kLdI_2, kLdI_3, kStI_0, kStI_1, kLdL_e, kStL_e, kLdR_e, kStR_e, kFld_e, kNth_0, kNth_s, kPut_e, fit_I, fit_Z, fit_B, fit_C, fit_A, fit_O, Option.toList_some, Option.toList_none, List.cons_append, List.nil_append, true_and, and_true, List.set_cons_zero, List.set_cons_succ, st_same, Int.toNat_natCast, Int.cast_ofNat_Int, Nat.zero_add, Nat.reduceAdd, kRcv_1, kRcv_2, kRcv_3, kRcv_0, kRcv_4, kRcv_5, hB]
  refine hCR _ (fun σ1 hC1 fO => ?_)
  have hf1 : σ1.1 (B + 58) = some (oL 1 f) := by rw [fO.1 _ (by omega)]; exact hf
  have hS1 : σ1.1 (G 1) = some (oI 2 L fx) := by rw [fO.1 _ (by omega)]; exact hS
  have hmd1 := hmd.fr fO (by omega)
  have hrc := md_rc hmd1
  simp only [e_Law_law_659, e_Law_law_660, kR_l, kR_r, kP_0, kP_i, kP_r, kP_n, kP_s, kP_o, kLen_I, kLen_L, kLen_R, kLdI_0, kLdI_1, kLdI_2, kLdI_3, kStI_0, kStI_1, kLdL_e, kStL_e, kLdR_e, kStR_e, kFld_e, kNth_0, kNth_s, kPut_e, fit_I, fit_Z, fit_B, fit_C, fit_A, fit_O, Option.toList_some, Option.toList_none, List.cons_append, List.nil_append, true_and, and_true, List.set_cons_zero, List.set_cons_succ, st_same, Int.toNat_natCast, Int.cast_ofNat_Int, Nat.zero_add, Nat.reduceAdd, kRcv_1, kRcv_2, kRcv_3, kRcv_0, kRcv_4, kRcv_5, hrc]
  refine md_id hmd1 (hMR σ1 m A _ hMX (fun m2 A2 b h1 h2 h3 => ?_))
  have hLI := LI.md (σ := σ) hG hG1 hC1 hGd hf1 hS1 h1
  have fin := fun z5 z6 z7 z8 => nx (setMd σ1 (B + 46) m2 A2) X' z5 z6 z7 z8 hLI ⟨by rw [setMd_2, fO.2]; omega, by rw [setMd_2, fO.2]; omega⟩
  clear nx hCR hMR
  rw [h3 rfl]
  simp only [e_Law_law_663, kR_l, kR_r, kP_0, kP_i, kP_r, kP_n, kP_s, kP_o, kLen_I, kLen_L, kLen_R, kLdI_0, kLdI_1, kLdI_2, kLdI_3, kStI_0, kStI_1, kLdL_e, kStL_e, kLdR_e, kStR_e, kFld_e, kNth_0, kNth_s, kPut_e, fit_I, fit_Z, fit_B, fit_C, fit_A, fit_O, Option.toList_some, Option.toList_none, List.cons_append, List.nil_append, true_and, and_true, List.set_cons_zero, List.set_cons_succ, st_same, Int.toNat_natCast, Int.cast_ofNat_Int, Nat.zero_add, Nat.reduceAdd, kRcv_1, kRcv_2, kRcv_3, kRcv_0, kRcv_4, kRcv_5]
  exact ⟨⟨hv, hv⟩, fun _ => fin _ _ _ _, fun z => absurd trivial z⟩
theorem c_krun (h : LI G B L fx σ X) (hi : i + 5 ≤ L) (hL : L ≤ 2560) (hx : ∀ j, j < L → inR (fx j)) (hG : G 0 ≤ B) (hG1 : G 1 < G 0) (nx : NxQ G B L fx σ i Q) : WP G k_Law_law 668 [some (vR (G 1)), some (vR B), some (vR (B + 46)), some (vR (B + 58)), some (vI (i : Nat)), z5, z6, z7, z8] [] σ Q := by
  obtain ⟨hC, hI, ⟨m, A, hmd, hMX⟩, hO, hS⟩ := h
  have t1 : ((i : Int) + 1).toNat = i + 1 := by omega
  have t2 : ((i : Int) + 2).toNat = i + 2 := by omega
  have t3 : ((i : Int) + 3).toNat = i + 3 := by omega
  have t4 : ((i : Int) + 4).toNat = i + 4 := by omega
  obtain ⟨X', k, v, hGd, hk, hLR, hMR⟩ := p_run (s := X.1) (kp := X.2.1) (p := X.2.2.1) (n := X.2.2.2.1) (t := X.2.2.2.2) hC hI hG hO 
  simp only [e_Law_law_668, e_Law_law_669, e_Law_law_670, kR_l, kR_r, kP_0, kP_i, kP_r, kP_n, kP_s, kP_o, kLen_I, kLen_L, kLen_R, kLdI_0, kLdI_1, kLdI_2, kLdI_3, kStI_0, kStI_1, kLdL_e, kStL_e, kLdR_e, kStR_e, kFld_e, kNth_0, kNth_s, kPut_e, fit_I, fit_Z, fit_B, fit_C, fit_A, fit_O, Option.toList_some, Option.toList_none, List.cons_append, List.nil_append, true_and, and_true, List.set_cons_zero, List.set_cons_succ, st_same, Int.toNat_natCast, Int.cast_ofNat_Int, Nat.zero_add, Nat.reduceAdd, kRcv_1, kRcv_2, kRcv_3, kRcv_0, kRcv_4, kRcv_5, hS, t1, t2, t3, t4]
  refine hLR _ (fun σ1 hC1 fO hf => ?_)
  obtain ⟨f, hf1, hf2⟩ := hf
  have hS1 : σ1.1 (G 1) = some (oI 2 L fx) := by rw [fO.1 _ (by omega) (by omega)]; exact hS
  have hmd1 : IsMd σ1 (B + 46) m A := ⟨by rw [fO.1 _ (by omega) (by omega)]; exact hmd.1, fun j j1 j2 => by rw [fO.1 _ (by omega) (by omega)]; exact hmd.2 j j1 j2⟩
  have hrc := md_rc hmd1
  simp only [e_Law_law_673, e_Law_law_675, e_Law_law_676, kR_l, kR_r, kP_0, kP_i, kP_r, kP_n, kP_s, kP_o, kLen_I, kLen_L, kLen_R, kLdI_0, kLdI_1, kLdI_2, kLdI_3, kStI_0, kStI_1, kLdL_e, kStL_e, kLdR_e, kStR_e, kFld_e, kNth_0, kNth_s, kPut_e, fit_I, fit_Z, fit_B, fit_C, fit_A, fit_O, Option.toList_some, Option.toList_none, List.cons_append, List.nil_append, true_and, and_true, List.set_cons_zero, List.set_cons_succ, st_same, Int.toNat_natCast, Int.cast_ofNat_Int, Nat.zero_add, Nat.reduceAdd, kRcv_1, kRcv_2, kRcv_3, kRcv_0, kRcv_4, kRcv_5, hS1, hrc, t1, t2, t3, t4]
  refine md_id hmd1 (hMR σ1 m A _ hMX (fun m2 A2 b h1 h2 h3 => ?_))
  have hLI := LI.md (σ := σ) hG hG1 hC1 hGd hf1 hS1 h1
  have hf3 : (setMd σ1 (B + 46) m2 A2).1 (B + 58) = some (oL 1 f) := by rw [setMd_out (by omega)]; exact hf1
  have fin := fun z5 z6 z7 z8 => nx (setMd σ1 (B + 46) m2 A2) X' z5 z6 z7 z8 hLI fO.2
  clear nx hLR hMR
  simp only [e_Law_law_679, e_Law_law_681, e_Law_law_682, kR_l, kR_r, kP_0, kP_i, kP_r, kP_n, kP_s, kP_o, kLen_I, kLen_L, kLen_R, kLdI_0, kLdI_1, kLdI_2, kLdI_3, kStI_0, kStI_1, kLdL_e, kStL_e, kLdR_e, kStR_e, kFld_e, kNth_0, kNth_s, kPut_e, fit_I, fit_Z, fit_B, fit_C, fit_A, fit_O, Option.toList_some, Option.toList_none, List.cons_append, List.nil_append, true_and, and_true, List.set_cons_zero, List.set_cons_succ, st_same, Int.toNat_natCast, Int.cast_ofNat_Int, Nat.zero_add, Nat.reduceAdd, kRcv_1, kRcv_2, kRcv_3, kRcv_0, kRcv_4, kRcv_5, setMd_set, Mdo, Mda1, Mdw1, Mda2, Mdw2, Mda3, Mdw3, Mda4, Mdw4, Mda5, Mdw5, Mda6, Mdw6, Mda7, Mdw7, Mda8, Mdw8, Mda9, Mdw9, Mda10, Mdw10, Mda11, Mdw11, Mdp3, Mdp5, Mdp6, Mdp7, Mdp8, Mdp10, Mdp16, Mdp17, Mdp18]
  rw [s_Model_thrown, h2]
  simp only [e_Law_law_685, e_Law_law_687, kR_l, kR_r, kP_0, kP_i, kP_r, kP_n, kP_s, kP_o, kLen_I, kLen_L, kLen_R, kLdI_0, kLdI_1, kLdI_2, kLdI_3, kStI_0, kStI_1, kLdL_e, kStL_e, kLdR_e, kStR_e, kFld_e, kNth_0, kNth_s, kPut_e, fit_I, fit_Z, fit_B, fit_C, fit_A, fit_O, Option.toList_some, Option.toList_none, List.cons_append, List.nil_append, true_and, and_true, List.set_cons_zero, List.set_cons_succ, st_same, Int.toNat_natCast, Int.cast_ofNat_Int, Nat.zero_add, Nat.reduceAdd, kRcv_1, kRcv_2, kRcv_3, kRcv_0, kRcv_4, kRcv_5]
  refine ⟨⟨by unfold inR; omega, by unfold inR; omega⟩, fun _ => ?_, fun z => absurd trivial z⟩
  simp only [e_Law_law_692, e_Law_law_694, kR_l, kR_r, kP_0, kP_i, kP_r, kP_n, kP_s, kP_o, kLen_I, kLen_L, kLen_R, kLdI_0, kLdI_1, kLdI_2, kLdI_3, kStI_0, kStI_1, kLdL_e, kStL_e, kLdR_e, kStR_e, kFld_e, kNth_0, kNth_s, kPut_e, fit_I, fit_Z, fit_B, fit_C, fit_A, fit_O, Option.toList_some, Option.toList_none, List.cons_append, List.nil_append, true_and, and_true, List.set_cons_zero, List.set_cons_succ, st_same, Int.toNat_natCast, Int.cast_ofNat_Int, Nat.zero_add, Nat.reduceAdd, kRcv_1, kRcv_2, kRcv_3, kRcv_0, kRcv_4, kRcv_5]
  refine ⟨by unfold inR; omega, fun _ => ?_, fun c => ?_⟩
  · simp only [e_Law_law_709, kR_l, kR_r, kP_0, kP_i, kP_r, kP_n, kP_s, kP_o, kLen_I, kLen_L, kLen_R, kLdI_0, kLdI_1, kLdI_2, kLdI_3, kStI_0, kStI_1, kLdL_e, kStL_e, kLdR_e, kStR_e, kFld_e, kNth_0, kNth_s, kPut_e, fit_I, fit_Z, fit_B, fit_C, fit_A, fit_O, Option.toList_some, Option.toList_none, List.cons_append, List.nil_append, true_and, and_true, List.set_cons_zero, List.set_cons_succ, st_same, Int.toNat_natCast, Int.cast_ofNat_Int, Nat.zero_add, Nat.reduceAdd, kRcv_1, kRcv_2, kRcv_3, kRcv_0, kRcv_4, kRcv_5]
    exact fin _ _ _ _
  · have k0 : k = 0 := Classical.byContradiction c
    simp only [e_Law_law_697, e_Law_law_698, e_Law_law_699, e_Law_law_700, e_Law_law_702, e_Law_law_703, kR_l, kR_r, kP_0, kP_i, kP_r, kP_n, kP_s, kP_o, kLen_I, kLen_L, kLen_R, kLdI_0, kLdI_1, kLdI_2, kLdI_3, kStI_0, kStI_1, kLdL_e, kStL_e, kLdR_e, kStR_e, kFld_e, kNth_0, kNth_s, kPut_e, fit_I, fit_Z, fit_B, fit_C, fit_A, fit_O, Option.toList_some, Option.toList_none, List.cons_append, List.nil_append, true_and, and_true, List.set_cons_zero, List.set_cons_succ, st_same, Int.toNat_natCast, Int.cast_ofNat_Int, Nat.zero_add, Nat.reduceAdd, kRcv_1, kRcv_2, kRcv_3, kRcv_0, kRcv_4, kRcv_5, hf3, Int.reduceToNat]
    rw [hf2 k0, h3 k0, lcmp0]
    refine ⟨⟨by omega, by omega, by omega⟩, ?_⟩
    simp only [e_Law_law_704, e_Law_law_709, kR_l, kR_r, kP_0, kP_i, kP_r, kP_n, kP_s, kP_o, kLen_I, kLen_L, kLen_R, kLdI_0, kLdI_1, kLdI_2, kLdI_3, kStI_0, kStI_1, kLdL_e, kStL_e, kLdR_e, kStR_e, kFld_e, kNth_0, kNth_s, kPut_e, fit_I, fit_Z, fit_B, fit_C, fit_A, fit_O, Option.toList_some, Option.toList_none, List.cons_append, List.nil_append, true_and, and_true, List.set_cons_zero, List.set_cons_succ, st_same, Int.toNat_natCast, Int.cast_ofNat_Int, Nat.zero_add, Nat.reduceAdd, kRcv_1, kRcv_2, kRcv_3, kRcv_0, kRcv_4, kRcv_5]
    exact ⟨by unfold inR; omega, fun _ => fin _ _ _ _, fun z => absurd trivial z⟩
theorem c_kundo (h : LI G B L fx σ X) (hi : i + 5 ≤ L) (hL : L ≤ 2560) (hx : ∀ j, j < L → inR (fx j)) (hG : G 0 ≤ B) (hG1 : G 1 < G 0) (nx : NxQ G B L fx σ i Q) : WP G k_Law_law 712 [some (vR (G 1)), some (vR B), some (vR (B + 46)), some (vR (B + 58)), some (vI (i : Nat)), z5, z6, z7, z8] [] σ Q := by
  obtain ⟨hC, hI, ⟨m, A, hmd, hMX⟩, hO, hS⟩ := h
  have t1 : ((i : Int) + 1).toNat = i + 1 := by omega
  have t2 : ((i : Int) + 2).toNat = i + 2 := by omega
  have t3 : ((i : Int) + 3).toNat = i + 3 := by omega
  have t4 : ((i : Int) + 4).toNat = i + 4 := by omega
  obtain ⟨X', k, v, hGd, hk, hLR, hMR⟩ := p_undo (s := X.1) (kp := X.2.1) (p := X.2.2.1) (n := X.2.2.2.1) (t := X.2.2.2.2) hC hI hG hO 
  simp only [e_Law_law_712, e_Law_law_713, e_Law_law_714, kR_l, kR_r, kP_0, kP_i, kP_r, kP_n, kP_s, kP_o, kLen_I, kLen_L, kLen_R, kLdI_0, kLdI_1, kLdI_2, kLdI_3, kStI_0, kStI_1, kLdL_e, kStL_e, kLdR_e, kStR_e, kFld_e, kNth_0, kNth_s, kPut_e, fit_I, fit_Z, fit_B, fit_C, fit_A, fit_O, Option.toList_some, Option.toList_none, List.cons_append, List.nil_append, true_and, and_true, List.set_cons_zero, List.set_cons_succ, st_same, Int.toNat_natCast, Int.cast_ofNat_Int, Nat.zero_add, Nat.reduceAdd, kRcv_1, kRcv_2, kRcv_3, kRcv_0, kRcv_4, kRcv_5, hS, t1, t2, t3, t4]
  refine hLR _ (fun σ1 hC1 fO hf => ?_)
  obtain ⟨f, hf1, hf2⟩ := hf
  have hS1 : σ1.1 (G 1) = some (oI 2 L fx) := by rw [fO.1 _ (by omega) (by omega)]; exact hS
  have hmd1 : IsMd σ1 (B + 46) m A := ⟨by rw [fO.1 _ (by omega) (by omega)]; exact hmd.1, fun j j1 j2 => by rw [fO.1 _ (by omega) (by omega)]; exact hmd.2 j j1 j2⟩
  have hrc := md_rc hmd1
  simp only [e_Law_law_717, e_Law_law_719, e_Law_law_720, kR_l, kR_r, kP_0, kP_i, kP_r, kP_n, kP_s, kP_o, kLen_I, kLen_L, kLen_R, kLdI_0, kLdI_1, kLdI_2, kLdI_3, kStI_0, kStI_1, kLdL_e, kStL_e, kLdR_e, kStR_e, kFld_e, kNth_0, kNth_s, kPut_e, fit_I, fit_Z, fit_B, fit_C, fit_A, fit_O, Option.toList_some, Option.toList_none, List.cons_append, List.nil_append, true_and, and_true, List.set_cons_zero, List.set_cons_succ, st_same, Int.toNat_natCast, Int.cast_ofNat_Int, Nat.zero_add, Nat.reduceAdd, kRcv_1, kRcv_2, kRcv_3, kRcv_0, kRcv_4, kRcv_5, hS1, hrc, t1, t2, t3, t4]
  refine md_id hmd1 (hMR σ1 m A _ hMX (fun m2 A2 b h1 h2 h3 => ?_))
  have hLI := LI.md (σ := σ) hG hG1 hC1 hGd hf1 hS1 h1
  have hf3 : (setMd σ1 (B + 46) m2 A2).1 (B + 58) = some (oL 1 f) := by rw [setMd_out (by omega)]; exact hf1
  have fin := fun z5 z6 z7 z8 => nx (setMd σ1 (B + 46) m2 A2) X' z5 z6 z7 z8 hLI fO.2
  clear nx hLR hMR
  simp only [e_Law_law_723, e_Law_law_725, e_Law_law_726, kR_l, kR_r, kP_0, kP_i, kP_r, kP_n, kP_s, kP_o, kLen_I, kLen_L, kLen_R, kLdI_0, kLdI_1, kLdI_2, kLdI_3, kStI_0, kStI_1, kLdL_e, kStL_e, kLdR_e, kStR_e, kFld_e, kNth_0, kNth_s, kPut_e, fit_I, fit_Z, fit_B, fit_C, fit_A, fit_O, Option.toList_some, Option.toList_none, List.cons_append, List.nil_append, true_and, and_true, List.set_cons_zero, List.set_cons_succ, st_same, Int.toNat_natCast, Int.cast_ofNat_Int, Nat.zero_add, Nat.reduceAdd, kRcv_1, kRcv_2, kRcv_3, kRcv_0, kRcv_4, kRcv_5, setMd_set, Mdo, Mda1, Mdw1, Mda2, Mdw2, Mda3, Mdw3, Mda4, Mdw4, Mda5, Mdw5, Mda6, Mdw6, Mda7, Mdw7, Mda8, Mdw8, Mda9, Mdw9, Mda10, Mdw10, Mda11, Mdw11, Mdp3, Mdp5, Mdp6, Mdp7, Mdp8, Mdp10, Mdp16, Mdp17, Mdp18]
  rw [s_Model_thrown, h2]
  simp only [e_Law_law_729, e_Law_law_731, kR_l, kR_r, kP_0, kP_i, kP_r, kP_n, kP_s, kP_o, kLen_I, kLen_L, kLen_R, kLdI_0, kLdI_1, kLdI_2, kLdI_3, kStI_0, kStI_1, kLdL_e, kStL_e, kLdR_e, kStR_e, kFld_e, kNth_0, kNth_s, kPut_e, fit_I, fit_Z, fit_B, fit_C, fit_A, fit_O, Option.toList_some, Option.toList_none, List.cons_append, List.nil_append, true_and, and_true, List.set_cons_zero, List.set_cons_succ, st_same, Int.toNat_natCast, Int.cast_ofNat_Int, Nat.zero_add, Nat.reduceAdd, kRcv_1, kRcv_2, kRcv_3, kRcv_0, kRcv_4, kRcv_5]
  refine ⟨⟨by unfold inR; omega, by unfold inR; omega⟩, fun _ => ?_, fun z => absurd trivial z⟩
  simp only [e_Law_law_736, e_Law_law_738, kR_l, kR_r, kP_0, kP_i, kP_r, kP_n, kP_s, kP_o, kLen_I, kLen_L, kLen_R, kLdI_0, kLdI_1, kLdI_2, kLdI_3, kStI_0, kStI_1, kLdL_e, kStL_e, kLdR_e, kStR_e, kFld_e, kNth_0, kNth_s, kPut_e, fit_I, fit_Z, fit_B, fit_C, fit_A, fit_O, Option.toList_some, Option.toList_none, List.cons_append, List.nil_append, true_and, and_true, List.set_cons_zero, List.set_cons_succ, st_same, Int.toNat_natCast, Int.cast_ofNat_Int, Nat.zero_add, Nat.reduceAdd, kRcv_1, kRcv_2, kRcv_3, kRcv_0, kRcv_4, kRcv_5]
  refine ⟨by unfold inR; omega, fun _ => ?_, fun c => ?_⟩
  · simp only [e_Law_law_753, kR_l, kR_r, kP_0, kP_i, kP_r, kP_n, kP_s, kP_o, kLen_I, kLen_L, kLen_R, kLdI_0, kLdI_1, kLdI_2, kLdI_3, kStI_0, kStI_1, kLdL_e, kStL_e, kLdR_e, kStR_e, kFld_e, kNth_0, kNth_s, kPut_e, fit_I, fit_Z, fit_B, fit_C, fit_A, fit_O, Option.toList_some, Option.toList_none, List.cons_append, List.nil_append, true_and, and_true, List.set_cons_zero, List.set_cons_succ, st_same, Int.toNat_natCast, Int.cast_ofNat_Int, Nat.zero_add, Nat.reduceAdd, kRcv_1, kRcv_2, kRcv_3, kRcv_0, kRcv_4, kRcv_5]
    exact fin _ _ _ _
  · have k0 : k = 0 := Classical.byContradiction c
    simp only [e_Law_law_741, e_Law_law_742, e_Law_law_743, e_Law_law_744, e_Law_law_746, e_Law_law_747, kR_l, kR_r, kP_0, kP_i, kP_r, kP_n, kP_s, kP_o, kLen_I, kLen_L, kLen_R, kLdI_0, kLdI_1, kLdI_2, kLdI_3, kStI_0, kStI_1, kLdL_e, kStL_e, kLdR_e, kStR_e, kFld_e, kNth_0, kNth_s, kPut_e, fit_I, fit_Z, fit_B, fit_C, fit_A, fit_O, Option.toList_some, Option.toList_none, List.cons_append, List.nil_append, true_and, and_true, List.set_cons_zero, List.set_cons_succ, st_same, Int.toNat_natCast, Int.cast_ofNat_Int, Nat.zero_add, Nat.reduceAdd, kRcv_1, kRcv_2, kRcv_3, kRcv_0, kRcv_4, kRcv_5, hf3, Int.reduceToNat]
    rw [hf2 k0, h3 k0, lcmp0]
    refine ⟨⟨by omega, by omega, by omega⟩, ?_⟩
    simp only [e_Law_law_748, e_Law_law_753, kR_l, kR_r, kP_0, kP_i, kP_r, kP_n, kP_s, kP_o, kLen_I, kLen_L, kLen_R, kLdI_0, kLdI_1, kLdI_2, kLdI_3, kStI_0, kStI_1, kLdL_e, kStL_e, kLdR_e, kStR_e, kFld_e, kNth_0, kNth_s, kPut_e, fit_I, fit_Z, fit_B, fit_C, fit_A, fit_O, Option.toList_some, Option.toList_none, List.cons_append, List.nil_append, true_and, and_true, List.set_cons_zero, List.set_cons_succ, st_same, Int.toNat_natCast, Int.cast_ofNat_Int, Nat.zero_add, Nat.reduceAdd, kRcv_1, kRcv_2, kRcv_3, kRcv_0, kRcv_4, kRcv_5]
    exact ⟨by unfold inR; omega, fun _ => fin _ _ _ _, fun z => absurd trivial z⟩
theorem c_ksquare (h : LI G B L fx σ X) (hi : i + 5 ≤ L) (hL : L ≤ 2560) (hx : ∀ j, j < L → inR (fx j)) (hG : G 0 ≤ B) (hG1 : G 1 < G 0) (nx : NxQ G B L fx σ i Q) : WP G k_Law_law 756 [some (vR (G 1)), some (vR B), some (vR (B + 46)), some (vR (B + 58)), some (vI (i : Nat)), z5, z6, z7, z8] [] σ Q := by
  obtain ⟨hC, hI, ⟨m, A, hmd, hMX⟩, hO, hS⟩ := h
  have t1 : ((i : Int) + 1).toNat = i + 1 := by omega
  have t2 : ((i : Int) + 2).toNat = i + 2 := by omega
  have t3 : ((i : Int) + 3).toNat = i + 3 := by omega
  have t4 : ((i : Int) + 4).toNat = i + 4 := by omega
  obtain ⟨X', k, v, hGd, hk, hLR, hMR⟩ := p_square (s := X.1) (kp := X.2.1) (p := X.2.2.1) (n := X.2.2.2.1) (t := X.2.2.2.2) hC hI hG hO (hx (i + 1) (by omega)) (hx (i + 2) (by omega)) (hx (i + 3) (by omega))
  simp only [e_Law_law_756, e_Law_law_757, e_Law_law_758, e_Law_law_760, e_Law_law_761, e_Law_law_762, e_Law_law_763, e_Law_law_764, e_Law_law_766, e_Law_law_767, e_Law_law_768, e_Law_law_769, e_Law_law_770, e_Law_law_772, e_Law_law_773, e_Law_law_774, e_Law_law_775, e_Law_law_776, kR_l, kR_r, kP_0, kP_i, kP_r, kP_n, kP_s, kP_o, kLen_I, kLen_L, kLen_R, kLdI_0, kLdI_1, kLdI_2, kLdI_3, kStI_0, kStI_1, kLdL_e, kStL_e, kLdR_e, kStR_e, kFld_e, kNth_0, kNth_s, kPut_e, fit_I, fit_Z, fit_B, fit_C, fit_A, fit_O, Option.toList_some, Option.toList_none, List.cons_append, List.nil_append, true_and, and_true, List.set_cons_zero, List.set_cons_succ, st_same, Int.toNat_natCast, Int.cast_ofNat_Int, Nat.zero_add, Nat.reduceAdd, kRcv_1, kRcv_2, kRcv_3, kRcv_0, kRcv_4, kRcv_5, hS, t1, t2, t3, t4]
  refine ⟨⟨by omega, by omega, by omega⟩, ⟨by omega, by omega, by omega⟩, ⟨by omega, by omega, by omega⟩, ?_⟩
  refine hLR _ (fun σ1 hC1 fO hf => ?_)
  obtain ⟨f, hf1, hf2⟩ := hf
  have hS1 : σ1.1 (G 1) = some (oI 2 L fx) := by rw [fO.1 _ (by omega) (by omega)]; exact hS
  have hmd1 : IsMd σ1 (B + 46) m A := ⟨by rw [fO.1 _ (by omega) (by omega)]; exact hmd.1, fun j j1 j2 => by rw [fO.1 _ (by omega) (by omega)]; exact hmd.2 j j1 j2⟩
  have hrc := md_rc hmd1
  simp only [e_Law_law_779, e_Law_law_781, e_Law_law_782, e_Law_law_783, e_Law_law_785, e_Law_law_786, e_Law_law_787, e_Law_law_788, e_Law_law_789, e_Law_law_791, e_Law_law_792, e_Law_law_793, e_Law_law_794, e_Law_law_795, e_Law_law_797, e_Law_law_798, e_Law_law_799, e_Law_law_800, kR_l, kR_r, kP_0, kP_i, kP_r, kP_n, kP_s, kP_o, kLen_I, kLen_L, kLen_R, kLdI_0, kLdI_1, kLdI_2, kLdI_3, kStI_0, kStI_1, kLdL_e, kStL_e, kLdR_e, kStR_e, kFld_e, kNth_0, kNth_s, kPut_e, fit_I, fit_Z, fit_B, fit_C, fit_A, fit_O, Option.toList_some, Option.toList_none, List.cons_append, List.nil_append, true_and, and_true, List.set_cons_zero, List.set_cons_succ, st_same, Int.toNat_natCast, Int.cast_ofNat_Int, Nat.zero_add, Nat.reduceAdd, kRcv_1, kRcv_2, kRcv_3, kRcv_0, kRcv_4, kRcv_5, hS1, hrc, t1, t2, t3, t4]
  refine ⟨⟨by omega, by omega, by omega⟩, ⟨by omega, by omega, by omega⟩, ⟨by omega, by omega, by omega⟩, ?_⟩
  refine md_id hmd1 (hMR σ1 m A _ hMX (fun m2 A2 b h1 h2 h3 => ?_))
  have hLI := LI.md (σ := σ) hG hG1 hC1 hGd hf1 hS1 h1
  have hf3 : (setMd σ1 (B + 46) m2 A2).1 (B + 58) = some (oL 1 f) := by rw [setMd_out (by omega)]; exact hf1
  have fin := fun z5 z6 z7 z8 => nx (setMd σ1 (B + 46) m2 A2) X' z5 z6 z7 z8 hLI fO.2
  clear nx hLR hMR
  simp only [e_Law_law_803, e_Law_law_805, e_Law_law_806, kR_l, kR_r, kP_0, kP_i, kP_r, kP_n, kP_s, kP_o, kLen_I, kLen_L, kLen_R, kLdI_0, kLdI_1, kLdI_2, kLdI_3, kStI_0, kStI_1, kLdL_e, kStL_e, kLdR_e, kStR_e, kFld_e, kNth_0, kNth_s, kPut_e, fit_I, fit_Z, fit_B, fit_C, fit_A, fit_O, Option.toList_some, Option.toList_none, List.cons_append, List.nil_append, true_and, and_true, List.set_cons_zero, List.set_cons_succ, st_same, Int.toNat_natCast, Int.cast_ofNat_Int, Nat.zero_add, Nat.reduceAdd, kRcv_1, kRcv_2, kRcv_3, kRcv_0, kRcv_4, kRcv_5, setMd_set, Mdo, Mda1, Mdw1, Mda2, Mdw2, Mda3, Mdw3, Mda4, Mdw4, Mda5, Mdw5, Mda6, Mdw6, Mda7, Mdw7, Mda8, Mdw8, Mda9, Mdw9, Mda10, Mdw10, Mda11, Mdw11, Mdp3, Mdp5, Mdp6, Mdp7, Mdp8, Mdp10, Mdp16, Mdp17, Mdp18]
  rw [s_Model_thrown, h2]
  simp only [e_Law_law_809, e_Law_law_811, kR_l, kR_r, kP_0, kP_i, kP_r, kP_n, kP_s, kP_o, kLen_I, kLen_L, kLen_R, kLdI_0, kLdI_1, kLdI_2, kLdI_3, kStI_0, kStI_1, kLdL_e, kStL_e, kLdR_e, kStR_e, kFld_e, kNth_0, kNth_s, kPut_e, fit_I, fit_Z, fit_B, fit_C, fit_A, fit_O, Option.toList_some, Option.toList_none, List.cons_append, List.nil_append, true_and, and_true, List.set_cons_zero, List.set_cons_succ, st_same, Int.toNat_natCast, Int.cast_ofNat_Int, Nat.zero_add, Nat.reduceAdd, kRcv_1, kRcv_2, kRcv_3, kRcv_0, kRcv_4, kRcv_5]
  refine ⟨⟨by unfold inR; omega, by unfold inR; omega⟩, fun _ => ?_, fun z => absurd trivial z⟩
  simp only [e_Law_law_816, e_Law_law_818, kR_l, kR_r, kP_0, kP_i, kP_r, kP_n, kP_s, kP_o, kLen_I, kLen_L, kLen_R, kLdI_0, kLdI_1, kLdI_2, kLdI_3, kStI_0, kStI_1, kLdL_e, kStL_e, kLdR_e, kStR_e, kFld_e, kNth_0, kNth_s, kPut_e, fit_I, fit_Z, fit_B, fit_C, fit_A, fit_O, Option.toList_some, Option.toList_none, List.cons_append, List.nil_append, true_and, and_true, List.set_cons_zero, List.set_cons_succ, st_same, Int.toNat_natCast, Int.cast_ofNat_Int, Nat.zero_add, Nat.reduceAdd, kRcv_1, kRcv_2, kRcv_3, kRcv_0, kRcv_4, kRcv_5]
  refine ⟨by unfold inR; omega, fun _ => ?_, fun c => ?_⟩
  · simp only [e_Law_law_833, kR_l, kR_r, kP_0, kP_i, kP_r, kP_n, kP_s, kP_o, kLen_I, kLen_L, kLen_R, kLdI_0, kLdI_1, kLdI_2, kLdI_3, kStI_0, kStI_1, kLdL_e, kStL_e, kLdR_e, kStR_e, kFld_e, kNth_0, kNth_s, kPut_e, fit_I, fit_Z, fit_B, fit_C, fit_A, fit_O, Option.toList_some, Option.toList_none, List.cons_append, List.nil_append, true_and, and_true, List.set_cons_zero, List.set_cons_succ, st_same, Int.toNat_natCast, Int.cast_ofNat_Int, Nat.zero_add, Nat.reduceAdd, kRcv_1, kRcv_2, kRcv_3, kRcv_0, kRcv_4, kRcv_5]
    exact fin _ _ _ _
  · have k0 : k = 0 := Classical.byContradiction c
    simp only [e_Law_law_821, e_Law_law_822, e_Law_law_823, e_Law_law_824, e_Law_law_826, e_Law_law_827, kR_l, kR_r, kP_0, kP_i, kP_r, kP_n, kP_s, kP_o, kLen_I, kLen_L, kLen_R, kLdI_0, kLdI_1, kLdI_2, kLdI_3, kStI_0, kStI_1, kLdL_e, kStL_e, kLdR_e, kStR_e, kFld_e, kNth_0, kNth_s, kPut_e, fit_I, fit_Z, fit_B, fit_C, fit_A, fit_O, Option.toList_some, Option.toList_none, List.cons_append, List.nil_append, true_and, and_true, List.set_cons_zero, List.set_cons_succ, st_same, Int.toNat_natCast, Int.cast_ofNat_Int, Nat.zero_add, Nat.reduceAdd, kRcv_1, kRcv_2, kRcv_3, kRcv_0, kRcv_4, kRcv_5, hf3, Int.reduceToNat]
    rw [hf2 k0, h3 k0, lcmp0]
    refine ⟨⟨by omega, by omega, by omega⟩, ?_⟩
    simp only [e_Law_law_828, e_Law_law_833, kR_l, kR_r, kP_0, kP_i, kP_r, kP_n, kP_s, kP_o, kLen_I, kLen_L, kLen_R, kLdI_0, kLdI_1, kLdI_2, kLdI_3, kStI_0, kStI_1, kLdL_e, kStL_e, kLdR_e, kStR_e, kFld_e, kNth_0, kNth_s, kPut_e, fit_I, fit_Z, fit_B, fit_C, fit_A, fit_O, Option.toList_some, Option.toList_none, List.cons_append, List.nil_append, true_and, and_true, List.set_cons_zero, List.set_cons_succ, st_same, Int.toNat_natCast, Int.cast_ofNat_Int, Nat.zero_add, Nat.reduceAdd, kRcv_1, kRcv_2, kRcv_3, kRcv_0, kRcv_4, kRcv_5]
    exact ⟨by unfold inR; omega, fun _ => fin _ _ _ _, fun z => absurd trivial z⟩
theorem c_kchamber (h : LI G B L fx σ X) (hi : i + 5 ≤ L) (hL : L ≤ 2560) (hx : ∀ j, j < L → inR (fx j)) (hG : G 0 ≤ B) (hG1 : G 1 < G 0) (nx : NxQ G B L fx σ i Q) : WP G k_Law_law 836 [some (vR (G 1)), some (vR B), some (vR (B + 46)), some (vR (B + 58)), some (vI (i : Nat)), z5, z6, z7, z8] [] σ Q := by
  obtain ⟨hC, hI, ⟨m, A, hmd, hMX⟩, hO, hS⟩ := h
  have t1 : ((i : Int) + 1).toNat = i + 1 := by omega
  have t2 : ((i : Int) + 2).toNat = i + 2 := by omega
  have t3 : ((i : Int) + 3).toNat = i + 3 := by omega
  have t4 : ((i : Int) + 4).toNat = i + 4 := by omega
  obtain ⟨X', k, v, hGd, hk, hLR, hMR⟩ := p_chamber (s := X.1) (kp := X.2.1) (p := X.2.2.1) (n := X.2.2.2.1) (t := X.2.2.2.2) hC hI hG hO (hx (i + 1) (by omega)) (hx (i + 2) (by omega))
  simp only [e_Law_law_836, e_Law_law_837, e_Law_law_838, e_Law_law_840, e_Law_law_841, e_Law_law_842, e_Law_law_843, e_Law_law_844, e_Law_law_846, e_Law_law_847, e_Law_law_848, e_Law_law_849, e_Law_law_850, kR_l, kR_r, kP_0, kP_i, kP_r, kP_n, kP_s, kP_o, kLen_I, kLen_L, kLen_R, kLdI_0, kLdI_1, kLdI_2, kLdI_3, kStI_0, kStI_1, kLdL_e, kStL_e, kLdR_e, kStR_e, kFld_e, kNth_0, kNth_s, kPut_e, fit_I, fit_Z, fit_B, fit_C, fit_A, fit_O, Option.toList_some, Option.toList_none, List.cons_append, List.nil_append, true_and, and_true, List.set_cons_zero, List.set_cons_succ, st_same, Int.toNat_natCast, Int.cast_ofNat_Int, Nat.zero_add, Nat.reduceAdd, kRcv_1, kRcv_2, kRcv_3, kRcv_0, kRcv_4, kRcv_5, hS, t1, t2, t3, t4]
  refine ⟨⟨by omega, by omega, by omega⟩, ⟨by omega, by omega, by omega⟩, ?_⟩
  refine hLR _ (fun σ1 hC1 fO hf => ?_)
  obtain ⟨f, hf1, hf2⟩ := hf
  have hS1 : σ1.1 (G 1) = some (oI 2 L fx) := by rw [fO.1 _ (by omega) (by omega)]; exact hS
  have hmd1 : IsMd σ1 (B + 46) m A := ⟨by rw [fO.1 _ (by omega) (by omega)]; exact hmd.1, fun j j1 j2 => by rw [fO.1 _ (by omega) (by omega)]; exact hmd.2 j j1 j2⟩
  have hrc := md_rc hmd1
  simp only [e_Law_law_853, e_Law_law_855, e_Law_law_856, e_Law_law_857, e_Law_law_859, e_Law_law_860, e_Law_law_861, e_Law_law_862, e_Law_law_863, e_Law_law_865, e_Law_law_866, e_Law_law_867, e_Law_law_868, kR_l, kR_r, kP_0, kP_i, kP_r, kP_n, kP_s, kP_o, kLen_I, kLen_L, kLen_R, kLdI_0, kLdI_1, kLdI_2, kLdI_3, kStI_0, kStI_1, kLdL_e, kStL_e, kLdR_e, kStR_e, kFld_e, kNth_0, kNth_s, kPut_e, fit_I, fit_Z, fit_B, fit_C, fit_A, fit_O, Option.toList_some, Option.toList_none, List.cons_append, List.nil_append, true_and, and_true, List.set_cons_zero, List.set_cons_succ, st_same, Int.toNat_natCast, Int.cast_ofNat_Int, Nat.zero_add, Nat.reduceAdd, kRcv_1, kRcv_2, kRcv_3, kRcv_0, kRcv_4, kRcv_5, hS1, hrc, t1, t2, t3, t4]
  refine ⟨⟨by omega, by omega, by omega⟩, ⟨by omega, by omega, by omega⟩, ?_⟩
  refine md_id hmd1 (hMR σ1 m A _ hMX (fun m2 A2 b h1 h2 h3 => ?_))
  have hLI := LI.md (σ := σ) hG hG1 hC1 hGd hf1 hS1 h1
  have hf3 : (setMd σ1 (B + 46) m2 A2).1 (B + 58) = some (oL 1 f) := by rw [setMd_out (by omega)]; exact hf1
  have fin := fun z5 z6 z7 z8 => nx (setMd σ1 (B + 46) m2 A2) X' z5 z6 z7 z8 hLI fO.2
  clear nx hLR hMR
  simp only [e_Law_law_871, e_Law_law_873, e_Law_law_874, kR_l, kR_r, kP_0, kP_i, kP_r, kP_n, kP_s, kP_o, kLen_I, kLen_L, kLen_R, kLdI_0, kLdI_1, kLdI_2, kLdI_3, kStI_0, kStI_1, kLdL_e, kStL_e, kLdR_e, kStR_e, kFld_e, kNth_0, kNth_s, kPut_e, fit_I, fit_Z, fit_B, fit_C, fit_A, fit_O, Option.toList_some, Option.toList_none, List.cons_append, List.nil_append, true_and, and_true, List.set_cons_zero, List.set_cons_succ, st_same, Int.toNat_natCast, Int.cast_ofNat_Int, Nat.zero_add, Nat.reduceAdd, kRcv_1, kRcv_2, kRcv_3, kRcv_0, kRcv_4, kRcv_5, setMd_set, Mdo, Mda1, Mdw1, Mda2, Mdw2, Mda3, Mdw3, Mda4, Mdw4, Mda5, Mdw5, Mda6, Mdw6, Mda7, Mdw7, Mda8, Mdw8, Mda9, Mdw9, Mda10, Mdw10, Mda11, Mdw11, Mdp3, Mdp5, Mdp6, Mdp7, Mdp8, Mdp10, Mdp16, Mdp17, Mdp18]
  rw [s_Model_thrown, h2]
  simp only [e_Law_law_877, e_Law_law_879, kR_l, kR_r, kP_0, kP_i, kP_r, kP_n, kP_s, kP_o, kLen_I, kLen_L, kLen_R, kLdI_0, kLdI_1, kLdI_2, kLdI_3, kStI_0, kStI_1, kLdL_e, kStL_e, kLdR_e, kStR_e, kFld_e, kNth_0, kNth_s, kPut_e, fit_I, fit_Z, fit_B, fit_C, fit_A, fit_O, Option.toList_some, Option.toList_none, List.cons_append, List.nil_append, true_and, and_true, List.set_cons_zero, List.set_cons_succ, st_same, Int.toNat_natCast, Int.cast_ofNat_Int, Nat.zero_add, Nat.reduceAdd, kRcv_1, kRcv_2, kRcv_3, kRcv_0, kRcv_4, kRcv_5]
  refine ⟨⟨by unfold inR; omega, by unfold inR; omega⟩, fun _ => ?_, fun z => absurd trivial z⟩
  simp only [e_Law_law_884, e_Law_law_886, kR_l, kR_r, kP_0, kP_i, kP_r, kP_n, kP_s, kP_o, kLen_I, kLen_L, kLen_R, kLdI_0, kLdI_1, kLdI_2, kLdI_3, kStI_0, kStI_1, kLdL_e, kStL_e, kLdR_e, kStR_e, kFld_e, kNth_0, kNth_s, kPut_e, fit_I, fit_Z, fit_B, fit_C, fit_A, fit_O, Option.toList_some, Option.toList_none, List.cons_append, List.nil_append, true_and, and_true, List.set_cons_zero, List.set_cons_succ, st_same, Int.toNat_natCast, Int.cast_ofNat_Int, Nat.zero_add, Nat.reduceAdd, kRcv_1, kRcv_2, kRcv_3, kRcv_0, kRcv_4, kRcv_5]
  refine ⟨by unfold inR; omega, fun _ => ?_, fun c => ?_⟩
  · simp only [e_Law_law_901, kR_l, kR_r, kP_0, kP_i, kP_r, kP_n, kP_s, kP_o, kLen_I, kLen_L, kLen_R, kLdI_0, kLdI_1, kLdI_2, kLdI_3, kStI_0, kStI_1, kLdL_e, kStL_e, kLdR_e, kStR_e, kFld_e, kNth_0, kNth_s, kPut_e, fit_I, fit_Z, fit_B, fit_C, fit_A, fit_O, Option.toList_some, Option.toList_none, List.cons_append, List.nil_append, true_and, and_true, List.set_cons_zero, List.set_cons_succ, st_same, Int.toNat_natCast, Int.cast_ofNat_Int, Nat.zero_add, Nat.reduceAdd, kRcv_1, kRcv_2, kRcv_3, kRcv_0, kRcv_4, kRcv_5]
    exact fin _ _ _ _
  · have k0 : k = 0 := Classical.byContradiction c
    simp only [e_Law_law_889, e_Law_law_890, e_Law_law_891, e_Law_law_892, e_Law_law_894, e_Law_law_895, kR_l, kR_r, kP_0, kP_i, kP_r, kP_n, kP_s, kP_o, kLen_I, kLen_L, kLen_R, kLdI_0, kLdI_1, kLdI_2, kLdI_3, kStI_0, kStI_1, kLdL_e, kStL_e, kLdR_e, kStR_e, kFld_e, kNth_0, kNth_s, kPut_e, fit_I, fit_Z, fit_B, fit_C, fit_A, fit_O, Option.toList_some, Option.toList_none, List.cons_append, List.nil_append, true_and, and_true, List.set_cons_zero, List.set_cons_succ, st_same, Int.toNat_natCast, Int.cast_ofNat_Int, Nat.zero_add, Nat.reduceAdd, kRcv_1, kRcv_2, kRcv_3, kRcv_0, kRcv_4, kRcv_5, hf3, Int.reduceToNat]
    rw [hf2 k0, h3 k0, lcmp0]
    refine ⟨⟨by omega, by omega, by omega⟩, ?_⟩
    simp only [e_Law_law_896, e_Law_law_901, kR_l, kR_r, kP_0, kP_i, kP_r, kP_n, kP_s, kP_o, kLen_I, kLen_L, kLen_R, kLdI_0, kLdI_1, kLdI_2, kLdI_3, kStI_0, kStI_1, kLdL_e, kStL_e, kLdR_e, kStR_e, kFld_e, kNth_0, kNth_s, kPut_e, fit_I, fit_Z, fit_B, fit_C, fit_A, fit_O, Option.toList_some, Option.toList_none, List.cons_append, List.nil_append, true_and, and_true, List.set_cons_zero, List.set_cons_succ, st_same, Int.toNat_natCast, Int.cast_ofNat_Int, Nat.zero_add, Nat.reduceAdd, kRcv_1, kRcv_2, kRcv_3, kRcv_0, kRcv_4, kRcv_5]
    exact ⟨by unfold inR; omega, fun _ => fin _ _ _ _, fun z => absurd trivial z⟩
theorem c_kway (h : LI G B L fx σ X) (hi : i + 5 ≤ L) (hL : L ≤ 2560) (hx : ∀ j, j < L → inR (fx j)) (hG : G 0 ≤ B) (hG1 : G 1 < G 0) (nx : NxQ G B L fx σ i Q) : WP G k_Law_law 904 [some (vR (G 1)), some (vR B), some (vR (B + 46)), some (vR (B + 58)), some (vI (i : Nat)), z5, z6, z7, z8] [] σ Q := by
  obtain ⟨hC, hI, ⟨m, A, hmd, hMX⟩, hO, hS⟩ := h
  have t1 : ((i : Int) + 1).toNat = i + 1 := by omega
  have t2 : ((i : Int) + 2).toNat = i + 2 := by omega
  have t3 : ((i : Int) + 3).toNat = i + 3 := by omega
  have t4 : ((i : Int) + 4).toNat = i + 4 := by omega
  obtain ⟨X', k, v, hGd, hk, hLR, hMR⟩ := p_way (s := X.1) (kp := X.2.1) (p := X.2.2.1) (n := X.2.2.2.1) (t := X.2.2.2.2) hC hI hG hO (hx (i + 1) (by omega)) (hx (i + 2) (by omega)) (hx (i + 3) (by omega))
  simp only [e_Law_law_904, e_Law_law_905, e_Law_law_906, e_Law_law_908, e_Law_law_909, e_Law_law_910, e_Law_law_911, e_Law_law_912, e_Law_law_914, e_Law_law_915, e_Law_law_916, e_Law_law_917, e_Law_law_918, e_Law_law_920, e_Law_law_921, e_Law_law_922, e_Law_law_923, e_Law_law_924, kR_l, kR_r, kP_0, kP_i, kP_r, kP_n, kP_s, kP_o, kLen_I, kLen_L, kLen_R, kLdI_0, kLdI_1, kLdI_2, kLdI_3, kStI_0, kStI_1, kLdL_e, kStL_e, kLdR_e, kStR_e, kFld_e, kNth_0, kNth_s, kPut_e, fit_I, fit_Z, fit_B, fit_C, fit_A, fit_O, Option.toList_some, Option.toList_none, List.cons_append, List.nil_append, true_and, and_true, List.set_cons_zero, List.set_cons_succ, st_same, Int.toNat_natCast, Int.cast_ofNat_Int, Nat.zero_add, Nat.reduceAdd, kRcv_1, kRcv_2, kRcv_3, kRcv_0, kRcv_4, kRcv_5, hS, t1, t2, t3, t4]
  refine ⟨⟨by omega, by omega, by omega⟩, ⟨by omega, by omega, by omega⟩, ⟨by omega, by omega, by omega⟩, ?_⟩
  refine hLR _ (fun σ1 hC1 fO hf => ?_)
  obtain ⟨f, hf1, hf2⟩ := hf
  have hS1 : σ1.1 (G 1) = some (oI 2 L fx) := by rw [fO.1 _ (by omega) (by omega)]; exact hS
  have hmd1 : IsMd σ1 (B + 46) m A := ⟨by rw [fO.1 _ (by omega) (by omega)]; exact hmd.1, fun j j1 j2 => by rw [fO.1 _ (by omega) (by omega)]; exact hmd.2 j j1 j2⟩
  have hrc := md_rc hmd1
  simp only [e_Law_law_927, e_Law_law_929, e_Law_law_930, e_Law_law_931, e_Law_law_933, e_Law_law_934, e_Law_law_935, e_Law_law_936, e_Law_law_937, e_Law_law_939, e_Law_law_940, e_Law_law_941, e_Law_law_942, e_Law_law_943, e_Law_law_945, e_Law_law_946, e_Law_law_947, e_Law_law_948, kR_l, kR_r, kP_0, kP_i, kP_r, kP_n, kP_s, kP_o, kLen_I, kLen_L, kLen_R, kLdI_0, kLdI_1, kLdI_2, kLdI_3, kStI_0, kStI_1, kLdL_e, kStL_e, kLdR_e, kStR_e, kFld_e, kNth_0, kNth_s, kPut_e, fit_I, fit_Z, fit_B, fit_C, fit_A, fit_O, Option.toList_some, Option.toList_none, List.cons_append, List.nil_append, true_and, and_true, List.set_cons_zero, List.set_cons_succ, st_same, Int.toNat_natCast, Int.cast_ofNat_Int, Nat.zero_add, Nat.reduceAdd, kRcv_1, kRcv_2, kRcv_3, kRcv_0, kRcv_4, kRcv_5, hS1, hrc, t1, t2, t3, t4]
  refine ⟨⟨by omega, by omega, by omega⟩, ⟨by omega, by omega, by omega⟩, ⟨by omega, by omega, by omega⟩, ?_⟩
  refine md_id hmd1 (hMR σ1 m A _ hMX (fun m2 A2 b h1 h2 h3 => ?_))
  have hLI := LI.md (σ := σ) hG hG1 hC1 hGd hf1 hS1 h1
  have hf3 : (setMd σ1 (B + 46) m2 A2).1 (B + 58) = some (oL 1 f) := by rw [setMd_out (by omega)]; exact hf1
  have fin := fun z5 z6 z7 z8 => nx (setMd σ1 (B + 46) m2 A2) X' z5 z6 z7 z8 hLI fO.2
  clear nx hLR hMR
  simp only [e_Law_law_951, e_Law_law_953, e_Law_law_954, kR_l, kR_r, kP_0, kP_i, kP_r, kP_n, kP_s, kP_o, kLen_I, kLen_L, kLen_R, kLdI_0, kLdI_1, kLdI_2, kLdI_3, kStI_0, kStI_1, kLdL_e, kStL_e, kLdR_e, kStR_e, kFld_e, kNth_0, kNth_s, kPut_e, fit_I, fit_Z, fit_B, fit_C, fit_A, fit_O, Option.toList_some, Option.toList_none, List.cons_append, List.nil_append, true_and, and_true, List.set_cons_zero, List.set_cons_succ, st_same, Int.toNat_natCast, Int.cast_ofNat_Int, Nat.zero_add, Nat.reduceAdd, kRcv_1, kRcv_2, kRcv_3, kRcv_0, kRcv_4, kRcv_5, setMd_set, Mdo, Mda1, Mdw1, Mda2, Mdw2, Mda3, Mdw3, Mda4, Mdw4, Mda5, Mdw5, Mda6, Mdw6, Mda7, Mdw7, Mda8, Mdw8, Mda9, Mdw9, Mda10, Mdw10, Mda11, Mdw11, Mdp3, Mdp5, Mdp6, Mdp7, Mdp8, Mdp10, Mdp16, Mdp17, Mdp18]
  rw [s_Model_thrown, h2]
  simp only [e_Law_law_957, e_Law_law_959, kR_l, kR_r, kP_0, kP_i, kP_r, kP_n, kP_s, kP_o, kLen_I, kLen_L, kLen_R, kLdI_0, kLdI_1, kLdI_2, kLdI_3, kStI_0, kStI_1, kLdL_e, kStL_e, kLdR_e, kStR_e, kFld_e, kNth_0, kNth_s, kPut_e, fit_I, fit_Z, fit_B, fit_C, fit_A, fit_O, Option.toList_some, Option.toList_none, List.cons_append, List.nil_append, true_and, and_true, List.set_cons_zero, List.set_cons_succ, st_same, Int.toNat_natCast, Int.cast_ofNat_Int, Nat.zero_add, Nat.reduceAdd, kRcv_1, kRcv_2, kRcv_3, kRcv_0, kRcv_4, kRcv_5]
  refine ⟨⟨by unfold inR; omega, by unfold inR; omega⟩, fun _ => ?_, fun z => absurd trivial z⟩
  simp only [e_Law_law_964, e_Law_law_966, kR_l, kR_r, kP_0, kP_i, kP_r, kP_n, kP_s, kP_o, kLen_I, kLen_L, kLen_R, kLdI_0, kLdI_1, kLdI_2, kLdI_3, kStI_0, kStI_1, kLdL_e, kStL_e, kLdR_e, kStR_e, kFld_e, kNth_0, kNth_s, kPut_e, fit_I, fit_Z, fit_B, fit_C, fit_A, fit_O, Option.toList_some, Option.toList_none, List.cons_append, List.nil_append, true_and, and_true, List.set_cons_zero, List.set_cons_succ, st_same, Int.toNat_natCast, Int.cast_ofNat_Int, Nat.zero_add, Nat.reduceAdd, kRcv_1, kRcv_2, kRcv_3, kRcv_0, kRcv_4, kRcv_5]
  refine ⟨by unfold inR; omega, fun _ => ?_, fun c => ?_⟩
  · simp only [e_Law_law_981, kR_l, kR_r, kP_0, kP_i, kP_r, kP_n, kP_s, kP_o, kLen_I, kLen_L, kLen_R, kLdI_0, kLdI_1, kLdI_2, kLdI_3, kStI_0, kStI_1, kLdL_e, kStL_e, kLdR_e, kStR_e, kFld_e, kNth_0, kNth_s, kPut_e, fit_I, fit_Z, fit_B, fit_C, fit_A, fit_O, Option.toList_some, Option.toList_none, List.cons_append, List.nil_append, true_and, and_true, List.set_cons_zero, List.set_cons_succ, st_same, Int.toNat_natCast, Int.cast_ofNat_Int, Nat.zero_add, Nat.reduceAdd, kRcv_1, kRcv_2, kRcv_3, kRcv_0, kRcv_4, kRcv_5]
    exact fin _ _ _ _
  · have k0 : k = 0 := Classical.byContradiction c
    simp only [e_Law_law_969, e_Law_law_970, e_Law_law_971, e_Law_law_972, e_Law_law_974, e_Law_law_975, kR_l, kR_r, kP_0, kP_i, kP_r, kP_n, kP_s, kP_o, kLen_I, kLen_L, kLen_R, kLdI_0, kLdI_1, kLdI_2, kLdI_3, kStI_0, kStI_1, kLdL_e, kStL_e, kLdR_e, kStR_e, kFld_e, kNth_0, kNth_s, kPut_e, fit_I, fit_Z, fit_B, fit_C, fit_A, fit_O, Option.toList_some, Option.toList_none, List.cons_append, List.nil_append, true_and, and_true, List.set_cons_zero, List.set_cons_succ, st_same, Int.toNat_natCast, Int.cast_ofNat_Int, Nat.zero_add, Nat.reduceAdd, kRcv_1, kRcv_2, kRcv_3, kRcv_0, kRcv_4, kRcv_5, hf3, Int.reduceToNat]
    rw [hf2 k0, h3 k0, lcmp0]
    refine ⟨⟨by omega, by omega, by omega⟩, ?_⟩
    simp only [e_Law_law_976, e_Law_law_981, kR_l, kR_r, kP_0, kP_i, kP_r, kP_n, kP_s, kP_o, kLen_I, kLen_L, kLen_R, kLdI_0, kLdI_1, kLdI_2, kLdI_3, kStI_0, kStI_1, kLdL_e, kStL_e, kLdR_e, kStR_e, kFld_e, kNth_0, kNth_s, kPut_e, fit_I, fit_Z, fit_B, fit_C, fit_A, fit_O, Option.toList_some, Option.toList_none, List.cons_append, List.nil_append, true_and, and_true, List.set_cons_zero, List.set_cons_succ, st_same, Int.toNat_natCast, Int.cast_ofNat_Int, Nat.zero_add, Nat.reduceAdd, kRcv_1, kRcv_2, kRcv_3, kRcv_0, kRcv_4, kRcv_5]
    exact ⟨by unfold inR; omega, fun _ => fin _ _ _ _, fun z => absurd trivial z⟩
theorem c_kcount (h : LI G B L fx σ X) (hi : i + 5 ≤ L) (hL : L ≤ 2560) (hx : ∀ j, j < L → inR (fx j)) (hG : G 0 ≤ B) (hG1 : G 1 < G 0) (nx : NxQ G B L fx σ i Q) : WP G k_Law_law 984 [some (vR (G 1)), some (vR B), some (vR (B + 46)), some (vR (B + 58)), some (vI (i : Nat)), z5, z6, z7, z8] [] σ Q := by
  obtain ⟨hC, hI, ⟨m, A, hmd, hMX⟩, hO, hS⟩ := h
  have t1 : ((i : Int) + 1).toNat = i + 1 := by omega
  have t2 : ((i : Int) + 2).toNat = i + 2 := by omega
  have t3 : ((i : Int) + 3).toNat = i + 3 := by omega
  have t4 : ((i : Int) + 4).toNat = i + 4 := by omega
  obtain ⟨X', k, v, hGd, hk, hLR, hMR⟩ := p_count (s := X.1) (kp := X.2.1) (p := X.2.2.1) (n := X.2.2.2.1) (t := X.2.2.2.2) hC hI hG hO (hx (i + 1) (by omega))
  simp only [e_Law_law_984, e_Law_law_985, e_Law_law_986, e_Law_law_988, e_Law_law_989, e_Law_law_990, e_Law_law_991, e_Law_law_992, kR_l, kR_r, kP_0, kP_i, kP_r, kP_n, kP_s, kP_o, kLen_I, kLen_L, kLen_R, kLdI_0, kLdI_1, kLdI_2, kLdI_3, kStI_0, kStI_1, kLdL_e, kStL_e, kLdR_e, kStR_e, kFld_e, kNth_0, kNth_s, kPut_e, fit_I, fit_Z, fit_B, fit_C, fit_A, fit_O, Option.toList_some, Option.toList_none, List.cons_append, List.nil_append, true_and, and_true, List.set_cons_zero, List.set_cons_succ, st_same, Int.toNat_natCast, Int.cast_ofNat_Int, Nat.zero_add, Nat.reduceAdd, kRcv_1, kRcv_2, kRcv_3, kRcv_0, kRcv_4, kRcv_5, hS, t1, t2, t3, t4]
  refine ⟨⟨by omega, by omega, by omega⟩, ?_⟩
  refine hLR _ (fun σ1 hC1 fO hf => ?_)
  obtain ⟨f, hf1, hf2⟩ := hf
  have hS1 : σ1.1 (G 1) = some (oI 2 L fx) := by rw [fO.1 _ (by omega) (by omega)]; exact hS
  have hmd1 : IsMd σ1 (B + 46) m A := ⟨by rw [fO.1 _ (by omega) (by omega)]; exact hmd.1, fun j j1 j2 => by rw [fO.1 _ (by omega) (by omega)]; exact hmd.2 j j1 j2⟩
  have hrc := md_rc hmd1
  simp only [e_Law_law_995, e_Law_law_997, e_Law_law_998, e_Law_law_999, e_Law_law_1001, e_Law_law_1002, e_Law_law_1003, e_Law_law_1004, kR_l, kR_r, kP_0, kP_i, kP_r, kP_n, kP_s, kP_o, kLen_I, kLen_L, kLen_R, kLdI_0, kLdI_1, kLdI_2, kLdI_3, kStI_0, kStI_1, kLdL_e, kStL_e, kLdR_e, kStR_e, kFld_e, kNth_0, kNth_s, kPut_e, fit_I, fit_Z, fit_B, fit_C, fit_A, fit_O, Option.toList_some, Option.toList_none, List.cons_append, List.nil_append, true_and, and_true, List.set_cons_zero, List.set_cons_succ, st_same, Int.toNat_natCast, Int.cast_ofNat_Int, Nat.zero_add, Nat.reduceAdd, kRcv_1, kRcv_2, kRcv_3, kRcv_0, kRcv_4, kRcv_5, hS1, hrc, t1, t2, t3, t4]
  refine ⟨⟨by omega, by omega, by omega⟩, ?_⟩
  refine md_id hmd1 (hMR σ1 m A _ hMX (fun m2 A2 b h1 h2 h3 => ?_))
  have hLI := LI.md (σ := σ) hG hG1 hC1 hGd hf1 hS1 h1
  have hf3 : (setMd σ1 (B + 46) m2 A2).1 (B + 58) = some (oL 1 f) := by rw [setMd_out (by omega)]; exact hf1
  have fin := fun z5 z6 z7 z8 => nx (setMd σ1 (B + 46) m2 A2) X' z5 z6 z7 z8 hLI fO.2
  clear nx hLR hMR
  simp only [e_Law_law_1007, e_Law_law_1009, e_Law_law_1010, kR_l, kR_r, kP_0, kP_i, kP_r, kP_n, kP_s, kP_o, kLen_I, kLen_L, kLen_R, kLdI_0, kLdI_1, kLdI_2, kLdI_3, kStI_0, kStI_1, kLdL_e, kStL_e, kLdR_e, kStR_e, kFld_e, kNth_0, kNth_s, kPut_e, fit_I, fit_Z, fit_B, fit_C, fit_A, fit_O, Option.toList_some, Option.toList_none, List.cons_append, List.nil_append, true_and, and_true, List.set_cons_zero, List.set_cons_succ, st_same, Int.toNat_natCast, Int.cast_ofNat_Int, Nat.zero_add, Nat.reduceAdd, kRcv_1, kRcv_2, kRcv_3, kRcv_0, kRcv_4, kRcv_5, setMd_set, Mdo, Mda1, Mdw1, Mda2, Mdw2, Mda3, Mdw3, Mda4, Mdw4, Mda5, Mdw5, Mda6, Mdw6, Mda7, Mdw7, Mda8, Mdw8, Mda9, Mdw9, Mda10, Mdw10, Mda11, Mdw11, Mdp3, Mdp5, Mdp6, Mdp7, Mdp8, Mdp10, Mdp16, Mdp17, Mdp18]
  rw [s_Model_thrown, h2]
  simp only [e_Law_law_1013, e_Law_law_1015, kR_l, kR_r, kP_0, kP_i, kP_r, kP_n, kP_s, kP_o, kLen_I, kLen_L, kLen_R, kLdI_0, kLdI_1, kLdI_2, kLdI_3, kStI_0, kStI_1, kLdL_e, kStL_e, kLdR_e, kStR_e, kFld_e, kNth_0, kNth_s, kPut_e, fit_I, fit_Z, fit_B, fit_C, fit_A, fit_O, Option.toList_some, Option.toList_none, List.cons_append, List.nil_append, true_and, and_true, List.set_cons_zero, List.set_cons_succ, st_same, Int.toNat_natCast, Int.cast_ofNat_Int, Nat.zero_add, Nat.reduceAdd, kRcv_1, kRcv_2, kRcv_3, kRcv_0, kRcv_4, kRcv_5]
  refine ⟨⟨by unfold inR; omega, by unfold inR; omega⟩, fun _ => ?_, fun z => absurd trivial z⟩
  simp only [e_Law_law_1020, e_Law_law_1022, kR_l, kR_r, kP_0, kP_i, kP_r, kP_n, kP_s, kP_o, kLen_I, kLen_L, kLen_R, kLdI_0, kLdI_1, kLdI_2, kLdI_3, kStI_0, kStI_1, kLdL_e, kStL_e, kLdR_e, kStR_e, kFld_e, kNth_0, kNth_s, kPut_e, fit_I, fit_Z, fit_B, fit_C, fit_A, fit_O, Option.toList_some, Option.toList_none, List.cons_append, List.nil_append, true_and, and_true, List.set_cons_zero, List.set_cons_succ, st_same, Int.toNat_natCast, Int.cast_ofNat_Int, Nat.zero_add, Nat.reduceAdd, kRcv_1, kRcv_2, kRcv_3, kRcv_0, kRcv_4, kRcv_5]
  refine ⟨by unfold inR; omega, fun _ => ?_, fun c => ?_⟩
  · simp only [e_Law_law_1037, kR_l, kR_r, kP_0, kP_i, kP_r, kP_n, kP_s, kP_o, kLen_I, kLen_L, kLen_R, kLdI_0, kLdI_1, kLdI_2, kLdI_3, kStI_0, kStI_1, kLdL_e, kStL_e, kLdR_e, kStR_e, kFld_e, kNth_0, kNth_s, kPut_e, fit_I, fit_Z, fit_B, fit_C, fit_A, fit_O, Option.toList_some, Option.toList_none, List.cons_append, List.nil_append, true_and, and_true, List.set_cons_zero, List.set_cons_succ, st_same, Int.toNat_natCast, Int.cast_ofNat_Int, Nat.zero_add, Nat.reduceAdd, kRcv_1, kRcv_2, kRcv_3, kRcv_0, kRcv_4, kRcv_5]
    exact fin _ _ _ _
  · have k0 : k = 0 := Classical.byContradiction c
    simp only [e_Law_law_1025, e_Law_law_1026, e_Law_law_1027, e_Law_law_1028, e_Law_law_1030, e_Law_law_1031, kR_l, kR_r, kP_0, kP_i, kP_r, kP_n, kP_s, kP_o, kLen_I, kLen_L, kLen_R, kLdI_0, kLdI_1, kLdI_2, kLdI_3, kStI_0, kStI_1, kLdL_e, kStL_e, kLdR_e, kStR_e, kFld_e, kNth_0, kNth_s, kPut_e, fit_I, fit_Z, fit_B, fit_C, fit_A, fit_O, Option.toList_some, Option.toList_none, List.cons_append, List.nil_append, true_and, and_true, List.set_cons_zero, List.set_cons_succ, st_same, Int.toNat_natCast, Int.cast_ofNat_Int, Nat.zero_add, Nat.reduceAdd, kRcv_1, kRcv_2, kRcv_3, kRcv_0, kRcv_4, kRcv_5, hf3, Int.reduceToNat]
    rw [hf2 k0, h3 k0, lcmp0]
    refine ⟨⟨by omega, by omega, by omega⟩, ?_⟩
    simp only [e_Law_law_1032, e_Law_law_1037, kR_l, kR_r, kP_0, kP_i, kP_r, kP_n, kP_s, kP_o, kLen_I, kLen_L, kLen_R, kLdI_0, kLdI_1, kLdI_2, kLdI_3, kStI_0, kStI_1, kLdL_e, kStL_e, kLdR_e, kStR_e, kFld_e, kNth_0, kNth_s, kPut_e, fit_I, fit_Z, fit_B, fit_C, fit_A, fit_O, Option.toList_some, Option.toList_none, List.cons_append, List.nil_append, true_and, and_true, List.set_cons_zero, List.set_cons_succ, st_same, Int.toNat_natCast, Int.cast_ofNat_Int, Nat.zero_add, Nat.reduceAdd, kRcv_1, kRcv_2, kRcv_3, kRcv_0, kRcv_4, kRcv_5]
    exact ⟨by unfold inR; omega, fun _ => fin _ _ _ _, fun z => absurd trivial z⟩
theorem c_kifDug (h : LI G B L fx σ X) (hi : i + 5 ≤ L) (hL : L ≤ 2560) (hx : ∀ j, j < L → inR (fx j)) (hG : G 0 ≤ B) (hG1 : G 1 < G 0) (nx : NxQ G B L fx σ i Q) : WP G k_Law_law 1040 [some (vR (G 1)), some (vR B), some (vR (B + 46)), some (vR (B + 58)), some (vI (i : Nat)), z5, z6, z7, z8] [] σ Q := by
  obtain ⟨hC, hI, ⟨m, A, hmd, hMX⟩, hO, hS⟩ := h
  have t1 : ((i : Int) + 1).toNat = i + 1 := by omega
  have t2 : ((i : Int) + 2).toNat = i + 2 := by omega
  have t3 : ((i : Int) + 3).toNat = i + 3 := by omega
  have t4 : ((i : Int) + 4).toNat = i + 4 := by omega
  obtain ⟨X', k, v, hGd, hk, hLR, hMR⟩ := p_ifDug (s := X.1) (kp := X.2.1) (p := X.2.2.1) (n := X.2.2.2.1) (t := X.2.2.2.2) hC hI hG hO (hx (i + 1) (by omega)) (hx (i + 2) (by omega)) (hx (i + 3) (by omega))
  simp only [e_Law_law_1040, e_Law_law_1041, e_Law_law_1042, e_Law_law_1044, e_Law_law_1045, e_Law_law_1046, e_Law_law_1047, e_Law_law_1048, e_Law_law_1050, e_Law_law_1051, e_Law_law_1052, e_Law_law_1053, e_Law_law_1054, e_Law_law_1056, e_Law_law_1057, e_Law_law_1058, e_Law_law_1059, e_Law_law_1060, kR_l, kR_r, kP_0, kP_i, kP_r, kP_n, kP_s, kP_o, kLen_I, kLen_L, kLen_R, kLdI_0, kLdI_1, kLdI_2, kLdI_3, kStI_0, kStI_1, kLdL_e, kStL_e, kLdR_e, kStR_e, kFld_e, kNth_0, kNth_s, kPut_e, fit_I, fit_Z, fit_B, fit_C, fit_A, fit_O, Option.toList_some, Option.toList_none, List.cons_append, List.nil_append, true_and, and_true, List.set_cons_zero, List.set_cons_succ, st_same, Int.toNat_natCast, Int.cast_ofNat_Int, Nat.zero_add, Nat.reduceAdd, kRcv_1, kRcv_2, kRcv_3, kRcv_0, kRcv_4, kRcv_5, hS, t1, t2, t3, t4]
  refine ⟨⟨by omega, by omega, by omega⟩, ⟨by omega, by omega, by omega⟩, ⟨by omega, by omega, by omega⟩, ?_⟩
  refine hLR _ (fun σ1 hC1 fO hf => ?_)
  obtain ⟨f, hf1, hf2⟩ := hf
  have hS1 : σ1.1 (G 1) = some (oI 2 L fx) := by rw [fO.1 _ (by omega) (by omega)]; exact hS
  have hmd1 : IsMd σ1 (B + 46) m A := ⟨by rw [fO.1 _ (by omega) (by omega)]; exact hmd.1, fun j j1 j2 => by rw [fO.1 _ (by omega) (by omega)]; exact hmd.2 j j1 j2⟩
  have hrc := md_rc hmd1
  simp only [e_Law_law_1063, e_Law_law_1065, e_Law_law_1066, e_Law_law_1067, e_Law_law_1069, e_Law_law_1070, e_Law_law_1071, e_Law_law_1072, e_Law_law_1073, e_Law_law_1075, e_Law_law_1076, e_Law_law_1077, e_Law_law_1078, e_Law_law_1079, e_Law_law_1081, e_Law_law_1082, e_Law_law_1083, e_Law_law_1084, kR_l, kR_r, kP_0, kP_i, kP_r, kP_n, kP_s, kP_o, kLen_I, kLen_L, kLen_R, kLdI_0, kLdI_1, kLdI_2, kLdI_3, kStI_0, kStI_1, kLdL_e, kStL_e, kLdR_e, kStR_e, kFld_e, kNth_0, kNth_s, kPut_e, fit_I, fit_Z, fit_B, fit_C, fit_A, fit_O, Option.toList_some, Option.toList_none, List.cons_append, List.nil_append, true_and, and_true, List.set_cons_zero, List.set_cons_succ, st_same, Int.toNat_natCast, Int.cast_ofNat_Int, Nat.zero_add, Nat.reduceAdd, kRcv_1, kRcv_2, kRcv_3, kRcv_0, kRcv_4, kRcv_5, hS1, hrc, t1, t2, t3, t4]
  refine ⟨⟨by omega, by omega, by omega⟩, ⟨by omega, by omega, by omega⟩, ⟨by omega, by omega, by omega⟩, ?_⟩
  refine md_id hmd1 (hMR σ1 m A _ hMX (fun m2 A2 b h1 h2 h3 => ?_))
  have hLI := LI.md (σ := σ) hG hG1 hC1 hGd hf1 hS1 h1
  have hf3 : (setMd σ1 (B + 46) m2 A2).1 (B + 58) = some (oL 1 f) := by rw [setMd_out (by omega)]; exact hf1
  have fin := fun z5 z6 z7 z8 => nx (setMd σ1 (B + 46) m2 A2) X' z5 z6 z7 z8 hLI fO.2
  clear nx hLR hMR
  simp only [e_Law_law_1087, e_Law_law_1089, e_Law_law_1090, kR_l, kR_r, kP_0, kP_i, kP_r, kP_n, kP_s, kP_o, kLen_I, kLen_L, kLen_R, kLdI_0, kLdI_1, kLdI_2, kLdI_3, kStI_0, kStI_1, kLdL_e, kStL_e, kLdR_e, kStR_e, kFld_e, kNth_0, kNth_s, kPut_e, fit_I, fit_Z, fit_B, fit_C, fit_A, fit_O, Option.toList_some, Option.toList_none, List.cons_append, List.nil_append, true_and, and_true, List.set_cons_zero, List.set_cons_succ, st_same, Int.toNat_natCast, Int.cast_ofNat_Int, Nat.zero_add, Nat.reduceAdd, kRcv_1, kRcv_2, kRcv_3, kRcv_0, kRcv_4, kRcv_5, setMd_set, Mdo, Mda1, Mdw1, Mda2, Mdw2, Mda3, Mdw3, Mda4, Mdw4, Mda5, Mdw5, Mda6, Mdw6, Mda7, Mdw7, Mda8, Mdw8, Mda9, Mdw9, Mda10, Mdw10, Mda11, Mdw11, Mdp3, Mdp5, Mdp6, Mdp7, Mdp8, Mdp10, Mdp16, Mdp17, Mdp18]
  rw [s_Model_thrown, h2]
  simp only [e_Law_law_1093, e_Law_law_1095, kR_l, kR_r, kP_0, kP_i, kP_r, kP_n, kP_s, kP_o, kLen_I, kLen_L, kLen_R, kLdI_0, kLdI_1, kLdI_2, kLdI_3, kStI_0, kStI_1, kLdL_e, kStL_e, kLdR_e, kStR_e, kFld_e, kNth_0, kNth_s, kPut_e, fit_I, fit_Z, fit_B, fit_C, fit_A, fit_O, Option.toList_some, Option.toList_none, List.cons_append, List.nil_append, true_and, and_true, List.set_cons_zero, List.set_cons_succ, st_same, Int.toNat_natCast, Int.cast_ofNat_Int, Nat.zero_add, Nat.reduceAdd, kRcv_1, kRcv_2, kRcv_3, kRcv_0, kRcv_4, kRcv_5]
  refine ⟨⟨by unfold inR; omega, by unfold inR; omega⟩, fun _ => ?_, fun z => absurd trivial z⟩
  simp only [e_Law_law_1100, e_Law_law_1102, kR_l, kR_r, kP_0, kP_i, kP_r, kP_n, kP_s, kP_o, kLen_I, kLen_L, kLen_R, kLdI_0, kLdI_1, kLdI_2, kLdI_3, kStI_0, kStI_1, kLdL_e, kStL_e, kLdR_e, kStR_e, kFld_e, kNth_0, kNth_s, kPut_e, fit_I, fit_Z, fit_B, fit_C, fit_A, fit_O, Option.toList_some, Option.toList_none, List.cons_append, List.nil_append, true_and, and_true, List.set_cons_zero, List.set_cons_succ, st_same, Int.toNat_natCast, Int.cast_ofNat_Int, Nat.zero_add, Nat.reduceAdd, kRcv_1, kRcv_2, kRcv_3, kRcv_0, kRcv_4, kRcv_5]
  refine ⟨by unfold inR; omega, fun _ => ?_, fun c => ?_⟩
  · simp only [e_Law_law_1117, kR_l, kR_r, kP_0, kP_i, kP_r, kP_n, kP_s, kP_o, kLen_I, kLen_L, kLen_R, kLdI_0, kLdI_1, kLdI_2, kLdI_3, kStI_0, kStI_1, kLdL_e, kStL_e, kLdR_e, kStR_e, kFld_e, kNth_0, kNth_s, kPut_e, fit_I, fit_Z, fit_B, fit_C, fit_A, fit_O, Option.toList_some, Option.toList_none, List.cons_append, List.nil_append, true_and, and_true, List.set_cons_zero, List.set_cons_succ, st_same, Int.toNat_natCast, Int.cast_ofNat_Int, Nat.zero_add, Nat.reduceAdd, kRcv_1, kRcv_2, kRcv_3, kRcv_0, kRcv_4, kRcv_5]
    exact fin _ _ _ _
  · have k0 : k = 0 := Classical.byContradiction c
    simp only [e_Law_law_1105, e_Law_law_1106, e_Law_law_1107, e_Law_law_1108, e_Law_law_1110, e_Law_law_1111, kR_l, kR_r, kP_0, kP_i, kP_r, kP_n, kP_s, kP_o, kLen_I, kLen_L, kLen_R, kLdI_0, kLdI_1, kLdI_2, kLdI_3, kStI_0, kStI_1, kLdL_e, kStL_e, kLdR_e, kStR_e, kFld_e, kNth_0, kNth_s, kPut_e, fit_I, fit_Z, fit_B, fit_C, fit_A, fit_O, Option.toList_some, Option.toList_none, List.cons_append, List.nil_append, true_and, and_true, List.set_cons_zero, List.set_cons_succ, st_same, Int.toNat_natCast, Int.cast_ofNat_Int, Nat.zero_add, Nat.reduceAdd, kRcv_1, kRcv_2, kRcv_3, kRcv_0, kRcv_4, kRcv_5, hf3, Int.reduceToNat]
    rw [hf2 k0, h3 k0, lcmp0]
    refine ⟨⟨by omega, by omega, by omega⟩, ?_⟩
    simp only [e_Law_law_1112, e_Law_law_1117, kR_l, kR_r, kP_0, kP_i, kP_r, kP_n, kP_s, kP_o, kLen_I, kLen_L, kLen_R, kLdI_0, kLdI_1, kLdI_2, kLdI_3, kStI_0, kStI_1, kLdL_e, kStL_e, kLdR_e, kStR_e, kFld_e, kNth_0, kNth_s, kPut_e, fit_I, fit_Z, fit_B, fit_C, fit_A, fit_O, Option.toList_some, Option.toList_none, List.cons_append, List.nil_append, true_and, and_true, List.set_cons_zero, List.set_cons_succ, st_same, Int.toNat_natCast, Int.cast_ofNat_Int, Nat.zero_add, Nat.reduceAdd, kRcv_1, kRcv_2, kRcv_3, kRcv_0, kRcv_4, kRcv_5]
    exact ⟨by unfold inR; omega, fun _ => fin _ _ _ _, fun z => absurd trivial z⟩
theorem c_kifGiven (h : LI G B L fx σ X) (hi : i + 5 ≤ L) (hL : L ≤ 2560) (hx : ∀ j, j < L → inR (fx j)) (hG : G 0 ≤ B) (hG1 : G 1 < G 0) (nx : NxQ G B L fx σ i Q) : WP G k_Law_law 1120 [some (vR (G 1)), some (vR B), some (vR (B + 46)), some (vR (B + 58)), some (vI (i : Nat)), z5, z6, z7, z8] [] σ Q := by
  obtain ⟨hC, hI, ⟨m, A, hmd, hMX⟩, hO, hS⟩ := h
  have t1 : ((i : Int) + 1).toNat = i + 1 := by omega
  have t2 : ((i : Int) + 2).toNat = i + 2 := by omega
  have t3 : ((i : Int) + 3).toNat = i + 3 := by omega
  have t4 : ((i : Int) + 4).toNat = i + 4 := by omega
  obtain ⟨X', k, v, hGd, hk, hLR, hMR⟩ := p_ifGiven (s := X.1) (kp := X.2.1) (p := X.2.2.1) (n := X.2.2.2.1) (t := X.2.2.2.2) hC hI hG hO (hx (i + 1) (by omega))
  simp only [e_Law_law_1120, e_Law_law_1121, e_Law_law_1122, e_Law_law_1124, e_Law_law_1125, e_Law_law_1126, e_Law_law_1127, e_Law_law_1128, kR_l, kR_r, kP_0, kP_i, kP_r, kP_n, kP_s, kP_o, kLen_I, kLen_L, kLen_R, kLdI_0, kLdI_1, kLdI_2, kLdI_3, kStI_0, kStI_1, kLdL_e, kStL_e, kLdR_e, kStR_e, kFld_e, kNth_0, kNth_s, kPut_e, fit_I, fit_Z, fit_B, fit_C, fit_A, fit_O, Option.toList_some, Option.toList_none, List.cons_append, List.nil_append, true_and, and_true, List.set_cons_zero, List.set_cons_succ, st_same, Int.toNat_natCast, Int.cast_ofNat_Int, Nat.zero_add, Nat.reduceAdd, kRcv_1, kRcv_2, kRcv_3, kRcv_0, kRcv_4, kRcv_5, hS, t1, t2, t3, t4]
  refine ⟨⟨by omega, by omega, by omega⟩, ?_⟩
  refine hLR _ (fun σ1 hC1 fO hf => ?_)
  obtain ⟨f, hf1, hf2⟩ := hf
  have hS1 : σ1.1 (G 1) = some (oI 2 L fx) := by rw [fO.1 _ (by omega) (by omega)]; exact hS
  have hmd1 : IsMd σ1 (B + 46) m A := ⟨by rw [fO.1 _ (by omega) (by omega)]; exact hmd.1, fun j j1 j2 => by rw [fO.1 _ (by omega) (by omega)]; exact hmd.2 j j1 j2⟩
  have hrc := md_rc hmd1
  simp only [e_Law_law_1131, e_Law_law_1133, e_Law_law_1134, e_Law_law_1135, e_Law_law_1137, e_Law_law_1138, e_Law_law_1139, e_Law_law_1140, kR_l, kR_r, kP_0, kP_i, kP_r, kP_n, kP_s, kP_o, kLen_I, kLen_L, kLen_R, kLdI_0, kLdI_1, kLdI_2, kLdI_3, kStI_0, kStI_1, kLdL_e, kStL_e, kLdR_e, kStR_e, kFld_e, kNth_0, kNth_s, kPut_e, fit_I, fit_Z, fit_B, fit_C, fit_A, fit_O, Option.toList_some, Option.toList_none, List.cons_append, List.nil_append, true_and, and_true, List.set_cons_zero, List.set_cons_succ, st_same, Int.toNat_natCast, Int.cast_ofNat_Int, Nat.zero_add, Nat.reduceAdd, kRcv_1, kRcv_2, kRcv_3, kRcv_0, kRcv_4, kRcv_5, hS1, hrc, t1, t2, t3, t4]
  refine ⟨⟨by omega, by omega, by omega⟩, ?_⟩
  refine md_id hmd1 (hMR σ1 m A _ hMX (fun m2 A2 b h1 h2 h3 => ?_))
  have hLI := LI.md (σ := σ) hG hG1 hC1 hGd hf1 hS1 h1
  have hf3 : (setMd σ1 (B + 46) m2 A2).1 (B + 58) = some (oL 1 f) := by rw [setMd_out (by omega)]; exact hf1
  have fin := fun z5 z6 z7 z8 => nx (setMd σ1 (B + 46) m2 A2) X' z5 z6 z7 z8 hLI fO.2
  clear nx hLR hMR
  simp only [e_Law_law_1143, e_Law_law_1145, e_Law_law_1146, kR_l, kR_r, kP_0, kP_i, kP_r, kP_n, kP_s, kP_o, kLen_I, kLen_L, kLen_R, kLdI_0, kLdI_1, kLdI_2, kLdI_3, kStI_0, kStI_1, kLdL_e, kStL_e, kLdR_e, kStR_e, kFld_e, kNth_0, kNth_s, kPut_e, fit_I, fit_Z, fit_B, fit_C, fit_A, fit_O, Option.toList_some, Option.toList_none, List.cons_append, List.nil_append, true_and, and_true, List.set_cons_zero, List.set_cons_succ, st_same, Int.toNat_natCast, Int.cast_ofNat_Int, Nat.zero_add, Nat.reduceAdd, kRcv_1, kRcv_2, kRcv_3, kRcv_0, kRcv_4, kRcv_5, setMd_set, Mdo, Mda1, Mdw1, Mda2, Mdw2, Mda3, Mdw3, Mda4, Mdw4, Mda5, Mdw5, Mda6, Mdw6, Mda7, Mdw7, Mda8, Mdw8, Mda9, Mdw9, Mda10, Mdw10, Mda11, Mdw11, Mdp3, Mdp5, Mdp6, Mdp7, Mdp8, Mdp10, Mdp16, Mdp17, Mdp18]
  rw [s_Model_thrown, h2]
  simp only [e_Law_law_1149, e_Law_law_1151, kR_l, kR_r, kP_0, kP_i, kP_r, kP_n, kP_s, kP_o, kLen_I, kLen_L, kLen_R, kLdI_0, kLdI_1, kLdI_2, kLdI_3, kStI_0, kStI_1, kLdL_e, kStL_e, kLdR_e, kStR_e, kFld_e, kNth_0, kNth_s, kPut_e, fit_I, fit_Z, fit_B, fit_C, fit_A, fit_O, Option.toList_some, Option.toList_none, List.cons_append, List.nil_append, true_and, and_true, List.set_cons_zero, List.set_cons_succ, st_same, Int.toNat_natCast, Int.cast_ofNat_Int, Nat.zero_add, Nat.reduceAdd, kRcv_1, kRcv_2, kRcv_3, kRcv_0, kRcv_4, kRcv_5]
  refine ⟨⟨by unfold inR; omega, by unfold inR; omega⟩, fun _ => ?_, fun z => absurd trivial z⟩
  simp only [e_Law_law_1156, e_Law_law_1158, kR_l, kR_r, kP_0, kP_i, kP_r, kP_n, kP_s, kP_o, kLen_I, kLen_L, kLen_R, kLdI_0, kLdI_1, kLdI_2, kLdI_3, kStI_0, kStI_1, kLdL_e, kStL_e, kLdR_e, kStR_e, kFld_e, kNth_0, kNth_s, kPut_e, fit_I, fit_Z, fit_B, fit_C, fit_A, fit_O, Option.toList_some, Option.toList_none, List.cons_append, List.nil_append, true_and, and_true, List.set_cons_zero, List.set_cons_succ, st_same, Int.toNat_natCast, Int.cast_ofNat_Int, Nat.zero_add, Nat.reduceAdd, kRcv_1, kRcv_2, kRcv_3, kRcv_0, kRcv_4, kRcv_5]
  refine ⟨by unfold inR; omega, fun _ => ?_, fun c => ?_⟩
  · simp only [e_Law_law_1173, kR_l, kR_r, kP_0, kP_i, kP_r, kP_n, kP_s, kP_o, kLen_I, kLen_L, kLen_R, kLdI_0, kLdI_1, kLdI_2, kLdI_3, kStI_0, kStI_1, kLdL_e, kStL_e, kLdR_e, kStR_e, kFld_e, kNth_0, kNth_s, kPut_e, fit_I, fit_Z, fit_B, fit_C, fit_A, fit_O, Option.toList_some, Option.toList_none, List.cons_append, List.nil_append, true_and, and_true, List.set_cons_zero, List.set_cons_succ, st_same, Int.toNat_natCast, Int.cast_ofNat_Int, Nat.zero_add, Nat.reduceAdd, kRcv_1, kRcv_2, kRcv_3, kRcv_0, kRcv_4, kRcv_5]
    exact fin _ _ _ _
  · have k0 : k = 0 := Classical.byContradiction c
    simp only [e_Law_law_1161, e_Law_law_1162, e_Law_law_1163, e_Law_law_1164, e_Law_law_1166, e_Law_law_1167, kR_l, kR_r, kP_0, kP_i, kP_r, kP_n, kP_s, kP_o, kLen_I, kLen_L, kLen_R, kLdI_0, kLdI_1, kLdI_2, kLdI_3, kStI_0, kStI_1, kLdL_e, kStL_e, kLdR_e, kStR_e, kFld_e, kNth_0, kNth_s, kPut_e, fit_I, fit_Z, fit_B, fit_C, fit_A, fit_O, Option.toList_some, Option.toList_none, List.cons_append, List.nil_append, true_and, and_true, List.set_cons_zero, List.set_cons_succ, st_same, Int.toNat_natCast, Int.cast_ofNat_Int, Nat.zero_add, Nat.reduceAdd, kRcv_1, kRcv_2, kRcv_3, kRcv_0, kRcv_4, kRcv_5, hf3, Int.reduceToNat]
    rw [hf2 k0, h3 k0, lcmp0]
    refine ⟨⟨by omega, by omega, by omega⟩, ?_⟩
    simp only [e_Law_law_1168, e_Law_law_1173, kR_l, kR_r, kP_0, kP_i, kP_r, kP_n, kP_s, kP_o, kLen_I, kLen_L, kLen_R, kLdI_0, kLdI_1, kLdI_2, kLdI_3, kStI_0, kStI_1, kLdL_e, kStL_e, kLdR_e, kStR_e, kFld_e, kNth_0, kNth_s, kPut_e, fit_I, fit_Z, fit_B, fit_C, fit_A, fit_O, Option.toList_some, Option.toList_none, List.cons_append, List.nil_append, true_and, and_true, List.set_cons_zero, List.set_cons_succ, st_same, Int.toNat_natCast, Int.cast_ofNat_Int, Nat.zero_add, Nat.reduceAdd, kRcv_1, kRcv_2, kRcv_3, kRcv_0, kRcv_4, kRcv_5]
    exact ⟨by unfold inR; omega, fun _ => fin _ _ _ _, fun z => absurd trivial z⟩
theorem c_kallCost (h : LI G B L fx σ X) (hG : G 0 ≤ B) (hG1 : G 1 < G 0) (nx : NxQ G B L fx σ i Q) : WP G k_Law_law 1176 [some (vR (G 1)), some (vR B), some (vR (B + 46)), some (vR (B + 58)), some (vI (i : Nat)), z5, z6, z7, z8] [] σ Q := by
  obtain ⟨hC, hI, ⟨m, A, hmd, hMX⟩, ⟨f, hf⟩, hS⟩ := h
  have hB : σ.1 B = _ := hC.1
  obtain ⟨X', v, hGd, hv, hCR, hMR⟩ := u_allCost (s := X.1) (kp := X.2.1) (p := X.2.2.1) (n := X.2.2.2.1) (t := X.2.2.2.2) hC hI hG
  simp only [e_Law_law_1176, e_Law_law_1177, kR_l, kR_r, kP_0, kP_i, kP_r, kP_n, kP_s, kP_o, kLen_I, kLen_L, kLen_R, kLdI_0, kLdI_1, kLdI_2, kLdI_3, kStI_0, kStI_1, kLdL_e, kStL_e, kLdR_e, kStR_e, kFld_e, kNth_0, kNth_s, kPut_e, fit_I, fit_Z, fit_B, fit_C, fit_A, fit_O, Option.toList_some, Option.toList_none, List.cons_append, List.nil_append, true_and, and_true, List.set_cons_zero, List.set_cons_succ, st_same, Int.toNat_natCast, Int.cast_ofNat_Int, Nat.zero_add, Nat.reduceAdd, kRcv_1, kRcv_2, kRcv_3, kRcv_0, kRcv_4, kRcv_5, hB]
  refine hCR _ (fun σ1 hC1 fO => ?_)
  have hf1 : σ1.1 (B + 58) = some (oL 1 f) := by rw [fO.1 _ (by omega)]; exact hf
  have hS1 : σ1.1 (G 1) = some (oI 2 L fx) := by rw [fO.1 _ (by omega)]; exact hS
  have hmd1 := hmd.fr fO (by omega)
  have hrc := md_rc hmd1
  simp only [e_Law_law_1180, e_Law_law_1181, kR_l, kR_r, kP_0, kP_i, kP_r, kP_n, kP_s, kP_o, kLen_I, kLen_L, kLen_R, kLdI_0, kLdI_1, kLdI_2, kLdI_3, kStI_0, kStI_1, kLdL_e, kStL_e, kLdR_e, kStR_e, kFld_e, kNth_0, kNth_s, kPut_e, fit_I, fit_Z, fit_B, fit_C, fit_A, fit_O, Option.toList_some, Option.toList_none, List.cons_append, List.nil_append, true_and, and_true, List.set_cons_zero, List.set_cons_succ, st_same, Int.toNat_natCast, Int.cast_ofNat_Int, Nat.zero_add, Nat.reduceAdd, kRcv_1, kRcv_2, kRcv_3, kRcv_0, kRcv_4, kRcv_5, hrc]
  refine md_id hmd1 (hMR σ1 m A _ hMX (fun m2 A2 b h1 h2 h3 => ?_))
  have hLI := LI.md (σ := σ) hG hG1 hC1 hGd hf1 hS1 h1
  have fin := fun z5 z6 z7 z8 => nx (setMd σ1 (B + 46) m2 A2) X' z5 z6 z7 z8 hLI ⟨by rw [setMd_2, fO.2]; omega, by rw [setMd_2, fO.2]; omega⟩
  clear nx hCR hMR
  rw [h3 rfl]
  simp only [e_Law_law_1184, kR_l, kR_r, kP_0, kP_i, kP_r, kP_n, kP_s, kP_o, kLen_I, kLen_L, kLen_R, kLdI_0, kLdI_1, kLdI_2, kLdI_3, kStI_0, kStI_1, kLdL_e, kStL_e, kLdR_e, kStR_e, kFld_e, kNth_0, kNth_s, kPut_e, fit_I, fit_Z, fit_B, fit_C, fit_A, fit_O, Option.toList_some, Option.toList_none, List.cons_append, List.nil_append, true_and, and_true, List.set_cons_zero, List.set_cons_succ, st_same, Int.toNat_natCast, Int.cast_ofNat_Int, Nat.zero_add, Nat.reduceAdd, kRcv_1, kRcv_2, kRcv_3, kRcv_0, kRcv_4, kRcv_5]
  exact ⟨⟨hv, hv⟩, fun _ => fin _ _ _ _, fun z => absurd trivial z⟩
theorem c_kopenShare (h : LI G B L fx σ X) (hG : G 0 ≤ B) (hG1 : G 1 < G 0) (nx : NxQ G B L fx σ i Q) : WP G k_Law_law 1189 [some (vR (G 1)), some (vR B), some (vR (B + 46)), some (vR (B + 58)), some (vI (i : Nat)), z5, z6, z7, z8] [] σ Q := by
  obtain ⟨hC, hI, ⟨m, A, hmd, hMX⟩, ⟨f, hf⟩, hS⟩ := h
  have hB : σ.1 B = _ := hC.1
  obtain ⟨far, hfar⟩ := far_of hI
  simp only [e_Law_law_1189, e_Law_law_1190, kR_l, kR_r, kP_0, kP_i, kP_r, kP_n, kP_s, kP_o, kLen_I, kLen_L, kLen_R, kLdI_0, kLdI_1, kLdI_2, kLdI_3, kStI_0, kStI_1, kLdL_e, kStL_e, kLdR_e, kStR_e, kFld_e, kNth_0, kNth_s, kPut_e, fit_I, fit_Z, fit_B, fit_C, fit_A, fit_O, Option.toList_some, Option.toList_none, List.cons_append, List.nil_append, true_and, and_true, List.set_cons_zero, List.set_cons_succ, st_same, Int.toNat_natCast, Int.cast_ofNat_Int, Nat.zero_add, Nat.reduceAdd, kRcv_1, kRcv_2, kRcv_3, kRcv_0, kRcv_4, kRcv_5, hB]
  refine o_openShare hC hI hG (fun σ1 hC1 fO => ?_)
  have hf1 : σ1.1 (B + 58) = some (oL 1 f) := by rw [fO.1 _ (by omega)]; exact hf
  have hS1 : σ1.1 (G 1) = some (oI 2 L fx) := by rw [fO.1 _ (by omega)]; exact hS
  have hmd1 := hmd.fr fO (by omega)
  have hrc := md_rc hmd1
  obtain ⟨⟨e1, e4, k3, k5, hA, hT2⟩, e3⟩ := id hMX
  simp only [e_Law_law_1193, e_Law_law_1195, e_Law_law_1196, kR_l, kR_r, kP_0, kP_i, kP_r, kP_n, kP_s, kP_o, kLen_I, kLen_L, kLen_R, kLdI_0, kLdI_1, kLdI_2, kLdI_3, kStI_0, kStI_1, kLdL_e, kStL_e, kLdR_e, kStR_e, kFld_e, kNth_0, kNth_s, kPut_e, fit_I, fit_Z, fit_B, fit_C, fit_A, fit_O, Option.toList_some, Option.toList_none, List.cons_append, List.nil_append, true_and, and_true, List.set_cons_zero, List.set_cons_succ, st_same, Int.toNat_natCast, Int.cast_ofNat_Int, Nat.zero_add, Nat.reduceAdd, kRcv_1, kRcv_2, kRcv_3, kRcv_0, kRcv_4, kRcv_5, hrc]
  refine md_id hmd1 (s_openShare (by rw [e1]; exact hI.1.1) (by rw [e1]; exact hI.1.wk) (by omega) hA (fun m2 A2 hK => ?_))
  rw [e1]
  have h1 := (MdX.kw (s := X.1) (kp := X.2.1) (p := X.2.2.1) (n := X.2.2.2.1) (t := X.2.2.2.2) hMX hK).1
  have hLI := LI.md (X' := X) (σ := σ) hG hG1 hC1 hI hf1 hS1 h1
  have fin := fun z5 z6 z7 z8 => nx (setMd σ1 (B + 46) m2 A2) X z5 z6 z7 z8 hLI ⟨by rw [setMd_2, fO.2]; omega, by rw [setMd_2, fO.2]; omega⟩
  clear nx
  have hb := sh_bos hI.1.wk
  unfold bosOK at hb
  rw [Bool.and_eq_true] at hb
  have hcmp := of_decide_eq_true hb.1
  simp only [e_Law_law_1199, e_Law_law_1201, e_Law_law_1203, e_Law_law_1205, kR_l, kR_r, kP_0, kP_i, kP_r, kP_n, kP_s, kP_o, kLen_I, kLen_L, kLen_R, kLdI_0, kLdI_1, kLdI_2, kLdI_3, kStI_0, kStI_1, kLdL_e, kStL_e, kLdR_e, kStR_e, kFld_e, kNth_0, kNth_s, kPut_e, fit_I, fit_Z, fit_B, fit_C, fit_A, fit_O, Option.toList_some, Option.toList_none, List.cons_append, List.nil_append, true_and, and_true, List.set_cons_zero, List.set_cons_succ, st_same, Int.toNat_natCast, Int.cast_ofNat_Int, Nat.zero_add, Nat.reduceAdd, kRcv_1, kRcv_2, kRcv_3, kRcv_0, kRcv_4, kRcv_5]
  rw [hcmp]
  simp only [e_Law_law_1206, e_Law_law_1227, kR_l, kR_r, kP_0, kP_i, kP_r, kP_n, kP_s, kP_o, kLen_I, kLen_L, kLen_R, kLdI_0, kLdI_1, kLdI_2, kLdI_3, kStI_0, kStI_1, kLdL_e, kStL_e, kLdR_e, kStR_e, kFld_e, kNth_0, kNth_s, kPut_e, fit_I, fit_Z, fit_B, fit_C, fit_A, fit_O, Option.toList_some, Option.toList_none, List.cons_append, List.nil_append, true_and, and_true, List.set_cons_zero, List.set_cons_succ, st_same, Int.toNat_natCast, Int.cast_ofNat_Int, Nat.zero_add, Nat.reduceAdd, kRcv_1, kRcv_2, kRcv_3, kRcv_0, kRcv_4, kRcv_5]
  exact ⟨by unfold inR; omega, fun _ => fin _ _ _ _, fun z => absurd trivial z⟩
theorem c_kdigest (h : LI G B L fx σ X) (hG : G 0 ≤ B) (hG1 : G 1 < G 0) (nx : NxQ G B L fx σ i Q) : WP G k_Law_law 1230 [some (vR (G 1)), some (vR B), some (vR (B + 46)), some (vR (B + 58)), some (vI (i : Nat)), z5, z6, z7, z8] [] σ Q := by
  obtain ⟨hC, hI, ⟨m, A, hmd, hMX⟩, ⟨f, hf⟩, hS⟩ := h
  have hB : σ.1 B = _ := hC.1
  obtain ⟨far, hfar⟩ := far_of hI
  simp only [e_Law_law_1230, e_Law_law_1231, kR_l, kR_r, kP_0, kP_i, kP_r, kP_n, kP_s, kP_o, kLen_I, kLen_L, kLen_R, kLdI_0, kLdI_1, kLdI_2, kLdI_3, kStI_0, kStI_1, kLdL_e, kStL_e, kLdR_e, kStR_e, kFld_e, kNth_0, kNth_s, kPut_e, fit_I, fit_Z, fit_B, fit_C, fit_A, fit_O, Option.toList_some, Option.toList_none, List.cons_append, List.nil_append, true_and, and_true, List.set_cons_zero, List.set_cons_succ, st_same, Int.toNat_natCast, Int.cast_ofNat_Int, Nat.zero_add, Nat.reduceAdd, kRcv_1, kRcv_2, kRcv_3, kRcv_0, kRcv_4, kRcv_5, hB]
  refine o_digest hC hI hG hfar (fun σ1 hC1 fO => ?_)
  have hf1 : σ1.1 (B + 58) = some (oL 1 f) := by rw [fO.1 _ (by omega)]; exact hf
  have hS1 : σ1.1 (G 1) = some (oI 2 L fx) := by rw [fO.1 _ (by omega)]; exact hS
  have hmd1 := hmd.fr fO (by omega)
  have hrc := md_rc hmd1
  obtain ⟨⟨e1, e4, k3, k5, hA, hT2⟩, e3⟩ := id hMX
  simp only [e_Law_law_1234, e_Law_law_1235, kR_l, kR_r, kP_0, kP_i, kP_r, kP_n, kP_s, kP_o, kLen_I, kLen_L, kLen_R, kLdI_0, kLdI_1, kLdI_2, kLdI_3, kStI_0, kStI_1, kLdL_e, kStL_e, kLdR_e, kStR_e, kFld_e, kNth_0, kNth_s, kPut_e, fit_I, fit_Z, fit_B, fit_C, fit_A, fit_O, Option.toList_some, Option.toList_none, List.cons_append, List.nil_append, true_and, and_true, List.set_cons_zero, List.set_cons_succ, st_same, Int.toNat_natCast, Int.cast_ofNat_Int, Nat.zero_add, Nat.reduceAdd, kRcv_1, kRcv_2, kRcv_3, kRcv_0, kRcv_4, kRcv_5, hrc]
  refine md_id hmd1 (s_digest (s := X.1) (kp := X.2.1) (n := X.2.2.2.1) (t := X.2.2.2.2) (far := far) hMX.1 hI.1 hfar hI.2.2.2.1 (by omega) (fun m2 A2 hK => ?_))
  have h1 := (MdX.kl (s := X.1) (kp := X.2.1) (p := X.2.2.1) (n := X.2.2.2.1) (t := X.2.2.2.2) hMX hK).1
  have hLI := LI.md (X' := X) (σ := σ) hG hG1 hC1 hI hf1 hS1 h1
  have fin := fun z5 z6 z7 z8 => nx (setMd σ1 (B + 46) m2 A2) X z5 z6 z7 z8 hLI ⟨by rw [setMd_2, fO.2]; omega, by rw [setMd_2, fO.2]; omega⟩
  clear nx
  simp only [e_Law_law_1238, kR_l, kR_r, kP_0, kP_i, kP_r, kP_n, kP_s, kP_o, kLen_I, kLen_L, kLen_R, kLdI_0, kLdI_1, kLdI_2, kLdI_3, kStI_0, kStI_1, kLdL_e, kStL_e, kLdR_e, kStR_e, kFld_e, kNth_0, kNth_s, kPut_e, fit_I, fit_Z, fit_B, fit_C, fit_A, fit_O, Option.toList_some, Option.toList_none, List.cons_append, List.nil_append, true_and, and_true, List.set_cons_zero, List.set_cons_succ, st_same, Int.toNat_natCast, Int.cast_ofNat_Int, Nat.zero_add, Nat.reduceAdd, kRcv_1, kRcv_2, kRcv_3, kRcv_0, kRcv_4, kRcv_5]
  rw [lcmp0]
  simp only [e_Law_law_1239, kR_l, kR_r, kP_0, kP_i, kP_r, kP_n, kP_s, kP_o, kLen_I, kLen_L, kLen_R, kLdI_0, kLdI_1, kLdI_2, kLdI_3, kStI_0, kStI_1, kLdL_e, kStL_e, kLdR_e, kStR_e, kFld_e, kNth_0, kNth_s, kPut_e, fit_I, fit_Z, fit_B, fit_C, fit_A, fit_O, Option.toList_some, Option.toList_none, List.cons_append, List.nil_append, true_and, and_true, List.set_cons_zero, List.set_cons_succ, st_same, Int.toNat_natCast, Int.cast_ofNat_Int, Nat.zero_add, Nat.reduceAdd, kRcv_1, kRcv_2, kRcv_3, kRcv_0, kRcv_4, kRcv_5]
  exact ⟨by unfold inR; omega, fun _ => fin _ _ _ _, fun z => absurd trivial z⟩
end LW2

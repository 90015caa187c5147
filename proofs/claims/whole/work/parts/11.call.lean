/-! CALLS: what a method owes, and the call of it -/
def aHd (j : Nat) : Cond := if (mH j).isEmpty = true then .code (mY j) (mB j) (mX j) (mR j) else .codeWith (mY j) (mB j) (mX j) (mR j) (mH j)
def aWs (j : Nat) : List Cond := aHd j :: wl
def AInv (G : Nat → Nat) (D : AD) (σ : AS) (U : State) : Prop := KU G D U ∧ ExtH G U U.heap ∧ G 0 ≤ U.heap.size ∧ Sz σ U.heap ∧ Rel G D U σ.1 U.heap
def AQ (G : Nat → Nat) (D : AD) (res : Option AV ⊕ Nat) (σ' : AS) : Array Value → State → Outcome → State → Prop := fun _ st o t => match res with
  | .inl r => o = .returned (r.map cv) ∧ Sz σ' t.heap ∧ Rel G D t σ'.1 t.heap ∧ va_F (am_A G) st t
  | .inr _ => False
def AX (G : Nat → Nat) (D : AD) (res : Option AV ⊕ Nat) (σ' : AS) : String → State → State → Prop := fun E st t => match res with
  | .inl _ => False
  | .inr x => E = am_xn x ∧ Sz σ' t.heap ∧ Rel G D t σ'.1 t.heap ∧ va_F (am_A G) st t
def ACt (l : Launch) (G : Nat → Nat) (D : AD) (j : Nat) (as : List AV) (σ : AS) (res : Option AV ⊕ Nat) (σ' : AS) : Prop :=
  vx_Met l (mY j) (aWs j) { frames := mF j, cells := σ'.2.2.1 - σ.2.2.1, slots := σ'.2.2.2 - σ.2.2.2, locals := mL j } (va_Pc (as.map cv) (AInv G D σ)) (AQ G D res σ') (AX G D res σ') (σ'.2.2.1 - σ.2.2.1) (σ'.2.2.2 - σ.2.2.2) (am_A G)
theorem wl_good {w : Cond} (h : w ∈ wl) : (w.onTables && w.keeps) = true ∨ ∃ ty, w = .arrayClass ty := good_of_word (List.mem_filter.mp h).2
/-- in this order among those -/
def am_subl : List Cond → List Cond → Bool
  | [], _ => true
  | _ :: _, [] => false
  | w :: ws, x :: xs => if w = x then am_subl ws xs else am_subl (w :: ws) xs
theorem am_subl_mem : ∀ {a b : List Cond}, am_subl a b = true → ∀ w ∈ a, w ∈ b
  | [], _, _, _, hw => by cases hw
  | _ :: _, [], h, _, _ => by cases h
  | w :: ws, x :: xs, h, v, hv => by
    unfold am_subl at h
    split at h
    · rename_i e
      subst e
      rcases List.mem_cons.mp hv with rfl | hv
      · exact List.mem_cons_self
      · exact List.mem_cons_of_mem _ (am_subl_mem h v hv)
    · exact List.mem_cons_of_mem _ (am_subl_mem h v hv)
theorem am_subl_map {α : Type} {f : α → Cond} {l : List α} {b : List Cond} (h : am_subl (l.map f) b = true) {x : α} (hx : x ∈ l) : f x ∈ b := am_subl_mem h _ (List.mem_map.mpr ⟨x, hx, rfl⟩)
def pl_aHd : List Nat := [78, 15, 205, 45, 0, 50, 79, 46, 47, 16, 80, 51, 52, 17, 18, 81, 53, 54, 55, 19, 82, 56, 57, 20, 58, 83, 59, 60, 61, 62, 63, 64, 65, 66, 67, 68, 69, 70, 71, 21, 84, 72, 85, 1, 2, 86, 3, 4, 5, 6, 7, 8, 9, 206, 207, 208, 209, 211, 210, 212, 87, 22, 88, 23, 73, 89, 90, 24, 25, 26, 27, 28, 29, 30, 31, 32, 74, 48, 91, 33, 92, 93, 94, 95, 34, 35, 75, 96, 97, 98, 76, 77, 99, 100, 36, 37, 101, 38, 39, 40, 102, 103, 190, 104, 41, 42, 43, 191, 105, 192, 106, 193, 107, 194, 108, 195, 109, 44, 196, 110, 10, 197, 111, 11, 12, 13, 14, 112, 198, 113, 49, 199, 114, 200, 201, 202, 203, 204, 115, 116, 117, 118, 119, 120, 121, 122, 123, 124, 125, 126, 127, 128, 129, 130, 131, 132, 133, 134, 135, 136, 137, 138, 139, 140, 141, 142, 143, 144, 145, 146, 147, 148, 149, 150, 151, 152, 153, 154, 155, 156, 157, 158, 159, 160, 161, 162, 163, 164, 165, 166, 167, 168, 169, 170, 171, 172, 173, 174, 175, 176, 177, 178, 179, 180, 181, 182, 183, 184, 185, 186, 187, 188, 189, 213, 214]
def pl_fst : List Nat := [205, 80, 81, 55, 82, 83, 8, 9, 211, 210, 212, 91, 100, 102, 190, 191, 192, 193, 194, 195, 196, 197, 198, 199, 200, 201, 202, 203, 204, 119, 121, 123, 124, 126, 127, 130, 134, 136, 142, 166, 177, 213, 214]
theorem ps_fst : am_subl (pl_fst.map fun j => Cond.static (mY j)) lw_tbl = true := by decide +kernel
def pl_fin : List Nat := [78, 15, 45, 0, 50, 79, 46, 47, 16, 51, 52, 17, 18, 53, 54, 19, 56, 57, 20, 58, 59, 60, 61, 62, 63, 64, 65, 66, 67, 68, 69, 70, 71, 21, 84, 72, 85, 1, 2, 86, 3, 4, 5, 6, 7, 206, 207, 208, 209, 87, 22, 88, 23, 73, 89, 90, 24, 25, 26, 27, 28, 29, 30, 31, 32, 74, 48, 33, 92, 93, 94, 95, 34, 35, 75, 96, 97, 98, 76, 77, 99, 36, 37, 101, 38, 39, 40, 103, 104, 41, 42, 43, 105, 106, 107, 108, 109, 44, 110, 10, 111, 11, 12, 13, 14, 112, 113, 49, 114, 115, 116, 117, 118, 120, 122, 125, 128, 129, 131, 132, 133, 135, 137, 138, 139, 140, 141, 143, 144, 145, 146, 147, 148, 149, 150, 151, 152, 153, 154, 155, 156, 157, 158, 159, 160, 161, 162, 163, 164, 165, 167, 168, 169, 170, 171, 172, 173, 174, 175, 176, 178, 179, 180, 181, 182, 183, 184, 185, 186, 187, 188, 189]
theorem ps_fin : am_subl (pl_fin.map fun j => Cond.instanceMethod (mY j)) lw_tbl = true := by decide +kernel
def pl_fse : List Nat := [47, 52, 54, 56, 57, 58, 59, 60, 61, 62, 63, 64, 65, 66, 67, 69, 70, 71, 5, 7, 28, 31, 32, 92, 93, 95, 96, 98, 39, 103, 112, 118, 122, 125, 128, 132, 133, 138, 139, 140, 141, 143, 144, 145, 146, 147, 149, 151, 156, 157, 158, 159, 160, 161, 162, 164, 168, 169, 170, 171, 173, 175, 176, 178, 179, 181, 182, 184, 186, 188, 79, 46, 16, 51, 17, 18, 53, 19, 20, 68, 21, 84, 72, 85, 1, 2, 86, 3, 4, 6, 206, 207, 208, 209, 87, 22, 88, 23, 73, 89, 90, 24, 25, 26, 27, 29, 30, 74, 48, 33, 94, 34, 35, 75, 97, 76, 77, 99, 36, 37, 101, 38, 40, 104, 41, 42, 43, 105, 106, 107, 108, 109, 44, 110, 10, 111, 11, 12, 13, 14, 113, 49, 114, 116, 117, 120, 129, 131, 135, 137, 148, 150, 152, 153, 154, 155, 163, 165, 167, 172, 174, 180, 183, 185, 187, 189]
theorem ps_fse : am_subl (pl_fse.map fun j => Cond.selects (mY j).cls (mY j) (mY j)) lw_tbl = true := by decide +kernel
theorem tb_1 {w : Cond} (h : w ∈ tables_1_1) : w ∈ lw_tbl := List.mem_append_right _ (List.mem_append_left _ h)
theorem tb_2 {w : Cond} (h : w ∈ tables_1_2) : w ∈ lw_tbl := List.mem_append_right _ (List.mem_append_right _ (List.mem_append_left _ h))
theorem tb_3 {w : Cond} (h : w ∈ tables_1_3) : w ∈ lw_tbl := List.mem_append_right _ (List.mem_append_right _ (List.mem_append_right _ (List.mem_append_left _ h)))
theorem tb_4 {w : Cond} (h : w ∈ tables_1_4) : w ∈ lw_tbl := List.mem_append_right _ (List.mem_append_right _ (List.mem_append_right _ (List.mem_append_right _ (List.mem_append_left _ h))))
theorem tb_5 {w : Cond} (h : w ∈ tables_1_5) : w ∈ lw_tbl := List.mem_append_right _ (List.mem_append_right _ (List.mem_append_right _ (List.mem_append_right _ (List.mem_append_right _ (List.mem_append_left _ h)))))
theorem tb_6 {w : Cond} (h : w ∈ tables_1_6) : w ∈ lw_tbl := List.mem_append_right _ (List.mem_append_right _ (List.mem_append_right _ (List.mem_append_right _ (List.mem_append_right _ (List.mem_append_right _ (h))))))
theorem hd_0 : aHd 0 ∈ lw_tbl := tb_1 (List.mem_of_getElem? (i := 75) rfl)
theorem hd_1 : aHd 1 ∈ lw_tbl := tb_2 (List.mem_of_getElem? (i := 86) rfl)
theorem hd_2 : aHd 2 ∈ lw_tbl := tb_2 (List.mem_of_getElem? (i := 90) rfl)
theorem hd_3 : aHd 3 ∈ lw_tbl := tb_2 (List.mem_of_getElem? (i := 98) rfl)
theorem hd_4 : aHd 4 ∈ lw_tbl := tb_2 (List.mem_of_getElem? (i := 102) rfl)
theorem hd_5 : aHd 5 ∈ lw_tbl := tb_2 (List.mem_of_getElem? (i := 106) rfl)
theorem hd_6 : aHd 6 ∈ lw_tbl := tb_2 (List.mem_of_getElem? (i := 110) rfl)
theorem hd_7 : aHd 7 ∈ lw_tbl := tb_2 (List.mem_of_getElem? (i := 115) rfl)
theorem hd_8 : aHd 8 ∈ lw_tbl := tb_2 (List.mem_of_getElem? (i := 118) rfl)
theorem hd_9 : aHd 9 ∈ lw_tbl := tb_2 (List.mem_of_getElem? (i := 121) rfl)
theorem hd_10 : aHd 10 ∈ lw_tbl := tb_4 (List.mem_of_getElem? (i := 72) rfl)
theorem hd_11 : aHd 11 ∈ lw_tbl := tb_4 (List.mem_of_getElem? (i := 84) rfl)
theorem hd_12 : aHd 12 ∈ lw_tbl := tb_4 (List.mem_of_getElem? (i := 91) rfl)
theorem hd_13 : aHd 13 ∈ lw_tbl := tb_4 (List.mem_of_getElem? (i := 95) rfl)
theorem hd_14 : aHd 14 ∈ lw_tbl := tb_4 (List.mem_of_getElem? (i := 99) rfl)
theorem hd_15 : aHd 15 ∈ lw_tbl := tb_1 (List.mem_of_getElem? (i := 33) rfl)
theorem hd_16 : aHd 16 ∈ lw_tbl := tb_1 (List.mem_of_getElem? (i := 183) rfl)
theorem hd_17 : aHd 17 ∈ lw_tbl := tb_1 (List.mem_of_getElem? (i := 201) rfl)
theorem hd_18 : aHd 18 ∈ lw_tbl := tb_1 (List.mem_of_getElem? (i := 205) rfl)
theorem hd_19 : aHd 19 ∈ lw_tbl := tb_1 (List.mem_of_getElem? (i := 227) rfl)
theorem hd_20 : aHd 20 ∈ lw_tbl := tb_2 (List.mem_of_getElem? (i := 3) rfl)
theorem hd_21 : aHd 21 ∈ lw_tbl := tb_2 (List.mem_of_getElem? (i := 69) rfl)
theorem hd_22 : aHd 22 ∈ lw_tbl := tb_2 (List.mem_of_getElem? (i := 185) rfl)
theorem hd_23 : aHd 23 ∈ lw_tbl := tb_2 (List.mem_of_getElem? (i := 193) rfl)
theorem hd_24 : aHd 24 ∈ lw_tbl := tb_2 (List.mem_of_getElem? (i := 211) rfl)
theorem hd_25 : aHd 25 ∈ lw_tbl := tb_2 (List.mem_of_getElem? (i := 215) rfl)
theorem hd_26 : aHd 26 ∈ lw_tbl := tb_2 (List.mem_of_getElem? (i := 220) rfl)
theorem hd_27 : aHd 27 ∈ lw_tbl := tb_2 (List.mem_of_getElem? (i := 224) rfl)
theorem hd_28 : aHd 28 ∈ lw_tbl := tb_2 (List.mem_of_getElem? (i := 229) rfl)
theorem hd_29 : aHd 29 ∈ lw_tbl := tb_2 (List.mem_of_getElem? (i := 237) rfl)
theorem hd_30 : aHd 30 ∈ lw_tbl := tb_3 (List.mem_of_getElem? (i := 1) rfl)
theorem hd_31 : aHd 31 ∈ lw_tbl := tb_3 (List.mem_of_getElem? (i := 5) rfl)
theorem hd_32 : aHd 32 ∈ lw_tbl := tb_3 (List.mem_of_getElem? (i := 9) rfl)
theorem hd_33 : aHd 33 ∈ lw_tbl := tb_3 (List.mem_of_getElem? (i := 92) rfl)
theorem hd_34 : aHd 34 ∈ lw_tbl := tb_3 (List.mem_of_getElem? (i := 132) rfl)
theorem hd_35 : aHd 35 ∈ lw_tbl := tb_3 (List.mem_of_getElem? (i := 137) rfl)
theorem hd_36 : aHd 36 ∈ lw_tbl := tb_3 (List.mem_of_getElem? (i := 179) rfl)
theorem hd_37 : aHd 37 ∈ lw_tbl := tb_3 (List.mem_of_getElem? (i := 184) rfl)
theorem hd_38 : aHd 38 ∈ lw_tbl := tb_3 (List.mem_of_getElem? (i := 192) rfl)
theorem hd_39 : aHd 39 ∈ lw_tbl := tb_3 (List.mem_of_getElem? (i := 196) rfl)
theorem hd_40 : aHd 40 ∈ lw_tbl := tb_3 (List.mem_of_getElem? (i := 200) rfl)
theorem hd_41 : aHd 41 ∈ lw_tbl := tb_3 (List.mem_of_getElem? (i := 228) rfl)
theorem hd_42 : aHd 42 ∈ lw_tbl := tb_4 (List.mem_of_getElem? (i := 8) rfl)
theorem hd_43 : aHd 43 ∈ lw_tbl := tb_4 (List.mem_of_getElem? (i := 13) rfl)
theorem hd_44 : aHd 44 ∈ lw_tbl := tb_4 (List.mem_of_getElem? (i := 59) rfl)
theorem hd_45 : aHd 45 ∈ lw_tbl := tb_1 (List.mem_of_getElem? (i := 56) rfl)
theorem hd_46 : aHd 46 ∈ lw_tbl := tb_1 (List.mem_of_getElem? (i := 175) rfl)
theorem hd_47 : aHd 47 ∈ lw_tbl := tb_1 (List.mem_of_getElem? (i := 179) rfl)
theorem hd_48 : aHd 48 ∈ lw_tbl := tb_3 (List.mem_of_getElem? (i := 17) rfl)
theorem hd_49 : aHd 49 ∈ lw_tbl := tb_4 (List.mem_of_getElem? (i := 115) rfl)
theorem hd_50 : aHd 50 ∈ lw_tbl := tb_1 (List.mem_of_getElem? (i := 100) rfl)
theorem hd_51 : aHd 51 ∈ lw_tbl := tb_1 (List.mem_of_getElem? (i := 193) rfl)
theorem hd_52 : aHd 52 ∈ lw_tbl := tb_1 (List.mem_of_getElem? (i := 197) rfl)
theorem hd_53 : aHd 53 ∈ lw_tbl := tb_1 (List.mem_of_getElem? (i := 212) rfl)
theorem hd_54 : aHd 54 ∈ lw_tbl := tb_1 (List.mem_of_getElem? (i := 220) rfl)
theorem hd_55 : aHd 55 ∈ lw_tbl := tb_1 (List.mem_of_getElem? (i := 223) rfl)
theorem hd_56 : aHd 56 ∈ lw_tbl := tb_1 (List.mem_of_getElem? (i := 234) rfl)
theorem hd_57 : aHd 57 ∈ lw_tbl := tb_1 (List.mem_of_getElem? (i := 239) rfl)
theorem hd_58 : aHd 58 ∈ lw_tbl := tb_2 (List.mem_of_getElem? (i := 7) rfl)
theorem hd_59 : aHd 59 ∈ lw_tbl := tb_2 (List.mem_of_getElem? (i := 16) rfl)
theorem hd_60 : aHd 60 ∈ lw_tbl := tb_2 (List.mem_of_getElem? (i := 20) rfl)
theorem hd_61 : aHd 61 ∈ lw_tbl := tb_2 (List.mem_of_getElem? (i := 24) rfl)
theorem hd_62 : aHd 62 ∈ lw_tbl := tb_2 (List.mem_of_getElem? (i := 28) rfl)
theorem hd_63 : aHd 63 ∈ lw_tbl := tb_2 (List.mem_of_getElem? (i := 33) rfl)
theorem hd_64 : aHd 64 ∈ lw_tbl := tb_2 (List.mem_of_getElem? (i := 37) rfl)
theorem hd_65 : aHd 65 ∈ lw_tbl := tb_2 (List.mem_of_getElem? (i := 41) rfl)
theorem hd_66 : aHd 66 ∈ lw_tbl := tb_2 (List.mem_of_getElem? (i := 45) rfl)
theorem hd_67 : aHd 67 ∈ lw_tbl := tb_2 (List.mem_of_getElem? (i := 49) rfl)
theorem hd_68 : aHd 68 ∈ lw_tbl := tb_2 (List.mem_of_getElem? (i := 53) rfl)
theorem hd_69 : aHd 69 ∈ lw_tbl := tb_2 (List.mem_of_getElem? (i := 57) rfl)
theorem hd_70 : aHd 70 ∈ lw_tbl := tb_2 (List.mem_of_getElem? (i := 61) rfl)
theorem hd_71 : aHd 71 ∈ lw_tbl := tb_2 (List.mem_of_getElem? (i := 65) rfl)
theorem hd_72 : aHd 72 ∈ lw_tbl := tb_2 (List.mem_of_getElem? (i := 78) rfl)
theorem hd_73 : aHd 73 ∈ lw_tbl := tb_2 (List.mem_of_getElem? (i := 198) rfl)
theorem hd_74 : aHd 74 ∈ lw_tbl := tb_3 (List.mem_of_getElem? (i := 13) rfl)
theorem hd_75 : aHd 75 ∈ lw_tbl := tb_3 (List.mem_of_getElem? (i := 141) rfl)
theorem hd_76 : aHd 76 ∈ lw_tbl := tb_3 (List.mem_of_getElem? (i := 162) rfl)
theorem hd_77 : aHd 77 ∈ lw_tbl := tb_3 (List.mem_of_getElem? (i := 166) rfl)
theorem hd_78 : aHd 78 ∈ lw_tbl := tb_1 (List.mem_of_getElem? (i := 25) rfl)
theorem hd_79 : aHd 79 ∈ lw_tbl := tb_1 (List.mem_of_getElem? (i := 171) rfl)
theorem hd_80 : aHd 80 ∈ lw_tbl := tb_1 (List.mem_of_getElem? (i := 186) rfl)
theorem hd_81 : aHd 81 ∈ lw_tbl := tb_1 (List.mem_of_getElem? (i := 208) rfl)
theorem hd_82 : aHd 82 ∈ lw_tbl := tb_1 (List.mem_of_getElem? (i := 230) rfl)
theorem hd_83 : aHd 83 ∈ lw_tbl := tb_2 (List.mem_of_getElem? (i := 12) rfl)
theorem hd_84 : aHd 84 ∈ lw_tbl := tb_2 (List.mem_of_getElem? (i := 74) rfl)
theorem hd_85 : aHd 85 ∈ lw_tbl := tb_2 (List.mem_of_getElem? (i := 82) rfl)
theorem hd_86 : aHd 86 ∈ lw_tbl := tb_2 (List.mem_of_getElem? (i := 94) rfl)
theorem hd_87 : aHd 87 ∈ lw_tbl := tb_2 (List.mem_of_getElem? (i := 180) rfl)
theorem hd_88 : aHd 88 ∈ lw_tbl := tb_2 (List.mem_of_getElem? (i := 189) rfl)
theorem hd_89 : aHd 89 ∈ lw_tbl := tb_2 (List.mem_of_getElem? (i := 202) rfl)
theorem hd_90 : aHd 90 ∈ lw_tbl := tb_2 (List.mem_of_getElem? (i := 207) rfl)
theorem hd_91 : aHd 91 ∈ lw_tbl := tb_3 (List.mem_of_getElem? (i := 87) rfl)
theorem hd_92 : aHd 92 ∈ lw_tbl := tb_3 (List.mem_of_getElem? (i := 96) rfl)
theorem hd_93 : aHd 93 ∈ lw_tbl := tb_3 (List.mem_of_getElem? (i := 102) rfl)
theorem hd_94 : aHd 94 ∈ lw_tbl := tb_3 (List.mem_of_getElem? (i := 107) rfl)
theorem hd_95 : aHd 95 ∈ lw_tbl := tb_3 (List.mem_of_getElem? (i := 111) rfl)
theorem hd_96 : aHd 96 ∈ lw_tbl := tb_3 (List.mem_of_getElem? (i := 146) rfl)
theorem hd_97 : aHd 97 ∈ lw_tbl := tb_3 (List.mem_of_getElem? (i := 150) rfl)
theorem hd_98 : aHd 98 ∈ lw_tbl := tb_3 (List.mem_of_getElem? (i := 154) rfl)
theorem hd_99 : aHd 99 ∈ lw_tbl := tb_3 (List.mem_of_getElem? (i := 170) rfl)
theorem hd_100 : aHd 100 ∈ lw_tbl := tb_3 (List.mem_of_getElem? (i := 173) rfl)
theorem hd_101 : aHd 101 ∈ lw_tbl := tb_3 (List.mem_of_getElem? (i := 188) rfl)
theorem hd_102 : aHd 102 ∈ lw_tbl := tb_3 (List.mem_of_getElem? (i := 205) rfl)
theorem hd_103 : aHd 103 ∈ lw_tbl := tb_3 (List.mem_of_getElem? (i := 212) rfl)
theorem hd_104 : aHd 104 ∈ lw_tbl := tb_3 (List.mem_of_getElem? (i := 222) rfl)
theorem hd_105 : aHd 105 ∈ lw_tbl := tb_4 (List.mem_of_getElem? (i := 21) rfl)
theorem hd_106 : aHd 106 ∈ lw_tbl := tb_4 (List.mem_of_getElem? (i := 28) rfl)
theorem hd_107 : aHd 107 ∈ lw_tbl := tb_4 (List.mem_of_getElem? (i := 37) rfl)
theorem hd_108 : aHd 108 ∈ lw_tbl := tb_4 (List.mem_of_getElem? (i := 45) rfl)
theorem hd_109 : aHd 109 ∈ lw_tbl := tb_4 (List.mem_of_getElem? (i := 54) rfl)
theorem hd_110 : aHd 110 ∈ lw_tbl := tb_4 (List.mem_of_getElem? (i := 66) rfl)
theorem hd_111 : aHd 111 ∈ lw_tbl := tb_4 (List.mem_of_getElem? (i := 80) rfl)
theorem hd_112 : aHd 112 ∈ lw_tbl := tb_4 (List.mem_of_getElem? (i := 103) rfl)
theorem hd_113 : aHd 113 ∈ lw_tbl := tb_4 (List.mem_of_getElem? (i := 110) rfl)
theorem hd_114 : aHd 114 ∈ lw_tbl := tb_4 (List.mem_of_getElem? (i := 122) rfl)
theorem hd_115 : aHd 115 ∈ lw_tbl := tb_4 (List.mem_of_getElem? (i := 148) rfl)
theorem hd_116 : aHd 116 ∈ lw_tbl := tb_4 (List.mem_of_getElem? (i := 214) rfl)
theorem hd_117 : aHd 117 ∈ lw_tbl := tb_4 (List.mem_of_getElem? (i := 218) rfl)
theorem hd_118 : aHd 118 ∈ lw_tbl := tb_4 (List.mem_of_getElem? (i := 222) rfl)
theorem hd_119 : aHd 119 ∈ lw_tbl := tb_4 (List.mem_of_getElem? (i := 225) rfl)
theorem hd_120 : aHd 120 ∈ lw_tbl := tb_4 (List.mem_of_getElem? (i := 229) rfl)
theorem hd_121 : aHd 121 ∈ lw_tbl := tb_4 (List.mem_of_getElem? (i := 232) rfl)
theorem hd_122 : aHd 122 ∈ lw_tbl := tb_4 (List.mem_of_getElem? (i := 236) rfl)
theorem hd_123 : aHd 123 ∈ lw_tbl := tb_4 (List.mem_of_getElem? (i := 239) rfl)
theorem hd_124 : aHd 124 ∈ lw_tbl := tb_5 (List.mem_of_getElem? (i := 2) rfl)
theorem hd_125 : aHd 125 ∈ lw_tbl := tb_5 (List.mem_of_getElem? (i := 6) rfl)
theorem hd_126 : aHd 126 ∈ lw_tbl := tb_5 (List.mem_of_getElem? (i := 9) rfl)
theorem hd_127 : aHd 127 ∈ lw_tbl := tb_5 (List.mem_of_getElem? (i := 12) rfl)
theorem hd_128 : aHd 128 ∈ lw_tbl := tb_5 (List.mem_of_getElem? (i := 16) rfl)
theorem hd_129 : aHd 129 ∈ lw_tbl := tb_5 (List.mem_of_getElem? (i := 20) rfl)
theorem hd_130 : aHd 130 ∈ lw_tbl := tb_5 (List.mem_of_getElem? (i := 23) rfl)
theorem hd_131 : aHd 131 ∈ lw_tbl := tb_5 (List.mem_of_getElem? (i := 27) rfl)
theorem hd_132 : aHd 132 ∈ lw_tbl := tb_5 (List.mem_of_getElem? (i := 31) rfl)
theorem hd_133 : aHd 133 ∈ lw_tbl := tb_5 (List.mem_of_getElem? (i := 35) rfl)
theorem hd_134 : aHd 134 ∈ lw_tbl := tb_5 (List.mem_of_getElem? (i := 38) rfl)
theorem hd_135 : aHd 135 ∈ lw_tbl := tb_5 (List.mem_of_getElem? (i := 42) rfl)
theorem hd_136 : aHd 136 ∈ lw_tbl := tb_5 (List.mem_of_getElem? (i := 45) rfl)
theorem hd_137 : aHd 137 ∈ lw_tbl := tb_5 (List.mem_of_getElem? (i := 49) rfl)
theorem hd_138 : aHd 138 ∈ lw_tbl := tb_5 (List.mem_of_getElem? (i := 53) rfl)
theorem hd_139 : aHd 139 ∈ lw_tbl := tb_5 (List.mem_of_getElem? (i := 57) rfl)
theorem hd_140 : aHd 140 ∈ lw_tbl := tb_5 (List.mem_of_getElem? (i := 61) rfl)
theorem hd_141 : aHd 141 ∈ lw_tbl := tb_5 (List.mem_of_getElem? (i := 65) rfl)
theorem hd_142 : aHd 142 ∈ lw_tbl := tb_5 (List.mem_of_getElem? (i := 68) rfl)
theorem hd_143 : aHd 143 ∈ lw_tbl := tb_5 (List.mem_of_getElem? (i := 73) rfl)
theorem hd_144 : aHd 144 ∈ lw_tbl := tb_5 (List.mem_of_getElem? (i := 77) rfl)
theorem hd_145 : aHd 145 ∈ lw_tbl := tb_5 (List.mem_of_getElem? (i := 81) rfl)
theorem hd_146 : aHd 146 ∈ lw_tbl := tb_5 (List.mem_of_getElem? (i := 85) rfl)
theorem hd_147 : aHd 147 ∈ lw_tbl := tb_5 (List.mem_of_getElem? (i := 89) rfl)
theorem hd_148 : aHd 148 ∈ lw_tbl := tb_5 (List.mem_of_getElem? (i := 93) rfl)
theorem hd_149 : aHd 149 ∈ lw_tbl := tb_5 (List.mem_of_getElem? (i := 97) rfl)
theorem hd_150 : aHd 150 ∈ lw_tbl := tb_5 (List.mem_of_getElem? (i := 101) rfl)
theorem hd_151 : aHd 151 ∈ lw_tbl := tb_5 (List.mem_of_getElem? (i := 105) rfl)
theorem hd_152 : aHd 152 ∈ lw_tbl := tb_5 (List.mem_of_getElem? (i := 109) rfl)
theorem hd_153 : aHd 153 ∈ lw_tbl := tb_5 (List.mem_of_getElem? (i := 113) rfl)
theorem hd_154 : aHd 154 ∈ lw_tbl := tb_5 (List.mem_of_getElem? (i := 117) rfl)
theorem hd_155 : aHd 155 ∈ lw_tbl := tb_5 (List.mem_of_getElem? (i := 121) rfl)
theorem hd_156 : aHd 156 ∈ lw_tbl := tb_5 (List.mem_of_getElem? (i := 125) rfl)
theorem hd_157 : aHd 157 ∈ lw_tbl := tb_5 (List.mem_of_getElem? (i := 129) rfl)
theorem hd_158 : aHd 158 ∈ lw_tbl := tb_5 (List.mem_of_getElem? (i := 133) rfl)
theorem hd_159 : aHd 159 ∈ lw_tbl := tb_5 (List.mem_of_getElem? (i := 137) rfl)
theorem hd_160 : aHd 160 ∈ lw_tbl := tb_5 (List.mem_of_getElem? (i := 141) rfl)
theorem hd_161 : aHd 161 ∈ lw_tbl := tb_5 (List.mem_of_getElem? (i := 145) rfl)
theorem hd_162 : aHd 162 ∈ lw_tbl := tb_5 (List.mem_of_getElem? (i := 149) rfl)
theorem hd_163 : aHd 163 ∈ lw_tbl := tb_5 (List.mem_of_getElem? (i := 153) rfl)
theorem hd_164 : aHd 164 ∈ lw_tbl := tb_5 (List.mem_of_getElem? (i := 157) rfl)
theorem hd_165 : aHd 165 ∈ lw_tbl := tb_5 (List.mem_of_getElem? (i := 161) rfl)
theorem hd_166 : aHd 166 ∈ lw_tbl := tb_5 (List.mem_of_getElem? (i := 164) rfl)
theorem hd_167 : aHd 167 ∈ lw_tbl := tb_5 (List.mem_of_getElem? (i := 168) rfl)
theorem hd_168 : aHd 168 ∈ lw_tbl := tb_5 (List.mem_of_getElem? (i := 172) rfl)
theorem hd_169 : aHd 169 ∈ lw_tbl := tb_5 (List.mem_of_getElem? (i := 176) rfl)
theorem hd_170 : aHd 170 ∈ lw_tbl := tb_5 (List.mem_of_getElem? (i := 180) rfl)
theorem hd_171 : aHd 171 ∈ lw_tbl := tb_5 (List.mem_of_getElem? (i := 184) rfl)
theorem hd_172 : aHd 172 ∈ lw_tbl := tb_5 (List.mem_of_getElem? (i := 188) rfl)
theorem hd_173 : aHd 173 ∈ lw_tbl := tb_5 (List.mem_of_getElem? (i := 192) rfl)
theorem hd_174 : aHd 174 ∈ lw_tbl := tb_5 (List.mem_of_getElem? (i := 196) rfl)
theorem hd_175 : aHd 175 ∈ lw_tbl := tb_5 (List.mem_of_getElem? (i := 200) rfl)
theorem hd_176 : aHd 176 ∈ lw_tbl := tb_5 (List.mem_of_getElem? (i := 204) rfl)
theorem hd_177 : aHd 177 ∈ lw_tbl := tb_5 (List.mem_of_getElem? (i := 207) rfl)
theorem hd_178 : aHd 178 ∈ lw_tbl := tb_5 (List.mem_of_getElem? (i := 211) rfl)
theorem hd_179 : aHd 179 ∈ lw_tbl := tb_5 (List.mem_of_getElem? (i := 215) rfl)
theorem hd_180 : aHd 180 ∈ lw_tbl := tb_5 (List.mem_of_getElem? (i := 219) rfl)
theorem hd_181 : aHd 181 ∈ lw_tbl := tb_5 (List.mem_of_getElem? (i := 223) rfl)
theorem hd_182 : aHd 182 ∈ lw_tbl := tb_5 (List.mem_of_getElem? (i := 227) rfl)
theorem hd_183 : aHd 183 ∈ lw_tbl := tb_5 (List.mem_of_getElem? (i := 231) rfl)
theorem hd_184 : aHd 184 ∈ lw_tbl := tb_5 (List.mem_of_getElem? (i := 235) rfl)
theorem hd_185 : aHd 185 ∈ lw_tbl := tb_5 (List.mem_of_getElem? (i := 239) rfl)
theorem hd_186 : aHd 186 ∈ lw_tbl := tb_6 (List.mem_of_getElem? (i := 3) rfl)
theorem hd_187 : aHd 187 ∈ lw_tbl := tb_6 (List.mem_of_getElem? (i := 7) rfl)
theorem hd_188 : aHd 188 ∈ lw_tbl := tb_6 (List.mem_of_getElem? (i := 11) rfl)
theorem hd_189 : aHd 189 ∈ lw_tbl := tb_6 (List.mem_of_getElem? (i := 15) rfl)
theorem hd_190 : aHd 190 ∈ lw_tbl := tb_3 (List.mem_of_getElem? (i := 216) rfl)
theorem hd_191 : aHd 191 ∈ lw_tbl := tb_4 (List.mem_of_getElem? (i := 16) rfl)
theorem hd_192 : aHd 192 ∈ lw_tbl := tb_4 (List.mem_of_getElem? (i := 24) rfl)
theorem hd_193 : aHd 193 ∈ lw_tbl := tb_4 (List.mem_of_getElem? (i := 33) rfl)
theorem hd_194 : aHd 194 ∈ lw_tbl := tb_4 (List.mem_of_getElem? (i := 41) rfl)
theorem hd_195 : aHd 195 ∈ lw_tbl := tb_4 (List.mem_of_getElem? (i := 50) rfl)
theorem hd_196 : aHd 196 ∈ lw_tbl := tb_4 (List.mem_of_getElem? (i := 62) rfl)
theorem hd_197 : aHd 197 ∈ lw_tbl := tb_4 (List.mem_of_getElem? (i := 76) rfl)
theorem hd_198 : aHd 198 ∈ lw_tbl := tb_4 (List.mem_of_getElem? (i := 106) rfl)
theorem hd_199 : aHd 199 ∈ lw_tbl := tb_4 (List.mem_of_getElem? (i := 118) rfl)
theorem hd_200 : aHd 200 ∈ lw_tbl := tb_4 (List.mem_of_getElem? (i := 126) rfl)
theorem hd_201 : aHd 201 ∈ lw_tbl := tb_4 (List.mem_of_getElem? (i := 130) rfl)
theorem hd_202 : aHd 202 ∈ lw_tbl := tb_4 (List.mem_of_getElem? (i := 134) rfl)
theorem hd_203 : aHd 203 ∈ lw_tbl := tb_4 (List.mem_of_getElem? (i := 138) rfl)
theorem hd_204 : aHd 204 ∈ lw_tbl := tb_4 (List.mem_of_getElem? (i := 142) rfl)
theorem hd_205 : aHd 205 ∈ lw_tbl := tb_1 (List.mem_of_getElem? (i := 37) rfl)
theorem hd_206 : aHd 206 ∈ lw_tbl := tb_2 (List.mem_of_getElem? (i := 131) rfl)
theorem hd_207 : aHd 207 ∈ lw_tbl := tb_2 (List.mem_of_getElem? (i := 135) rfl)
theorem hd_208 : aHd 208 ∈ lw_tbl := tb_2 (List.mem_of_getElem? (i := 141) rfl)
theorem hd_209 : aHd 209 ∈ lw_tbl := tb_2 (List.mem_of_getElem? (i := 145) rfl)
theorem hd_210 : aHd 210 ∈ lw_tbl := tb_2 (List.mem_of_getElem? (i := 151) rfl)
theorem hd_211 : aHd 211 ∈ lw_tbl := tb_2 (List.mem_of_getElem? (i := 148) rfl)
theorem hd_212 : aHd 212 ∈ lw_tbl := tb_2 (List.mem_of_getElem? (i := 156) rfl)
theorem hd_213 : aHd 213 ∈ lw_tbl := tb_6 (List.mem_of_getElem? (i := 20) rfl)
theorem hd_214 : aHd 214 ∈ lw_tbl := tb_6 (List.mem_of_getElem? (i := 23) rfl)
theorem hdc_0 : ∀ j, 0 ≤ j → j < 20 → aHd j ∈ lw_tbl := by
  intro j h1 h2
  rcases (show j = 0 ∨ j = 1 ∨ j = 2 ∨ j = 3 ∨ j = 4 ∨ j = 5 ∨ j = 6 ∨ j = 7 ∨ j = 8 ∨ j = 9 ∨ j = 10 ∨ j = 11 ∨ j = 12 ∨ j = 13 ∨ j = 14 ∨ j = 15 ∨ j = 16 ∨ j = 17 ∨ j = 18 ∨ j = 19 by omega) with rfl | rfl | rfl | rfl | rfl | rfl | rfl | rfl | rfl | rfl | rfl | rfl | rfl | rfl | rfl | rfl | rfl | rfl | rfl | rfl
  · exact hd_0
  · exact hd_1
  · exact hd_2
  · exact hd_3
  · exact hd_4
  · exact hd_5
  · exact hd_6
  · exact hd_7
  · exact hd_8
  · exact hd_9
  · exact hd_10
  · exact hd_11
  · exact hd_12
  · exact hd_13
  · exact hd_14
  · exact hd_15
  · exact hd_16
  · exact hd_17
  · exact hd_18
  · exact hd_19
theorem hdc_1 : ∀ j, 20 ≤ j → j < 40 → aHd j ∈ lw_tbl := by
  intro j h1 h2
  rcases (show j = 20 ∨ j = 21 ∨ j = 22 ∨ j = 23 ∨ j = 24 ∨ j = 25 ∨ j = 26 ∨ j = 27 ∨ j = 28 ∨ j = 29 ∨ j = 30 ∨ j = 31 ∨ j = 32 ∨ j = 33 ∨ j = 34 ∨ j = 35 ∨ j = 36 ∨ j = 37 ∨ j = 38 ∨ j = 39 by omega) with rfl | rfl | rfl | rfl | rfl | rfl | rfl | rfl | rfl | rfl | rfl | rfl | rfl | rfl | rfl | rfl | rfl | rfl | rfl | rfl
  · exact hd_20
  · exact hd_21
  · exact hd_22
  · exact hd_23
  · exact hd_24
  · exact hd_25
  · exact hd_26
  · exact hd_27
  · exact hd_28
  · exact hd_29
  · exact hd_30
  · exact hd_31
  · exact hd_32
  · exact hd_33
  · exact hd_34
  · exact hd_35
  · exact hd_36
  · exact hd_37
  · exact hd_38
  · exact hd_39
theorem hdc_2 : ∀ j, 40 ≤ j → j < 60 → aHd j ∈ lw_tbl := by
  intro j h1 h2
  rcases (show j = 40 ∨ j = 41 ∨ j = 42 ∨ j = 43 ∨ j = 44 ∨ j = 45 ∨ j = 46 ∨ j = 47 ∨ j = 48 ∨ j = 49 ∨ j = 50 ∨ j = 51 ∨ j = 52 ∨ j = 53 ∨ j = 54 ∨ j = 55 ∨ j = 56 ∨ j = 57 ∨ j = 58 ∨ j = 59 by omega) with rfl | rfl | rfl | rfl | rfl | rfl | rfl | rfl | rfl | rfl | rfl | rfl | rfl | rfl | rfl | rfl | rfl | rfl | rfl | rfl
  · exact hd_40
  · exact hd_41
  · exact hd_42
  · exact hd_43
  · exact hd_44
  · exact hd_45
  · exact hd_46
  · exact hd_47
  · exact hd_48
  · exact hd_49
  · exact hd_50
  · exact hd_51
  · exact hd_52
  · exact hd_53
  · exact hd_54
  · exact hd_55
  · exact hd_56
  · exact hd_57
  · exact hd_58
  · exact hd_59
theorem hdc_3 : ∀ j, 60 ≤ j → j < 80 → aHd j ∈ lw_tbl := by
  intro j h1 h2
  rcases (show j = 60 ∨ j = 61 ∨ j = 62 ∨ j = 63 ∨ j = 64 ∨ j = 65 ∨ j = 66 ∨ j = 67 ∨ j = 68 ∨ j = 69 ∨ j = 70 ∨ j = 71 ∨ j = 72 ∨ j = 73 ∨ j = 74 ∨ j = 75 ∨ j = 76 ∨ j = 77 ∨ j = 78 ∨ j = 79 by omega) with rfl | rfl | rfl | rfl | rfl | rfl | rfl | rfl | rfl | rfl | rfl | rfl | rfl | rfl | rfl | rfl | rfl | rfl | rfl | rfl
  · exact hd_60
  · exact hd_61
  · exact hd_62
  · exact hd_63
  · exact hd_64
  · exact hd_65
  · exact hd_66
  · exact hd_67
  · exact hd_68
  · exact hd_69
  · exact hd_70
  · exact hd_71
  · exact hd_72
  · exact hd_73
  · exact hd_74
  · exact hd_75
  · exact hd_76
  · exact hd_77
  · exact hd_78
  · exact hd_79
theorem hdc_4 : ∀ j, 80 ≤ j → j < 100 → aHd j ∈ lw_tbl := by
  intro j h1 h2
  rcases (show j = 80 ∨ j = 81 ∨ j = 82 ∨ j = 83 ∨ j = 84 ∨ j = 85 ∨ j = 86 ∨ j = 87 ∨ j = 88 ∨ j = 89 ∨ j = 90 ∨ j = 91 ∨ j = 92 ∨ j = 93 ∨ j = 94 ∨ j = 95 ∨ j = 96 ∨ j = 97 ∨ j = 98 ∨ j = 99 by omega) with rfl | rfl | rfl | rfl | rfl | rfl | rfl | rfl | rfl | rfl | rfl | rfl | rfl | rfl | rfl | rfl | rfl | rfl | rfl | rfl
  · exact hd_80
  · exact hd_81
  · exact hd_82
  · exact hd_83
  · exact hd_84
  · exact hd_85
  · exact hd_86
  · exact hd_87
  · exact hd_88
  · exact hd_89
  · exact hd_90
  · exact hd_91
  · exact hd_92
  · exact hd_93
  · exact hd_94
  · exact hd_95
  · exact hd_96
  · exact hd_97
  · exact hd_98
  · exact hd_99
theorem hdc_5 : ∀ j, 100 ≤ j → j < 120 → aHd j ∈ lw_tbl := by
  intro j h1 h2
  rcases (show j = 100 ∨ j = 101 ∨ j = 102 ∨ j = 103 ∨ j = 104 ∨ j = 105 ∨ j = 106 ∨ j = 107 ∨ j = 108 ∨ j = 109 ∨ j = 110 ∨ j = 111 ∨ j = 112 ∨ j = 113 ∨ j = 114 ∨ j = 115 ∨ j = 116 ∨ j = 117 ∨ j = 118 ∨ j = 119 by omega) with rfl | rfl | rfl | rfl | rfl | rfl | rfl | rfl | rfl | rfl | rfl | rfl | rfl | rfl | rfl | rfl | rfl | rfl | rfl | rfl
  · exact hd_100
  · exact hd_101
  · exact hd_102
  · exact hd_103
  · exact hd_104
  · exact hd_105
  · exact hd_106
  · exact hd_107
  · exact hd_108
  · exact hd_109
  · exact hd_110
  · exact hd_111
  · exact hd_112
  · exact hd_113
  · exact hd_114
  · exact hd_115
  · exact hd_116
  · exact hd_117
  · exact hd_118
  · exact hd_119
theorem hdc_6 : ∀ j, 120 ≤ j → j < 140 → aHd j ∈ lw_tbl := by
  intro j h1 h2
  rcases (show j = 120 ∨ j = 121 ∨ j = 122 ∨ j = 123 ∨ j = 124 ∨ j = 125 ∨ j = 126 ∨ j = 127 ∨ j = 128 ∨ j = 129 ∨ j = 130 ∨ j = 131 ∨ j = 132 ∨ j = 133 ∨ j = 134 ∨ j = 135 ∨ j = 136 ∨ j = 137 ∨ j = 138 ∨ j = 139 by omega) with rfl | rfl | rfl | rfl | rfl | rfl | rfl | rfl | rfl | rfl | rfl | rfl | rfl | rfl | rfl | rfl | rfl | rfl | rfl | rfl
  · exact hd_120
  · exact hd_121
  · exact hd_122
  · exact hd_123
  · exact hd_124
  · exact hd_125
  · exact hd_126
  · exact hd_127
  · exact hd_128
  · exact hd_129
  · exact hd_130
  · exact hd_131
  · exact hd_132
  · exact hd_133
  · exact hd_134
  · exact hd_135
  · exact hd_136
  · exact hd_137
  · exact hd_138
  · exact hd_139
theorem hdc_7 : ∀ j, 140 ≤ j → j < 160 → aHd j ∈ lw_tbl := by
  intro j h1 h2
  rcases (show j = 140 ∨ j = 141 ∨ j = 142 ∨ j = 143 ∨ j = 144 ∨ j = 145 ∨ j = 146 ∨ j = 147 ∨ j = 148 ∨ j = 149 ∨ j = 150 ∨ j = 151 ∨ j = 152 ∨ j = 153 ∨ j = 154 ∨ j = 155 ∨ j = 156 ∨ j = 157 ∨ j = 158 ∨ j = 159 by omega) with rfl | rfl | rfl | rfl | rfl | rfl | rfl | rfl | rfl | rfl | rfl | rfl | rfl | rfl | rfl | rfl | rfl | rfl | rfl | rfl
  · exact hd_140
  · exact hd_141
  · exact hd_142
  · exact hd_143
  · exact hd_144
  · exact hd_145
  · exact hd_146
  · exact hd_147
  · exact hd_148
  · exact hd_149
  · exact hd_150
  · exact hd_151
  · exact hd_152
  · exact hd_153
  · exact hd_154
  · exact hd_155
  · exact hd_156
  · exact hd_157
  · exact hd_158
  · exact hd_159
theorem hdc_8 : ∀ j, 160 ≤ j → j < 180 → aHd j ∈ lw_tbl := by
  intro j h1 h2
  rcases (show j = 160 ∨ j = 161 ∨ j = 162 ∨ j = 163 ∨ j = 164 ∨ j = 165 ∨ j = 166 ∨ j = 167 ∨ j = 168 ∨ j = 169 ∨ j = 170 ∨ j = 171 ∨ j = 172 ∨ j = 173 ∨ j = 174 ∨ j = 175 ∨ j = 176 ∨ j = 177 ∨ j = 178 ∨ j = 179 by omega) with rfl | rfl | rfl | rfl | rfl | rfl | rfl | rfl | rfl | rfl | rfl | rfl | rfl | rfl | rfl | rfl | rfl | rfl | rfl | rfl
  · exact hd_160
  · exact hd_161
  · exact hd_162
  · exact hd_163
  · exact hd_164
  · exact hd_165
  · exact hd_166
  · exact hd_167
  · exact hd_168
  · exact hd_169
  · exact hd_170
  · exact hd_171
  · exact hd_172
  · exact hd_173
  · exact hd_174
  · exact hd_175
  · exact hd_176
  · exact hd_177
  · exact hd_178
  · exact hd_179
theorem hdc_9 : ∀ j, 180 ≤ j → j < 200 → aHd j ∈ lw_tbl := by
  intro j h1 h2
  rcases (show j = 180 ∨ j = 181 ∨ j = 182 ∨ j = 183 ∨ j = 184 ∨ j = 185 ∨ j = 186 ∨ j = 187 ∨ j = 188 ∨ j = 189 ∨ j = 190 ∨ j = 191 ∨ j = 192 ∨ j = 193 ∨ j = 194 ∨ j = 195 ∨ j = 196 ∨ j = 197 ∨ j = 198 ∨ j = 199 by omega) with rfl | rfl | rfl | rfl | rfl | rfl | rfl | rfl | rfl | rfl | rfl | rfl | rfl | rfl | rfl | rfl | rfl | rfl | rfl | rfl
  · exact hd_180
  · exact hd_181
  · exact hd_182
  · exact hd_183
  · exact hd_184
  · exact hd_185
  · exact hd_186
  · exact hd_187
  · exact hd_188
  · exact hd_189
  · exact hd_190
  · exact hd_191
  · exact hd_192
  · exact hd_193
  · exact hd_194
  · exact hd_195
  · exact hd_196
  · exact hd_197
  · exact hd_198
  · exact hd_199
theorem hdc_10 : ∀ j, 200 ≤ j → j < 215 → aHd j ∈ lw_tbl := by
  intro j h1 h2
  rcases (show j = 200 ∨ j = 201 ∨ j = 202 ∨ j = 203 ∨ j = 204 ∨ j = 205 ∨ j = 206 ∨ j = 207 ∨ j = 208 ∨ j = 209 ∨ j = 210 ∨ j = 211 ∨ j = 212 ∨ j = 213 ∨ j = 214 by omega) with rfl | rfl | rfl | rfl | rfl | rfl | rfl | rfl | rfl | rfl | rfl | rfl | rfl | rfl | rfl
  · exact hd_200
  · exact hd_201
  · exact hd_202
  · exact hd_203
  · exact hd_204
  · exact hd_205
  · exact hd_206
  · exact hd_207
  · exact hd_208
  · exact hd_209
  · exact hd_210
  · exact hd_211
  · exact hd_212
  · exact hd_213
  · exact hd_214
theorem mq_hd : ∀ j, j < am_nM → aHd j ∈ lw_tbl := by
  intro j hj
  unfold am_nM at hj
  by_cases h0 : j < 20
  · exact hdc_0 j (by omega) h0
  by_cases h1 : j < 40
  · exact hdc_1 j (by omega) h1
  by_cases h2 : j < 60
  · exact hdc_2 j (by omega) h2
  by_cases h3 : j < 80
  · exact hdc_3 j (by omega) h3
  by_cases h4 : j < 100
  · exact hdc_4 j (by omega) h4
  by_cases h5 : j < 120
  · exact hdc_5 j (by omega) h5
  by_cases h6 : j < 140
  · exact hdc_6 j (by omega) h6
  by_cases h7 : j < 160
  · exact hdc_7 j (by omega) h7
  by_cases h8 : j < 180
  · exact hdc_8 j (by omega) h8
  by_cases h9 : j < 200
  · exact hdc_9 j (by omega) h9
  by_cases h10 : j < 215
  · exact hdc_10 j (by omega) h10
  omega
theorem mq_st : ∀ j, j < am_nM → (if mS j = true then j ∈ pl_fst else j ∈ pl_fin) := by decide +kernel
theorem mq_gd : ∀ j, j < am_nM → goodWord (aHd j) = true := by decide +kernel
theorem mq_cls : ∀ j, j < am_nM → (mY j).cls = am_cn (mOc j) ∧ mOc j < 13 ∧ ¬ mOc j = 8 := by decide +kernel
theorem mq_init0 : ∀ oc, oc < 13 → Cond.initialized (am_cn oc) ∈ lw_tbl := by decide +kernel
theorem mq_plain : ∀ oc, oc < 13 → ¬ oc = 8 → plainName (am_cn oc) = true := by decide +kernel
theorem mq_init : ∀ oc, oc < 13 → am_cn oc ≠ "java/lang/invoke/MethodHandle" ∧ am_cn oc ≠ "java/lang/invoke/VarHandle" := by decide +kernel
theorem mq_n0 : ∀ k, k < 40 → (parseMethodDescriptor (mY (0 + k)).desc).map (fun d => d.parameters.length) = some (mN (0 + k)) := by decide +kernel
theorem mq_n1 : ∀ k, k < 40 → (parseMethodDescriptor (mY (40 + k)).desc).map (fun d => d.parameters.length) = some (mN (40 + k)) := by decide +kernel
theorem mq_n2 : ∀ k, k < 40 → (parseMethodDescriptor (mY (80 + k)).desc).map (fun d => d.parameters.length) = some (mN (80 + k)) := by decide +kernel
theorem mq_n3 : ∀ k, k < 40 → (parseMethodDescriptor (mY (120 + k)).desc).map (fun d => d.parameters.length) = some (mN (120 + k)) := by decide +kernel
theorem mq_n4 : ∀ k, k < 40 → (parseMethodDescriptor (mY (160 + k)).desc).map (fun d => d.parameters.length) = some (mN (160 + k)) := by decide +kernel
theorem mq_n5 : ∀ k, k < 15 → (parseMethodDescriptor (mY (200 + k)).desc).map (fun d => d.parameters.length) = some (mN (200 + k)) := by decide +kernel
theorem mq_n : ∀ j, j < am_nM → (parseMethodDescriptor (mY j).desc).map (fun d => d.parameters.length) = some (mN j) := by
  intro j hj
  unfold am_nM at hj
  by_cases h0 : j < 40
  · have := mq_n0 j h0
    rwa [Nat.zero_add] at this
  by_cases h1 : j < 80
  · have := mq_n1 (j - 40) (by omega)
    rwa [show 40 + (j - 40) = j by omega] at this
  by_cases h2 : j < 120
  · have := mq_n2 (j - 80) (by omega)
    rwa [show 80 + (j - 80) = j by omega] at this
  by_cases h3 : j < 160
  · have := mq_n3 (j - 120) (by omega)
    rwa [show 120 + (j - 120) = j by omega] at this
  by_cases h4 : j < 200
  · have := mq_n4 (j - 160) (by omega)
    rwa [show 160 + (j - 160) = j by omega] at this
  by_cases h5 : j < 240
  · have := mq_n5 (j - 200) (by omega)
    rwa [show 200 + (j - 200) = j by omega] at this
  omega
abbrev AK : Type := Nat × (Nat × (Nat × Nat))
def kl : List AK := [(6, (65, (4, 78))), (4, (1, (7, 0))), (4, (9, (4, 15))), (1, (3, (7, 0))), (1, (25, (2, 205))), (4, (21, (4, 45))), (2, (3, (7, 0))), (2, (24, (4, 15))), (0, (3, (7, 0))), (3, (3, (7, 0))), (6, (93, (0, 79))), (4, (64, (0, 46))), (2, (25, (0, 47))), (2, (29, (0, 16))), (2, (33, (10, 0))), (4, (115, (0, 51))), (3, (156, (0, 52))), (3, (160, (0, 17))), (1, (68, (0, 18))), (3, (164, (0, 53))), (3, (62, (0, 18))), (3, (68, (9, 0))), (3, (73, (0, 54))), (3, (103, (2, 55))), (3, (114, (0, 19))), (3, (111, (0, 56))), (3, (77, (0, 57))), (3, (117, (0, 20))), (3, (81, (0, 58))), (3, (121, (2, 205))), (3, (131, (0, 59))), (3, (135, (0, 60))), (3, (138, (0, 61))), (3, (84, (0, 62))), (3, (143, (0, 63))), (3, (87, (0, 64))), (3, (95, (0, 65))), (3, (91, (0, 66))), (3, (146, (0, 67))), (3, (168, (0, 68))), (3, (149, (0, 69))), (3, (172, (0, 70))), (3, (152, (0, 71))), (3, (175, (0, 21))), (6, (97, (0, 84))), (4, (118, (0, 72))), (6, (107, (0, 85))), (4, (131, (0, 1))), (4, (139, (0, 2))), (6, (111, (0, 86))), (4, (142, (0, 3))), (0, (40, (0, 4))), (0, (51, (0, 5))), (0, (44, (0, 6))), (0, (54, (0, 7))), (0, (57, (2, 8))), (0, (60, (2, 9))), (0, (64, (0, 206))), (9, (335, (0, 207))), (0, (68, (0, 208))), (9, (492, (0, 209))), (9, (495, (2, 211))), (10, (9, (2, 210))), (9, (1059, (2, 212))), (6, (140, (0, 87))), (4, (231, (0, 16))), (4, (209, (0, 22))), (6, (144, (0, 88))), (4, (212, (0, 23))), (1, (71, (0, 17))), (4, (215, (0, 73))), (6, (149, (0, 89))), (4, (236, (0, 90))), (4, (206, (0, 24))), (1, (50, (0, 25))), (1, (47, (0, 20))), (4, (218, (0, 26))), (1, (81, (0, 27))), (1, (39, (0, 19))), (1, (54, (0, 28))), (4, (221, (0, 29))), (1, (91, (0, 30))), (1, (84, (0, 31))), (1, (88, (0, 32))), (4, (224, (0, 74))), (4, (167, (0, 48))), (4, (239, (2, 91))), (4, (123, (0, 33))), (4, (243, (0, 92))), (4, (97, (0, 19))), (4, (175, (0, 27))), (4, (247, (0, 93))), (4, (277, (0, 25))), (4, (292, (0, 94))), (4, (72, (0, 95))), (4, (180, (0, 20))), (4, (183, (0, 34))), (4, (186, (0, 30))), (4, (189, (0, 35))), (4, (192, (0, 75))), (4, (250, (0, 96))), (4, (295, (0, 97))), (4, (80, (0, 98))), (4, (86, (0, 18))), (4, (105, (0, 53))), (4, (200, (0, 76))), (4, (203, (0, 77))), (4, (253, (0, 99))), (4, (94, (2, 100))), (4, (102, (0, 36))), (1, (43, (0, 21))), (4, (257, (0, 37))), (4, (260, (0, 101))), (4, (76, (0, 38))), (1, (57, (0, 39))), (1, (61, (0, 40))), (4, (263, (0, 87))), (4, (266, (0, 88))), (4, (270, (2, 102))), (4, (274, (0, 103))), (4, (298, (0, 6))), (6, (69, (6, 190))), (6, (7, (0, 104))), (4, (49, (0, 41))), (4, (58, (0, 42))), (4, (68, (0, 43))), (6, (78, (6, 191))), (6, (17, (0, 105))), (6, (82, (6, 192))), (6, (23, (0, 106))), (4, (90, (0, 40))), (6, (86, (6, 193))), (6, (27, (0, 107))), (6, (90, (6, 194))), (6, (31, (0, 108))), (4, (111, (0, 68))), (6, (101, (6, 195))), (6, (34, (0, 109))), (4, (126, (0, 44))), (6, (104, (6, 196))), (6, (37, (0, 110))), (4, (136, (0, 10))), (6, (115, (6, 197))), (6, (40, (0, 111))), (4, (145, (0, 11))), (0, (47, (0, 3))), (4, (151, (0, 4))), (4, (154, (0, 12))), (4, (157, (0, 13))), (4, (160, (0, 14))), (4, (163, (0, 112))), (6, (119, (6, 198))), (6, (44, (0, 113))), (4, (172, (0, 49))), (6, (122, (6, 199))), (6, (47, (0, 114))), (6, (125, (6, 200))), (6, (50, (0, 94))), (6, (128, (6, 201))), (6, (53, (0, 97))), (6, (131, (6, 202))), (6, (56, (0, 90))), (6, (134, (6, 203))), (6, (59, (0, 99))), (6, (137, (6, 204))), (6, (62, (0, 101))), (6, (68, (4, 115))), (5, (1, (7, 0))), (6, (75, (0, 116))), (6, (121, (0, 117))), (5, (63, (0, 118))), (5, (59, (2, 119))), (6, (74, (0, 120))), (5, (48, (2, 121))), (5, (134, (0, 122))), (5, (126, (2, 123))), (5, (52, (2, 124))), (5, (137, (0, 125))), (5, (74, (2, 126))), (5, (67, (2, 127))), (5, (141, (0, 128))), (6, (81, (0, 129))), (5, (144, (2, 130))), (6, (85, (0, 131))), (5, (147, (0, 132))), (5, (151, (0, 133))), (5, (99, (2, 134))), (6, (89, (0, 135))), (5, (155, (2, 136))), (6, (92, (0, 137))), (5, (116, (0, 138))), (5, (102, (0, 139))), (5, (81, (0, 140))), (5, (86, (0, 141))), (5, (77, (2, 142))), (5, (89, (0, 143))), (5, (93, (0, 144))), (5, (96, (0, 145))), (5, (112, (0, 146))), (5, (119, (0, 147))), (6, (96, (0, 148))), (5, (158, (0, 149))), (6, (100, (0, 150))), (5, (161, (0, 151))), (6, (103, (0, 152))), (6, (106, (0, 153))), (6, (110, (0, 154))), (6, (114, (0, 155))), (5, (197, (0, 156))), (5, (194, (0, 157))), (5, (188, (0, 158))), (5, (178, (0, 159))), (5, (182, (0, 160))), (5, (174, (0, 161))), (5, (191, (0, 162))), (6, (118, (0, 163))), (5, (200, (0, 164))), (6, (124, (0, 165))), (5, (203, (2, 166))), (6, (127, (0, 167))), (5, (210, (0, 168))), (5, (130, (0, 169))), (5, (123, (0, 170))), (5, (206, (0, 171))), (6, (130, (0, 172))), (5, (214, (0, 173))), (6, (133, (0, 174))), (5, (230, (0, 175))), (5, (217, (0, 176))), (5, (220, (2, 177))), (5, (223, (0, 178))), (5, (227, (0, 179))), (6, (136, (0, 180))), (5, (236, (0, 181))), (5, (233, (0, 182))), (6, (139, (0, 183))), (5, (239, (0, 184))), (6, (143, (0, 185))), (5, (242, (0, 186))), (6, (148, (0, 187))), (5, (245, (0, 188))), (6, (153, (0, 189))), (5, (253, (2, 213))), (12, (122, (2, 214)))]
def kn : List AK := [(4, (28, (5, 0))), (4, (35, (5, 50))), (1, (31, (3, 80))), (1, (64, (3, 81))), (3, (107, (3, 82))), (3, (99, (3, 81))), (3, (127, (3, 83))), (1, (35, (3, 82))), (0, (32, (3, 81))), (0, (36, (3, 82)))]
def kl_w (q : AK) : Cond := Cond.methodLink (am_cn q.1) q.2.1 (if q.2.2.1 = 7 then objectInit else if q.2.2.1 = 9 then Lib.Math.max.name else if q.2.2.1 = 10 then Lib.Math.min.name else mY q.2.2.2)
def kn_w (q : AK) : Cond := Cond.methodLinkNest (am_cn q.1) q.2.1 (mY q.2.2.2) "CorridorPlan"
theorem kl_ok : am_subl (kl.map kl_w) lw_tbl = true := by decide +kernel
theorem kn_ok : am_subl (kn.map kn_w) lw_tbl = true := by decide +kernel
/-- what sort of call fits what method -/
def chkS (k j : Nat) : Bool := match k with
  | 0 => decide (j < am_nM) && !(mS j) && (mH j).isEmpty && decide (j ∈ pl_fse)
  | 2 => decide (j < am_nM) && mS j && (mH j).isEmpty
  | 3 => decide (j < am_nM) && mS j && (mH j).isEmpty
  | 4 => decide (j < am_nM) && !(mS j) && (mH j).isEmpty && decide ((mY j).name = "<init>" ∧ mR j = none)
  | 5 => decide (j < am_nM) && !(mS j) && (mH j).isEmpty && decide ((mY j).name = "<init>" ∧ mR j = none)
  | 6 => decide (j < am_nM) && mS j && !((mH j).isEmpty)
  | 7 => true
  | 8 => true
  | 9 => true
  | 10 => true
  | _ => false
theorem ks_ok : ∀ oc, oc < 13 → ∀ q ∈ am_cT oc, chkS q.2.1 q.2.2 = true ∧ (if q.2.1 = 3 ∨ q.2.1 = 5 then decide ((oc, q) ∈ kn) else if q.2.1 = 8 then decide (oc = 12 ∧ q.1 = 134) else decide ((oc, q) ∈ kl)) = true := by decide +kernel
theorem cT_big {oc : Nat} (h : ¬ oc < 13) : am_cT oc = [] := by
  unfold am_cT
  split <;> first | omega | rfl
theorem cT_at {oc idx : Nat} {x : Nat × Nat} (h : am_lk (am_cT oc) idx = some x) : chkS x.1 x.2 = true ∧ (if x.1 = 3 ∨ x.1 = 5 then decide ((oc, (idx, x)) ∈ kn) else if x.1 = 8 then decide (oc = 12 ∧ idx = 134) else decide ((oc, (idx, x)) ∈ kl)) = true := by
  have h1 := am_lk_mem h
  by_cases h2 : oc < 13
  · exact ks_ok oc h2 _ h1
  · rw [cT_big h2] at h1
    cases h1

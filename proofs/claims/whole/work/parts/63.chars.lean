/-! length, charAt of the strings -/
def s_len (q : Nat) : Nat := (e_by.getD q []).length
def s_at (q i : Nat) : Int32 := (e_by.getD q []).getD i 0
theorem s_lens : s_len 0 = 103 ∧ s_len 1 = 12 ∧ s_len 2 = 104 ∧ s_len 3 = 12 := by decide +kernel
theorem sh0 : ∀ m, m < 200 → nI m >>> ((0 : Int32) &&& 31) = nI m := by decide +kernel
theorem sp_coder {X : Nat × (Nat → Int32)} {d N K : Nat} {f : Nat → e_C} {q : Nat} (hq : q < 4) : PU X d 310 [.retAddr q] f N K (some (.int 0)) := by
  unfold PU
  have hn : narrow .byte (.int 0) = .int 0 := by decide
  simp (disch := first | omega | decide | assumption | exact Nat.le_of_ble_eq_true rfl) only [s310_0, s310_3, s310_6, s310_7, s310_10, s310_13, s310_14, ow_some, true_and, and_true, and_self, if_true, if_false, not_true, not_false_eq_true, Bool.false_eq_true, eq_self, Option.toList, List.cons_append, List.nil_append, ix_in, ix_cl, lt_in, lt_cl, lt_add, ix_one, vu_eq, vu_ne, arI_mk, arL_mk, arY_mZ, arY_mB, alen_mI, fld_sfl_ne, fld_sfl_same, Option.isSome_some, pok_i, b1z, b01, z10, b1o, Int32.zero_add, vu_vu, upd_eq, upd_ne, true_or, or_true, hn, s310_6 hq, s310_7 hq, s310_14 hn]
theorem sp_isLatin1 {X : Nat × (Nat → Int32)} {d N K : Nat} {f : Nat → e_C} {q : Nat} (hq : q < 4) : PU X d 312 [.retAddr q] f N K (some (.int 1)) := by
  unfold PU
  simp (disch := first | omega | decide | assumption | exact Nat.le_of_ble_eq_true rfl) only [s312_0, s312_3, s312_6, s312_7, s312_10, s312_13, s312_14, s312_17, s312_18, ow_some, true_and, and_true, and_self, if_true, if_false, not_true, not_false_eq_true, Bool.false_eq_true, eq_self, Option.toList, List.cons_append, List.nil_append, ix_in, ix_cl, lt_in, lt_cl, lt_add, ix_one, vu_eq, vu_ne, arI_mk, arL_mk, arY_mZ, arY_mB, alen_mI, fld_sfl_ne, fld_sfl_same, Option.isSome_some, pok_i, b1z, b01, z10, b1o, Int32.zero_add, vu_vu, upd_eq, upd_ne, true_or, or_true, s312_6 hq, s312_7 hq]
theorem sp_length {X : Nat × (Nat → Int32)} {d N K : Nat} {f : Nat → e_C} {q : Nat} (hq : q < 4) : PU X (d + 1) 309 [.retAddr q] f N K (some (.int (nI (s_len q)))) := by
  unfold PU
  have hl : (e_by.getD q []).length < 200 := by
    have : ∀ q, q < 4 → (e_by.getD q []).length < 200 := by decide +kernel
    exact this q hq
  have h0 := sh0 _ hl
  simp (disch := first | omega | decide | assumption | exact Nat.le_of_ble_eq_true rfl) only [s309_0, s309_1, s309_5, ow_some, true_and, and_true, and_self, if_true, if_false, not_true, not_false_eq_true, Bool.false_eq_true, eq_self, Option.toList, List.cons_append, List.nil_append, ix_in, ix_cl, lt_in, lt_cl, lt_add, ix_one, vu_eq, vu_ne, arI_mk, arL_mk, arY_mZ, arY_mB, alen_mI, fld_sfl_ne, fld_sfl_same, Option.isSome_some, pok_i, b1z, b01, z10, b1o, Int32.zero_add, vu_vu, upd_eq, upd_ne, true_or, or_true, s309_0 hq, s309_1 hq, s309_4 hq, s309_5 hq]
  rw [p309_6 hq (Nat.le_of_ble_eq_true rfl) (sp_coder hq)]
  simp (disch := first | omega | decide | assumption | exact Nat.le_of_ble_eq_true rfl) only [s309_9, s309_10, ow_some, true_and, and_true, and_self, if_true, if_false, not_true, not_false_eq_true, Bool.false_eq_true, eq_self, Option.toList, List.cons_append, List.nil_append, ix_in, ix_cl, lt_in, lt_cl, lt_add, ix_one, vu_eq, vu_ne, arI_mk, arL_mk, arY_mZ, arY_mB, alen_mI, fld_sfl_ne, fld_sfl_same, Option.isSome_some, pok_i, b1z, b01, z10, b1o, Int32.zero_add, vu_vu, upd_eq, upd_ne, true_or, or_true, h0]
  rfl
theorem sp_checkIndex {X : Nat × (Nat → Int32)} {d N K : Nat} {f : Nat → e_C} {i l : Nat} (hi : i < l) (hl : l < 65536) : PU X (d + 1) 313 [.int (nI i), .int (nI l)] f N K none := by
  unfold PU
  have h1 : (nI i < 0) = False := by rw [tl_lt (c := 0) (by decide) (by omega)]; exact eq_false (by omega)
  have h2 : (nI i < nI l) = True := by rw [ix_lt (by omega) (by omega)]; exact eq_true hi
  have h : PU X d 321 [.int (nI i), .int (nI l), .retAddr 30] f N K (some (.int (nI i))) := by
    unfold PU
    simp (disch := first | omega | decide | assumption | exact Nat.le_of_ble_eq_true rfl) only [s321_0, s321_1, s321_4, s321_5, s321_6, s321_10, s321_11, s321_16, s321_17, ow_some, true_and, and_true, and_self, if_true, if_false, not_true, not_false_eq_true, Bool.false_eq_true, eq_self, Option.toList, List.cons_append, List.nil_append, ix_in, ix_cl, lt_in, lt_cl, lt_add, ix_one, vu_eq, vu_ne, arI_mk, arL_mk, arY_mZ, arY_mB, alen_mI, fld_sfl_ne, fld_sfl_same, Option.isSome_some, pok_i, b1z, b01, z10, b1o, Int32.zero_add, vu_vu, upd_eq, upd_ne, true_or, or_true, h1, h2]
  simp (disch := first | omega | decide | assumption | exact Nat.le_of_ble_eq_true rfl) only [s313_0, s313_1, s313_2, ow_some, true_and, and_true, and_self, if_true, if_false, not_true, not_false_eq_true, Bool.false_eq_true, eq_self, Option.toList, List.cons_append, List.nil_append, ix_in, ix_cl, lt_in, lt_cl, lt_add, ix_one, vu_eq, vu_ne, arI_mk, arL_mk, arY_mZ, arY_mB, alen_mI, fld_sfl_ne, fld_sfl_same, Option.isSome_some, pok_i, b1z, b01, z10, b1o, Int32.zero_add, vu_vu, upd_eq, upd_ne, true_or, or_true]
  rw [p313_5 (Nat.le_of_ble_eq_true rfl) h]
  simp (disch := first | omega | decide | assumption | exact Nat.le_of_ble_eq_true rfl) only [s313_8, s313_9, ow_some, true_and, and_true, and_self, if_true, if_false, not_true, not_false_eq_true, Bool.false_eq_true, eq_self, Option.toList, List.cons_append, List.nil_append, ix_in, ix_cl, lt_in, lt_cl, lt_add, ix_one, vu_eq, vu_ne, arI_mk, arL_mk, arY_mZ, arY_mB, alen_mI, fld_sfl_ne, fld_sfl_same, Option.isSome_some, pok_i, b1z, b01, z10, b1o, Int32.zero_add, vu_vu, upd_eq, upd_ne, true_or, or_true]
theorem by_ok : ∀ q, q < 4 → (e_by.getD q []).length < 65536 ∧ ∀ i, i < (e_by.getD q []).length → ((e_by.getD q []).getD i 0 &&& 255).toUInt32 % 65536 = ((e_by.getD q []).getD i 0).toUInt32 ∧ narrow .char (.int ((e_by.getD q []).getD i 0)) = .int ((e_by.getD q []).getD i 0) := by decide +kernel
theorem sp_charAt {X : Nat × (Nat → Int32)} {d N K : Nat} {f : Nat → e_C} {q i : Nat} (hq : q < 4) (hi : i < s_len q) : PU X (d + 3) 311 [.retAddr q, .int (nI i)] f N K (some (.int (s_at q i))) := by
  unfold PU
  obtain ⟨hl, ho⟩ := by_ok q hq
  obtain ⟨o1, o2⟩ := ho i hi
  have hin : e_in (nI i) (e_by.getD q []).length = true := ix_in hi (by omega)
  have hcl : (nI i).toNatClampNeg = i := ix_cl (by have : i < (e_by.getD q []).length := hi; omega)
  have h17 : PU X (d + 2) 317 [.retAddr (10 + q), .int (nI i)] f N K (some (.int (s_at q i))) := by
    unfold PU
    have e : ∀ v : Int32, (v &&& 255).toUInt32 % 65536 = v.toUInt32 → ((v &&& 255).toUInt32 % 65536).toInt32 = v := fun v h => by rw [h]; rfl
    have e2 := e _ o1
    simp (disch := first | omega | decide | assumption | exact Nat.le_of_ble_eq_true rfl) only [s317_0, s317_1, ow_some, true_and, and_true, and_self, if_true, if_false, not_true, not_false_eq_true, Bool.false_eq_true, eq_self, Option.toList, List.cons_append, List.nil_append, ix_in, ix_cl, lt_in, lt_cl, lt_add, ix_one, vu_eq, vu_ne, arI_mk, arL_mk, arY_mZ, arY_mB, alen_mI, fld_sfl_ne, fld_sfl_same, Option.isSome_some, pok_i, b1z, b01, z10, b1o, Int32.zero_add, vu_vu, upd_eq, upd_ne, true_or, or_true, s317_1 hq, s317_2 hq]
    rw [p317_3 (Nat.le_of_ble_eq_true rfl) (sp_checkIndex (l := (e_by.getD q []).length) hi hl)]
    simp (disch := first | omega | decide | assumption | exact Nat.le_of_ble_eq_true rfl) only [s317_6, s317_7, s317_9, s317_12, s317_13, s317_14, ow_some, true_and, and_true, and_self, if_true, if_false, not_true, not_false_eq_true, Bool.false_eq_true, eq_self, Option.toList, List.cons_append, List.nil_append, ix_in, ix_cl, lt_in, lt_cl, lt_add, ix_one, vu_eq, vu_ne, arI_mk, arL_mk, arY_mZ, arY_mB, alen_mI, fld_sfl_ne, fld_sfl_same, Option.isSome_some, pok_i, b1z, b01, z10, b1o, Int32.zero_add, vu_vu, upd_eq, upd_ne, true_or, or_true, s317_6 hq, s317_8 hq hin, hcl, e2, s317_14 o2]
    rfl
  simp (disch := first | omega | decide | assumption | exact Nat.le_of_ble_eq_true rfl) only [s311_0, ow_some, true_and, and_true, and_self, if_true, if_false, not_true, not_false_eq_true, Bool.false_eq_true, eq_self, Option.toList, List.cons_append, List.nil_append, ix_in, ix_cl, lt_in, lt_cl, lt_add, ix_one, vu_eq, vu_ne, arI_mk, arL_mk, arY_mZ, arY_mB, alen_mI, fld_sfl_ne, fld_sfl_same, Option.isSome_some, pok_i, b1z, b01, z10, b1o, Int32.zero_add, vu_vu, upd_eq, upd_ne, true_or, or_true, s311_0 hq]
  rw [p311_1 hq (Nat.le_of_ble_eq_true rfl) (sp_isLatin1 hq)]
  simp (disch := first | omega | decide | assumption | exact Nat.le_of_ble_eq_true rfl) only [s311_4, s311_7, s311_8, s311_11, ow_some, true_and, and_true, and_self, if_true, if_false, not_true, not_false_eq_true, Bool.false_eq_true, eq_self, Option.toList, List.cons_append, List.nil_append, ix_in, ix_cl, lt_in, lt_cl, lt_add, ix_one, vu_eq, vu_ne, arI_mk, arL_mk, arY_mZ, arY_mB, alen_mI, fld_sfl_ne, fld_sfl_same, Option.isSome_some, pok_i, b1z, b01, z10, b1o, Int32.zero_add, vu_vu, upd_eq, upd_ne, true_or, or_true, s311_7 hq, s311_8 hq]
  rw [p311_12 (Nat.le_of_ble_eq_true rfl) h17]
  simp (disch := first | omega | decide | assumption | exact Nat.le_of_ble_eq_true rfl) only [s311_15, ow_some, true_and, and_true, and_self, if_true, if_false, not_true, not_false_eq_true, Bool.false_eq_true, eq_self, Option.toList, List.cons_append, List.nil_append, ix_in, ix_cl, lt_in, lt_cl, lt_add, ix_one, vu_eq, vu_ne, arI_mk, arL_mk, arY_mZ, arY_mB, alen_mI, fld_sfl_ne, fld_sfl_same, Option.isSome_some, pok_i, b1z, b01, z10, b1o, Int32.zero_add, vu_vu, upd_eq, upd_ne, true_or, or_true, s311_15 (v := s_at q i) o2]

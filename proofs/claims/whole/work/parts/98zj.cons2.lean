/-! constructors: what the class works with -/
theorem li4 : (4 : Int32) = nI 4 := rfl
theorem li5 : (5 : Int32) = nI 5 := rfl
theorem li0 : (0 : Int32) = nI 0 := rfl
theorem li100 : (100 : Int32) = nI 100 := rfl
theorem li512 : (512 : Int32) = nI 512 := rfl
theorem pok_al {p : Nat} : (e_pok (.array .long) (.ref p) = true) = True := eq_true rfl
theorem pok_az {p : Nat} : (e_pok (.array .boolean) (.ref p) = true) = True := eq_true rfl
section CONS
variable {X : Nat × (Nat → Int32)} {d N K p q : Nat} {f : Nat → e_C}
theorem sp_trayI (hf : f p = .inr (9, [.int 0, .int 0, .null])) : TT X d 97 0 [.ref p] [] f (p + 1) K (fun f' n' k' z => n' = p + 2 ∧ k' = K + 40 ∧ z = none ∧ SI p (p + 2) f f' ∧ TV f' p 0 (-1) (fun _ => 0)) := by
  simp (disch := first | omega | decide | assumption | exact Nat.le_of_ble_eq_true rfl) only [s97_0, s97_1, s97_4, s97_5, s97_6, s97_9, s97_10, s97_14, s97_17, ow_some, true_and, and_true, and_self, if_true, if_false, not_true, not_false_eq_true, Bool.false_eq_true, eq_self, Option.toList, List.cons_append, List.nil_append, ix_in, ix_cl, lt_in, lt_cl, lt_add, ix_one, vu_eq, vu_ne, arI_mk, arL_mk, arY_mZ, arY_mB, alen_mI, fld_sfl_ne, fld_sfl_same, Option.isSome_some, pok_i, b1z, b01, z10, b1o, Int32.zero_add, vu_vu, upd_eq, upd_ne, true_or, or_true, hf, ce9_0, cs9_0, ce9_1, cs9_1, ce9_2, cs9_2, s97_12, li40, pok_al, Nat.add_assoc, Nat.reduceAdd]
  refine ⟨fun b hb => ?_, ?_, ?_, ?_, ?_⟩
  · simp (disch := omega) only [vu_ne]
  · rw [vu_eq]; rfl
  · rw [vu_eq]; rfl
  · rw [vu_eq]; rfl
  · simp (disch := omega) only [vu_ne, vu_eq]; rfl
theorem li901 : (901 : Int32) = nI 901 := rfl
theorem sp_readerI (hf : f p = .inr (3, [.null, .null, .int 0, .int 0, .int 0, .int 0, .null, .int 0, .int 0])) : TT X (d + 2) 17 0 [.ref p] [] f (p + 1) K (fun f' n' k' z => n' = p + 13 ∧ k' = K + 1892 ∧ z = none ∧ SI p (p + 13) f f' ∧ (∀ j, j < 9 → (fld (f' p) 3 j).isSome = true) ∧ (fld (f' p) 3 0 = some (.ref (p + 1)) ∧ fld (f' p) 3 1 = some (.ref (p + 2))) ∧ (∃ kk, arI (f' (p + 1)) = some (901, kk)) ∧ ∃ pp, arI (f' (p + 2)) = some (901, pp)) := by
  simp (disch := first | omega | decide | assumption | exact Nat.le_of_ble_eq_true rfl) only [s17_0, s17_1, s17_4, s17_5, s17_10, s17_13, s17_14, s17_19, s17_22, s17_23, s17_26, s17_26i, ow_some, true_and, and_true, and_self, if_true, if_false, not_true, not_false_eq_true, Bool.false_eq_true, eq_self, Option.toList, List.cons_append, List.nil_append, ix_in, ix_cl, lt_in, lt_cl, lt_add, ix_one, vu_eq, vu_ne, arI_mk, arL_mk, arY_mZ, arY_mB, alen_mI, fld_sfl_ne, fld_sfl_same, Option.isSome_some, pok_i, b1z, b01, z10, b1o, Int32.zero_add, vu_vu, upd_eq, upd_ne, true_or, or_true, hf, ce3_0, cs3_0, ce3_1, cs3_1, ce3_2, cs3_2, ce3_3, cs3_3, ce3_4, cs3_4, ce3_5, cs3_5, ce3_6, cs3_6, ce3_7, cs3_7, ce3_8, cs3_8, s17_8, s17_17, li0, li901, pok_ai, Nat.add_assoc, Nat.reduceAdd]
  have e0 : (0 : Int32) = nI 0 := rfl
  rw [s17_27, e0]
  refine k17_28 (by rw [vu_eq]; rfl) (Nat.le_of_ble_eq_true rfl) (sp_planI (p := p + 3) (C := 0) (by omega) (by rw [vu_eq]; rfl)) ?_
  rintro f1 n1 k1 v1 ⟨rfl, rfl, rfl, s1, -⟩
  have g0 := s1 p (by omega)
  have g1 := s1 (p + 1) (by omega)
  have g2 := s1 (p + 2) (by omega)
  simp (disch := omega) only [vu_ne, vu_eq] at g0 g1 g2
  have s2 : ∀ b, b < p ∨ p + 13 ≤ b → f1 b = f b := fun b hb => by
    rw [s1 b (by omega)]
    simp (disch := omega) only [vu_ne]
  simp (disch := first | omega | decide | assumption | exact Nat.le_of_ble_eq_true rfl) only [s17_31, s17_34, ow_some, true_and, and_true, and_self, if_true, if_false, not_true, not_false_eq_true, Bool.false_eq_true, eq_self, Option.toList, List.cons_append, List.nil_append, ix_in, ix_cl, lt_in, lt_cl, lt_add, ix_one, vu_eq, vu_ne, arI_mk, arL_mk, arY_mZ, arY_mB, alen_mI, fld_sfl_ne, fld_sfl_same, Option.isSome_some, pok_i, b1z, b01, z10, b1o, Int32.zero_add, vu_vu, upd_eq, upd_ne, true_or, or_true, g0, ce3_0, cs3_0, ce3_1, cs3_1, ce3_2, cs3_2, ce3_3, cs3_3, ce3_4, cs3_4, ce3_5, cs3_5, ce3_6, cs3_6, ce3_7, cs3_7, ce3_8, cs3_8, pok_o, Nat.add_assoc, Nat.reduceAdd]
  refine ⟨fun b hb => ?_, fun j hj => ?_, ⟨fun _ => 0, by rw [g1]; rfl⟩, fun _ => 0, by rw [g2]; rfl⟩
  · rw [vu_ne (by omega)]; exact s2 b hb
  · rcases (show j = 0 ∨ j = 1 ∨ j = 2 ∨ j = 3 ∨ j = 4 ∨ j = 5 ∨ j = 6 ∨ j = 7 ∨ j = 8 by omega) with rfl | rfl | rfl | rfl | rfl | rfl | rfl | rfl | rfl <;> rfl
theorem sp_deedsI (hf : f 119 = .inr (0, [.null, .int 0, .int 0])) : TT X (d + 2) 0 0 [.ref 119] [] f 120 K (fun f' n' k' z => n' = 127 ∧ k' = K + 79 ∧ z = none ∧ SI 119 127 f f' ∧ sc2 f') := by
  simp (disch := first | omega | decide | assumption | exact Nat.le_of_ble_eq_true rfl) only [s0_0, s0_1, s0_4, s0_5, s0_8, s0_8i, ow_some, true_and, and_true, and_self, if_true, if_false, not_true, not_false_eq_true, Bool.false_eq_true, eq_self, Option.toList, List.cons_append, List.nil_append, ix_in, ix_cl, lt_in, lt_cl, lt_add, ix_one, vu_eq, vu_ne, arI_mk, arL_mk, arY_mZ, arY_mB, alen_mI, fld_sfl_ne, fld_sfl_same, Option.isSome_some, pok_i, b1z, b01, z10, b1o, Int32.zero_add, vu_vu, upd_eq, upd_ne, true_or, or_true, hf, ce0_0, cs0_0, ce0_1, cs0_1, ce0_2, cs0_2, Nat.add_assoc, Nat.reduceAdd]
  refine k0_9 (by rw [vu_eq]; rfl) (Nat.le_of_ble_eq_true rfl) (sp_scalesI (p := 120) (by rw [vu_eq])) ?_
  rintro f1 n1 k1 v1 ⟨rfl, rfl, rfl, s1, y, L⟩
  have g0 := s1 119 (by omega)
  rw [vu_ne (by omega), hf] at g0
  simp (disch := first | omega | decide | assumption | exact Nat.le_of_ble_eq_true rfl) only [s0_12, s0_15, ow_some, true_and, and_true, and_self, if_true, if_false, not_true, not_false_eq_true, Bool.false_eq_true, eq_self, Option.toList, List.cons_append, List.nil_append, ix_in, ix_cl, lt_in, lt_cl, lt_add, ix_one, vu_eq, vu_ne, arI_mk, arL_mk, arY_mZ, arY_mB, alen_mI, fld_sfl_ne, fld_sfl_same, Option.isSome_some, pok_i, b1z, b01, z10, b1o, Int32.zero_add, vu_vu, upd_eq, upd_ne, true_or, or_true, g0, ce0_0, cs0_0, ce0_1, cs0_1, ce0_2, cs0_2, pok_o, Nat.add_assoc, Nat.reduceAdd]
  refine ⟨fun b hb => ?_, 0, 0, y, ⟨by rw [vu_eq]; rfl, by rw [vu_eq]; rfl, by rw [vu_eq]; rfl⟩, L.fr (fun b h1 h2 => vu_ne (by omega))⟩
  rw [vu_ne (by omega), s1 b (by omega), vu_ne (by omega)]
theorem sp_setsI (hf : f 127 = .inr (8, [.null, .null])) : TT X (d + 2) 84 0 [.ref 127] [] f 128 K (fun f' n' k' z => n' = 136 ∧ k' = K + 591 ∧ z = none ∧ SI 127 136 f f' ∧ sc3 f') := by
  simp (disch := first | omega | decide | assumption | exact Nat.le_of_ble_eq_true rfl) only [s84_0, s84_1, s84_4, s84_5, s84_8, s84_8i, ow_some, true_and, and_true, and_self, if_true, if_false, not_true, not_false_eq_true, Bool.false_eq_true, eq_self, Option.toList, List.cons_append, List.nil_append, ix_in, ix_cl, lt_in, lt_cl, lt_add, ix_one, vu_eq, vu_ne, arI_mk, arL_mk, arY_mZ, arY_mB, alen_mI, fld_sfl_ne, fld_sfl_same, Option.isSome_some, pok_i, b1z, b01, z10, b1o, Int32.zero_add, vu_vu, upd_eq, upd_ne, true_or, or_true, hf, ce8_0, cs8_0, ce8_1, cs8_1, Nat.add_assoc, Nat.reduceAdd]
  refine k84_9 (by rw [vu_eq]; rfl) (Nat.le_of_ble_eq_true rfl) (sp_scalesI (p := 128) (by rw [vu_eq])) ?_
  rintro f1 n1 k1 v1 ⟨rfl, rfl, rfl, s1, y, L⟩
  have g0 := s1 127 (by omega)
  rw [vu_ne (by omega), hf] at g0
  simp (disch := first | omega | decide | assumption | exact Nat.le_of_ble_eq_true rfl) only [s84_12, s84_15, s84_16, s84_21, s84_24, ow_some, true_and, and_true, and_self, if_true, if_false, not_true, not_false_eq_true, Bool.false_eq_true, eq_self, Option.toList, List.cons_append, List.nil_append, ix_in, ix_cl, lt_in, lt_cl, lt_add, ix_one, vu_eq, vu_ne, arI_mk, arL_mk, arY_mZ, arY_mB, alen_mI, fld_sfl_ne, fld_sfl_same, Option.isSome_some, pok_i, b1z, b01, z10, b1o, Int32.zero_add, vu_vu, upd_eq, upd_ne, true_or, or_true, g0, ce8_0, cs8_0, ce8_1, cs8_1, s84_19, li512, pok_o, pok_ai, Nat.add_assoc, Nat.reduceAdd]
  refine ⟨fun b hb => ?_, y, fun _ => 0, L.fr (fun b h1 h2 => ?_), ⟨by rw [vu_eq]; rfl, by rw [vu_eq]; rfl, ?_⟩⟩
  · simp (disch := omega) only [vu_ne]
    rw [s1 b (by omega), vu_ne (by omega)]
  · simp (disch := omega) only [vu_ne]
  · simp (disch := omega) only [vu_ne, vu_eq]; rfl
theorem sp_serviceI (hf : f 136 = .inr (7, [.null, .null, .int 0, .null, .int 0, .null, .null])) : TT X (d + 2) 76 0 [.ref 136] [] f 137 K (fun f' n' k' z => n' = 148 ∧ k' = K + 102 ∧ z = none ∧ SI 136 148 f f' ∧ sc4 f') := by
  simp (disch := first | omega | decide | assumption | exact Nat.le_of_ble_eq_true rfl) only [s76_0, s76_1, s76_4, s76_5, s76_8, s76_8i, ow_some, true_and, and_true, and_self, if_true, if_false, not_true, not_false_eq_true, Bool.false_eq_true, eq_self, Option.toList, List.cons_append, List.nil_append, ix_in, ix_cl, lt_in, lt_cl, lt_add, ix_one, vu_eq, vu_ne, arI_mk, arL_mk, arY_mZ, arY_mB, alen_mI, fld_sfl_ne, fld_sfl_same, Option.isSome_some, pok_i, b1z, b01, z10, b1o, Int32.zero_add, vu_vu, upd_eq, upd_ne, true_or, or_true, hf, ce7_0, cs7_0, ce7_1, cs7_1, ce7_2, cs7_2, ce7_3, cs7_3, ce7_4, cs7_4, ce7_5, cs7_5, ce7_6, cs7_6, Nat.add_assoc, Nat.reduceAdd]
  refine k76_9 (by rw [vu_eq]; rfl) (Nat.le_of_ble_eq_true rfl) (sp_scalesI (p := 137) (by rw [vu_eq])) ?_
  rintro f1 n1 k1 v1 ⟨rfl, rfl, rfl, s1, y, L⟩
  have g0 := s1 136 (by omega)
  rw [vu_ne (by omega), hf] at g0
  simp (disch := first | omega | decide | assumption | exact Nat.le_of_ble_eq_true rfl) only [s76_12, s76_15, s76_16, s76_20, s76_23, s76_24, s76_27, s76_30, s76_31, s76_34, s76_37, s76_38, s76_41, s76_44, ow_some, true_and, and_true, and_self, if_true, if_false, not_true, not_false_eq_true, Bool.false_eq_true, eq_self, Option.toList, List.cons_append, List.nil_append, ix_in, ix_cl, lt_in, lt_cl, lt_add, ix_one, vu_eq, vu_ne, arI_mk, arL_mk, arY_mZ, arY_mB, alen_mI, fld_sfl_ne, fld_sfl_same, Option.isSome_some, pok_i, b1z, b01, z10, b1o, Int32.zero_add, vu_vu, upd_eq, upd_ne, true_or, or_true, g0, ce7_0, cs7_0, ce7_1, cs7_1, ce7_2, cs7_2, ce7_3, cs7_3, ce7_4, cs7_4, ce7_5, cs7_5, ce7_6, cs7_6, s76_18, s76_25, s76_32, s76_39, li9, li4, li5, pok_o, pok_ai, Nat.add_assoc, Nat.reduceAdd]
  refine ⟨fun b hb => ?_, ⟨y, L.fr (fun b h1 h2 => ?_)⟩, 0, 0, 146, 147, fun _ => 0, fun _ => 0, fun _ => 0, fun _ => 0, ⟨by rw [vu_eq]; rfl, by rw [vu_eq]; rfl, by rw [vu_eq]; rfl, by rw [vu_eq]; rfl, by rw [vu_eq]; rfl, by rw [vu_eq]; rfl, by rw [vu_eq]; rfl⟩, ?_, ?_, ?_, ?_, ?_⟩
  · simp (disch := omega) only [vu_ne]
    rw [s1 b (by omega), vu_ne (by omega)]
  · simp (disch := omega) only [vu_ne]
  · simp (disch := omega) only [vu_ne, vu_eq]; rfl
  · simp (disch := omega) only [vu_ne, vu_eq]; rfl
  · simp (disch := omega) only [vu_ne, vu_eq]; rfl
  · simp (disch := omega) only [vu_ne, vu_eq]; rfl
  · simp
theorem sp_roomsI (hf : f 148 = .inr (4, [.null, .null, .null, .null])) : TT X (d + 2) 46 0 [.ref 148] [] f 149 K (fun f' n' k' z => n' = 159 ∧ k' = K + 379 ∧ z = none ∧ SI 148 159 f f' ∧ sc5 f') := by
  simp (disch := first | omega | decide | assumption | exact Nat.le_of_ble_eq_true rfl) only [s46_0, s46_1, s46_4, s46_5, s46_8, s46_8i, ow_some, true_and, and_true, and_self, if_true, if_false, not_true, not_false_eq_true, Bool.false_eq_true, eq_self, Option.toList, List.cons_append, List.nil_append, ix_in, ix_cl, lt_in, lt_cl, lt_add, ix_one, vu_eq, vu_ne, arI_mk, arL_mk, arY_mZ, arY_mB, alen_mI, fld_sfl_ne, fld_sfl_same, Option.isSome_some, pok_i, b1z, b01, z10, b1o, Int32.zero_add, vu_vu, upd_eq, upd_ne, true_or, or_true, hf, ce4_0, cs4_0, ce4_1, cs4_1, ce4_2, cs4_2, ce4_3, cs4_3, Nat.add_assoc, Nat.reduceAdd]
  refine k46_9 (by rw [vu_eq]; rfl) (Nat.le_of_ble_eq_true rfl) (sp_scalesI (p := 149) (by rw [vu_eq])) ?_
  rintro f1 n1 k1 v1 ⟨rfl, rfl, rfl, s1, y, L⟩
  have g0 := s1 148 (by omega)
  rw [vu_ne (by omega), hf] at g0
  simp (disch := first | omega | decide | assumption | exact Nat.le_of_ble_eq_true rfl) only [s46_12, s46_15, s46_16, s46_20, s46_23, s46_24, s46_28, s46_31, s46_32, s46_36, s46_39, ow_some, true_and, and_true, and_self, if_true, if_false, not_true, not_false_eq_true, Bool.false_eq_true, eq_self, Option.toList, List.cons_append, List.nil_append, ix_in, ix_cl, lt_in, lt_cl, lt_add, ix_one, vu_eq, vu_ne, arI_mk, arL_mk, arY_mZ, arY_mB, alen_mI, fld_sfl_ne, fld_sfl_same, Option.isSome_some, pok_i, b1z, b01, z10, b1o, Int32.zero_add, vu_vu, upd_eq, upd_ne, true_or, or_true, g0, ce4_0, cs4_0, ce4_1, cs4_1, ce4_2, cs4_2, ce4_3, cs4_3, s46_18, s46_26, s46_34, li100, pok_o, pok_ai, pok_az, Nat.add_assoc, Nat.reduceAdd]
  refine ⟨fun b hb => ?_, y, fun _ => 0, fun _ => 0, fun _ => 0, L.fr (fun b h1 h2 => ?_), ⟨by rw [vu_eq]; rfl, by rw [vu_eq]; rfl, by rw [vu_eq]; rfl, by rw [vu_eq]; rfl, ?_, ?_, ?_⟩⟩
  · simp (disch := omega) only [vu_ne]
    rw [s1 b (by omega), vu_ne (by omega)]
  · simp (disch := omega) only [vu_ne]
  · simp (disch := omega) only [vu_ne, vu_eq]; rfl
  · simp (disch := omega) only [vu_ne, vu_eq]; rfl
  · simp (disch := omega) only [vu_ne, vu_eq]; rfl
theorem sp_whatifI (hf : f 159 = .inr (10, [.null, .null, .null, .null, .null])) : TT X (d + 2) 101 0 [.ref 159] [] f 160 K (fun f' n' k' z => n' = 171 ∧ k' = K + 112 ∧ z = none ∧ SI 159 171 f f' ∧ sc6 f') := by
  simp (disch := first | omega | decide | assumption | exact Nat.le_of_ble_eq_true rfl) only [s101_0, s101_1, s101_4, s101_5, s101_8, s101_8i, ow_some, true_and, and_true, and_self, if_true, if_false, not_true, not_false_eq_true, Bool.false_eq_true, eq_self, Option.toList, List.cons_append, List.nil_append, ix_in, ix_cl, lt_in, lt_cl, lt_add, ix_one, vu_eq, vu_ne, arI_mk, arL_mk, arY_mZ, arY_mB, alen_mI, fld_sfl_ne, fld_sfl_same, Option.isSome_some, pok_i, b1z, b01, z10, b1o, Int32.zero_add, vu_vu, upd_eq, upd_ne, true_or, or_true, hf, ce10_0, cs10_0, ce10_1, cs10_1, ce10_2, cs10_2, ce10_3, cs10_3, ce10_4, cs10_4, Nat.add_assoc, Nat.reduceAdd]
  refine k101_9 (by rw [vu_eq]; rfl) (Nat.le_of_ble_eq_true rfl) (sp_scalesI (p := 160) (by rw [vu_eq])) ?_
  rintro f1 n1 k1 v1 ⟨rfl, rfl, rfl, s1, y, L⟩
  have g0 := s1 159 (by omega)
  rw [vu_ne (by omega), hf] at g0
  simp (disch := first | omega | decide | assumption | exact Nat.le_of_ble_eq_true rfl) only [s101_12, s101_15, s101_16, s101_20, s101_23, s101_24, s101_28, s101_31, s101_32, s101_36, s101_39, s101_40, s101_44, s101_47, ow_some, true_and, and_true, and_self, if_true, if_false, not_true, not_false_eq_true, Bool.false_eq_true, eq_self, Option.toList, List.cons_append, List.nil_append, ix_in, ix_cl, lt_in, lt_cl, lt_add, ix_one, vu_eq, vu_ne, arI_mk, arL_mk, arY_mZ, arY_mB, alen_mI, fld_sfl_ne, fld_sfl_same, Option.isSome_some, pok_i, b1z, b01, z10, b1o, Int32.zero_add, vu_vu, upd_eq, upd_ne, true_or, or_true, g0, ce10_0, cs10_0, ce10_1, cs10_1, ce10_2, cs10_2, ce10_3, cs10_3, ce10_4, cs10_4, s101_18, s101_26, s101_34, s101_42, li8, li9, pok_o, pok_ai, pok_al, Nat.add_assoc, Nat.reduceAdd]
  refine ⟨fun b hb => ?_, y, fun _ => 0, fun _ => 0, fun _ => 0, fun _ => 0, L.fr (fun b h1 h2 => ?_), ⟨by rw [vu_eq]; rfl, by rw [vu_eq]; rfl, by rw [vu_eq]; rfl, by rw [vu_eq]; rfl, by rw [vu_eq]; rfl, ?_, ?_, ?_, ?_⟩⟩
  · simp (disch := omega) only [vu_ne]
    rw [s1 b (by omega), vu_ne (by omega)]
  · simp (disch := omega) only [vu_ne]
  · simp (disch := omega) only [vu_ne, vu_eq]; rfl
  · simp (disch := omega) only [vu_ne, vu_eq]; rfl
  · simp (disch := omega) only [vu_ne, vu_eq]; rfl
  · simp (disch := omega) only [vu_ne, vu_eq]; rfl
end CONS

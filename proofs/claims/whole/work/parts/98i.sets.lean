/-! the class: questions of sets -/
section HOME
variable {X : Nat × (Nat → Int32)} {d N K pl C S R P : Nat} {f : Nat → e_C} {y x r : Nat → Nat → Int32} {t w v all tb : Nat → Int32}
theorem z_01 {z : Int32} (h : 0 ≤ z.toInt ∧ z.toInt ≤ 1) : z = 0 ∨ z = 1 := by
  have e0 : ((0 : Int32)).toInt = 0 := by decide
  have e1 : ((1 : Int32)).toInt = 1 := by decide
  rcases (show z.toInt = 0 ∨ z.toInt = 1 by omega) with h | h
  · exact Or.inl (Int32.toInt_inj.mp (h.trans e0.symm))
  · exact Or.inr (Int32.toInt_inj.mp (h.trans e1.symm))
theorem sp_sizeOr {b : Option Nat} {z : Int32} (hz : z = 0 ∨ z = 1) (hb : ∀ x, b = some x → x < 512) : PU X (d + 1) 137 [.int (oI b), .int z] f N K (some (.int (tset b z))) := by
  unfold PU tset
  cases b with
  | none =>
    have e1 : oI none = -1 := rfl
    simp (disch := first | omega | decide | assumption | exact Nat.le_of_ble_eq_true rfl) only [s137_0, s137_1, s137_2, s137_5, s137_6, ow_some, true_and, and_true, and_self, if_true, if_false, not_true, not_false_eq_true, Bool.false_eq_true, eq_self, Option.toList, List.cons_append, List.nil_append, ix_in, ix_cl, lt_in, lt_cl, lt_add, ix_one, vu_eq, vu_ne, arI_mk, arL_mk, arY_mZ, arY_mB, alen_mI, fld_sfl_ne, fld_sfl_same, Option.isSome_some, pok_i, b1z, b01, z10, b1o, Int32.zero_add, vu_vu, upd_eq, upd_ne, true_or, or_true, e1]
  | some q =>
    have hq := hb q rfl
    have e1 : oI (some q) = nI q := rfl
    have hne := ne_m1 (m := q) (by omega)
    rcases hz with rfl | rfl
    · have h1 : ((0 : Int32) = 1) = False := by decide
      simp only [h1, if_false]
      simp (disch := first | omega | decide | assumption | exact Nat.le_of_ble_eq_true rfl) only [s137_0, s137_1, s137_2, s137_7, s137_8, s137_11, ow_some, true_and, and_true, and_self, if_true, if_false, not_true, not_false_eq_true, Bool.false_eq_true, eq_self, Option.toList, List.cons_append, List.nil_append, ix_in, ix_cl, lt_in, lt_cl, lt_add, ix_one, vu_eq, vu_ne, arI_mk, arL_mk, arY_mZ, arY_mB, alen_mI, fld_sfl_ne, fld_sfl_same, Option.isSome_some, pok_i, b1z, b01, z10, b1o, Int32.zero_add, vu_vu, upd_eq, upd_ne, true_or, or_true, e1, hne, ne_eq]
      rw [p137_12 (Nat.le_of_ble_eq_true rfl) (sp_bitCount hq)]
      simp (disch := first | omega | decide | assumption | exact Nat.le_of_ble_eq_true rfl) only [s137_15, s137_19, ow_some, true_and, and_true, and_self, if_true, if_false, not_true, not_false_eq_true, Bool.false_eq_true, eq_self, Option.toList, List.cons_append, List.nil_append, ix_in, ix_cl, lt_in, lt_cl, lt_add, ix_one, vu_eq, vu_ne, arI_mk, arL_mk, arY_mZ, arY_mB, alen_mI, fld_sfl_ne, fld_sfl_same, Option.isSome_some, pok_i, b1z, b01, z10, b1o, Int32.zero_add, vu_vu, upd_eq, upd_ne, true_or, or_true]
    · have h0' : ((1 : Int32) = 0) = False := by decide
      simp only [if_true]
      simp (disch := first | omega | decide | assumption | exact Nat.le_of_ble_eq_true rfl) only [s137_0, s137_1, s137_2, s137_7, s137_8, s137_18, s137_19, ow_some, true_and, and_true, and_self, if_true, if_false, not_true, not_false_eq_true, Bool.false_eq_true, eq_self, Option.toList, List.cons_append, List.nil_append, ix_in, ix_cl, lt_in, lt_cl, lt_add, ix_one, vu_eq, vu_ne, arI_mk, arL_mk, arY_mZ, arY_mB, alen_mI, fld_sfl_ne, fld_sfl_same, Option.isSome_some, pok_i, b1z, b01, z10, b1o, Int32.zero_add, vu_vu, upd_eq, upd_ne, true_or, or_true, e1, hne, h0', ne_eq]
theorem w_01 {z : Int32} : ((z < (0 : Int32)) = (z.toInt < 0)) ∧ ((z ≤ (1 : Int32)) = (z.toInt ≤ 1)) := ⟨by rw [Int32.lt_iff_toInt_lt]; rfl, by rw [Int32.le_iff_toInt_le]; rfl⟩
theorem sp_holdingsC (H : HV f t) (L : LV f 128 y) (V : SV f 12 pl w x) (W : PV f pl v r C) (G : CR all S P w x v r C) (I : IS all S R P) (hd : AD 12 pl 128) (O : OV f tb) : TT X (d + 6) 138 0 [.ref 0] [] f N K (QS f N K (nI (cnt (m_h all S P) (2 ^ P)))) := by
  have r4 := H.r4
  have r15 := H.r15
  simp (disch := first | omega | decide | assumption | exact Nat.le_of_ble_eq_true rfl) only [s138_0, s138_1, s138_4, s138_5, ow_some, true_and, and_true, and_self, if_true, if_false, not_true, not_false_eq_true, Bool.false_eq_true, eq_self, Option.toList, List.cons_append, List.nil_append, ix_in, ix_cl, lt_in, lt_cl, lt_add, ix_one, vu_eq, vu_ne, arI_mk, arL_mk, arY_mZ, arY_mB, alen_mI, fld_sfl_ne, fld_sfl_same, Option.isSome_some, pok_i, b1z, b01, z10, b1o, Int32.zero_add, vu_vu, upd_eq, upd_ne, true_or, or_true, r4, r15]
  refine k138_8 O.cn (Nat.le_of_ble_eq_true rfl) (sp_countAll L V W G I hd O) ?_
  rintro f1 n1 k1 v1 ⟨rfl, rfl, s1, h1, rfl⟩
  simp (disch := first | omega | decide | assumption | exact Nat.le_of_ble_eq_true rfl) only [s138_11, ow_some, true_and, and_true, and_self, if_true, if_false, not_true, not_false_eq_true, Bool.false_eq_true, eq_self, Option.toList, List.cons_append, List.nil_append, ix_in, ix_cl, lt_in, lt_cl, lt_add, ix_one, vu_eq, vu_ne, arI_mk, arL_mk, arY_mZ, arY_mB, alen_mI, fld_sfl_ne, fld_sfl_same, Option.isSome_some, pok_i, b1z, b01, z10, b1o, Int32.zero_add, vu_vu, upd_eq, upd_ne, true_or, or_true]
  exact ⟨rfl, rfl, s1, h1, rfl⟩
theorem sp_neededC (H : HV f t) (L : LV f 128 y) (V : SV f 12 pl w x) (W : PV f pl v r C) (G : CR all S P w x v r C) (I : IS all S R P) (hd : AD 12 pl 128) (O : OV f tb) : TT X (d + 5) 139 0 [.ref 0] [] f N K (QS f N K (o_need all S P)) := by
  have r4 := H.r4
  have r15 := H.r15
  simp (disch := first | omega | decide | assumption | exact Nat.le_of_ble_eq_true rfl) only [s139_0, s139_1, s139_4, s139_5, ow_some, true_and, and_true, and_self, if_true, if_false, not_true, not_false_eq_true, Bool.false_eq_true, eq_self, Option.toList, List.cons_append, List.nil_append, ix_in, ix_cl, lt_in, lt_cl, lt_add, ix_one, vu_eq, vu_ne, arI_mk, arL_mk, arY_mZ, arY_mB, alen_mI, fld_sfl_ne, fld_sfl_same, Option.isSome_some, pok_i, b1z, b01, z10, b1o, Int32.zero_add, vu_vu, upd_eq, upd_ne, true_or, or_true, r4, r15]
  refine k139_8 O.cn (Nat.le_of_ble_eq_true rfl) (sp_needs L V W G I hd O) ?_
  rintro f1 n1 k1 v1 ⟨rfl, rfl, s1, h1, rfl⟩
  simp (disch := first | omega | decide | assumption | exact Nat.le_of_ble_eq_true rfl) only [s139_11, ow_some, true_and, and_true, and_self, if_true, if_false, not_true, not_false_eq_true, Bool.false_eq_true, eq_self, Option.toList, List.cons_append, List.nil_append, ix_in, ix_cl, lt_in, lt_cl, lt_add, ix_one, vu_eq, vu_ne, arI_mk, arL_mk, arY_mZ, arY_mB, alen_mI, fld_sfl_ne, fld_sfl_same, Option.isSome_some, pok_i, b1z, b01, z10, b1o, Int32.zero_add, vu_vu, upd_eq, upd_ne, true_or, or_true]
  exact ⟨rfl, rfl, s1, h1, rfl⟩
theorem sp_fewestC (H : HV f t) (L : LV f 128 y) (V : SV f 12 pl w x) (W : PV f pl v r C) (G : CR all S P w x v r C) (I : IS all S R P) (hd : AD 12 pl 128) (O : OV f tb) {z : Int32} : TT X (d + 6) 136 0 [.ref 0, .int z] [] f N K (QS f N K (o_few all S P z)) := by
  have r4 := H.r4
  have r15 := H.r15
  obtain ⟨l2, l3⟩ := w_01 (z := z)
  have p9 := pw9 I.p9
  unfold o_few
  by_cases h1 : 0 ≤ z.toInt ∧ z.toInt ≤ 1
  · rw [if_pos h1]
    have a1 : (z.toInt < 0) = False := eq_false (by omega)
    have a2 : (z.toInt ≤ 1) = True := eq_true h1.2
    have hz := z_01 h1
    simp (disch := first | omega | decide | assumption | exact Nat.le_of_ble_eq_true rfl) only [s136_0, s136_1, s136_4, s136_5, s136_6, s136_12, s136_13, s136_16, s136_17, ow_some, true_and, and_true, and_self, if_true, if_false, not_true, not_false_eq_true, Bool.false_eq_true, eq_self, Option.toList, List.cons_append, List.nil_append, ix_in, ix_cl, lt_in, lt_cl, lt_add, ix_one, vu_eq, vu_ne, arI_mk, arL_mk, arY_mZ, arY_mB, alen_mI, fld_sfl_ne, fld_sfl_same, Option.isSome_some, pok_i, b1z, b01, z10, b1o, Int32.zero_add, vu_vu, upd_eq, upd_ne, true_or, or_true, r4, r15, l2, l3, a1, a2]
    refine k136_20 O.cn (Nat.le_of_ble_eq_true rfl) (sp_least L V W G I hd O) ?_
    rintro f1 n1 k1 v1 ⟨rfl, rfl, s1, h1, rfl⟩
    simp (disch := first | omega | decide | assumption | exact Nat.le_of_ble_eq_true rfl) only [s136_23, ow_some, true_and, and_true, and_self, if_true, if_false, not_true, not_false_eq_true, Bool.false_eq_true, eq_self, Option.toList, List.cons_append, List.nil_append, ix_in, ix_cl, lt_in, lt_cl, lt_add, ix_one, vu_eq, vu_ne, arI_mk, arL_mk, arY_mZ, arY_mB, alen_mI, fld_sfl_ne, fld_sfl_same, Option.isSome_some, pok_i, b1z, b01, z10, b1o, Int32.zero_add, vu_vu, upd_eq, upd_ne, true_or, or_true]
    rw [p136_24 (Nat.le_of_ble_eq_true rfl) (sp_sizeOr hz (fun x hx => Nat.lt_of_lt_of_le (by unfold m_few at hx; exact pick_lt hx) p9))]
    simp (disch := first | omega | decide | assumption | exact Nat.le_of_ble_eq_true rfl) only [s136_27, ow_some, true_and, and_true, and_self, if_true, if_false, not_true, not_false_eq_true, Bool.false_eq_true, eq_self, Option.toList, List.cons_append, List.nil_append, ix_in, ix_cl, lt_in, lt_cl, lt_add, ix_one, vu_eq, vu_ne, arI_mk, arL_mk, arY_mZ, arY_mB, alen_mI, fld_sfl_ne, fld_sfl_same, Option.isSome_some, pok_i, b1z, b01, z10, b1o, Int32.zero_add, vu_vu, upd_eq, upd_ne, true_or, or_true]
    exact ⟨rfl, rfl, s1, h1, rfl⟩
  · rw [if_neg h1]
    by_cases a1 : z.toInt < 0
    · have a1' : (z.toInt < 0) = True := eq_true a1
      simp (disch := first | omega | decide | assumption | exact Nat.le_of_ble_eq_true rfl) only [s136_0, s136_1, s136_9, s136_11, ow_some, true_and, and_true, and_self, if_true, if_false, not_true, not_false_eq_true, Bool.false_eq_true, eq_self, Option.toList, List.cons_append, List.nil_append, ix_in, ix_cl, lt_in, lt_cl, lt_add, ix_one, vu_eq, vu_ne, arI_mk, arL_mk, arY_mZ, arY_mB, alen_mI, fld_sfl_ne, fld_sfl_same, Option.isSome_some, pok_i, b1z, b01, z10, b1o, Int32.zero_add, vu_vu, upd_eq, upd_ne, true_or, or_true, l2, a1']
      exact ⟨rfl, rfl, SI.rf, ⟨y, tb, L, O⟩, rfl⟩
    · have a1' : (z.toInt < 0) = False := eq_false a1
      have a2 : (z.toInt ≤ 1) = False := eq_false (by omega)
      simp (disch := first | omega | decide | assumption | exact Nat.le_of_ble_eq_true rfl) only [s136_0, s136_1, s136_4, s136_5, s136_6, s136_9, s136_11, ow_some, true_and, and_true, and_self, if_true, if_false, not_true, not_false_eq_true, Bool.false_eq_true, eq_self, Option.toList, List.cons_append, List.nil_append, ix_in, ix_cl, lt_in, lt_cl, lt_add, ix_one, vu_eq, vu_ne, arI_mk, arL_mk, arY_mZ, arY_mB, alen_mI, fld_sfl_ne, fld_sfl_same, Option.isSome_some, pok_i, b1z, b01, z10, b1o, Int32.zero_add, vu_vu, upd_eq, upd_ne, true_or, or_true, l2, l3, a1', a2]
      exact ⟨rfl, rfl, SI.rf, ⟨y, tb, L, O⟩, rfl⟩
theorem sp_mostC (H : HV f t) (L : LV f 128 y) (V : SV f 12 pl w x) (W : PV f pl v r C) (G : CR all S P w x v r C) (I : IS all S R P) (hd : AD 12 pl 128) (O : OV f tb) {z : Int32} : TT X (d + 6) 140 0 [.ref 0, .int z] [] f N K (QS f N K (o_most all S P z)) := by
  have r4 := H.r4
  have r15 := H.r15
  obtain ⟨l2, l3⟩ := w_01 (z := z)
  have p9 := pw9 I.p9
  unfold o_most
  by_cases h1 : 0 ≤ z.toInt ∧ z.toInt ≤ 1
  · rw [if_pos h1]
    have a1 : (z.toInt < 0) = False := eq_false (by omega)
    have a2 : (z.toInt ≤ 1) = True := eq_true h1.2
    have hz := z_01 h1
    simp (disch := first | omega | decide | assumption | exact Nat.le_of_ble_eq_true rfl) only [s140_0, s140_1, s140_4, s140_5, s140_6, s140_12, s140_13, s140_16, s140_17, ow_some, true_and, and_true, and_self, if_true, if_false, not_true, not_false_eq_true, Bool.false_eq_true, eq_self, Option.toList, List.cons_append, List.nil_append, ix_in, ix_cl, lt_in, lt_cl, lt_add, ix_one, vu_eq, vu_ne, arI_mk, arL_mk, arY_mZ, arY_mB, alen_mI, fld_sfl_ne, fld_sfl_same, Option.isSome_some, pok_i, b1z, b01, z10, b1o, Int32.zero_add, vu_vu, upd_eq, upd_ne, true_or, or_true, r4, r15, l2, l3, a1, a2]
    refine k140_20 O.cn (Nat.le_of_ble_eq_true rfl) (sp_mostGon L V W G I hd O) ?_
    rintro f1 n1 k1 v1 ⟨rfl, rfl, s1, h1, rfl⟩
    simp (disch := first | omega | decide | assumption | exact Nat.le_of_ble_eq_true rfl) only [s140_23, ow_some, true_and, and_true, and_self, if_true, if_false, not_true, not_false_eq_true, Bool.false_eq_true, eq_self, Option.toList, List.cons_append, List.nil_append, ix_in, ix_cl, lt_in, lt_cl, lt_add, ix_one, vu_eq, vu_ne, arI_mk, arL_mk, arY_mZ, arY_mB, alen_mI, fld_sfl_ne, fld_sfl_same, Option.isSome_some, pok_i, b1z, b01, z10, b1o, Int32.zero_add, vu_vu, upd_eq, upd_ne, true_or, or_true]
    rw [p140_24 (Nat.le_of_ble_eq_true rfl) (sp_sizeOr hz (fun x hx => Nat.lt_of_lt_of_le (by unfold m_gone at hx; exact pick_lt hx) p9))]
    simp (disch := first | omega | decide | assumption | exact Nat.le_of_ble_eq_true rfl) only [s140_27, ow_some, true_and, and_true, and_self, if_true, if_false, not_true, not_false_eq_true, Bool.false_eq_true, eq_self, Option.toList, List.cons_append, List.nil_append, ix_in, ix_cl, lt_in, lt_cl, lt_add, ix_one, vu_eq, vu_ne, arI_mk, arL_mk, arY_mZ, arY_mB, alen_mI, fld_sfl_ne, fld_sfl_same, Option.isSome_some, pok_i, b1z, b01, z10, b1o, Int32.zero_add, vu_vu, upd_eq, upd_ne, true_or, or_true]
    exact ⟨rfl, rfl, s1, h1, rfl⟩
  · rw [if_neg h1]
    by_cases a1 : z.toInt < 0
    · have a1' : (z.toInt < 0) = True := eq_true a1
      simp (disch := first | omega | decide | assumption | exact Nat.le_of_ble_eq_true rfl) only [s140_0, s140_1, s140_9, s140_11, ow_some, true_and, and_true, and_self, if_true, if_false, not_true, not_false_eq_true, Bool.false_eq_true, eq_self, Option.toList, List.cons_append, List.nil_append, ix_in, ix_cl, lt_in, lt_cl, lt_add, ix_one, vu_eq, vu_ne, arI_mk, arL_mk, arY_mZ, arY_mB, alen_mI, fld_sfl_ne, fld_sfl_same, Option.isSome_some, pok_i, b1z, b01, z10, b1o, Int32.zero_add, vu_vu, upd_eq, upd_ne, true_or, or_true, l2, a1']
      exact ⟨rfl, rfl, SI.rf, ⟨y, tb, L, O⟩, rfl⟩
    · have a1' : (z.toInt < 0) = False := eq_false a1
      have a2 : (z.toInt ≤ 1) = False := eq_false (by omega)
      simp (disch := first | omega | decide | assumption | exact Nat.le_of_ble_eq_true rfl) only [s140_0, s140_1, s140_4, s140_5, s140_6, s140_9, s140_11, ow_some, true_and, and_true, and_self, if_true, if_false, not_true, not_false_eq_true, Bool.false_eq_true, eq_self, Option.toList, List.cons_append, List.nil_append, ix_in, ix_cl, lt_in, lt_cl, lt_add, ix_one, vu_eq, vu_ne, arI_mk, arL_mk, arY_mZ, arY_mB, alen_mI, fld_sfl_ne, fld_sfl_same, Option.isSome_some, pok_i, b1z, b01, z10, b1o, Int32.zero_add, vu_vu, upd_eq, upd_ne, true_or, or_true, l2, l3, a1', a2]
      exact ⟨rfl, rfl, SI.rf, ⟨y, tb, L, O⟩, rfl⟩
theorem sp_servedC (H : HV f t) (L : LV f 137 y) (V : SV f 12 pl w x) (W : PV f pl v r C) (G : CR all S P w x v r C) (I : IS all S R P) (hd : AD 12 pl 137) (E : EW f) (can : Nat → Bool) (hcan : ∀ i, i < 512 → (can i = true ↔ rch all P 10 i)) {z : Int32} : TT X (d + 6) 141 0 [.ref 0, .int z] [] f N K (QE f N K (o_served all S P z can)) := by
  have r4 := H.r4
  have r16 := H.r16
  obtain ⟨l2, l3⟩ := w_01 (z := z)
  have p9 := pw9 I.p9
  obtain ⟨mm, kk, A, O, sb, cb, ra, oa, E0⟩ := id E
  unfold o_served
  by_cases h1 : 0 ≤ z.toInt ∧ z.toInt ≤ 1
  · rw [if_pos h1]
    have a1 : (z.toInt < 0) = False := eq_false (by omega)
    have a2 : (z.toInt ≤ 1) = True := eq_true h1.2
    have hz := z_01 h1
    simp (disch := first | omega | decide | assumption | exact Nat.le_of_ble_eq_true rfl) only [s141_0, s141_1, s141_4, s141_5, s141_6, s141_12, s141_13, s141_16, s141_17, ow_some, true_and, and_true, and_self, if_true, if_false, not_true, not_false_eq_true, Bool.false_eq_true, eq_self, Option.toList, List.cons_append, List.nil_append, ix_in, ix_cl, lt_in, lt_cl, lt_add, ix_one, vu_eq, vu_ne, arI_mk, arL_mk, arY_mZ, arY_mB, alen_mI, fld_sfl_ne, fld_sfl_same, Option.isSome_some, pok_i, b1z, b01, z10, b1o, Int32.zero_add, vu_vu, upd_eq, upd_ne, true_or, or_true, r4, r16, l2, l3, a1, a2]
    refine k141_20 E0.cn (Nat.le_of_ble_eq_true rfl) (sp_greatest L V W G I hd E can hcan) ?_
    rintro f1 n1 k1 v1 ⟨rfl, rfl, s1, h1, h2, rfl⟩
    simp (disch := first | omega | decide | assumption | exact Nat.le_of_ble_eq_true rfl) only [s141_23, ow_some, true_and, and_true, and_self, if_true, if_false, not_true, not_false_eq_true, Bool.false_eq_true, eq_self, Option.toList, List.cons_append, List.nil_append, ix_in, ix_cl, lt_in, lt_cl, lt_add, ix_one, vu_eq, vu_ne, arI_mk, arL_mk, arY_mZ, arY_mB, alen_mI, fld_sfl_ne, fld_sfl_same, Option.isSome_some, pok_i, b1z, b01, z10, b1o, Int32.zero_add, vu_vu, upd_eq, upd_ne, true_or, or_true]
    rw [p141_24 (Nat.le_of_ble_eq_true rfl) (sp_sizeOr hz (fun x hx => Nat.lt_of_lt_of_le (by unfold m_gone at hx; exact pick_lt hx) p9))]
    simp (disch := first | omega | decide | assumption | exact Nat.le_of_ble_eq_true rfl) only [s141_27, ow_some, true_and, and_true, and_self, if_true, if_false, not_true, not_false_eq_true, Bool.false_eq_true, eq_self, Option.toList, List.cons_append, List.nil_append, ix_in, ix_cl, lt_in, lt_cl, lt_add, ix_one, vu_eq, vu_ne, arI_mk, arL_mk, arY_mZ, arY_mB, alen_mI, fld_sfl_ne, fld_sfl_same, Option.isSome_some, pok_i, b1z, b01, z10, b1o, Int32.zero_add, vu_vu, upd_eq, upd_ne, true_or, or_true]
    exact ⟨rfl, rfl, s1, h1, h2, rfl⟩
  · rw [if_neg h1]
    by_cases a1 : z.toInt < 0
    · have a1' : (z.toInt < 0) = True := eq_true a1
      simp (disch := first | omega | decide | assumption | exact Nat.le_of_ble_eq_true rfl) only [s141_0, s141_1, s141_9, s141_11, ow_some, true_and, and_true, and_self, if_true, if_false, not_true, not_false_eq_true, Bool.false_eq_true, eq_self, Option.toList, List.cons_append, List.nil_append, ix_in, ix_cl, lt_in, lt_cl, lt_add, ix_one, vu_eq, vu_ne, arI_mk, arL_mk, arY_mZ, arY_mB, alen_mI, fld_sfl_ne, fld_sfl_same, Option.isSome_some, pok_i, b1z, b01, z10, b1o, Int32.zero_add, vu_vu, upd_eq, upd_ne, true_or, or_true, l2, a1']
      exact ⟨rfl, rfl, SI.rf, ⟨y, L⟩, E, rfl⟩
    · have a1' : (z.toInt < 0) = False := eq_false a1
      have a2 : (z.toInt ≤ 1) = False := eq_false (by omega)
      simp (disch := first | omega | decide | assumption | exact Nat.le_of_ble_eq_true rfl) only [s141_0, s141_1, s141_4, s141_5, s141_6, s141_9, s141_11, ow_some, true_and, and_true, and_self, if_true, if_false, not_true, not_false_eq_true, Bool.false_eq_true, eq_self, Option.toList, List.cons_append, List.nil_append, ix_in, ix_cl, lt_in, lt_cl, lt_add, ix_one, vu_eq, vu_ne, arI_mk, arL_mk, arY_mZ, arY_mB, alen_mI, fld_sfl_ne, fld_sfl_same, Option.isSome_some, pok_i, b1z, b01, z10, b1o, Int32.zero_add, vu_vu, upd_eq, upd_ne, true_or, or_true, l2, l3, a1', a2]
      exact ⟨rfl, rfl, SI.rf, ⟨y, L⟩, E, rfl⟩
end HOME

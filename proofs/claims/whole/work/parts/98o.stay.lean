/-! the class: stay, where, props, mends -/
section HOME
variable {X : Nat × (Nat → Int32)} {d N K pl C S R P q : Nat} {f : Nat → e_C} {y x r : Nat → Nat → Int32} {t w v all br mo up : Nat → Int32} {li : Nat → Int64}
theorem sp_stayC (H : HV f t) (L : LV f q y) (V : SV f 12 pl w x) (W : PV f pl v r C) (G : CR all S P w x v r C) (I : IS all S R P) (hd : AD 12 pl q) (O : XV f q br mo up li) (hq : q = 160) {b : Int32} {u2 : Value} : TT X (d + 5) 149 0 [.ref 0, .int b, u2] [] f N K (QX f N K q (o_stay all S P b)) := by
  have r4 := H.r4
  have r18 := H.r18
  have h9 := I.p9
  have hP : w 1 = nI P := by rw [G.w1]; exact I.eP
  have fin : SI 162 171 f f ∧ ∃ y' br mo up li, LV f q y' ∧ XV f q br mo up li := ⟨SI.rf, y, br, mo, up, li, L, O⟩
  simp (disch := first | omega | decide | assumption | exact Nat.le_of_ble_eq_true rfl) only [s149_0, s149_1, ow_some, true_and, and_true, and_self, if_true, if_false, not_true, not_false_eq_true, Bool.false_eq_true, eq_self, Option.toList, List.cons_append, List.nil_append, ix_in, ix_cl, lt_in, lt_cl, lt_add, ix_one, vu_eq, vu_ne, arI_mk, arL_mk, arY_mZ, arY_mB, alen_mI, fld_sfl_ne, fld_sfl_same, Option.isSome_some, pok_i, b1z, b01, z10, b1o, Int32.zero_add, vu_vu, upd_eq, upd_ne, true_or, or_true]
  rw [p149_2 H.cn (Nat.le_of_ble_eq_true rfl) (sp_refusesN H V hP h9)]
  unfold o_stay rfN
  by_cases h1 : 0 ≤ b.toInt ∧ b.toInt ≤ 99
  · rw [if_pos h1, if_pos h1]
    by_cases hP9 : P = 9
    · rw [if_pos hP9, if_pos hP9]
      simp (disch := first | omega | decide | assumption | exact Nat.le_of_ble_eq_true rfl) only [s149_5, s149_6, s149_7, s149_10, s149_11, s149_26, ow_some, true_and, and_true, and_self, if_true, if_false, not_true, not_false_eq_true, Bool.false_eq_true, eq_self, Option.toList, List.cons_append, List.nil_append, ix_in, ix_cl, lt_in, lt_cl, lt_add, ix_one, vu_eq, vu_ne, arI_mk, arL_mk, arY_mZ, arY_mB, alen_mI, fld_sfl_ne, fld_sfl_same, Option.isSome_some, pok_i, b1z, b01, z10, b1o, Int32.zero_add, vu_vu, upd_eq, upd_ne, true_or, or_true]
      exact ⟨rfl, rfl, fin.1, fin.2, rfl⟩
    · rw [if_neg hP9, if_neg hP9]
      obtain ⟨c, hc, rfl, hv⟩ := i9 (v := b) (N := 100) h1.1 (by omega) (by omega)
      simp (disch := first | omega | decide | assumption | exact Nat.le_of_ble_eq_true rfl) only [s149_5, s149_6, s149_7, s149_14, s149_15, s149_18, s149_19, s149_22, ow_some, true_and, and_true, and_self, if_true, if_false, not_true, not_false_eq_true, Bool.false_eq_true, eq_self, Option.toList, List.cons_append, List.nil_append, ix_in, ix_cl, lt_in, lt_cl, lt_add, ix_one, vu_eq, vu_ne, arI_mk, arL_mk, arY_mZ, arY_mB, alen_mI, fld_sfl_ne, fld_sfl_same, Option.isSome_some, pok_i, b1z, b01, z10, b1o, Int32.zero_add, vu_vu, upd_eq, upd_ne, true_or, or_true, r4, r18]
      refine k149_23 O.cn (Nat.le_of_ble_eq_true rfl) (sp_longestStay L V W G I hd O hq hc (by omega)) ?_
      rintro f1 n1 k1 v1 ⟨rfl, rfl, s1, h1, rfl⟩
      simp (disch := first | omega | decide | assumption | exact Nat.le_of_ble_eq_true rfl) only [s149_26, ow_some, true_and, and_true, and_self, if_true, if_false, not_true, not_false_eq_true, Bool.false_eq_true, eq_self, Option.toList, List.cons_append, List.nil_append, ix_in, ix_cl, lt_in, lt_cl, lt_add, ix_one, vu_eq, vu_ne, arI_mk, arL_mk, arY_mZ, arY_mB, alen_mI, fld_sfl_ne, fld_sfl_same, Option.isSome_some, pok_i, b1z, b01, z10, b1o, Int32.zero_add, vu_vu, upd_eq, upd_ne, true_or, or_true]
      exact ⟨rfl, rfl, s1, h1, rfl⟩
  · rw [if_neg h1, if_neg h1]
    simp (disch := first | omega | decide | assumption | exact Nat.le_of_ble_eq_true rfl) only [s149_5, s149_6, s149_7, s149_10, s149_11, s149_26, ow_some, true_and, and_true, and_self, if_true, if_false, not_true, not_false_eq_true, Bool.false_eq_true, eq_self, Option.toList, List.cons_append, List.nil_append, ix_in, ix_cl, lt_in, lt_cl, lt_add, ix_one, vu_eq, vu_ne, arI_mk, arL_mk, arY_mZ, arY_mB, alen_mI, fld_sfl_ne, fld_sfl_same, Option.isSome_some, pok_i, b1z, b01, z10, b1o, Int32.zero_add, vu_vu, upd_eq, upd_ne, true_or, or_true]
    exact ⟨rfl, rfl, fin.1, fin.2, rfl⟩
theorem sp_whereC (H : HV f t) (L : LV f q y) (V : SV f 12 pl w x) (W : PV f pl v r C) (G : CR all S P w x v r C) (I : IS all S R P) (hd : AD 12 pl q) (O : XV f q br mo up li) (hq : q = 160) {b : Int32} {u2 : Value} : TT X (d + 5) 161 0 [.ref 0, .int b, u2] [] f N K (QX f N K q (o_where all S P b)) := by
  have r4 := H.r4
  have r18 := H.r18
  have h9 := I.p9
  have hP : w 1 = nI P := by rw [G.w1]; exact I.eP
  have fin : SI 162 171 f f ∧ ∃ y' br mo up li, LV f q y' ∧ XV f q br mo up li := ⟨SI.rf, y, br, mo, up, li, L, O⟩
  simp (disch := first | omega | decide | assumption | exact Nat.le_of_ble_eq_true rfl) only [s161_0, s161_1, ow_some, true_and, and_true, and_self, if_true, if_false, not_true, not_false_eq_true, Bool.false_eq_true, eq_self, Option.toList, List.cons_append, List.nil_append, ix_in, ix_cl, lt_in, lt_cl, lt_add, ix_one, vu_eq, vu_ne, arI_mk, arL_mk, arY_mZ, arY_mB, alen_mI, fld_sfl_ne, fld_sfl_same, Option.isSome_some, pok_i, b1z, b01, z10, b1o, Int32.zero_add, vu_vu, upd_eq, upd_ne, true_or, or_true]
  rw [p161_2 H.cn (Nat.le_of_ble_eq_true rfl) (sp_refusesN H V hP h9)]
  unfold o_where rfN
  by_cases h1 : 0 ≤ b.toInt ∧ b.toInt ≤ 99
  · rw [if_pos h1, if_pos h1]
    by_cases hP9 : P = 9
    · rw [if_pos hP9, if_pos hP9]
      simp (disch := first | omega | decide | assumption | exact Nat.le_of_ble_eq_true rfl) only [s161_5, s161_6, s161_7, s161_10, s161_11, s161_26, ow_some, true_and, and_true, and_self, if_true, if_false, not_true, not_false_eq_true, Bool.false_eq_true, eq_self, Option.toList, List.cons_append, List.nil_append, ix_in, ix_cl, lt_in, lt_cl, lt_add, ix_one, vu_eq, vu_ne, arI_mk, arL_mk, arY_mZ, arY_mB, alen_mI, fld_sfl_ne, fld_sfl_same, Option.isSome_some, pok_i, b1z, b01, z10, b1o, Int32.zero_add, vu_vu, upd_eq, upd_ne, true_or, or_true]
      exact ⟨rfl, rfl, fin.1, fin.2, rfl⟩
    · rw [if_neg hP9, if_neg hP9]
      obtain ⟨c, hc, rfl, hv⟩ := i9 (v := b) (N := 100) h1.1 (by omega) (by omega)
      simp (disch := first | omega | decide | assumption | exact Nat.le_of_ble_eq_true rfl) only [s161_5, s161_6, s161_7, s161_14, s161_15, s161_18, s161_19, s161_22, ow_some, true_and, and_true, and_self, if_true, if_false, not_true, not_false_eq_true, Bool.false_eq_true, eq_self, Option.toList, List.cons_append, List.nil_append, ix_in, ix_cl, lt_in, lt_cl, lt_add, ix_one, vu_eq, vu_ne, arI_mk, arL_mk, arY_mZ, arY_mB, alen_mI, fld_sfl_ne, fld_sfl_same, Option.isSome_some, pok_i, b1z, b01, z10, b1o, Int32.zero_add, vu_vu, upd_eq, upd_ne, true_or, or_true, r4, r18]
      refine k161_23 O.cn (Nat.le_of_ble_eq_true rfl) (sp_likeliest L V W G I hd O hq hc (by omega)) ?_
      rintro f1 n1 k1 v1 ⟨rfl, rfl, s1, h1, rfl⟩
      simp (disch := first | omega | decide | assumption | exact Nat.le_of_ble_eq_true rfl) only [s161_26, ow_some, true_and, and_true, and_self, if_true, if_false, not_true, not_false_eq_true, Bool.false_eq_true, eq_self, Option.toList, List.cons_append, List.nil_append, ix_in, ix_cl, lt_in, lt_cl, lt_add, ix_one, vu_eq, vu_ne, arI_mk, arL_mk, arY_mZ, arY_mB, alen_mI, fld_sfl_ne, fld_sfl_same, Option.isSome_some, pok_i, b1z, b01, z10, b1o, Int32.zero_add, vu_vu, upd_eq, upd_ne, true_or, or_true]
      exact ⟨rfl, rfl, s1, h1, rfl⟩
  · rw [if_neg h1, if_neg h1]
    simp (disch := first | omega | decide | assumption | exact Nat.le_of_ble_eq_true rfl) only [s161_5, s161_6, s161_7, s161_10, s161_11, s161_26, ow_some, true_and, and_true, and_self, if_true, if_false, not_true, not_false_eq_true, Bool.false_eq_true, eq_self, Option.toList, List.cons_append, List.nil_append, ix_in, ix_cl, lt_in, lt_cl, lt_add, ix_one, vu_eq, vu_ne, arI_mk, arL_mk, arY_mZ, arY_mB, alen_mI, fld_sfl_ne, fld_sfl_same, Option.isSome_some, pok_i, b1z, b01, z10, b1o, Int32.zero_add, vu_vu, upd_eq, upd_ne, true_or, or_true]
    exact ⟨rfl, rfl, fin.1, fin.2, rfl⟩
theorem sp_propsFor (H : HV f t) (L : LV f q y) (V : SV f 12 pl w x) (W : PV f pl v r C) (G : CR all S P w x v r C) (I : IS all S R P) (hd : AD 12 pl q) (O : XV f q br mo up li) (hq : q = 160) {T : Nat} (hT5 : sub T (nT all) = true) {z : Int32} {u3 : Value} : TT X (d + 5) 146 0 [.ref 0, .int (nI T), .int z, u3] [] f N K (QX f N K q (o_props all S P T z)) := by
  have r4 := H.r4
  have r18 := H.r18
  have h8 := I.s8
  have hS : v 0 = nI S := by rw [G.v0]; exact I.eS
  have fin : SI 162 171 f f ∧ ∃ y' br mo up li, LV f q y' ∧ XV f q br mo up li := ⟨SI.rf, y, br, mo, up, li, L, O⟩
  unfold o_props
  by_cases h0 : z = 0
  · rw [if_pos h0]
    have h0' : (z = 0) = True := eq_true h0
    simp (disch := first | omega | decide | assumption | exact Nat.le_of_ble_eq_true rfl) only [s146_0, s146_1, s146_27, s146_28, s146_31, s146_32, s146_35, ow_some, true_and, and_true, and_self, if_true, if_false, not_true, not_false_eq_true, Bool.false_eq_true, eq_self, Option.toList, List.cons_append, List.nil_append, ix_in, ix_cl, lt_in, lt_cl, lt_add, ix_one, vu_eq, vu_ne, arI_mk, arL_mk, arY_mZ, arY_mB, alen_mI, fld_sfl_ne, fld_sfl_same, Option.isSome_some, pok_i, b1z, b01, z10, b1o, Int32.zero_add, vu_vu, upd_eq, upd_ne, true_or, or_true, r4, r18, h0', ne_eq]
    refine k146_36 O.cn (Nat.le_of_ble_eq_true rfl) (sp_fewestProps L V W G I hd O hq hT5) ?_
    rintro f1 n1 k1 v1 ⟨rfl, rfl, s1, ⟨y1, br1, mo1, up1, li1, L1, O1, h1⟩, rfl⟩
    simp (disch := first | omega | decide | assumption | exact Nat.le_of_ble_eq_true rfl) only [s146_39, s146_40, s146_41, s146_44, s146_45, s146_60, ow_some, true_and, and_true, and_self, if_true, if_false, not_true, not_false_eq_true, Bool.false_eq_true, eq_self, Option.toList, List.cons_append, List.nil_append, ix_in, ix_cl, lt_in, lt_cl, lt_add, ix_one, vu_eq, vu_ne, arI_mk, arL_mk, arY_mZ, arY_mB, alen_mI, fld_sfl_ne, fld_sfl_same, Option.isSome_some, pok_i, b1z, b01, z10, b1o, Int32.zero_add, vu_vu, upd_eq, upd_ne, true_or, or_true, h0', ne_eq]
    exact ⟨rfl, rfl, s1, ⟨y1, br1, mo1, up1, li1, L1, O1⟩, rfl⟩
  · rw [if_neg h0]
    have h0' : (z = 0) = False := eq_false h0
    have l1 : (z < (10 : Int32)) = (z.toInt < 10) := by rw [Int32.lt_iff_toInt_lt]; rfl
    by_cases h1 : 10 ≤ z.toInt
    · have a1 : (z.toInt < 10) = False := eq_false (by omega)
      have hzm : (z - 10).toInt = z.toInt - 10 := by
        have h2 := Int32.toInt_lt z
        rw [Int32.toInt_sub, show (10 : Int32).toInt = 10 by decide]
        exact Int.bmod_eq_of_le (by omega) (by omega)
      simp (disch := first | omega | decide | assumption | exact Nat.le_of_ble_eq_true rfl) only [s146_0, s146_1, s146_4, s146_5, s146_7, s146_10, s146_11, s146_14, s146_15, s146_17, ow_some, true_and, and_true, and_self, if_true, if_false, not_true, not_false_eq_true, Bool.false_eq_true, eq_self, Option.toList, List.cons_append, List.nil_append, ix_in, ix_cl, lt_in, lt_cl, lt_add, ix_one, vu_eq, vu_ne, arI_mk, arL_mk, arY_mZ, arY_mB, alen_mI, fld_sfl_ne, fld_sfl_same, Option.isSome_some, pok_i, b1z, b01, z10, b1o, Int32.zero_add, vu_vu, upd_eq, upd_ne, true_or, or_true, r4, l1, h0', a1, ne_eq]
      rw [p146_18 V.cn (Nat.le_of_ble_eq_true rfl) (sp_isStp V W hS h8)]
      by_cases h2 : 10 ≤ z.toInt ∧ z.toInt - 10 < S
      · rw [if_pos h2, hzm, if_pos (show 0 ≤ z.toInt - 10 ∧ z.toInt - 10 < S by omega)]
        obtain ⟨j, hj, hzj, hv⟩ := i9 (v := z - 10) (N := 8) (by omega) (by omega) (by omega)
        have ejz : z.toInt = j + 10 := by omega
        simp (disch := first | omega | decide | assumption | exact Nat.le_of_ble_eq_true rfl) only [s146_21, s146_27, s146_28, s146_31, s146_32, s146_35, ow_some, true_and, and_true, and_self, if_true, if_false, not_true, not_false_eq_true, Bool.false_eq_true, eq_self, Option.toList, List.cons_append, List.nil_append, ix_in, ix_cl, lt_in, lt_cl, lt_add, ix_one, vu_eq, vu_ne, arI_mk, arL_mk, arY_mZ, arY_mB, alen_mI, fld_sfl_ne, fld_sfl_same, Option.isSome_some, pok_i, b1z, b01, z10, b1o, Int32.zero_add, vu_vu, upd_eq, upd_ne, true_or, or_true, r4, r18]
        refine k146_36 O.cn (Nat.le_of_ble_eq_true rfl) (sp_fewestProps L V W G I hd O hq hT5) ?_
        rintro f1 n1 k1 v1 ⟨rfl, rfl, s1, ⟨y1, br1, mo1, up1, li1, L1, O1, h1⟩, rfl⟩
        have e1 := h1 j (by omega)
        have r18' := (H.fr (f' := f1) (s1 0 (by omega))).r18
        have o2 := O1.2.2.1
        have o6 := O1.2.2.2.2.2.2.1
        simp (disch := first | omega | decide | assumption | exact Nat.le_of_ble_eq_true rfl) only [s146_39, s146_40, s146_41, s146_48, s146_49, s146_52, s146_55, s146_56, s146_58, s146_59, s146_60, ow_some, true_and, and_true, and_self, if_true, if_false, not_true, not_false_eq_true, Bool.false_eq_true, eq_self, Option.toList, List.cons_append, List.nil_append, ix_in, ix_cl, lt_in, lt_cl, lt_add, ix_one, vu_eq, vu_ne, arI_mk, arL_mk, arY_mZ, arY_mB, alen_mI, fld_sfl_ne, fld_sfl_same, Option.isSome_some, pok_i, b1z, b01, z10, b1o, Int32.zero_add, vu_vu, upd_eq, upd_ne, true_or, or_true, h0', ne_eq, r18', o2, o6, hzj, e1]
        refine ⟨rfl, rfl, s1, ⟨y1, br1, mo1, up1, li1, L1, O1⟩, ?_⟩
        rw [ejz, show ((j : Int) + 10).toNat - 9 = j + 1 by omega, show ((j : Int) + 10).toNat - 10 = j by omega]
      · rw [if_neg h2, hzm, if_neg (show ¬ (0 ≤ z.toInt - 10 ∧ z.toInt - 10 < S) by omega)]
        simp (disch := first | omega | decide | assumption | exact Nat.le_of_ble_eq_true rfl) only [s146_21, s146_24, s146_26, ow_some, true_and, and_true, and_self, if_true, if_false, not_true, not_false_eq_true, Bool.false_eq_true, eq_self, Option.toList, List.cons_append, List.nil_append, ix_in, ix_cl, lt_in, lt_cl, lt_add, ix_one, vu_eq, vu_ne, arI_mk, arL_mk, arY_mZ, arY_mB, alen_mI, fld_sfl_ne, fld_sfl_same, Option.isSome_some, pok_i, b1z, b01, z10, b1o, Int32.zero_add, vu_vu, upd_eq, upd_ne, true_or, or_true]
        exact ⟨rfl, rfl, fin.1, fin.2, rfl⟩
    · rw [if_neg (show ¬ (10 ≤ z.toInt ∧ z.toInt - 10 < S) by omega)]
      have a1 : (z.toInt < 10) = True := eq_true (by omega)
      simp (disch := first | omega | decide | assumption | exact Nat.le_of_ble_eq_true rfl) only [s146_0, s146_1, s146_4, s146_5, s146_7, s146_24, s146_26, ow_some, true_and, and_true, and_self, if_true, if_false, not_true, not_false_eq_true, Bool.false_eq_true, eq_self, Option.toList, List.cons_append, List.nil_append, ix_in, ix_cl, lt_in, lt_cl, lt_add, ix_one, vu_eq, vu_ne, arI_mk, arL_mk, arY_mZ, arY_mB, alen_mI, fld_sfl_ne, fld_sfl_same, Option.isSome_some, pok_i, b1z, b01, z10, b1o, Int32.zero_add, vu_vu, upd_eq, upd_ne, true_or, or_true, l1, h0', a1, ne_eq]
      exact ⟨rfl, rfl, fin.1, fin.2, rfl⟩
theorem sp_propsC (H : HV f t) (L : LV f q y) (V : SV f 12 pl w x) (W : PV f pl v r C) (G : CR all S P w x v r C) (I : IS all S R P) (hd : AD 12 pl q) (O : XV f q br mo up li) (hq : q = 160) {z : Int32} : TT X (d + 6) 145 0 [.ref 0, .int z] [] f N K (QX f N K q (o_props all S P 0 z)) := by
  have e0 : (0 : Int32) = nI 0 := rfl
  simp (disch := first | omega | decide | assumption | exact Nat.le_of_ble_eq_true rfl) only [s145_0, s145_1, s145_2, ow_some, true_and, and_true, and_self, if_true, if_false, not_true, not_false_eq_true, Bool.false_eq_true, eq_self, Option.toList, List.cons_append, List.nil_append, ix_in, ix_cl, lt_in, lt_cl, lt_add, ix_one, vu_eq, vu_ne, arI_mk, arL_mk, arY_mZ, arY_mB, alen_mI, fld_sfl_ne, fld_sfl_same, Option.isSome_some, pok_i, b1z, b01, z10, b1o, Int32.zero_add, vu_vu, upd_eq, upd_ne, true_or, or_true]
  refine k145_3 H.cn (Nat.le_of_ble_eq_true rfl) (sp_propsFor H L V W G I hd O hq (T := 0) (by unfold sub; simp)) ?_
  rintro f1 n1 k1 v1 ⟨rfl, rfl, s1, h1, rfl⟩
  simp (disch := first | omega | decide | assumption | exact Nat.le_of_ble_eq_true rfl) only [s145_6, ow_some, true_and, and_true, and_self, if_true, if_false, not_true, not_false_eq_true, Bool.false_eq_true, eq_self, Option.toList, List.cons_append, List.nil_append, ix_in, ix_cl, lt_in, lt_cl, lt_add, ix_one, vu_eq, vu_ne, arI_mk, arL_mk, arY_mZ, arY_mB, alen_mI, fld_sfl_ne, fld_sfl_same, Option.isSome_some, pok_i, b1z, b01, z10, b1o, Int32.zero_add, vu_vu, upd_eq, upd_ne, true_or, or_true]
  exact ⟨rfl, rfl, s1, h1, rfl⟩
theorem sp_mendsC (H : HV f t) (L : LV f q y) (V : SV f 12 pl w x) (W : PV f pl v r C) (G : CR all S P w x v r C) (I : IS all S R P) (hd : AD 12 pl q) (O : XV f q br mo up li) (hq : q = 160) {z : Int32} : TT X (d + 6) 147 0 [.ref 0, .int z] [] f N K (QX f N K q (o_props all S P (nT all) z)) := by
  have r4 := H.r4
  have hT : w 6 = nI (nT all) := by rw [G.w6]; exact I.eT
  simp (disch := first | omega | decide | assumption | exact Nat.le_of_ble_eq_true rfl) only [s147_0, s147_1, s147_2, s147_5, s147_8, ow_some, true_and, and_true, and_self, if_true, if_false, not_true, not_false_eq_true, Bool.false_eq_true, eq_self, Option.toList, List.cons_append, List.nil_append, ix_in, ix_cl, lt_in, lt_cl, lt_add, ix_one, vu_eq, vu_ne, arI_mk, arL_mk, arY_mZ, arY_mB, alen_mI, fld_sfl_ne, fld_sfl_same, Option.isSome_some, pok_i, b1z, b01, z10, b1o, Int32.zero_add, vu_vu, upd_eq, upd_ne, true_or, or_true, V.v1, V.v6, V.v7, V.v8, V.v9, V.i1, V.i6, V.i7, V.i8, V.i9, V.r2, V.r3, V.r4, V.r5, V.pl, V.a2, V.a3, V.a4, V.a5, r4, hT]
  refine k147_9 H.cn (Nat.le_of_ble_eq_true rfl) (sp_propsFor H L V W G I hd O hq (T := nT all) sub_rf) ?_
  rintro f1 n1 k1 v1 ⟨rfl, rfl, s1, h1, rfl⟩
  simp (disch := first | omega | decide | assumption | exact Nat.le_of_ble_eq_true rfl) only [s147_12, ow_some, true_and, and_true, and_self, if_true, if_false, not_true, not_false_eq_true, Bool.false_eq_true, eq_self, Option.toList, List.cons_append, List.nil_append, ix_in, ix_cl, lt_in, lt_cl, lt_add, ix_one, vu_eq, vu_ne, arI_mk, arL_mk, arY_mZ, arY_mB, alen_mI, fld_sfl_ne, fld_sfl_same, Option.isSome_some, pok_i, b1z, b01, z10, b1o, Int32.zero_add, vu_vu, upd_eq, upd_ne, true_or, or_true]
  exact ⟨rfl, rfl, s1, h1, rfl⟩
end HOME

/-! the class: swaps -/
section HOME
variable {X : Nat × (Nat → Int32)} {d N K pl C S R P q : Nat} {f : Nat → e_C} {y x r : Nat → Nat → Int32} {t w v all br mo up : Nat → Int32} {li : Nat → Int64}
/-- why no newcomer of a build is asked for -/
def rfN (P : Nat) (b : Int32) : Int32 := if 0 ≤ b.toInt ∧ b.toInt ≤ 99 then (if P = 9 then -5 else 0) else -3
theorem sp_refusesN (H : HV f t) (V : SV f 12 pl w x) (hP : w 1 = nI P) (h9 : P ≤ 9) {b : Int32} : PU X d 144 [.ref 0, .int b] f N K (some (.int (rfN P b))) := by
  unfold PU rfN
  have r4 := H.r4
  have l1 : (b < (0 : Int32)) = (b.toInt < 0) := by rw [Int32.lt_iff_toInt_lt]; rfl
  have l2 : (b < (100 : Int32)) = (b.toInt < 100) := by rw [Int32.lt_iff_toInt_lt]; rfl
  by_cases h1 : 0 ≤ b.toInt ∧ b.toInt ≤ 99
  · have a1 : (b.toInt < 0) = False := eq_false (by omega)
    have a2 : (b.toInt < 100) = True := eq_true (by omega)
    rw [if_pos h1]
    by_cases hP9 : P = 9
    · have c1 : (nI P < (9 : Int32)) = False := by rw [hP9]; decide
      rw [if_pos hP9]
      simp (disch := first | omega | decide | assumption | exact Nat.le_of_ble_eq_true rfl) only [s144_0, s144_1, s144_4, s144_5, s144_7, s144_13, s144_14, s144_17, s144_20, s144_22, s144_25, s144_27, s144_31, ow_some, true_and, and_true, and_self, if_true, if_false, not_true, not_false_eq_true, Bool.false_eq_true, eq_self, Option.toList, List.cons_append, List.nil_append, ix_in, ix_cl, lt_in, lt_cl, lt_add, ix_one, vu_eq, vu_ne, arI_mk, arL_mk, arY_mZ, arY_mB, alen_mI, fld_sfl_ne, fld_sfl_same, Option.isSome_some, pok_i, b1z, b01, z10, b1o, Int32.zero_add, vu_vu, upd_eq, upd_ne, true_or, or_true, V.v1, V.v6, V.v7, V.v8, V.v9, V.i1, V.i6, V.i7, V.i8, V.i9, V.r2, V.r3, V.r4, V.r5, V.pl, V.a2, V.a3, V.a4, V.a5, r4, hP, l1, l2, a1, a2, c1]
    · have c1 : (nI P < (9 : Int32)) = True := eq_true (by rw [Int32.lt_iff_toInt_lt, nI_toInt (by omega)]; show (P : Int) < 9; omega)
      rw [if_neg hP9]
      simp (disch := first | omega | decide | assumption | exact Nat.le_of_ble_eq_true rfl) only [s144_0, s144_1, s144_4, s144_5, s144_7, s144_13, s144_14, s144_17, s144_20, s144_22, s144_30, s144_31, ow_some, true_and, and_true, and_self, if_true, if_false, not_true, not_false_eq_true, Bool.false_eq_true, eq_self, Option.toList, List.cons_append, List.nil_append, ix_in, ix_cl, lt_in, lt_cl, lt_add, ix_one, vu_eq, vu_ne, arI_mk, arL_mk, arY_mZ, arY_mB, alen_mI, fld_sfl_ne, fld_sfl_same, Option.isSome_some, pok_i, b1z, b01, z10, b1o, Int32.zero_add, vu_vu, upd_eq, upd_ne, true_or, or_true, V.v1, V.v6, V.v7, V.v8, V.v9, V.i1, V.i6, V.i7, V.i8, V.i9, V.r2, V.r3, V.r4, V.r5, V.pl, V.a2, V.a3, V.a4, V.a5, r4, hP, l1, l2, a1, a2, c1]
  · rw [if_neg h1]
    by_cases c : b.toInt < 0
    · have c' : (b.toInt < 0) = True := eq_true c
      simp (disch := first | omega | decide | assumption | exact Nat.le_of_ble_eq_true rfl) only [s144_0, s144_1, s144_10, s144_12, ow_some, true_and, and_true, and_self, if_true, if_false, not_true, not_false_eq_true, Bool.false_eq_true, eq_self, Option.toList, List.cons_append, List.nil_append, ix_in, ix_cl, lt_in, lt_cl, lt_add, ix_one, vu_eq, vu_ne, arI_mk, arL_mk, arY_mZ, arY_mB, alen_mI, fld_sfl_ne, fld_sfl_same, Option.isSome_some, pok_i, b1z, b01, z10, b1o, Int32.zero_add, vu_vu, upd_eq, upd_ne, true_or, or_true, l1, c']
    · have c' : (b.toInt < 0) = False := eq_false c
      have a2 : (b.toInt < 100) = False := eq_false (by omega)
      simp (disch := first | omega | decide | assumption | exact Nat.le_of_ble_eq_true rfl) only [s144_0, s144_1, s144_4, s144_5, s144_7, s144_10, s144_12, ow_some, true_and, and_true, and_self, if_true, if_false, not_true, not_false_eq_true, Bool.false_eq_true, eq_self, Option.toList, List.cons_append, List.nil_append, ix_in, ix_cl, lt_in, lt_cl, lt_add, ix_one, vu_eq, vu_ne, arI_mk, arL_mk, arY_mZ, arY_mB, alen_mI, fld_sfl_ne, fld_sfl_same, Option.isSome_some, pok_i, b1z, b01, z10, b1o, Int32.zero_add, vu_vu, upd_eq, upd_ne, true_or, or_true, l1, l2, c', a2]
theorem sp_swapC (H : HV f t) (L : LV f q y) (V : SV f 12 pl w x) (W : PV f pl v r C) (G : CR all S P w x v r C) (I : IS all S R P) (hd : AD 12 pl q) (O : XV f q br mo up li) (hq : q = 160) {b : Int32} {u2 : Value} : TT X (d + 5) 143 0 [.ref 0, .int b, u2] [] f N K (QX f N K q (o_swap all S P b)) := by
  have r4 := H.r4
  have r18 := H.r18
  have h9 := I.p9
  have hP : w 1 = nI P := by rw [G.w1]; exact I.eP
  have fin : SI 162 171 f f ∧ ∃ y' br mo up li, LV f q y' ∧ XV f q br mo up li := ⟨SI.rf, y, br, mo, up, li, L, O⟩
  simp (disch := first | omega | decide | assumption | exact Nat.le_of_ble_eq_true rfl) only [s143_0, s143_1, ow_some, true_and, and_true, and_self, if_true, if_false, not_true, not_false_eq_true, Bool.false_eq_true, eq_self, Option.toList, List.cons_append, List.nil_append, ix_in, ix_cl, lt_in, lt_cl, lt_add, ix_one, vu_eq, vu_ne, arI_mk, arL_mk, arY_mZ, arY_mB, alen_mI, fld_sfl_ne, fld_sfl_same, Option.isSome_some, pok_i, b1z, b01, z10, b1o, Int32.zero_add, vu_vu, upd_eq, upd_ne, true_or, or_true]
  rw [p143_2 H.cn (Nat.le_of_ble_eq_true rfl) (sp_refusesN H V hP h9)]
  unfold o_swap rfN
  by_cases h1 : 0 ≤ b.toInt ∧ b.toInt ≤ 99
  · rw [if_pos h1, if_pos h1]
    by_cases hP9 : P = 9
    · rw [if_pos hP9, if_pos hP9]
      simp (disch := first | omega | decide | assumption | exact Nat.le_of_ble_eq_true rfl) only [s143_5, s143_6, s143_7, s143_10, s143_11, s143_26, ow_some, true_and, and_true, and_self, if_true, if_false, not_true, not_false_eq_true, Bool.false_eq_true, eq_self, Option.toList, List.cons_append, List.nil_append, ix_in, ix_cl, lt_in, lt_cl, lt_add, ix_one, vu_eq, vu_ne, arI_mk, arL_mk, arY_mZ, arY_mB, alen_mI, fld_sfl_ne, fld_sfl_same, Option.isSome_some, pok_i, b1z, b01, z10, b1o, Int32.zero_add, vu_vu, upd_eq, upd_ne, true_or, or_true]
      exact ⟨rfl, rfl, fin.1, fin.2, rfl⟩
    · rw [if_neg hP9, if_neg hP9]
      obtain ⟨c, hc, rfl, hv⟩ := i9 (v := b) (N := 100) h1.1 (by omega) (by omega)
      simp (disch := first | omega | decide | assumption | exact Nat.le_of_ble_eq_true rfl) only [s143_5, s143_6, s143_7, s143_14, s143_15, s143_18, s143_19, s143_22, ow_some, true_and, and_true, and_self, if_true, if_false, not_true, not_false_eq_true, Bool.false_eq_true, eq_self, Option.toList, List.cons_append, List.nil_append, ix_in, ix_cl, lt_in, lt_cl, lt_add, ix_one, vu_eq, vu_ne, arI_mk, arL_mk, arY_mZ, arY_mB, alen_mI, fld_sfl_ne, fld_sfl_same, Option.isSome_some, pok_i, b1z, b01, z10, b1o, Int32.zero_add, vu_vu, upd_eq, upd_ne, true_or, or_true, r4, r18]
      refine k143_23 O.cn (Nat.le_of_ble_eq_true rfl) (sp_bestSwap L V W G I hd O hq hc (by omega)) ?_
      rintro f1 n1 k1 v1 ⟨rfl, rfl, s1, h1, rfl⟩
      simp (disch := first | omega | decide | assumption | exact Nat.le_of_ble_eq_true rfl) only [s143_26, ow_some, true_and, and_true, and_self, if_true, if_false, not_true, not_false_eq_true, Bool.false_eq_true, eq_self, Option.toList, List.cons_append, List.nil_append, ix_in, ix_cl, lt_in, lt_cl, lt_add, ix_one, vu_eq, vu_ne, arI_mk, arL_mk, arY_mZ, arY_mB, alen_mI, fld_sfl_ne, fld_sfl_same, Option.isSome_some, pok_i, b1z, b01, z10, b1o, Int32.zero_add, vu_vu, upd_eq, upd_ne, true_or, or_true]
      exact ⟨rfl, rfl, s1, h1, rfl⟩
  · rw [if_neg h1, if_neg h1]
    simp (disch := first | omega | decide | assumption | exact Nat.le_of_ble_eq_true rfl) only [s143_5, s143_6, s143_7, s143_10, s143_11, s143_26, ow_some, true_and, and_true, and_self, if_true, if_false, not_true, not_false_eq_true, Bool.false_eq_true, eq_self, Option.toList, List.cons_append, List.nil_append, ix_in, ix_cl, lt_in, lt_cl, lt_add, ix_one, vu_eq, vu_ne, arI_mk, arL_mk, arY_mZ, arY_mB, alen_mI, fld_sfl_ne, fld_sfl_same, Option.isSome_some, pok_i, b1z, b01, z10, b1o, Int32.zero_add, vu_vu, upd_eq, upd_ne, true_or, or_true]
    exact ⟨rfl, rfl, fin.1, fin.2, rfl⟩
end HOME

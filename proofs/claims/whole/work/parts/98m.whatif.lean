/-! the class: what if -/
section HOME
variable {X : Nat × (Nat → Int32)} {d N K pl C S R P q : Nat} {f : Nat → e_C} {y x r : Nat → Nat → Int32} {t w v all br mo up : Nat → Int32} {li : Nat → Int64}
theorem sp_sinksC (H : HV f t) (L : LV f q y) (V : SV f 12 pl w x) (W : PV f pl v r C) (G : CR all S P w x v r C) (I : IS all S R P) (hd : AD 12 pl q) (O : XV f q br mo up li) (hq : q = 160) : TT X (d + 5) 148 0 [.ref 0] [] f N K (QX f N K q (o_sinks all S P)) := by
  have r4 := H.r4
  have r18 := H.r18
  simp (disch := first | omega | decide | assumption | exact Nat.le_of_ble_eq_true rfl) only [s148_0, s148_1, s148_4, s148_5, ow_some, true_and, and_true, and_self, if_true, if_false, not_true, not_false_eq_true, Bool.false_eq_true, eq_self, Option.toList, List.cons_append, List.nil_append, ix_in, ix_cl, lt_in, lt_cl, lt_add, ix_one, vu_eq, vu_ne, arI_mk, arL_mk, arY_mZ, arY_mB, alen_mI, fld_sfl_ne, fld_sfl_same, Option.isSome_some, pok_i, b1z, b01, z10, b1o, Int32.zero_add, vu_vu, upd_eq, upd_ne, true_or, or_true, r4, r18]
  refine k148_8 O.cn (Nat.le_of_ble_eq_true rfl) (sp_firstSunk L V W G I hd O hq) ?_
  rintro f1 n1 k1 v1 ⟨rfl, rfl, s1, h1, rfl⟩
  simp (disch := first | omega | decide | assumption | exact Nat.le_of_ble_eq_true rfl) only [s148_11, ow_some, true_and, and_true, and_self, if_true, if_false, not_true, not_false_eq_true, Bool.false_eq_true, eq_self, Option.toList, List.cons_append, List.nil_append, ix_in, ix_cl, lt_in, lt_cl, lt_add, ix_one, vu_eq, vu_ne, arI_mk, arL_mk, arY_mZ, arY_mB, alen_mI, fld_sfl_ne, fld_sfl_same, Option.isSome_some, pok_i, b1z, b01, z10, b1o, Int32.zero_add, vu_vu, upd_eq, upd_ne, true_or, or_true]
  exact ⟨rfl, rfl, s1, h1, rfl⟩
theorem sp_insteadC (H : HV f t) (L : LV f q y) (V : SV f 12 pl w x) (W : PV f pl v r C) (G : CR all S P w x v r C) (I : IS all S R P) (hd : AD 12 pl q) (O : XV f q br mo up li) (hq : q = 160) {p : Int32} : TT X (d + 5) 142 0 [.ref 0, .int p] [] f N K (QX f N K q (o_instead all S P p)) := by
  have r4 := H.r4
  have r18 := H.r18
  have h9 := I.p9
  have hP : w 1 = nI P := by rw [G.w1]; exact I.eP
  have hT : w 6 = nI (nT all) := by rw [G.w6]; exact I.eT
  have fin : SI 162 171 f f ∧ ∃ y' br mo up li, LV f q y' ∧ XV f q br mo up li := ⟨SI.rf, y, br, mo, up, li, L, O⟩
  simp (disch := first | omega | decide | assumption | exact Nat.le_of_ble_eq_true rfl) only [s142_0, s142_1, s142_4, ow_some, true_and, and_true, and_self, if_true, if_false, not_true, not_false_eq_true, Bool.false_eq_true, eq_self, Option.toList, List.cons_append, List.nil_append, ix_in, ix_cl, lt_in, lt_cl, lt_add, ix_one, vu_eq, vu_ne, arI_mk, arL_mk, arY_mZ, arY_mB, alen_mI, fld_sfl_ne, fld_sfl_same, Option.isSome_some, pok_i, b1z, b01, z10, b1o, Int32.zero_add, vu_vu, upd_eq, upd_ne, true_or, or_true, r4]
  rw [p142_5 V.cn (Nat.le_of_ble_eq_true rfl) (sp_isTold V hP h9)]
  unfold o_instead
  by_cases h1 : 0 ≤ p.toInt ∧ p.toInt < P
  · obtain ⟨j, hj, rfl, hv⟩ := i9 (v := p) (N := 9) h1.1 (by omega) (by omega)
    have hjP : j < P := by omega
    rw [if_pos h1, if_pos h1]
    simp only [hv, Int.toNat_natCast]
    simp (disch := first | omega | decide | assumption | exact Nat.le_of_ble_eq_true rfl) only [s142_8, s142_14, s142_15, s142_18, ow_some, true_and, and_true, and_self, if_true, if_false, not_true, not_false_eq_true, Bool.false_eq_true, eq_self, Option.toList, List.cons_append, List.nil_append, ix_in, ix_cl, lt_in, lt_cl, lt_add, ix_one, vu_eq, vu_ne, arI_mk, arL_mk, arY_mZ, arY_mB, alen_mI, fld_sfl_ne, fld_sfl_same, Option.isSome_some, pok_i, b1z, b01, z10, b1o, Int32.zero_add, vu_vu, upd_eq, upd_ne, true_or, or_true, r4]
    rw [p142_19 V.cn (Nat.le_of_ble_eq_true rfl) (sp_isTj V hP h9 hT I.t5 hjP)]
    by_cases hb : (nT all).testBit j = true
    · rw [if_pos hb]
      by_cases hP9 : P = 9
      · rw [if_pos (Or.inr hP9)]
        have c1 : (nI P < (9 : Int32)) = False := by rw [hP9]; decide
        simp (disch := first | omega | decide | assumption | exact Nat.le_of_ble_eq_true rfl) only [s142_22, s142_25, s142_26, s142_29, s142_32, s142_34, s142_37, s142_39, ow_some, true_and, and_true, and_self, if_true, if_false, not_true, not_false_eq_true, Bool.false_eq_true, eq_self, Option.toList, List.cons_append, List.nil_append, ix_in, ix_cl, lt_in, lt_cl, lt_add, ix_one, vu_eq, vu_ne, arI_mk, arL_mk, arY_mZ, arY_mB, alen_mI, fld_sfl_ne, fld_sfl_same, Option.isSome_some, pok_i, b1z, b01, z10, b1o, Int32.zero_add, vu_vu, upd_eq, upd_ne, true_or, or_true, V.v1, V.v6, V.v7, V.v8, V.v9, V.i1, V.i6, V.i7, V.i8, V.i9, V.r2, V.r3, V.r4, V.r5, V.pl, V.a2, V.a3, V.a4, V.a5, r4, hP, c1]
        exact ⟨rfl, rfl, fin.1, fin.2, rfl⟩
      · rw [if_neg (show ¬ (¬ (nT all).testBit j = true ∨ P = 9) by rintro (z | z); exact z hb; exact hP9 z)]
        have c1 : (nI P < (9 : Int32)) = True := eq_true (by rw [Int32.lt_iff_toInt_lt, nI_toInt (by omega)]; show (P : Int) < 9; omega)
        simp (disch := first | omega | decide | assumption | exact Nat.le_of_ble_eq_true rfl) only [s142_22, s142_25, s142_26, s142_29, s142_32, s142_34, s142_40, s142_41, s142_44, s142_45, s142_48, ow_some, true_and, and_true, and_self, if_true, if_false, not_true, not_false_eq_true, Bool.false_eq_true, eq_self, Option.toList, List.cons_append, List.nil_append, ix_in, ix_cl, lt_in, lt_cl, lt_add, ix_one, vu_eq, vu_ne, arI_mk, arL_mk, arY_mZ, arY_mB, alen_mI, fld_sfl_ne, fld_sfl_same, Option.isSome_some, pok_i, b1z, b01, z10, b1o, Int32.zero_add, vu_vu, upd_eq, upd_ne, true_or, or_true, V.v1, V.v6, V.v7, V.v8, V.v9, V.i1, V.i6, V.i7, V.i8, V.i9, V.r2, V.r3, V.r4, V.r5, V.pl, V.a2, V.a3, V.a4, V.a5, r4, r18, hP, c1]
        refine k142_49 O.cn (Nat.le_of_ble_eq_true rfl) (sp_leastInstead L V W G I hd O hq hjP (by omega)) ?_
        rintro f1 n1 k1 v1 ⟨rfl, rfl, s1, h1, rfl⟩
        simp (disch := first | omega | decide | assumption | exact Nat.le_of_ble_eq_true rfl) only [s142_52, ow_some, true_and, and_true, and_self, if_true, if_false, not_true, not_false_eq_true, Bool.false_eq_true, eq_self, Option.toList, List.cons_append, List.nil_append, ix_in, ix_cl, lt_in, lt_cl, lt_add, ix_one, vu_eq, vu_ne, arI_mk, arL_mk, arY_mZ, arY_mB, alen_mI, fld_sfl_ne, fld_sfl_same, Option.isSome_some, pok_i, b1z, b01, z10, b1o, Int32.zero_add, vu_vu, upd_eq, upd_ne, true_or, or_true]
        exact ⟨rfl, rfl, s1, h1, rfl⟩
    · rw [if_neg hb, if_pos (Or.inl hb)]
      simp (disch := first | omega | decide | assumption | exact Nat.le_of_ble_eq_true rfl) only [s142_22, s142_37, s142_39, ow_some, true_and, and_true, and_self, if_true, if_false, not_true, not_false_eq_true, Bool.false_eq_true, eq_self, Option.toList, List.cons_append, List.nil_append, ix_in, ix_cl, lt_in, lt_cl, lt_add, ix_one, vu_eq, vu_ne, arI_mk, arL_mk, arY_mZ, arY_mB, alen_mI, fld_sfl_ne, fld_sfl_same, Option.isSome_some, pok_i, b1z, b01, z10, b1o, Int32.zero_add, vu_vu, upd_eq, upd_ne, true_or, or_true]
      exact ⟨rfl, rfl, fin.1, fin.2, rfl⟩
  · rw [if_neg h1, if_neg h1]
    simp (disch := first | omega | decide | assumption | exact Nat.le_of_ble_eq_true rfl) only [s142_8, s142_11, s142_13, ow_some, true_and, and_true, and_self, if_true, if_false, not_true, not_false_eq_true, Bool.false_eq_true, eq_self, Option.toList, List.cons_append, List.nil_append, ix_in, ix_cl, lt_in, lt_cl, lt_add, ix_one, vu_eq, vu_ne, arI_mk, arL_mk, arY_mZ, arY_mB, alen_mI, fld_sfl_ne, fld_sfl_same, Option.isSome_some, pok_i, b1z, b01, z10, b1o, Int32.zero_add, vu_vu, upd_eq, upd_ne, true_or, or_true]
    exact ⟨rfl, rfl, fin.1, fin.2, rfl⟩
end HOME

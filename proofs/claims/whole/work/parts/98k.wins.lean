/-! the class: who wins, and how long it lasts -/
section HOME
variable {X : Nat × (Nat → Int32)} {d N K pl C S R P : Nat} {f : Nat → e_C} {y x r : Nat → Nat → Int32} {t w v all tb : Nat → Int32}
theorem gm_sg (I : IS all S R P) (h2 : m_hold all S P (nT all) = true) : gtb all S P (nT all) = gm all S P (nT all) ∧ (gm all S P (nT all) ≤ 0) = (gm all S P (nT all) < 0) := by
  have hh : m_h all S P (nT all) = true := by unfold m_h; rw [sub_rf, h2]; rfl
  have hb := (gb_all (all := all) (S := S) I.p9 (nT all + 1) (nT all) (by omega) I.tP).2.2
  refine ⟨by unfold gtb; rw [if_pos hh], ?_⟩
  rw [Int32.le_iff_toInt_le, Int32.lt_iff_toInt_lt]
  have e0 : ((0 : Int32)).toInt = 0 := by decide
  rw [e0]
  exact propext (by omega)
theorem sp_winsC (H : HV f t) (L : LV f 128 y) (V : SV f 12 pl w x) (W : PV f pl v r C) (G : CR all S P w x v r C) (I : IS all S R P) (hd : AD 12 pl 128) (O : OV f tb) (hm : mfl all S P) : TT X (d + 6) 154 0 [.ref 0] [] f N K (QS f N K (o_wins all S P)) := by
  have r4 := H.r4
  have r15 := H.r15
  have g9 := G.w9
  unfold o_wins
  rcases hm with ⟨h1, h2⟩ | ⟨h1, h2⟩
  · rw [if_pos h2]
    obtain ⟨e1, e2⟩ := gm_sg I h2
    simp (disch := first | omega | decide | assumption | exact Nat.le_of_ble_eq_true rfl) only [s154_0, s154_1, s154_4, s154_7, s154_13, s154_14, s154_17, s154_18, ow_some, true_and, and_true, and_self, if_true, if_false, not_true, not_false_eq_true, Bool.false_eq_true, eq_self, Option.toList, List.cons_append, List.nil_append, ix_in, ix_cl, lt_in, lt_cl, lt_add, ix_one, vu_eq, vu_ne, arI_mk, arL_mk, arY_mZ, arY_mB, alen_mI, fld_sfl_ne, fld_sfl_same, Option.isSome_some, pok_i, b1z, b01, z10, b1o, Int32.zero_add, vu_vu, upd_eq, upd_ne, true_or, or_true, V.v1, V.v6, V.v7, V.v8, V.v9, V.i1, V.i6, V.i7, V.i8, V.i9, V.r2, V.r3, V.r4, V.r5, V.pl, V.a2, V.a3, V.a4, V.a5, r4, r15, g9, h1]
    refine k154_21 O.cn (Nat.le_of_ble_eq_true rfl) (sp_play L V W G I hd O) ?_
    rintro f1 n1 k1 v1 ⟨rfl, rfl, s1, ⟨y1, t1, L1, O1, -⟩, rfl⟩
    rw [e1]
    by_cases hg : gm all S P (nT all) < 0
    · have hg' : (gm all S P (nT all) < 0) = True := eq_true hg
      rw [if_pos hg]
      simp (disch := first | omega | decide | assumption | exact Nat.le_of_ble_eq_true rfl) only [s154_24, s154_27, s154_28, s154_31, s154_32, ow_some, true_and, and_true, and_self, if_true, if_false, not_true, not_false_eq_true, Bool.false_eq_true, eq_self, Option.toList, List.cons_append, List.nil_append, ix_in, ix_cl, lt_in, lt_cl, lt_add, ix_one, vu_eq, vu_ne, arI_mk, arL_mk, arY_mZ, arY_mB, alen_mI, fld_sfl_ne, fld_sfl_same, Option.isSome_some, pok_i, b1z, b01, z10, b1o, Int32.zero_add, vu_vu, upd_eq, upd_ne, true_or, or_true, e2, hg']
      exact ⟨rfl, rfl, s1, ⟨y1, t1, L1, O1⟩, rfl⟩
    · have hg' : (gm all S P (nT all) < 0) = False := eq_false hg
      rw [if_neg hg]
      simp (disch := first | omega | decide | assumption | exact Nat.le_of_ble_eq_true rfl) only [s154_24, s154_27, s154_28, s154_31, s154_32, ow_some, true_and, and_true, and_self, if_true, if_false, not_true, not_false_eq_true, Bool.false_eq_true, eq_self, Option.toList, List.cons_append, List.nil_append, ix_in, ix_cl, lt_in, lt_cl, lt_add, ix_one, vu_eq, vu_ne, arI_mk, arL_mk, arY_mZ, arY_mB, alen_mI, fld_sfl_ne, fld_sfl_same, Option.isSome_some, pok_i, b1z, b01, z10, b1o, Int32.zero_add, vu_vu, upd_eq, upd_ne, true_or, or_true, e2, hg']
      exact ⟨rfl, rfl, s1, ⟨y1, t1, L1, O1⟩, rfl⟩
  · rw [if_neg (show ¬ m_hold all S P (nT all) = true by rw [h2]; decide)]
    simp (disch := first | omega | decide | assumption | exact Nat.le_of_ble_eq_true rfl) only [s154_0, s154_1, s154_4, s154_7, s154_10, s154_12, ow_some, true_and, and_true, and_self, if_true, if_false, not_true, not_false_eq_true, Bool.false_eq_true, eq_self, Option.toList, List.cons_append, List.nil_append, ix_in, ix_cl, lt_in, lt_cl, lt_add, ix_one, vu_eq, vu_ne, arI_mk, arL_mk, arY_mZ, arY_mB, alen_mI, fld_sfl_ne, fld_sfl_same, Option.isSome_some, pok_i, b1z, b01, z10, b1o, Int32.zero_add, vu_vu, upd_eq, upd_ne, true_or, or_true, V.v1, V.v6, V.v7, V.v8, V.v9, V.i1, V.i6, V.i7, V.i8, V.i9, V.r2, V.r3, V.r4, V.r5, V.pl, V.a2, V.a3, V.a4, V.a5, r4, g9, h1]
    exact ⟨rfl, rfl, SI.rf, ⟨y, tb, L, O⟩, rfl⟩
theorem sp_lastsC (H : HV f t) (L : LV f 128 y) (V : SV f 12 pl w x) (W : PV f pl v r C) (G : CR all S P w x v r C) (I : IS all S R P) (hd : AD 12 pl 128) (O : OV f tb) (hm : mfl all S P) {u1 : Value} : TT X (d + 6) 156 0 [.ref 0, u1] [] f N K (QS f N K (o_lasts all S P)) := by
  have r4 := H.r4
  have r15 := H.r15
  have g9 := G.w9
  unfold o_lasts
  rcases hm with ⟨h1, h2⟩ | ⟨h1, h2⟩
  · rw [if_pos h2]
    obtain ⟨e1, e2⟩ := gm_sg I h2
    simp (disch := first | omega | decide | assumption | exact Nat.le_of_ble_eq_true rfl) only [s156_0, s156_1, s156_4, s156_7, s156_13, s156_14, s156_17, s156_18, ow_some, true_and, and_true, and_self, if_true, if_false, not_true, not_false_eq_true, Bool.false_eq_true, eq_self, Option.toList, List.cons_append, List.nil_append, ix_in, ix_cl, lt_in, lt_cl, lt_add, ix_one, vu_eq, vu_ne, arI_mk, arL_mk, arY_mZ, arY_mB, alen_mI, fld_sfl_ne, fld_sfl_same, Option.isSome_some, pok_i, b1z, b01, z10, b1o, Int32.zero_add, vu_vu, upd_eq, upd_ne, true_or, or_true, V.v1, V.v6, V.v7, V.v8, V.v9, V.i1, V.i6, V.i7, V.i8, V.i9, V.r2, V.r3, V.r4, V.r5, V.pl, V.a2, V.a3, V.a4, V.a5, r4, r15, g9, h1]
    refine k156_21 O.cn (Nat.le_of_ble_eq_true rfl) (sp_play L V W G I hd O) ?_
    rintro f1 n1 k1 v1 ⟨rfl, rfl, s1, ⟨y1, t1, L1, O1, -⟩, rfl⟩
    rw [e1]
    by_cases hg : gm all S P (nT all) < 0
    · have hg' : (gm all S P (nT all) < 0) = True := eq_true hg
      rw [if_pos hg]
      simp (disch := first | omega | decide | assumption | exact Nat.le_of_ble_eq_true rfl) only [s156_24, s156_25, s156_26, s156_33, s156_34, s156_35, s156_36, s156_37, ow_some, true_and, and_true, and_self, if_true, if_false, not_true, not_false_eq_true, Bool.false_eq_true, eq_self, Option.toList, List.cons_append, List.nil_append, ix_in, ix_cl, lt_in, lt_cl, lt_add, ix_one, vu_eq, vu_ne, arI_mk, arL_mk, arY_mZ, arY_mB, alen_mI, fld_sfl_ne, fld_sfl_same, Option.isSome_some, pok_i, b1z, b01, z10, b1o, Int32.zero_add, vu_vu, upd_eq, upd_ne, true_or, or_true, e2, hg']
      exact ⟨rfl, rfl, s1, ⟨y1, t1, L1, O1⟩, rfl⟩
    · have hg' : (gm all S P (nT all) < 0) = False := eq_false hg
      rw [if_neg hg]
      simp (disch := first | omega | decide | assumption | exact Nat.le_of_ble_eq_true rfl) only [s156_24, s156_25, s156_26, s156_29, s156_30, s156_37, ow_some, true_and, and_true, and_self, if_true, if_false, not_true, not_false_eq_true, Bool.false_eq_true, eq_self, Option.toList, List.cons_append, List.nil_append, ix_in, ix_cl, lt_in, lt_cl, lt_add, ix_one, vu_eq, vu_ne, arI_mk, arL_mk, arY_mZ, arY_mB, alen_mI, fld_sfl_ne, fld_sfl_same, Option.isSome_some, pok_i, b1z, b01, z10, b1o, Int32.zero_add, vu_vu, upd_eq, upd_ne, true_or, or_true, e2, hg']
      exact ⟨rfl, rfl, s1, ⟨y1, t1, L1, O1⟩, rfl⟩
  · rw [if_neg (show ¬ m_hold all S P (nT all) = true by rw [h2]; decide)]
    simp (disch := first | omega | decide | assumption | exact Nat.le_of_ble_eq_true rfl) only [s156_0, s156_1, s156_4, s156_7, s156_10, s156_12, ow_some, true_and, and_true, and_self, if_true, if_false, not_true, not_false_eq_true, Bool.false_eq_true, eq_self, Option.toList, List.cons_append, List.nil_append, ix_in, ix_cl, lt_in, lt_cl, lt_add, ix_one, vu_eq, vu_ne, arI_mk, arL_mk, arY_mZ, arY_mB, alen_mI, fld_sfl_ne, fld_sfl_same, Option.isSome_some, pok_i, b1z, b01, z10, b1o, Int32.zero_add, vu_vu, upd_eq, upd_ne, true_or, or_true, V.v1, V.v6, V.v7, V.v8, V.v9, V.i1, V.i6, V.i7, V.i8, V.i9, V.r2, V.r3, V.r4, V.r5, V.pl, V.a2, V.a3, V.a4, V.a5, r4, g9, h1]
    exact ⟨rfl, rfl, SI.rf, ⟨y, tb, L, O⟩, rfl⟩
end HOME

/-! the class: the game, the pillar, what holds -/
section HOME
variable {X : Nat × (Nat → Int32)} {d N K pl C S R P : Nat} {f : Nat → e_C} {y x r : Nat → Nat → Int32} {t w v all tb : Nat → Int32}
theorem sp_pillarC (H : HV f t) (L : LV f 128 y) (V : SV f 12 pl w x) (W : PV f pl v r C) (G : CR all S P w x v r C) (I : IS all S R P) (hd : AD 12 pl 128) (O : OV f tb) : TT X (d + 6) 159 0 [.ref 0] [] f N K (QS f N K (o_pillar all S P)) := by
  have r4 := H.r4
  have r15 := H.r15
  simp (disch := first | omega | decide | assumption | exact Nat.le_of_ble_eq_true rfl) only [s159_0, s159_1, s159_4, s159_5, ow_some, true_and, and_true, and_self, if_true, if_false, not_true, not_false_eq_true, Bool.false_eq_true, eq_self, Option.toList, List.cons_append, List.nil_append, ix_in, ix_cl, lt_in, lt_cl, lt_add, ix_one, vu_eq, vu_ne, arI_mk, arL_mk, arY_mZ, arY_mB, alen_mI, fld_sfl_ne, fld_sfl_same, Option.isSome_some, pok_i, b1z, b01, z10, b1o, Int32.zero_add, vu_vu, upd_eq, upd_ne, true_or, or_true, r4, r15]
  refine k159_8 O.cn (Nat.le_of_ble_eq_true rfl) (sp_greatestShare L V W G I hd O) ?_
  rintro f1 n1 k1 v1 ⟨rfl, rfl, s1, h1, rfl⟩
  simp (disch := first | omega | decide | assumption | exact Nat.le_of_ble_eq_true rfl) only [s159_11, ow_some, true_and, and_true, and_self, if_true, if_false, not_true, not_false_eq_true, Bool.false_eq_true, eq_self, Option.toList, List.cons_append, List.nil_append, ix_in, ix_cl, lt_in, lt_cl, lt_add, ix_one, vu_eq, vu_ne, arI_mk, arL_mk, arY_mZ, arY_mB, alen_mI, fld_sfl_ne, fld_sfl_same, Option.isSome_some, pok_i, b1z, b01, z10, b1o, Int32.zero_add, vu_vu, upd_eq, upd_ne, true_or, or_true]
  exact ⟨rfl, rfl, s1, h1, rfl⟩
theorem sp_bestC (H : HV f t) (L : LV f 128 y) (V : SV f 12 pl w x) (W : PV f pl v r C) (G : CR all S P w x v r C) (I : IS all S R P) (hd : AD 12 pl 128) (O : OV f tb) (hm : mfl all S P) : TT X (d + 6) 155 0 [.ref 0] [] f N K (QS f N K (o_best all S P)) := by
  have r4 := H.r4
  have r15 := H.r15
  have g9 := G.w9
  unfold o_best
  rcases hm with ⟨h1, h2⟩ | ⟨h1, h2⟩
  · rw [if_pos h2]
    simp (disch := first | omega | decide | assumption | exact Nat.le_of_ble_eq_true rfl) only [s155_0, s155_1, s155_4, s155_7, s155_15, s155_16, s155_19, s155_20, ow_some, true_and, and_true, and_self, if_true, if_false, not_true, not_false_eq_true, Bool.false_eq_true, eq_self, Option.toList, List.cons_append, List.nil_append, ix_in, ix_cl, lt_in, lt_cl, lt_add, ix_one, vu_eq, vu_ne, arI_mk, arL_mk, arY_mZ, arY_mB, alen_mI, fld_sfl_ne, fld_sfl_same, Option.isSome_some, pok_i, b1z, b01, z10, b1o, Int32.zero_add, vu_vu, upd_eq, upd_ne, true_or, or_true, V.v1, V.v6, V.v7, V.v8, V.v9, V.i1, V.i6, V.i7, V.i8, V.i9, V.r2, V.r3, V.r4, V.r5, V.pl, V.a2, V.a3, V.a4, V.a5, r4, r15, g9, h1]
    refine k155_23 O.cn (Nat.le_of_ble_eq_true rfl) (sp_winningMove L V W G I hd O) ?_
    rintro f1 n1 k1 v1 ⟨rfl, rfl, s1, h1, rfl⟩
    simp (disch := first | omega | decide | assumption | exact Nat.le_of_ble_eq_true rfl) only [s155_26, ow_some, true_and, and_true, and_self, if_true, if_false, not_true, not_false_eq_true, Bool.false_eq_true, eq_self, Option.toList, List.cons_append, List.nil_append, ix_in, ix_cl, lt_in, lt_cl, lt_add, ix_one, vu_eq, vu_ne, arI_mk, arL_mk, arY_mZ, arY_mB, alen_mI, fld_sfl_ne, fld_sfl_same, Option.isSome_some, pok_i, b1z, b01, z10, b1o, Int32.zero_add, vu_vu, upd_eq, upd_ne, true_or, or_true]
    exact ⟨rfl, rfl, s1, h1, rfl⟩
  · rw [if_neg (show ¬ m_hold all S P (nT all) = true by rw [h2]; decide)]
    simp (disch := first | omega | decide | assumption | exact Nat.le_of_ble_eq_true rfl) only [s155_0, s155_1, s155_4, s155_7, s155_10, s155_12, s155_26, ow_some, true_and, and_true, and_self, if_true, if_false, not_true, not_false_eq_true, Bool.false_eq_true, eq_self, Option.toList, List.cons_append, List.nil_append, ix_in, ix_cl, lt_in, lt_cl, lt_add, ix_one, vu_eq, vu_ne, arI_mk, arL_mk, arY_mZ, arY_mB, alen_mI, fld_sfl_ne, fld_sfl_same, Option.isSome_some, pok_i, b1z, b01, z10, b1o, Int32.zero_add, vu_vu, upd_eq, upd_ne, true_or, or_true, V.v1, V.v6, V.v7, V.v8, V.v9, V.i1, V.i6, V.i7, V.i8, V.i9, V.r2, V.r3, V.r4, V.r5, V.pl, V.a2, V.a3, V.a4, V.a5, r4, g9, h1]
    exact ⟨rfl, rfl, SI.rf, ⟨y, tb, L, O⟩, rfl⟩
theorem sp_holdsC (H : HV f t) (L : LV f 112 y) (V : SV f 12 pl w x) (W : PV f pl v r C) (G : CR all S P w x v r C) (I : IS all S R P) (hd : AD 12 pl 112) {z : Int32} : TT X (d + 4) 135 0 [.ref 0, .int z] [] f N K (QL f N K (o_holds all S P z)) := by
  have r4 := H.r4
  have r13 := H.r13
  have hT : w 6 = nI (nT all) := by rw [G.w6]; exact I.eT
  unfold o_holds
  by_cases h1 : z &&& (nI (nT all) ^^^ -1) = 0
  · rw [if_pos h1]
    have h1' := h1
    rw [part_x I.t5] at h1'
    obtain ⟨u, hu, rfl, hs⟩ := h1'
    have h1'' : (nI u &&& (nI (nT all) ^^^ -1) = 0) = True := eq_true h1
    simp (disch := first | omega | decide | assumption | exact Nat.le_of_ble_eq_true rfl) only [s135_0, s135_1, s135_2, s135_5, s135_8, s135_9, s135_10, s135_11, s135_17, s135_18, s135_21, s135_22, ow_some, true_and, and_true, and_self, if_true, if_false, not_true, not_false_eq_true, Bool.false_eq_true, eq_self, Option.toList, List.cons_append, List.nil_append, ix_in, ix_cl, lt_in, lt_cl, lt_add, ix_one, vu_eq, vu_ne, arI_mk, arL_mk, arY_mZ, arY_mB, alen_mI, fld_sfl_ne, fld_sfl_same, Option.isSome_some, pok_i, b1z, b01, z10, b1o, Int32.zero_add, vu_vu, upd_eq, upd_ne, true_or, or_true, V.v1, V.v6, V.v7, V.v8, V.v9, V.i1, V.i6, V.i7, V.i8, V.i9, V.r2, V.r3, V.r4, V.r5, V.pl, V.a2, V.a3, V.a4, V.a5, r4, r13, hT, h1'']
    refine k135_25 L.cn (Nat.le_of_ble_eq_true rfl) (sp_weigh L V W G I hd) ?_
    rintro f1 n1 k1 v1 ⟨rfl, rfl, rfl, s1, y1, L1, -, hw1⟩
    have H1 := H.fr (f' := f1) (s1 0 (by omega))
    have V1 := V.fr (f' := f1) (fun b h1 h2 => s1 b (by omega))
    have W1 := W.fr (f' := f1) (fun b h1 h2 => s1 b (by omega))
    have r4' := H1.r4
    have r13' := H1.r13
    simp (disch := first | omega | decide | assumption | exact Nat.le_of_ble_eq_true rfl) only [s135_28, s135_29, s135_32, s135_33, s135_36, ow_some, true_and, and_true, and_self, if_true, if_false, not_true, not_false_eq_true, Bool.false_eq_true, eq_self, Option.toList, List.cons_append, List.nil_append, ix_in, ix_cl, lt_in, lt_cl, lt_add, ix_one, vu_eq, vu_ne, arI_mk, arL_mk, arY_mZ, arY_mB, alen_mI, fld_sfl_ne, fld_sfl_same, Option.isSome_some, pok_i, b1z, b01, z10, b1o, Int32.zero_add, vu_vu, upd_eq, upd_ne, true_or, or_true, r4', r13']
    refine k135_37 L1.cn (Nat.le_of_ble_eq_true rfl) (sp_slackOf L1 V1 W1 G I hd hs hw1) ?_
    rintro f2 n2 k2 v2 ⟨rfl, rfl, s2, ⟨y2, L2, -⟩, rfl⟩
    have eu : (nI u).toInt.toNat = u := by rw [nI_toInt (by omega)]; omega
    rw [eu]
    have hh := sp_lt0 (all := all) (S := S) (P := P) (T := u)
    have s3 : SI 114 119 f f2 := (s1.wd (by omega) (by omega)).tr (s2.wd (by omega) (by omega))
    by_cases h2 : m_hold all S P u = true
    · have h2' : (¬ m_hold all S P u = true) = False := eq_false (fun z => z h2)
      rw [if_pos h2]
      simp (disch := first | omega | decide | assumption | exact Nat.le_of_ble_eq_true rfl) only [s135_40, s135_43, s135_44, s135_47, s135_48, ow_some, true_and, and_true, and_self, if_true, if_false, not_true, not_false_eq_true, Bool.false_eq_true, eq_self, Option.toList, List.cons_append, List.nil_append, ix_in, ix_cl, lt_in, lt_cl, lt_add, ix_one, vu_eq, vu_ne, arI_mk, arL_mk, arY_mZ, arY_mB, alen_mI, fld_sfl_ne, fld_sfl_same, Option.isSome_some, pok_i, b1z, b01, z10, b1o, Int32.zero_add, vu_vu, upd_eq, upd_ne, true_or, or_true, hh, h2']
      exact ⟨rfl, rfl, s3, ⟨_, L2⟩, rfl⟩
    · have h2' : (¬ m_hold all S P u = true) = True := eq_true h2
      rw [if_neg h2]
      simp (disch := first | omega | decide | assumption | exact Nat.le_of_ble_eq_true rfl) only [s135_40, s135_43, s135_44, s135_47, s135_48, ow_some, true_and, and_true, and_self, if_true, if_false, not_true, not_false_eq_true, Bool.false_eq_true, eq_self, Option.toList, List.cons_append, List.nil_append, ix_in, ix_cl, lt_in, lt_cl, lt_add, ix_one, vu_eq, vu_ne, arI_mk, arL_mk, arY_mZ, arY_mB, alen_mI, fld_sfl_ne, fld_sfl_same, Option.isSome_some, pok_i, b1z, b01, z10, b1o, Int32.zero_add, vu_vu, upd_eq, upd_ne, true_or, or_true, hh, h2']
      exact ⟨rfl, rfl, s3, ⟨_, L2⟩, rfl⟩
  · have h1' : (z &&& (nI (nT all) ^^^ -1) = 0) = False := eq_false h1
    rw [if_neg h1]
    simp (disch := first | omega | decide | assumption | exact Nat.le_of_ble_eq_true rfl) only [s135_0, s135_1, s135_2, s135_5, s135_8, s135_9, s135_10, s135_11, s135_14, s135_16, ow_some, true_and, and_true, and_self, if_true, if_false, not_true, not_false_eq_true, Bool.false_eq_true, eq_self, Option.toList, List.cons_append, List.nil_append, ix_in, ix_cl, lt_in, lt_cl, lt_add, ix_one, vu_eq, vu_ne, arI_mk, arL_mk, arY_mZ, arY_mB, alen_mI, fld_sfl_ne, fld_sfl_same, Option.isSome_some, pok_i, b1z, b01, z10, b1o, Int32.zero_add, vu_vu, upd_eq, upd_ne, true_or, or_true, V.v1, V.v6, V.v7, V.v8, V.v9, V.i1, V.i6, V.i7, V.i8, V.i9, V.r2, V.r3, V.r4, V.r5, V.pl, V.a2, V.a3, V.a4, V.a5, r4, hT, h1']
    exact ⟨rfl, rfl, SI.rf, ⟨y, L⟩, rfl⟩
end HOME

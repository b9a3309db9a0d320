/-! the reference: chances -/
def FR (all : Nat → Int32) : Prop := ∀ p, p < 9 → ∃ r, r ≤ 10 ∧ all (25 + p) = nI r
def fr (all : Nat → Int32) (p : Nat) : Nat := (all (25 + p)).toNatClampNeg
theorem FR.at {all : Nat → Int32} (h : FR all) {p : Nat} (hp : p < 9) : fr all p ≤ 10 ∧ all (25 + p) = nI (fr all p) := by
  obtain ⟨r, hr, he⟩ := h p hp
  have : fr all p = r := by unfold fr; rw [he]; exact ix_cl (by omega)
  rw [this]; exact ⟨hr, he⟩
def c_st (all : Nat → Int32) (set p a : Nat) : Nat := if (nT all).testBit p = true then a * (if set.testBit p = true then 10 - fr all p else fr all p) else a
def c_w (all : Nat → Int32) (P set : Nat) : Nat := fo (c_st all set) 1 P
theorem c_le {all : Nat → Int32} (h : FR all) {set : Nat} : ∀ {j : Nat}, j ≤ 9 → fo (c_st all set) 1 j ≤ 10 ^ j := by
  intro j
  induction j with
  | zero => intro _; exact Nat.le_refl _
  | succ j ih =>
    intro hj
    have h1 := ih (by omega)
    have h2 := (h.at (show j < 9 by omega)).1
    rw [fo_s, Nat.pow_succ]
    generalize fo (c_st all set) 1 j = q at h1 ⊢
    unfold c_st
    split
    · split
      · exact Nat.mul_le_mul h1 (by omega)
      · exact Nat.mul_le_mul h1 h2
    · omega
theorem c_le9 {all : Nat → Int32} (h : FR all) {set j : Nat} (hj : j ≤ 9) : fo (c_st all set) 1 j ≤ 1000000000 := Nat.le_trans (c_le h hj) (Nat.pow_le_pow_right (by decide) hj)
def c_ns (all : Nat → Int32) (S P set a : Nat) : Nat := if (sub set (nT all) && decide (0 < c_w all P set) && m_hold all S P set) = true then a + c_w all P set else a
def c_now (all : Nat → Int32) (S P : Nat) : Nat := fo (c_ns all S P) 0 (2 ^ P)
theorem cn_le {all : Nat → Int32} (h : FR all) {S P : Nat} (hP : P ≤ 9) : ∀ {j : Nat}, fo (c_ns all S P) 0 j ≤ j * 1000000000 := by
  intro j
  induction j with
  | zero => exact Nat.zero_le _
  | succ j ih =>
    have h1 : c_w all P j ≤ 1000000000 := c_le9 h (set := j) hP
    rw [fo_s]
    generalize fo (c_ns all S P) 0 j = q at ih ⊢
    unfold c_ns
    generalize c_w all P j = r at h1 ⊢
    rw [Nat.succ_mul]
    split
    · exact Nat.add_le_add ih h1
    · exact Nat.le_trans ih (Nat.le_add_right _ _)
theorem l0I : (0 : Int64).toInt = 0 := by decide
theorem sp_chanceNow {X : Nat × (Nat → Int32)} {d N K : Nat} {f : Nat → e_C} {s : m_T} {S P : Nat} (V : MV f s) (W : WF s.1 S P) (hF : FR s.1) {a1 a2 a3 a4 a5 a6 : Value} : TT X (d + 6) 290 0 [.ref 171, a1, a2, a3, a4, a5, a6] [] f N K (MP N K f s (some (.long (lI (c_now s.1 S P))))) := by
  have A4 := W.1.2.2.2.1
  have h9 := W.1.2.2.2.2.1
  have hp9 := pw9 h9
  have e2 := p2 P (by omega)
  simp (disch := first | omega | decide | assumption | exact Nat.le_of_ble_eq_true rfl) only [s290_0, s290_1, s290_2, h290_3, ow_some, true_and, and_true, and_self, if_true, if_false, not_true, not_false_eq_true, Bool.false_eq_true, eq_self, Option.toList, List.cons_append, List.nil_append, ix_in, ix_cl, lt_in, lt_cl, lt_add, ix_one, vu_eq, vu_ne, arI_mk, arL_mk, arY_mZ, arY_mB, alen_mI, fld_sfl_ne, fld_sfl_same, Option.isSome_some, pok_i, b1z, b01, z10, b1o, Int32.zero_add, vu_vu, upd_eq, upd_ne, true_or, or_true, V.r1, V.r2, V.r3, V.r4, V.r16, V.r17, V.r18, V.r19, V.r20, V.r23, V.r24, V.r25, V.r26, V.r27, V.r28, V.r29, V.r30, V.c172, V.c173, V.c174, V.c186, V.c187, V.c188, V.n5, V.n13, V.n14, V.i0, V.i5, V.i6, V.i7, V.i8, V.i9, V.i10, V.i11, V.i12, V.i13, V.i14, V.i15, V.i21, V.i22]
  refine lp (fun j g (z : Nat × Value × Value × Value) => SM f g ∧ MV g s ∧ z.1 = fo (c_ns s.1 S P) 0 j) (fun j z => [.ref 171, .long (lI z.1), .double 0, .int (nI j), z.2.1, z.2.2.1, z.2.2.2]) (2 ^ P) ?_ ?_ 0 f (0, a4, a5, a6) (Nat.zero_le _) ⟨SM.rf, V, rfl⟩
  · rintro j g ⟨a, u4, u5, u6⟩ hj ⟨sm, V1, ha⟩ hI
    simp only at ha
    have hc : (2 ^ P ≤ j) = False := eq_false (by omega)
    have skip : ∀ g u4 u5 u6, SM f g → MV g s → fo (c_ns s.1 S P) 0 (j + 1) = a → TT X (d + 6) 290 130 [.ref 171, .long (lI a), .double 0, .int (nI j), u4, u5, u6] [] g N K (MP N K f s (some (.long (lI (c_now s.1 S P))))) := by
      intro g u4 u5 u6 sm V2 he
      simp (disch := first | omega | decide | assumption | exact Nat.le_of_ble_eq_true rfl) only [s290_130, h290_133, ow_some, true_and, and_true, and_self, if_true, if_false, not_true, not_false_eq_true, Bool.false_eq_true, eq_self, Option.toList, List.cons_append, List.nil_append, ix_in, ix_cl, lt_in, lt_cl, lt_add, ix_one, vu_eq, vu_ne, arI_mk, arL_mk, arY_mZ, arY_mB, alen_mI, fld_sfl_ne, fld_sfl_same, Option.isSome_some, pok_i, b1z, b01, z10, b1o, Int32.zero_add, vu_vu, upd_eq, upd_ne, true_or, or_true, V2.r1, V2.r2, V2.r3, V2.r4, V2.r16, V2.r17, V2.r18, V2.r19, V2.r20, V2.r23, V2.r24, V2.r25, V2.r26, V2.r27, V2.r28, V2.r29, V2.r30, V2.c172, V2.c173, V2.c174, V2.c186, V2.c187, V2.c188, V2.n5, V2.n13, V2.n14, V2.i0, V2.i5, V2.i6, V2.i7, V2.i8, V2.i9, V2.i10, V2.i11, V2.i12, V2.i13, V2.i14, V2.i15, V2.i21, V2.i22]
      exact hI g (a, u4, u5, u6) ⟨sm, V2, he.symm⟩
    simp (disch := first | omega | decide | assumption | exact Nat.le_of_ble_eq_true rfl) only [s290_4, s290_5, s290_6, s290_7, s290_10, s290_12, s290_13, s290_14, s290_17, s290_18, s290_19, s290_22, s290_24, ow_some, true_and, and_true, and_self, if_true, if_false, not_true, not_false_eq_true, Bool.false_eq_true, eq_self, Option.toList, List.cons_append, List.nil_append, ix_in, ix_cl, lt_in, lt_cl, lt_add, ix_one, vu_eq, vu_ne, arI_mk, arL_mk, arY_mZ, arY_mB, alen_mI, fld_sfl_ne, fld_sfl_same, Option.isSome_some, pok_i, b1z, b01, z10, b1o, Int32.zero_add, vu_vu, upd_eq, upd_ne, true_or, or_true, V1.r1, V1.r2, V1.r3, V1.r4, V1.r16, V1.r17, V1.r18, V1.r19, V1.r20, V1.r23, V1.r24, V1.r25, V1.r26, V1.r27, V1.r28, V1.r29, V1.r30, V1.c172, V1.c173, V1.c174, V1.c186, V1.c187, V1.c188, V1.n5, V1.n13, V1.n14, V1.i0, V1.i5, V1.i6, V1.i7, V1.i8, V1.i9, V1.i10, V1.i11, V1.i12, V1.i13, V1.i14, V1.i15, V1.i21, V1.i22, A4, e2, ix_le, hc, W.2.1]
    rw [p290_25 (Nat.le_of_ble_eq_true rfl) (sp_isPartN (show j < 512 by omega) W.T)]
    by_cases h1 : sub j (nT s.1) = true
    · simp (disch := first | omega | decide | assumption | exact Nat.le_of_ble_eq_true rfl) only [s290_28, s290_31, s290_34, s290_35, s290_37, h290_38, ow_some, true_and, and_true, and_self, if_true, if_false, not_true, not_false_eq_true, Bool.false_eq_true, eq_self, Option.toList, List.cons_append, List.nil_append, ix_in, ix_cl, lt_in, lt_cl, lt_add, ix_one, vu_eq, vu_ne, arI_mk, arL_mk, arY_mZ, arY_mB, alen_mI, fld_sfl_ne, fld_sfl_same, Option.isSome_some, pok_i, b1z, b01, z10, b1o, Int32.zero_add, vu_vu, upd_eq, upd_ne, true_or, or_true, V1.r1, V1.r2, V1.r3, V1.r4, V1.r16, V1.r17, V1.r18, V1.r19, V1.r20, V1.r23, V1.r24, V1.r25, V1.r26, V1.r27, V1.r28, V1.r29, V1.r30, V1.c172, V1.c173, V1.c174, V1.c186, V1.c187, V1.c188, V1.n5, V1.n13, V1.n14, V1.i0, V1.i5, V1.i6, V1.i7, V1.i8, V1.i9, V1.i10, V1.i11, V1.i12, V1.i13, V1.i14, V1.i15, V1.i21, V1.i22, h1]
      refine lp (fun p g' (b : Nat) => g' = g ∧ b = fo (c_st s.1 j) 1 p) (fun p b => [.ref 171, .long (lI a), .double 0, .int (nI j), .long (lI b), .double 0, .int (nI p)]) P ?_ ?_ 0 g 1 (by omega) ⟨rfl, rfl⟩
      · rintro p g' b hp ⟨rfl, hb⟩ hJ
        have hc2 : (P ≤ p) = False := eq_false (by omega)
        obtain ⟨f1, f2⟩ := hF.at (show p < 9 by omega)
        have e10 : (10 : Int32) - nI (fr s.1 p) = nI (10 - fr s.1 p) := by rw [lit_nI 10]; exact pk_sub f1
        simp (disch := first | omega | decide | assumption | exact Nat.le_of_ble_eq_true rfl) only [s290_40, s290_42, s290_43, s290_46, s290_48, s290_49, s290_52, s290_53, ow_some, true_and, and_true, and_self, if_true, if_false, not_true, not_false_eq_true, Bool.false_eq_true, eq_self, Option.toList, List.cons_append, List.nil_append, ix_in, ix_cl, lt_in, lt_cl, lt_add, ix_one, vu_eq, vu_ne, arI_mk, arL_mk, arY_mZ, arY_mB, alen_mI, fld_sfl_ne, fld_sfl_same, Option.isSome_some, pok_i, b1z, b01, z10, b1o, Int32.zero_add, vu_vu, upd_eq, upd_ne, true_or, or_true, V1.r1, V1.r2, V1.r3, V1.r4, V1.r16, V1.r17, V1.r18, V1.r19, V1.r20, V1.r23, V1.r24, V1.r25, V1.r26, V1.r27, V1.r28, V1.r29, V1.r30, V1.c172, V1.c173, V1.c174, V1.c186, V1.c187, V1.c188, V1.n5, V1.n13, V1.n14, V1.i0, V1.i5, V1.i6, V1.i7, V1.i8, V1.i9, V1.i10, V1.i11, V1.i12, V1.i13, V1.i14, V1.i15, V1.i21, V1.i22, A4, ix_le, hc2]
        rw [p290_55 (cno_MR V1.mr) (Nat.le_of_ble_eq_true rfl) (sp_isThere V1.mr V1.c172 W.2.1 W.T (show p < 9 by omega))]
        by_cases h2 : (nT s.1).testBit p = true
        · simp (disch := first | omega | decide | assumption | exact Nat.le_of_ble_eq_true rfl) only [s290_58, s290_61, s290_63, s290_64, s290_65, ow_some, true_and, and_true, and_self, if_true, if_false, not_true, not_false_eq_true, Bool.false_eq_true, eq_self, Option.toList, List.cons_append, List.nil_append, ix_in, ix_cl, lt_in, lt_cl, lt_add, ix_one, vu_eq, vu_ne, arI_mk, arL_mk, arY_mZ, arY_mB, alen_mI, fld_sfl_ne, fld_sfl_same, Option.isSome_some, pok_i, b1z, b01, z10, b1o, Int32.zero_add, vu_vu, upd_eq, upd_ne, true_or, or_true, V1.r1, V1.r2, V1.r3, V1.r4, V1.r16, V1.r17, V1.r18, V1.r19, V1.r20, V1.r23, V1.r24, V1.r25, V1.r26, V1.r27, V1.r28, V1.r29, V1.r30, V1.c172, V1.c173, V1.c174, V1.c186, V1.c187, V1.c188, V1.n5, V1.n13, V1.n14, V1.i0, V1.i5, V1.i6, V1.i7, V1.i8, V1.i9, V1.i10, V1.i11, V1.i12, V1.i13, V1.i14, V1.i15, V1.i21, V1.i22, h2]
          rw [p290_67 (Nat.le_of_ble_eq_true rfl) (sp_isIn (show j < 512 by omega) (show p < 9 by omega))]
          by_cases h3 : j.testBit p = true
          · simp (disch := first | omega | decide | assumption | exact Nat.le_of_ble_eq_true rfl) only [s290_70, s290_73, s290_75, s290_76, s290_79, s290_81, s290_83, s290_84, s290_85, s290_86, s290_87, s290_90, s290_91, s290_94, s290_96, s290_98, s290_99, s290_100, s290_101, s290_102, s290_104, h290_107, ow_some, true_and, and_true, and_self, if_true, if_false, not_true, not_false_eq_true, Bool.false_eq_true, eq_self, Option.toList, List.cons_append, List.nil_append, ix_in, ix_cl, lt_in, lt_cl, lt_add, ix_one, vu_eq, vu_ne, arI_mk, arL_mk, arY_mZ, arY_mB, alen_mI, fld_sfl_ne, fld_sfl_same, Option.isSome_some, pok_i, b1z, b01, z10, b1o, Int32.zero_add, vu_vu, upd_eq, upd_ne, true_or, or_true, V1.r1, V1.r2, V1.r3, V1.r4, V1.r16, V1.r17, V1.r18, V1.r19, V1.r20, V1.r23, V1.r24, V1.r25, V1.r26, V1.r27, V1.r28, V1.r29, V1.r30, V1.c172, V1.c173, V1.c174, V1.c186, V1.c187, V1.c188, V1.n5, V1.n13, V1.n14, V1.i0, V1.i5, V1.i6, V1.i7, V1.i8, V1.i9, V1.i10, V1.i11, V1.i12, V1.i13, V1.i14, V1.i15, V1.i21, V1.i22, h3, f2, e10, nI_lI, lI_mul]
            refine hJ _ _ ⟨rfl, ?_⟩
            rw [fo_s, ← hb, c_st, if_pos h2, if_pos h3]
          · simp (disch := first | omega | decide | assumption | exact Nat.le_of_ble_eq_true rfl) only [s290_70, s290_90, s290_91, s290_94, s290_96, s290_98, s290_99, s290_100, s290_101, s290_102, s290_104, h290_107, ow_some, true_and, and_true, and_self, if_true, if_false, not_true, not_false_eq_true, Bool.false_eq_true, eq_self, Option.toList, List.cons_append, List.nil_append, ix_in, ix_cl, lt_in, lt_cl, lt_add, ix_one, vu_eq, vu_ne, arI_mk, arL_mk, arY_mZ, arY_mB, alen_mI, fld_sfl_ne, fld_sfl_same, Option.isSome_some, pok_i, b1z, b01, z10, b1o, Int32.zero_add, vu_vu, upd_eq, upd_ne, true_or, or_true, V1.r1, V1.r2, V1.r3, V1.r4, V1.r16, V1.r17, V1.r18, V1.r19, V1.r20, V1.r23, V1.r24, V1.r25, V1.r26, V1.r27, V1.r28, V1.r29, V1.r30, V1.c172, V1.c173, V1.c174, V1.c186, V1.c187, V1.c188, V1.n5, V1.n13, V1.n14, V1.i0, V1.i5, V1.i6, V1.i7, V1.i8, V1.i9, V1.i10, V1.i11, V1.i12, V1.i13, V1.i14, V1.i15, V1.i21, V1.i22, h3, f2, nI_lI, lI_mul]
            refine hJ _ _ ⟨rfl, ?_⟩
            rw [fo_s, ← hb, c_st, if_pos h2, if_neg h3]
        · simp (disch := first | omega | decide | assumption | exact Nat.le_of_ble_eq_true rfl) only [s290_58, s290_104, h290_107, ow_some, true_and, and_true, and_self, if_true, if_false, not_true, not_false_eq_true, Bool.false_eq_true, eq_self, Option.toList, List.cons_append, List.nil_append, ix_in, ix_cl, lt_in, lt_cl, lt_add, ix_one, vu_eq, vu_ne, arI_mk, arL_mk, arY_mZ, arY_mB, alen_mI, fld_sfl_ne, fld_sfl_same, Option.isSome_some, pok_i, b1z, b01, z10, b1o, Int32.zero_add, vu_vu, upd_eq, upd_ne, true_or, or_true, V1.r1, V1.r2, V1.r3, V1.r4, V1.r16, V1.r17, V1.r18, V1.r19, V1.r20, V1.r23, V1.r24, V1.r25, V1.r26, V1.r27, V1.r28, V1.r29, V1.r30, V1.c172, V1.c173, V1.c174, V1.c186, V1.c187, V1.c188, V1.n5, V1.n13, V1.n14, V1.i0, V1.i5, V1.i6, V1.i7, V1.i8, V1.i9, V1.i10, V1.i11, V1.i12, V1.i13, V1.i14, V1.i15, V1.i21, V1.i22, h2]
          refine hJ _ _ ⟨rfl, ?_⟩
          rw [fo_s, ← hb, c_st, if_neg h2]
      · rintro g' b ⟨rfl, hb⟩
        have hb9 : b ≤ 1000000000 := by rw [hb]; exact c_le9 hF h9
        have hbw : b = c_w s.1 P j := hb
        have hz : (lg_cmp (lI b) 0 ≤ 0) = (b ≤ 0) := by
          rw [lg_le, lI_toInt (by omega), l0I]; apply propext; omega
        by_cases h4 : b = 0
        · have hz2 : (b ≤ 0) = True := eq_true (by omega)
          simp (disch := first | omega | decide | assumption | exact Nat.le_of_ble_eq_true rfl) only [s290_40, s290_42, s290_43, s290_46, s290_48, s290_49, s290_110, s290_112, s290_113, s290_114, ow_some, true_and, and_true, and_self, if_true, if_false, not_true, not_false_eq_true, Bool.false_eq_true, eq_self, Option.toList, List.cons_append, List.nil_append, ix_in, ix_cl, lt_in, lt_cl, lt_add, ix_one, vu_eq, vu_ne, arI_mk, arL_mk, arY_mZ, arY_mB, alen_mI, fld_sfl_ne, fld_sfl_same, Option.isSome_some, pok_i, b1z, b01, z10, b1o, Int32.zero_add, vu_vu, upd_eq, upd_ne, true_or, or_true, V1.r1, V1.r2, V1.r3, V1.r4, V1.r16, V1.r17, V1.r18, V1.r19, V1.r20, V1.r23, V1.r24, V1.r25, V1.r26, V1.r27, V1.r28, V1.r29, V1.r30, V1.c172, V1.c173, V1.c174, V1.c186, V1.c187, V1.c188, V1.n5, V1.n13, V1.n14, V1.i0, V1.i5, V1.i6, V1.i7, V1.i8, V1.i9, V1.i10, V1.i11, V1.i12, V1.i13, V1.i14, V1.i15, V1.i21, V1.i22, A4, ix_le, Nat.le_refl, hz, hz2]
          refine skip _ _ _ _ sm V1 ?_
          rw [fo_s, ← ha]
          unfold c_ns
          rw [← hbw, h4]; simp
        · have hz2 : (b ≤ 0) = False := eq_false (by omega)
          simp (disch := first | omega | decide | assumption | exact Nat.le_of_ble_eq_true rfl) only [s290_40, s290_42, s290_43, s290_46, s290_48, s290_49, s290_110, s290_112, s290_113, s290_114, s290_117, s290_118, ow_some, true_and, and_true, and_self, if_true, if_false, not_true, not_false_eq_true, Bool.false_eq_true, eq_self, Option.toList, List.cons_append, List.nil_append, ix_in, ix_cl, lt_in, lt_cl, lt_add, ix_one, vu_eq, vu_ne, arI_mk, arL_mk, arY_mZ, arY_mB, alen_mI, fld_sfl_ne, fld_sfl_same, Option.isSome_some, pok_i, b1z, b01, z10, b1o, Int32.zero_add, vu_vu, upd_eq, upd_ne, true_or, or_true, V1.r1, V1.r2, V1.r3, V1.r4, V1.r16, V1.r17, V1.r18, V1.r19, V1.r20, V1.r23, V1.r24, V1.r25, V1.r26, V1.r27, V1.r28, V1.r29, V1.r30, V1.c172, V1.c173, V1.c174, V1.c186, V1.c187, V1.c188, V1.n5, V1.n13, V1.n14, V1.i0, V1.i5, V1.i6, V1.i7, V1.i8, V1.i9, V1.i10, V1.i11, V1.i12, V1.i13, V1.i14, V1.i15, V1.i21, V1.i22, A4, ix_le, Nat.le_refl, hz, hz2]
          refine k290_119 (cno_MR V1.mr) (Nat.le_of_ble_eq_true rfl) (vb_hold V1 W (show j < 512 by omega)) ?_
          rintro g1 n1 k1 v1 ⟨rfl, rfl, sm1, V2, rfl⟩
          by_cases h5 : m_hold s.1 S P j = true
          · simp (disch := first | omega | decide | assumption | exact Nat.le_of_ble_eq_true rfl) only [s290_122, s290_125, s290_126, s290_128, s290_129, s290_130, h290_133, ow_some, true_and, and_true, and_self, if_true, if_false, not_true, not_false_eq_true, Bool.false_eq_true, eq_self, Option.toList, List.cons_append, List.nil_append, ix_in, ix_cl, lt_in, lt_cl, lt_add, ix_one, vu_eq, vu_ne, arI_mk, arL_mk, arY_mZ, arY_mB, alen_mI, fld_sfl_ne, fld_sfl_same, Option.isSome_some, pok_i, b1z, b01, z10, b1o, Int32.zero_add, vu_vu, upd_eq, upd_ne, true_or, or_true, V2.r1, V2.r2, V2.r3, V2.r4, V2.r16, V2.r17, V2.r18, V2.r19, V2.r20, V2.r23, V2.r24, V2.r25, V2.r26, V2.r27, V2.r28, V2.r29, V2.r30, V2.c172, V2.c173, V2.c174, V2.c186, V2.c187, V2.c188, V2.n5, V2.n13, V2.n14, V2.i0, V2.i5, V2.i6, V2.i7, V2.i8, V2.i9, V2.i10, V2.i11, V2.i12, V2.i13, V2.i14, V2.i15, V2.i21, V2.i22, h5, lI_add]
            refine hI g1 (a + b, _, _, _) ⟨sm.tr sm1, V2, ?_⟩
            show a + b = _
            rw [fo_s, ← ha]
            unfold c_ns
            have : 0 < b := by omega
            rw [← hbw, h1, h5, if_pos (by simp [this])]
          · simp (disch := first | omega | decide | assumption | exact Nat.le_of_ble_eq_true rfl) only [s290_122, ow_some, true_and, and_true, and_self, if_true, if_false, not_true, not_false_eq_true, Bool.false_eq_true, eq_self, Option.toList, List.cons_append, List.nil_append, ix_in, ix_cl, lt_in, lt_cl, lt_add, ix_one, vu_eq, vu_ne, arI_mk, arL_mk, arY_mZ, arY_mB, alen_mI, fld_sfl_ne, fld_sfl_same, Option.isSome_some, pok_i, b1z, b01, z10, b1o, Int32.zero_add, vu_vu, upd_eq, upd_ne, true_or, or_true, V2.r1, V2.r2, V2.r3, V2.r4, V2.r16, V2.r17, V2.r18, V2.r19, V2.r20, V2.r23, V2.r24, V2.r25, V2.r26, V2.r27, V2.r28, V2.r29, V2.r30, V2.c172, V2.c173, V2.c174, V2.c186, V2.c187, V2.c188, V2.n5, V2.n13, V2.n14, V2.i0, V2.i5, V2.i6, V2.i7, V2.i8, V2.i9, V2.i10, V2.i11, V2.i12, V2.i13, V2.i14, V2.i15, V2.i21, V2.i22, h5]
            refine skip _ _ _ _ (sm.tr sm1) V2 ?_
            rw [fo_s, ← ha]
            unfold c_ns
            rw [Bool.not_eq_true] at h5
            rw [h5]; simp
    · simp (disch := first | omega | decide | assumption | exact Nat.le_of_ble_eq_true rfl) only [s290_28, s290_31, ow_some, true_and, and_true, and_self, if_true, if_false, not_true, not_false_eq_true, Bool.false_eq_true, eq_self, Option.toList, List.cons_append, List.nil_append, ix_in, ix_cl, lt_in, lt_cl, lt_add, ix_one, vu_eq, vu_ne, arI_mk, arL_mk, arY_mZ, arY_mB, alen_mI, fld_sfl_ne, fld_sfl_same, Option.isSome_some, pok_i, b1z, b01, z10, b1o, Int32.zero_add, vu_vu, upd_eq, upd_ne, true_or, or_true, V1.r1, V1.r2, V1.r3, V1.r4, V1.r16, V1.r17, V1.r18, V1.r19, V1.r20, V1.r23, V1.r24, V1.r25, V1.r26, V1.r27, V1.r28, V1.r29, V1.r30, V1.c172, V1.c173, V1.c174, V1.c186, V1.c187, V1.c188, V1.n5, V1.n13, V1.n14, V1.i0, V1.i5, V1.i6, V1.i7, V1.i8, V1.i9, V1.i10, V1.i11, V1.i12, V1.i13, V1.i14, V1.i15, V1.i21, V1.i22, h1]
      refine skip _ _ _ _ sm V1 ?_
      rw [fo_s, ← ha]
      unfold c_ns
      rw [Bool.not_eq_true] at h1
      rw [h1]; simp
  · rintro g ⟨a, u4, u5, u6⟩ ⟨sm, V1, ha⟩
    simp only at ha
    simp (disch := first | omega | decide | assumption | exact Nat.le_of_ble_eq_true rfl) only [s290_4, s290_5, s290_6, s290_7, s290_10, s290_12, s290_13, s290_14, s290_136, s290_137, ow_some, true_and, and_true, and_self, if_true, if_false, not_true, not_false_eq_true, Bool.false_eq_true, eq_self, Option.toList, List.cons_append, List.nil_append, ix_in, ix_cl, lt_in, lt_cl, lt_add, ix_one, vu_eq, vu_ne, arI_mk, arL_mk, arY_mZ, arY_mB, alen_mI, fld_sfl_ne, fld_sfl_same, Option.isSome_some, pok_i, b1z, b01, z10, b1o, Int32.zero_add, vu_vu, upd_eq, upd_ne, true_or, or_true, V1.r1, V1.r2, V1.r3, V1.r4, V1.r16, V1.r17, V1.r18, V1.r19, V1.r20, V1.r23, V1.r24, V1.r25, V1.r26, V1.r27, V1.r28, V1.r29, V1.r30, V1.c172, V1.c173, V1.c174, V1.c186, V1.c187, V1.c188, V1.n5, V1.n13, V1.n14, V1.i0, V1.i5, V1.i6, V1.i7, V1.i8, V1.i9, V1.i10, V1.i11, V1.i12, V1.i13, V1.i14, V1.i15, V1.i21, V1.i22, A4, e2, ix_le, Nat.le_refl]
    exact ⟨rfl, rfl, sm, V1, by rw [ha]; rfl⟩
theorem sp_tens {X : Nat × (Nat → Int32)} {d N K : Nat} {f : Nat → e_C} {n : Nat} (hn : n ≤ 9) {a1 a2 a3 : Value} : PU X d 291 [.int (nI n), a1, a2, a3] f N K (some (.long (lI (10 ^ n)))) := by
  unfold PU
  simp (disch := first | omega | decide | assumption | exact Nat.le_of_ble_eq_true rfl) only [s291_0, s291_1, s291_2, h291_3, ow_some, true_and, and_true, and_self, if_true, if_false, not_true, not_false_eq_true, Bool.false_eq_true, eq_self, Option.toList, List.cons_append, List.nil_append, ix_in, ix_cl, lt_in, lt_cl, lt_add, ix_one, vu_eq, vu_ne, arI_mk, arL_mk, arY_mZ, arY_mB, alen_mI, fld_sfl_ne, fld_sfl_same, Option.isSome_some, pok_i, b1z, b01, z10, b1o, Int32.zero_add, vu_vu, upd_eq, upd_ne, true_or, or_true]
  refine lp (fun j g (_ : Unit) => g = f) (fun j _ => [.int (nI n), .long (lI (10 ^ j)), .double 0, .int (nI j)]) n ?_ ?_ 0 f () (by omega) rfl
  · rintro j g _ hj rfl hI
    have hc : (n ≤ j) = False := eq_false (by omega)
    have e10 : lI (10 ^ j) * 10 = lI (10 ^ (j + 1)) := by rw [Nat.pow_succ, ← lI_mul]; rfl
    simp (disch := first | omega | decide | assumption | exact Nat.le_of_ble_eq_true rfl) only [s291_4, s291_5, s291_6, s291_9, s291_10, s291_13, s291_14, s291_15, h291_18, ow_some, true_and, and_true, and_self, if_true, if_false, not_true, not_false_eq_true, Bool.false_eq_true, eq_self, Option.toList, List.cons_append, List.nil_append, ix_in, ix_cl, lt_in, lt_cl, lt_add, ix_one, vu_eq, vu_ne, arI_mk, arL_mk, arY_mZ, arY_mB, alen_mI, fld_sfl_ne, fld_sfl_same, Option.isSome_some, pok_i, b1z, b01, z10, b1o, Int32.zero_add, vu_vu, upd_eq, upd_ne, true_or, or_true, ix_le, hc, e10]
    exact hI _ () rfl
  · rintro g _ rfl
    simp (disch := first | omega | decide | assumption | exact Nat.le_of_ble_eq_true rfl) only [s291_4, s291_5, s291_6, s291_21, s291_22, ow_some, true_and, and_true, and_self, if_true, if_false, not_true, not_false_eq_true, Bool.false_eq_true, eq_self, Option.toList, List.cons_append, List.nil_append, ix_in, ix_cl, lt_in, lt_cl, lt_add, ix_one, vu_eq, vu_ne, arI_mk, arL_mk, arY_mZ, arY_mB, alen_mI, fld_sfl_ne, fld_sfl_same, Option.isSome_some, pok_i, b1z, b01, z10, b1o, Int32.zero_add, vu_vu, upd_eq, upd_ne, true_or, or_true, ix_le, Nat.le_refl]
def o_chance (all : Nat → Int32) (S P : Nat) (w : Int32) : Int64 := if 0 ≤ w.toInt ∧ w.toInt ≤ 1 then lI ((if w = 0 then c_now all S P else 10 ^ bits (nT all)) / Nat.gcd (c_now all S P) (10 ^ bits (nT all))) else -2
theorem sp_chance {X : Nat × (Nat → Int32)} {d N K : Nat} {f : Nat → e_C} {s : m_T} {S P : Nat} (V : MV f s) (W : WF s.1 S P) (hF : FR s.1) {w : Int32} {a2 a3 a4 a5 a6 a7 : Value} : TT X (d + 70) 289 0 [.ref 171, .int w, a2, a3, a4, a5, a6, a7] [] f N K (fun f' n' k' v => n' = N ∧ k' = K ∧ SW f f' ∧ MV f' s ∧ v = some (.long (o_chance s.1 S P w))) := by
  simp only [s289_0, s289_1, s289_2, V.i0, pok_i, true_and]
  have sm0 : SM f (va_up f 171 (sfl (f 171) 0 (.int 0))) := SM.up (by omega) (by omega)
  have V0 := V.num (j := 0) (x := 0) (by decide)
  generalize va_up f 171 (sfl (f 171) 0 (.int 0)) = f0 at sm0 V0 ⊢
  simp (disch := first | omega | decide | assumption | exact Nat.le_of_ble_eq_true rfl) only [s289_5, ow_some, true_and, and_true, and_self, if_true, if_false, not_true, not_false_eq_true, Bool.false_eq_true, eq_self, Option.toList, List.cons_append, List.nil_append, ix_in, ix_cl, lt_in, lt_cl, lt_add, ix_one, vu_eq, vu_ne, arI_mk, arL_mk, arY_mZ, arY_mB, alen_mI, fld_sfl_ne, fld_sfl_same, Option.isSome_some, pok_i, b1z, b01, z10, b1o, Int32.zero_add, vu_vu, upd_eq, upd_ne, true_or, or_true, V0.r1, V0.r2, V0.r3, V0.r4, V0.r16, V0.r17, V0.r18, V0.r19, V0.r20, V0.r23, V0.r24, V0.r25, V0.r26, V0.r27, V0.r28, V0.r29, V0.r30, V0.c172, V0.c173, V0.c174, V0.c186, V0.c187, V0.c188, V0.n5, V0.n13, V0.n14, V0.i0, V0.i5, V0.i6, V0.i7, V0.i8, V0.i9, V0.i10, V0.i11, V0.i12, V0.i13, V0.i14, V0.i15, V0.i21, V0.i22]
  rw [p289_6 (Nat.le_of_ble_eq_true rfl) sp_isWhat]
  simp only [wh1]
  unfold o_chance
  have h9 := W.1.2.2.2.2.1
  by_cases h1 : 0 ≤ w.toInt ∧ w.toInt ≤ 1
  · rw [if_pos h1]
    simp (disch := first | omega | decide | assumption | exact Nat.le_of_ble_eq_true rfl) only [s289_9, s289_12, s289_15, s289_16, ow_some, true_and, and_true, and_self, if_true, if_false, not_true, not_false_eq_true, Bool.false_eq_true, eq_self, Option.toList, List.cons_append, List.nil_append, ix_in, ix_cl, lt_in, lt_cl, lt_add, ix_one, vu_eq, vu_ne, arI_mk, arL_mk, arY_mZ, arY_mB, alen_mI, fld_sfl_ne, fld_sfl_same, Option.isSome_some, pok_i, b1z, b01, z10, b1o, Int32.zero_add, vu_vu, upd_eq, upd_ne, true_or, or_true, V0.r1, V0.r2, V0.r3, V0.r4, V0.r16, V0.r17, V0.r18, V0.r19, V0.r20, V0.r23, V0.r24, V0.r25, V0.r26, V0.r27, V0.r28, V0.r29, V0.r30, V0.c172, V0.c173, V0.c174, V0.c186, V0.c187, V0.c188, V0.n5, V0.n13, V0.n14, V0.i0, V0.i5, V0.i6, V0.i7, V0.i8, V0.i9, V0.i10, V0.i11, V0.i12, V0.i13, V0.i14, V0.i15, V0.i21, V0.i22, h1]
    refine k289_17 (cno_MR V0.mr) (Nat.le_of_ble_eq_true rfl) (sp_chanceNow V0 W hF) ?_
    rintro f1 n1 k1 v1 ⟨rfl, rfl, sm1, V1, rfl⟩
    simp (disch := first | omega | decide | assumption | exact Nat.le_of_ble_eq_true rfl) only [s289_20, s289_21, s289_22, s289_25, s289_27, ow_some, true_and, and_true, and_self, if_true, if_false, not_true, not_false_eq_true, Bool.false_eq_true, eq_self, Option.toList, List.cons_append, List.nil_append, ix_in, ix_cl, lt_in, lt_cl, lt_add, ix_one, vu_eq, vu_ne, arI_mk, arL_mk, arY_mZ, arY_mB, alen_mI, fld_sfl_ne, fld_sfl_same, Option.isSome_some, pok_i, b1z, b01, z10, b1o, Int32.zero_add, vu_vu, upd_eq, upd_ne, true_or, or_true, V1.r1, V1.r2, V1.r3, V1.r4, V1.r16, V1.r17, V1.r18, V1.r19, V1.r20, V1.r23, V1.r24, V1.r25, V1.r26, V1.r27, V1.r28, V1.r29, V1.r30, V1.c172, V1.c173, V1.c174, V1.c186, V1.c187, V1.c188, V1.n5, V1.n13, V1.n14, V1.i0, V1.i5, V1.i6, V1.i7, V1.i8, V1.i9, V1.i10, V1.i11, V1.i12, V1.i13, V1.i14, V1.i15, V1.i21, V1.i22, W.2.1]
    rw [p289_28 (Nat.le_of_ble_eq_true rfl) (sp_bitsOf W.T)]
    simp (disch := first | omega | decide | assumption | exact Nat.le_of_ble_eq_true rfl) only [ow_some, true_and, and_true, and_self, if_true, if_false, not_true, not_false_eq_true, Bool.false_eq_true, eq_self, Option.toList, List.cons_append, List.nil_append, ix_in, ix_cl, lt_in, lt_cl, lt_add, ix_one, vu_eq, vu_ne, arI_mk, arL_mk, arY_mZ, arY_mB, alen_mI, fld_sfl_ne, fld_sfl_same, Option.isSome_some, pok_i, b1z, b01, z10, b1o, Int32.zero_add, vu_vu, upd_eq, upd_ne, true_or, or_true, V1.r1, V1.r2, V1.r3, V1.r4, V1.r16, V1.r17, V1.r18, V1.r19, V1.r20, V1.r23, V1.r24, V1.r25, V1.r26, V1.r27, V1.r28, V1.r29, V1.r30, V1.c172, V1.c173, V1.c174, V1.c186, V1.c187, V1.c188, V1.n5, V1.n13, V1.n14, V1.i0, V1.i5, V1.i6, V1.i7, V1.i8, V1.i9, V1.i10, V1.i11, V1.i12, V1.i13, V1.i14, V1.i15, V1.i21, V1.i22]
    have hb9 := bits_lt (T := nT s.1)
    rw [p289_31 (Nat.le_of_ble_eq_true rfl) (sp_tens (n := m_bits (nT s.1) 9) hb9)]
    have hcl : c_now s.1 S P ≤ 512 * 1000000000 := Nat.le_trans (cn_le hF h9) (Nat.mul_le_mul_right _ (pw9 h9))
    have hwl : 10 ^ m_bits (nT s.1) 9 ≤ 1000000000 := Nat.pow_le_pow_right (by decide) hb9
    have hwp : 0 < 10 ^ m_bits (nT s.1) 9 := Nat.pow_pos (by decide)
    have hbits : bits (nT s.1) = m_bits (nT s.1) 9 := rfl
    rw [hbits]
    generalize c_now s.1 S P = above at *
    generalize 10 ^ m_bits (nT s.1) 9 = whole at *
    have g1 : 0 < Nat.gcd above whole := Nat.gcd_pos_of_pos_right _ hwp
    have g2 : Nat.gcd above whole ≤ whole := Nat.gcd_le_right _ hwp
    simp (disch := first | omega | decide | assumption | exact Nat.le_of_ble_eq_true rfl) only [s289_34, s289_36, s289_37, ow_some, true_and, and_true, and_self, if_true, if_false, not_true, not_false_eq_true, Bool.false_eq_true, eq_self, Option.toList, List.cons_append, List.nil_append, ix_in, ix_cl, lt_in, lt_cl, lt_add, ix_one, vu_eq, vu_ne, arI_mk, arL_mk, arY_mZ, arY_mB, alen_mI, fld_sfl_ne, fld_sfl_same, Option.isSome_some, pok_i, b1z, b01, z10, b1o, Int32.zero_add, vu_vu, upd_eq, upd_ne, true_or, or_true, V1.r1, V1.r2, V1.r3, V1.r4, V1.r16, V1.r17, V1.r18, V1.r19, V1.r20, V1.r23, V1.r24, V1.r25, V1.r26, V1.r27, V1.r28, V1.r29, V1.r30, V1.c172, V1.c173, V1.c174, V1.c186, V1.c187, V1.c188, V1.n5, V1.n13, V1.n14, V1.i0, V1.i5, V1.i6, V1.i7, V1.i8, V1.i9, V1.i10, V1.i11, V1.i12, V1.i13, V1.i14, V1.i15, V1.i21, V1.i22]
    rw [p289_39 (Nat.le_of_ble_eq_true rfl) (sp_common 30 (d + 8) above whole (by omega) (by omega) (by omega))]
    have hne := lI_ne (b := Nat.gcd above whole) (by omega) g1
    have d1 := lI_div (a := above) (b := Nat.gcd above whole) (by omega) (by omega)
    have d2 := lI_div (a := whole) (b := Nat.gcd above whole) (by omega) (by omega)
    by_cases h0 : w = 0
    · simp only [h0, if_true]
      simp (disch := first | omega | decide | assumption | exact Nat.le_of_ble_eq_true rfl) only [s289_42, s289_44, s289_45, s289_48, s289_49, s289_52, s289_54, s289_56, s289_57, ow_some, true_and, and_true, and_self, if_true, if_false, not_true, not_false_eq_true, Bool.false_eq_true, eq_self, Option.toList, List.cons_append, List.nil_append, ix_in, ix_cl, lt_in, lt_cl, lt_add, ix_one, vu_eq, vu_ne, arI_mk, arL_mk, arY_mZ, arY_mB, alen_mI, fld_sfl_ne, fld_sfl_same, Option.isSome_some, pok_i, b1z, b01, z10, b1o, Int32.zero_add, vu_vu, upd_eq, upd_ne, true_or, or_true, V1.r1, V1.r2, V1.r3, V1.r4, V1.r16, V1.r17, V1.r18, V1.r19, V1.r20, V1.r23, V1.r24, V1.r25, V1.r26, V1.r27, V1.r28, V1.r29, V1.r30, V1.c172, V1.c173, V1.c174, V1.c186, V1.c187, V1.c188, V1.n5, V1.n13, V1.n14, V1.i0, V1.i5, V1.i6, V1.i7, V1.i8, V1.i9, V1.i10, V1.i11, V1.i12, V1.i13, V1.i14, V1.i15, V1.i21, V1.i22, hne, d1, d2]
      exact ⟨(sm0.tr sm1).w, V1⟩
    · simp only [h0, if_false]
      simp (disch := first | omega | decide | assumption | exact Nat.le_of_ble_eq_true rfl) only [s289_42, s289_44, s289_45, s289_48, s289_49, s289_52, s289_54, s289_56, s289_57, ow_some, true_and, and_true, and_self, if_true, if_false, not_true, not_false_eq_true, Bool.false_eq_true, eq_self, Option.toList, List.cons_append, List.nil_append, ix_in, ix_cl, lt_in, lt_cl, lt_add, ix_one, vu_eq, vu_ne, arI_mk, arL_mk, arY_mZ, arY_mB, alen_mI, fld_sfl_ne, fld_sfl_same, Option.isSome_some, pok_i, b1z, b01, z10, b1o, Int32.zero_add, vu_vu, upd_eq, upd_ne, true_or, or_true, V1.r1, V1.r2, V1.r3, V1.r4, V1.r16, V1.r17, V1.r18, V1.r19, V1.r20, V1.r23, V1.r24, V1.r25, V1.r26, V1.r27, V1.r28, V1.r29, V1.r30, V1.c172, V1.c173, V1.c174, V1.c186, V1.c187, V1.c188, V1.n5, V1.n13, V1.n14, V1.i0, V1.i5, V1.i6, V1.i7, V1.i8, V1.i9, V1.i10, V1.i11, V1.i12, V1.i13, V1.i14, V1.i15, V1.i21, V1.i22, h0, hne, d1, d2]
      exact ⟨(sm0.tr sm1).w, V1⟩
  · rw [if_neg h1]
    simp (disch := first | omega | decide | assumption | exact Nat.le_of_ble_eq_true rfl) only [s289_9, s289_12, s289_15, ow_some, true_and, and_true, and_self, if_true, if_false, not_true, not_false_eq_true, Bool.false_eq_true, eq_self, Option.toList, List.cons_append, List.nil_append, ix_in, ix_cl, lt_in, lt_cl, lt_add, ix_one, vu_eq, vu_ne, arI_mk, arL_mk, arY_mZ, arY_mB, alen_mI, fld_sfl_ne, fld_sfl_same, Option.isSome_some, pok_i, b1z, b01, z10, b1o, Int32.zero_add, vu_vu, upd_eq, upd_ne, true_or, or_true, V0.r1, V0.r2, V0.r3, V0.r4, V0.r16, V0.r17, V0.r18, V0.r19, V0.r20, V0.r23, V0.r24, V0.r25, V0.r26, V0.r27, V0.r28, V0.r29, V0.r30, V0.c172, V0.c173, V0.c174, V0.c186, V0.c187, V0.c188, V0.n5, V0.n13, V0.n14, V0.i0, V0.i5, V0.i6, V0.i7, V0.i8, V0.i9, V0.i10, V0.i11, V0.i12, V0.i13, V0.i14, V0.i15, V0.i21, V0.i22, h1]
    exact ⟨sm0.w, V0⟩
def m_bn (v : Nat → Nat) (n : Nat) : Option (Nat × Nat) := fo (fun j r => match r with
  | none => some (j, v j)
  | some q => if q.2 < v j then some (j, v j) else some q) none n
theorem bn_s {v : Nat → Nat} {n : Nat} : m_bn v (n + 1) = (match m_bn v n with
  | none => some (n, v n)
  | some q => if q.2 < v n then some (n, v n) else some q) := rfl
theorem bn_lt {v : Nat → Nat} {B : Nat} (hv : ∀ j, v j ≤ B) : ∀ {n : Nat} {q : Nat × Nat}, m_bn v n = some q → q.2 ≤ B := by
  intro n
  induction n with
  | zero => intro q h; cases h
  | succ n ih =>
    intro q h
    rw [bn_s] at h
    cases hr : m_bn v n with
    | none => rw [hr] at h; cases h; exact hv n
    | some q' =>
      rw [hr] at h
      simp only at h
      split at h
      · cases h; exact hv n
      · cases h; exact ih hr
def bnK (r : Option (Nat × Nat)) : Int32 := match r with
  | none => -1
  | some q => nI q.1
def bnV (r : Option (Nat × Nat)) : Int64 := match r with
  | none => -1
  | some q => lI q.2
def w_v (all : Nat → Int32) (S P : Nat) (b : Int32) (k : Nat) : Nat := c_now (m_come all P (nT all) (nI k) b) S (P + 1)
def o_where (all : Nat → Int32) (S P : Nat) (b : Int32) : Int32 := if 0 ≤ b.toInt ∧ b.toInt ≤ 99 then (if P = 9 then -5 else bnK (m_bn (w_v all S P b) S)) else -3
theorem FR.come {all : Nat → Int32} {P T : Nat} {k b : Int32} (h : FR all) (hP : P < 9) : FR (m_come all P T k b) := by
  intro p hp
  rw [come_hi hP (by omega)]
  exact h p hp
theorem sp_where {X : Nat × (Nat → Int32)} {d N K : Nat} {f : Nat → e_C} {s : m_T} {S P : Nat} (V : MV f s) (W : WF s.1 S P) (hF : FR s.1) {b : Int32} {a2 a3 a4 a5 a6 a7 : Value} : TT X (d + 8) 292 0 [.ref 171, .int b, a2, a3, a4, a5, a6, a7] [] f N K (MZ N K f (s.1, o_where s.1 S P b) s.2) := by
  simp only [s292_0, s292_1, s292_2, V.i0, pok_i, true_and]
  have sm0 : SM f (va_up f 171 (sfl (f 171) 0 (.int 0))) := SM.up (by omega) (by omega)
  have V0 := V.num (j := 0) (x := 0) (by decide)
  generalize va_up f 171 (sfl (f 171) 0 (.int 0)) = f0 at sm0 V0 ⊢
  simp (disch := first | omega | decide | assumption | exact Nat.le_of_ble_eq_true rfl) only [s292_5, ow_some, true_and, and_true, and_self, if_true, if_false, not_true, not_false_eq_true, Bool.false_eq_true, eq_self, Option.toList, List.cons_append, List.nil_append, ix_in, ix_cl, lt_in, lt_cl, lt_add, ix_one, vu_eq, vu_ne, arI_mk, arL_mk, arY_mZ, arY_mB, alen_mI, fld_sfl_ne, fld_sfl_same, Option.isSome_some, pok_i, b1z, b01, z10, b1o, Int32.zero_add, vu_vu, upd_eq, upd_ne, true_or, or_true, V0.r1, V0.r2, V0.r3, V0.r4, V0.r16, V0.r17, V0.r18, V0.r19, V0.r20, V0.r23, V0.r24, V0.r25, V0.r26, V0.r27, V0.r28, V0.r29, V0.r30, V0.c172, V0.c173, V0.c174, V0.c186, V0.c187, V0.c188, V0.n5, V0.n13, V0.n14, V0.i0, V0.i5, V0.i6, V0.i7, V0.i8, V0.i9, V0.i10, V0.i11, V0.i12, V0.i13, V0.i14, V0.i15, V0.i21, V0.i22]
  rw [p292_6 (Nat.le_of_ble_eq_true rfl) sp_isBuild]
  simp only [bld]
  have h9 := W.1.2.2.2.2.1
  have A4 := W.1.2.2.2.1
  have A1 := W.1.1
  have h8 := W.1.2.2.1
  unfold o_where
  by_cases h1 : 0 ≤ b.toInt ∧ b.toInt ≤ 99
  · rw [if_pos h1]
    simp (disch := first | omega | decide | assumption | exact Nat.le_of_ble_eq_true rfl) only [s292_9, s292_12, s292_14, s292_15, ow_some, true_and, and_true, and_self, if_true, if_false, not_true, not_false_eq_true, Bool.false_eq_true, eq_self, Option.toList, List.cons_append, List.nil_append, ix_in, ix_cl, lt_in, lt_cl, lt_add, ix_one, vu_eq, vu_ne, arI_mk, arL_mk, arY_mZ, arY_mB, alen_mI, fld_sfl_ne, fld_sfl_same, Option.isSome_some, pok_i, b1z, b01, z10, b1o, Int32.zero_add, vu_vu, upd_eq, upd_ne, true_or, or_true, V0.r1, V0.r2, V0.r3, V0.r4, V0.r16, V0.r17, V0.r18, V0.r19, V0.r20, V0.r23, V0.r24, V0.r25, V0.r26, V0.r27, V0.r28, V0.r29, V0.r30, V0.c172, V0.c173, V0.c174, V0.c186, V0.c187, V0.c188, V0.n5, V0.n13, V0.n14, V0.i0, V0.i5, V0.i6, V0.i7, V0.i8, V0.i9, V0.i10, V0.i11, V0.i12, V0.i13, V0.i14, V0.i15, V0.i21, V0.i22, h1]
    rw [p292_16 (cno_MR V0.mr) (Nat.le_of_ble_eq_true rfl) (sp_isFull V0.mr V0.c172)]
    simp only [A4, tl_eq (c := 9) (by decide) (show P < 2147483648 by omega)]
    by_cases h3 : P = 9
    · simp (disch := first | omega | decide | assumption | exact Nat.le_of_ble_eq_true rfl) only [s292_19, s292_22, s292_24, ow_some, true_and, and_true, and_self, if_true, if_false, not_true, not_false_eq_true, Bool.false_eq_true, eq_self, Option.toList, List.cons_append, List.nil_append, ix_in, ix_cl, lt_in, lt_cl, lt_add, ix_one, vu_eq, vu_ne, arI_mk, arL_mk, arY_mZ, arY_mB, alen_mI, fld_sfl_ne, fld_sfl_same, Option.isSome_some, pok_i, b1z, b01, z10, b1o, Int32.zero_add, vu_vu, upd_eq, upd_ne, true_or, or_true, V0.r1, V0.r2, V0.r3, V0.r4, V0.r16, V0.r17, V0.r18, V0.r19, V0.r20, V0.r23, V0.r24, V0.r25, V0.r26, V0.r27, V0.r28, V0.r29, V0.r30, V0.c172, V0.c173, V0.c174, V0.c186, V0.c187, V0.c188, V0.n5, V0.n13, V0.n14, V0.i0, V0.i5, V0.i6, V0.i7, V0.i8, V0.i9, V0.i10, V0.i11, V0.i12, V0.i13, V0.i14, V0.i15, V0.i21, V0.i22, h3]
      exact ⟨rfl, rfl, sm0.w, V0, rfl⟩
    · simp (disch := first | omega | decide | assumption | exact Nat.le_of_ble_eq_true rfl) only [s292_19, s292_22, s292_24, s292_25, s292_26, s292_27, s292_30, s292_31, h292_32, ow_some, true_and, and_true, and_self, if_true, if_false, not_true, not_false_eq_true, Bool.false_eq_true, eq_self, Option.toList, List.cons_append, List.nil_append, ix_in, ix_cl, lt_in, lt_cl, lt_add, ix_one, vu_eq, vu_ne, arI_mk, arL_mk, arY_mZ, arY_mB, alen_mI, fld_sfl_ne, fld_sfl_same, Option.isSome_some, pok_i, b1z, b01, z10, b1o, Int32.zero_add, vu_vu, upd_eq, upd_ne, true_or, or_true, V0.r1, V0.r2, V0.r3, V0.r4, V0.r16, V0.r17, V0.r18, V0.r19, V0.r20, V0.r23, V0.r24, V0.r25, V0.r26, V0.r27, V0.r28, V0.r29, V0.r30, V0.c172, V0.c173, V0.c174, V0.c186, V0.c187, V0.c188, V0.n5, V0.n13, V0.n14, V0.i0, V0.i5, V0.i6, V0.i7, V0.i8, V0.i9, V0.i10, V0.i11, V0.i12, V0.i13, V0.i14, V0.i15, V0.i21, V0.i22, h3]
      have hB : ∀ k, w_v s.1 S P b k ≤ 512 * 1000000000 := fun k => Nat.le_trans (cn_le (hF.come (by omega)) (by omega)) (Nat.mul_le_mul_right _ (pw9 (by omega)))
      refine lp (fun k g (z : Option (Nat × Nat) × Value × Value) => SW f0 g ∧ MV g s ∧ z.1 = m_bn (w_v s.1 S P b) k) (fun k z => [.ref 171, .int b, .int (bnK z.1), .long (bnV z.1), .double 0, .int (nI k), z.2.1, z.2.2]) S ?_ ?_ 0 f0 (none, a6, a7) (by omega) ⟨SW.rf, V0, rfl⟩
      · rintro k g ⟨z, u, u'⟩ hk ⟨sw, V1, hz⟩ hI
        simp only at hz
        have hc : (S ≤ k) = False := eq_false (by omega)
        simp (disch := first | omega | decide | assumption | exact Nat.le_of_ble_eq_true rfl) only [s292_34, s292_36, s292_37, s292_40, s292_41, s292_42, s292_45, ow_some, true_and, and_true, and_self, if_true, if_false, not_true, not_false_eq_true, Bool.false_eq_true, eq_self, Option.toList, List.cons_append, List.nil_append, ix_in, ix_cl, lt_in, lt_cl, lt_add, ix_one, vu_eq, vu_ne, arI_mk, arL_mk, arY_mZ, arY_mB, alen_mI, fld_sfl_ne, fld_sfl_same, Option.isSome_some, pok_i, b1z, b01, z10, b1o, Int32.zero_add, vu_vu, upd_eq, upd_ne, true_or, or_true, V1.r1, V1.r2, V1.r3, V1.r4, V1.r16, V1.r17, V1.r18, V1.r19, V1.r20, V1.r23, V1.r24, V1.r25, V1.r26, V1.r27, V1.r28, V1.r29, V1.r30, V1.c172, V1.c173, V1.c174, V1.c186, V1.c187, V1.c188, V1.n5, V1.n13, V1.n14, V1.i0, V1.i5, V1.i6, V1.i7, V1.i8, V1.i9, V1.i10, V1.i11, V1.i12, V1.i13, V1.i14, V1.i15, V1.i21, V1.i22, A1, ix_le, hc]
        refine k292_46 (cno_MR V1.mr) (Nat.le_of_ble_eq_true rfl) (sp_keeps V1) ?_
        rintro f2 n2 k2 v2 ⟨rfl, rfl, rfl, sw2, V2, w, hw, hwv⟩
        simp (disch := first | omega | decide | assumption | exact Nat.le_of_ble_eq_true rfl) only [s292_49, s292_50, s292_52, ow_some, true_and, and_true, and_self, if_true, if_false, not_true, not_false_eq_true, Bool.false_eq_true, eq_self, Option.toList, List.cons_append, List.nil_append, ix_in, ix_cl, lt_in, lt_cl, lt_add, ix_one, vu_eq, vu_ne, arI_mk, arL_mk, arY_mZ, arY_mB, alen_mI, fld_sfl_ne, fld_sfl_same, Option.isSome_some, pok_i, b1z, b01, z10, b1o, Int32.zero_add, vu_vu, upd_eq, upd_ne, true_or, or_true, V2.r1, V2.r2, V2.r3, V2.r4, V2.r16, V2.r17, V2.r18, V2.r19, V2.r20, V2.r23, V2.r24, V2.r25, V2.r26, V2.r27, V2.r28, V2.r29, V2.r30, V2.c172, V2.c173, V2.c174, V2.c186, V2.c187, V2.c188, V2.n5, V2.n13, V2.n14, V2.i0, V2.i5, V2.i6, V2.i7, V2.i8, V2.i9, V2.i10, V2.i11, V2.i12, V2.i13, V2.i14, V2.i15, V2.i21, V2.i22]
        refine k292_53 (cno_MR V2.mr) (Nat.le_of_ble_eq_true rfl) (sp_comes V2 W.1 W.2.1 W.T (show P < 9 by omega)) ?_
        rintro f4 n4 k4 v4 ⟨rfl, rfl, sm4, V4, rfl⟩
        simp (disch := first | omega | decide | assumption | exact Nat.le_of_ble_eq_true rfl) only [s292_56, s292_57, ow_some, true_and, and_true, and_self, if_true, if_false, not_true, not_false_eq_true, Bool.false_eq_true, eq_self, Option.toList, List.cons_append, List.nil_append, ix_in, ix_cl, lt_in, lt_cl, lt_add, ix_one, vu_eq, vu_ne, arI_mk, arL_mk, arY_mZ, arY_mB, alen_mI, fld_sfl_ne, fld_sfl_same, Option.isSome_some, pok_i, b1z, b01, z10, b1o, Int32.zero_add, vu_vu, upd_eq, upd_ne, true_or, or_true, V4.r1, V4.r2, V4.r3, V4.r4, V4.r16, V4.r17, V4.r18, V4.r19, V4.r20, V4.r23, V4.r24, V4.r25, V4.r26, V4.r27, V4.r28, V4.r29, V4.r30, V4.c172, V4.c173, V4.c174, V4.c186, V4.c187, V4.c188, V4.n5, V4.n13, V4.n14, V4.i0, V4.i5, V4.i6, V4.i7, V4.i8, V4.i9, V4.i10, V4.i11, V4.i12, V4.i13, V4.i14, V4.i15, V4.i21, V4.i22]
        refine k292_58 (cno_MR V4.mr) (Nat.le_of_ble_eq_true rfl) (sp_chanceNow V4 (W.come (b := b) (show P < 9 by omega) hk) (hF.come (by omega))) ?_
        rintro f5 n5 k5 v5 ⟨rfl, rfl, sm5, V5, rfl⟩
        simp (disch := first | omega | decide | assumption | exact Nat.le_of_ble_eq_true rfl) only [s292_61, s292_63, ow_some, true_and, and_true, and_self, if_true, if_false, not_true, not_false_eq_true, Bool.false_eq_true, eq_self, Option.toList, List.cons_append, List.nil_append, ix_in, ix_cl, lt_in, lt_cl, lt_add, ix_one, vu_eq, vu_ne, arI_mk, arL_mk, arY_mZ, arY_mB, alen_mI, fld_sfl_ne, fld_sfl_same, Option.isSome_some, pok_i, b1z, b01, z10, b1o, Int32.zero_add, vu_vu, upd_eq, upd_ne, true_or, or_true, V5.r1, V5.r2, V5.r3, V5.r4, V5.r16, V5.r17, V5.r18, V5.r19, V5.r20, V5.r23, V5.r24, V5.r25, V5.r26, V5.r27, V5.r28, V5.r29, V5.r30, V5.c172, V5.c173, V5.c174, V5.c186, V5.c187, V5.c188, V5.n5, V5.n13, V5.n14, V5.i0, V5.i5, V5.i6, V5.i7, V5.i8, V5.i9, V5.i10, V5.i11, V5.i12, V5.i13, V5.i14, V5.i15, V5.i21, V5.i22]
        refine k292_64 (cno_MR V5.mr) (Nat.le_of_ble_eq_true rfl) (sp_isAgain V5 (by rw [sm5 180 (by omega), sm4 180 (by omega)]; exact hw)) ?_
        rintro f6 n6 k6 v6 ⟨rfl, rfl, sm6, V6, rfl⟩
        have hb : m_back (m_come s.1 P (nT s.1) (nI k) b) w 40 = s.1 := back_id (fun a ha => by rw [come_hi (by omega) ha]) hwv
        simp only [hb] at V6
        have swf : SW f0 f6 := (sw.tr sw2).tr ((sm4.tr sm5).tr sm6).w
        have hwk : c_now (m_come s.1 P (nT s.1) (nI k) b) S (P + 1) = w_v s.1 S P b k := rfl
        rw [hwk]
        have hBk := hB k
        have hs := bn_s (v := w_v s.1 S P b) (n := k)
        rw [← hz] at hs
        rcases z with _ | q
        · have hg : (0 < lg_cmp (lI (w_v s.1 S P b k)) (bnV none)) = True := eq_true (by
            rw [lg_gt, lI_toInt (by omega)]
            have : (bnV none).toInt = -1 := by decide
            omega)
          simp (disch := first | omega | decide | assumption | exact Nat.le_of_ble_eq_true rfl) only [s292_67, s292_69, s292_70, s292_71, s292_74, s292_77, s292_79, s292_80, s292_82, s292_83, h292_86, ow_some, true_and, and_true, and_self, if_true, if_false, not_true, not_false_eq_true, Bool.false_eq_true, eq_self, Option.toList, List.cons_append, List.nil_append, ix_in, ix_cl, lt_in, lt_cl, lt_add, ix_one, vu_eq, vu_ne, arI_mk, arL_mk, arY_mZ, arY_mB, alen_mI, fld_sfl_ne, fld_sfl_same, Option.isSome_some, pok_i, b1z, b01, z10, b1o, Int32.zero_add, vu_vu, upd_eq, upd_ne, true_or, or_true, V6.r1, V6.r2, V6.r3, V6.r4, V6.r16, V6.r17, V6.r18, V6.r19, V6.r20, V6.r23, V6.r24, V6.r25, V6.r26, V6.r27, V6.r28, V6.r29, V6.r30, V6.c172, V6.c173, V6.c174, V6.c186, V6.c187, V6.c188, V6.n5, V6.n13, V6.n14, V6.i0, V6.i5, V6.i6, V6.i7, V6.i8, V6.i9, V6.i10, V6.i11, V6.i12, V6.i13, V6.i14, V6.i15, V6.i21, V6.i22, hg]
          exact hI f6 (some (k, w_v s.1 S P b k), _, _) ⟨swf, V6, hs.symm⟩
        · have hq := bn_lt hB hz.symm
          have hg : (0 < lg_cmp (lI (w_v s.1 S P b k)) (bnV (some q))) = (q.2 < w_v s.1 S P b k) := by
            rw [lg_gt, lI_toInt (by omega)]
            have : (bnV (some q)).toInt = q.2 := lI_toInt (by omega)
            rw [this]
            apply propext; omega
          by_cases hlt : q.2 < w_v s.1 S P b k
          · simp only [if_pos hlt] at hs
            simp (disch := first | omega | decide | assumption | exact Nat.le_of_ble_eq_true rfl) only [s292_67, s292_69, s292_70, s292_71, s292_74, s292_77, s292_79, s292_80, s292_82, s292_83, h292_86, ow_some, true_and, and_true, and_self, if_true, if_false, not_true, not_false_eq_true, Bool.false_eq_true, eq_self, Option.toList, List.cons_append, List.nil_append, ix_in, ix_cl, lt_in, lt_cl, lt_add, ix_one, vu_eq, vu_ne, arI_mk, arL_mk, arY_mZ, arY_mB, alen_mI, fld_sfl_ne, fld_sfl_same, Option.isSome_some, pok_i, b1z, b01, z10, b1o, Int32.zero_add, vu_vu, upd_eq, upd_ne, true_or, or_true, V6.r1, V6.r2, V6.r3, V6.r4, V6.r16, V6.r17, V6.r18, V6.r19, V6.r20, V6.r23, V6.r24, V6.r25, V6.r26, V6.r27, V6.r28, V6.r29, V6.r30, V6.c172, V6.c173, V6.c174, V6.c186, V6.c187, V6.c188, V6.n5, V6.n13, V6.n14, V6.i0, V6.i5, V6.i6, V6.i7, V6.i8, V6.i9, V6.i10, V6.i11, V6.i12, V6.i13, V6.i14, V6.i15, V6.i21, V6.i22, hg, hlt]
            exact hI f6 (some (k, w_v s.1 S P b k), _, _) ⟨swf, V6, hs.symm⟩
          · simp only [if_neg hlt] at hs
            simp (disch := first | omega | decide | assumption | exact Nat.le_of_ble_eq_true rfl) only [s292_67, s292_69, s292_70, s292_71, s292_74, s292_83, h292_86, ow_some, true_and, and_true, and_self, if_true, if_false, not_true, not_false_eq_true, Bool.false_eq_true, eq_self, Option.toList, List.cons_append, List.nil_append, ix_in, ix_cl, lt_in, lt_cl, lt_add, ix_one, vu_eq, vu_ne, arI_mk, arL_mk, arY_mZ, arY_mB, alen_mI, fld_sfl_ne, fld_sfl_same, Option.isSome_some, pok_i, b1z, b01, z10, b1o, Int32.zero_add, vu_vu, upd_eq, upd_ne, true_or, or_true, V6.r1, V6.r2, V6.r3, V6.r4, V6.r16, V6.r17, V6.r18, V6.r19, V6.r20, V6.r23, V6.r24, V6.r25, V6.r26, V6.r27, V6.r28, V6.r29, V6.r30, V6.c172, V6.c173, V6.c174, V6.c186, V6.c187, V6.c188, V6.n5, V6.n13, V6.n14, V6.i0, V6.i5, V6.i6, V6.i7, V6.i8, V6.i9, V6.i10, V6.i11, V6.i12, V6.i13, V6.i14, V6.i15, V6.i21, V6.i22, hg, hlt]
            exact hI f6 (some q, _, _) ⟨swf, V6, hs.symm⟩
      · rintro g ⟨z, u, u'⟩ ⟨sw, V1, hz⟩
        simp only at hz
        simp (disch := first | omega | decide | assumption | exact Nat.le_of_ble_eq_true rfl) only [s292_34, s292_36, s292_37, s292_40, s292_41, s292_42, s292_89, s292_90, ow_some, true_and, and_true, and_self, if_true, if_false, not_true, not_false_eq_true, Bool.false_eq_true, eq_self, Option.toList, List.cons_append, List.nil_append, ix_in, ix_cl, lt_in, lt_cl, lt_add, ix_one, vu_eq, vu_ne, arI_mk, arL_mk, arY_mZ, arY_mB, alen_mI, fld_sfl_ne, fld_sfl_same, Option.isSome_some, pok_i, b1z, b01, z10, b1o, Int32.zero_add, vu_vu, upd_eq, upd_ne, true_or, or_true, V1.r1, V1.r2, V1.r3, V1.r4, V1.r16, V1.r17, V1.r18, V1.r19, V1.r20, V1.r23, V1.r24, V1.r25, V1.r26, V1.r27, V1.r28, V1.r29, V1.r30, V1.c172, V1.c173, V1.c174, V1.c186, V1.c187, V1.c188, V1.n5, V1.n13, V1.n14, V1.i0, V1.i5, V1.i6, V1.i7, V1.i8, V1.i9, V1.i10, V1.i11, V1.i12, V1.i13, V1.i14, V1.i15, V1.i21, V1.i22, A1, ix_le, Nat.le_refl]
        rw [hz]
        exact ⟨rfl, rfl, sm0.w.tr sw, V1, rfl⟩
  · rw [if_neg h1]
    simp (disch := first | omega | decide | assumption | exact Nat.le_of_ble_eq_true rfl) only [s292_9, s292_12, s292_14, ow_some, true_and, and_true, and_self, if_true, if_false, not_true, not_false_eq_true, Bool.false_eq_true, eq_self, Option.toList, List.cons_append, List.nil_append, ix_in, ix_cl, lt_in, lt_cl, lt_add, ix_one, vu_eq, vu_ne, arI_mk, arL_mk, arY_mZ, arY_mB, alen_mI, fld_sfl_ne, fld_sfl_same, Option.isSome_some, pok_i, b1z, b01, z10, b1o, Int32.zero_add, vu_vu, upd_eq, upd_ne, true_or, or_true, V0.r1, V0.r2, V0.r3, V0.r4, V0.r16, V0.r17, V0.r18, V0.r19, V0.r20, V0.r23, V0.r24, V0.r25, V0.r26, V0.r27, V0.r28, V0.r29, V0.r30, V0.c172, V0.c173, V0.c174, V0.c186, V0.c187, V0.c188, V0.n5, V0.n13, V0.n14, V0.i0, V0.i5, V0.i6, V0.i7, V0.i8, V0.i9, V0.i10, V0.i11, V0.i12, V0.i13, V0.i14, V0.i15, V0.i21, V0.i22, h1]
    exact ⟨rfl, rfl, sm0.w, V0, rfl⟩

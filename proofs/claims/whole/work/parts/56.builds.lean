/-! the reference: builds by trials -/
def t_ok (all : Nat → Int32) (v : Int64) : Bool := decide (0 ≤ v.toInt) && decide (v.toInt ≤ 1023) && sub (v.toInt.toNat / 2) (nT all)
def t_q (s : m_T) (t i : Nat) : Int64 := s.2.2.2.2.2.2 (40 * t + i)
def m_nt (s : m_T) (P : Nat) (t p : Int32) : Int32 := if (0 ≤ t.toInt ∧ t.toInt ≤ 3) ∧ (0 ≤ p.toInt ∧ p.toInt < P) then (if s.2.2.2.2.1 t.toInt.toNat = -1 then -6 else if 1 ≤ nM s t.toInt.toNat ∧ nM s t.toInt.toNat ≤ 10 then (if allB (fun i => t_ok s.1 (t_q s t.toInt.toNat i)) (nM s t.toInt.toNat) = true then (if (nT s.1).testBit p.toInt.toNat then 0 else -5) else -3) else -4) else -2
theorem dv2 {m : Nat} (h : m < 65536) : nI m / 2 = nI (m / 2) := by rw [lit_nI 2]; exact pk_div (by omega) (by omega) (by omega)
theorem rm2 {m : Nat} (h : m < 65536) : nI m - nI m / 2 * 2 = nI (m % 2) := by rw [lit_nI 2]; exact pk_rem (by omega) (by omega) (by omega)
theorem sp_noTrials {X : Nat × (Nat → Int32)} {d N K : Nat} {f : Nat → e_C} {s : m_T} {S P : Nat} (V : MV f s) (W : WF s.1 S P) (hR : RM s) {t p : Int32} {a3 a4 a5 a6 : Value} : PU X (d + 3) 276 [.ref 171, .int t, .int p, a3, a4, a5, a6] f N K (some (.int (m_nt s P t p))) := by
  unfold PU
  have h9 := W.1.2.2.2.2.1
  have m60 : ((-6 : Int32) = 0) = False := eq_false (by decide)
  simp (disch := first | omega | decide | assumption | exact Nat.le_of_ble_eq_true rfl) only [s276_0, s276_1, s276_2, s276_3, ow_some, true_and, and_true, and_self, if_true, if_false, not_true, not_false_eq_true, Bool.false_eq_true, eq_self, Option.toList, List.cons_append, List.nil_append, ix_in, ix_cl, lt_in, lt_cl, lt_add, ix_one, vu_eq, vu_ne, arI_mk, arL_mk, arY_mZ, arY_mB, alen_mI, fld_sfl_ne, fld_sfl_same, Option.isSome_some, pok_i, b1z, b01, z10, b1o, Int32.zero_add, vu_vu, upd_eq, upd_ne, true_or, or_true, V.r1, V.r2, V.r3, V.r4, V.r16, V.r17, V.r18, V.r19, V.r20, V.r23, V.r24, V.r25, V.r26, V.r27, V.r28, V.r29, V.r30, V.c172, V.c173, V.c174, V.c186, V.c187, V.c188, V.n5, V.n13, V.n14, V.i0, V.i5, V.i6, V.i7, V.i8, V.i9, V.i10, V.i11, V.i12, V.i13, V.i14, V.i15, V.i21, V.i22]
  rw [p276_6 (Nat.le_of_ble_eq_true rfl) sp_within]
  have e : (0 ≤ t.toInt64 ∧ t.toInt64 ≤ 3) = (0 ≤ t.toInt ∧ t.toInt ≤ 3) := wth (a := 0) (b := 3) (by decide) (by decide)
  simp only [e]
  unfold m_nt
  by_cases h1 : 0 ≤ t.toInt ∧ t.toInt ≤ 3
  · obtain ⟨j, hj, rfl, hv⟩ := i9 (v := t) (N := 4) (by omega) (by omega) (by omega)
    have hcl : (nI j).toNatClampNeg = j := ix_cl (by omega)
    have hMj := hR j hj
    have h1b := h1
    rw [t03.symm] at h1b
    simp (disch := first | omega | decide | assumption | exact Nat.le_of_ble_eq_true rfl) only [s276_9, s276_12, s276_13, s276_14, ow_some, true_and, and_true, and_self, if_true, if_false, not_true, not_false_eq_true, Bool.false_eq_true, eq_self, Option.toList, List.cons_append, List.nil_append, ix_in, ix_cl, lt_in, lt_cl, lt_add, ix_one, vu_eq, vu_ne, arI_mk, arL_mk, arY_mZ, arY_mB, alen_mI, fld_sfl_ne, fld_sfl_same, Option.isSome_some, pok_i, b1z, b01, z10, b1o, Int32.zero_add, vu_vu, upd_eq, upd_ne, true_or, or_true, V.r1, V.r2, V.r3, V.r4, V.r16, V.r17, V.r18, V.r19, V.r20, V.r23, V.r24, V.r25, V.r26, V.r27, V.r28, V.r29, V.r30, V.c172, V.c173, V.c174, V.c186, V.c187, V.c188, V.n5, V.n13, V.n14, V.i0, V.i5, V.i6, V.i7, V.i8, V.i9, V.i10, V.i11, V.i12, V.i13, V.i14, V.i15, V.i21, V.i22, h1]
    rw [p276_15 (cno_MR V.mr) (Nat.le_of_ble_eq_true rfl) (sp_isPersonT V W.1)]
    simp only [Int32.toInt_toInt64]
    by_cases h2 : 0 ≤ p.toInt ∧ p.toInt < P
    · obtain ⟨q, hq, rfl, hw⟩ := i9 h2.1 h2.2 (by omega)
      simp (disch := first | omega | decide | assumption | exact Nat.le_of_ble_eq_true rfl) only [s276_18, s276_21, s276_23, s276_24, s276_25, ow_some, true_and, and_true, and_self, if_true, if_false, not_true, not_false_eq_true, Bool.false_eq_true, eq_self, Option.toList, List.cons_append, List.nil_append, ix_in, ix_cl, lt_in, lt_cl, lt_add, ix_one, vu_eq, vu_ne, arI_mk, arL_mk, arY_mZ, arY_mB, alen_mI, fld_sfl_ne, fld_sfl_same, Option.isSome_some, pok_i, b1z, b01, z10, b1o, Int32.zero_add, vu_vu, upd_eq, upd_ne, true_or, or_true, V.r1, V.r2, V.r3, V.r4, V.r16, V.r17, V.r18, V.r19, V.r20, V.r23, V.r24, V.r25, V.r26, V.r27, V.r28, V.r29, V.r30, V.c172, V.c173, V.c174, V.c186, V.c187, V.c188, V.n5, V.n13, V.n14, V.i0, V.i5, V.i6, V.i7, V.i8, V.i9, V.i10, V.i11, V.i12, V.i13, V.i14, V.i15, V.i21, V.i22, h2]
      rw [p276_26 (cno_MR V.mr) (Nat.le_of_ble_eq_true rfl) (sp_noTray V)]
      simp only [h1, h1b, h2, if_true, hcl, hv, hw, Int.toNat_natCast, and_self]
      by_cases h3 : s.2.2.2.2.1 j = -1
      · simp (disch := first | omega | decide | assumption | exact Nat.le_of_ble_eq_true rfl) only [s276_29, s276_30, s276_31, s276_34, s276_35, ow_some, true_and, and_true, and_self, if_true, if_false, not_true, not_false_eq_true, Bool.false_eq_true, eq_self, Option.toList, List.cons_append, List.nil_append, ix_in, ix_cl, lt_in, lt_cl, lt_add, ix_one, vu_eq, vu_ne, arI_mk, arL_mk, arY_mZ, arY_mB, alen_mI, fld_sfl_ne, fld_sfl_same, Option.isSome_some, pok_i, b1z, b01, z10, b1o, Int32.zero_add, vu_vu, upd_eq, upd_ne, true_or, or_true, V.r1, V.r2, V.r3, V.r4, V.r16, V.r17, V.r18, V.r19, V.r20, V.r23, V.r24, V.r25, V.r26, V.r27, V.r28, V.r29, V.r30, V.c172, V.c173, V.c174, V.c186, V.c187, V.c188, V.n5, V.n13, V.n14, V.i0, V.i5, V.i6, V.i7, V.i8, V.i9, V.i10, V.i11, V.i12, V.i13, V.i14, V.i15, V.i21, V.i22, h3, m60]
        all_goals first | exact ⟨rfl, rfl, rfl, rfl⟩ | rfl
      · simp (disch := first | omega | decide | assumption | exact Nat.le_of_ble_eq_true rfl) only [s276_29, s276_30, s276_31, s276_34, s276_35, s276_36, s276_37, s276_40, s276_41, s276_42, s276_43, s276_44, ow_some, true_and, and_true, and_self, if_true, if_false, not_true, not_false_eq_true, Bool.false_eq_true, eq_self, Option.toList, List.cons_append, List.nil_append, ix_in, ix_cl, lt_in, lt_cl, lt_add, ix_one, vu_eq, vu_ne, arI_mk, arL_mk, arY_mZ, arY_mB, alen_mI, fld_sfl_ne, fld_sfl_same, Option.isSome_some, pok_i, b1z, b01, z10, b1o, Int32.zero_add, vu_vu, upd_eq, upd_ne, true_or, or_true, V.r1, V.r2, V.r3, V.r4, V.r16, V.r17, V.r18, V.r19, V.r20, V.r23, V.r24, V.r25, V.r26, V.r27, V.r28, V.r29, V.r30, V.c172, V.c173, V.c174, V.c186, V.c187, V.c188, V.n5, V.n13, V.n14, V.i0, V.i5, V.i6, V.i7, V.i8, V.i9, V.i10, V.i11, V.i12, V.i13, V.i14, V.i15, V.i21, V.i22, h3]
        rw [p276_47 (Nat.le_of_ble_eq_true rfl) sp_within]
        have e2 : (1 ≤ (s.2.2.2.2.2.1 j).toInt64 ∧ (s.2.2.2.2.2.1 j).toInt64 ≤ 10) = (1 ≤ nM s j ∧ nM s j ≤ 10) := by
          have := wth (v := s.2.2.2.2.2.1 j) (a := 1) (b := 10) (by decide) (by decide)
          refine this.trans ?_
          rw [hMj.2, nI_toInt (by omega)]
          apply propext; omega
        simp only [e2]
        by_cases h4 : 1 ≤ nM s j ∧ nM s j ≤ 10
        · simp (disch := first | omega | decide | assumption | exact Nat.le_of_ble_eq_true rfl) only [s276_50, s276_53, s276_55, s276_56, h276_57, ow_some, true_and, and_true, and_self, if_true, if_false, not_true, not_false_eq_true, Bool.false_eq_true, eq_self, Option.toList, List.cons_append, List.nil_append, ix_in, ix_cl, lt_in, lt_cl, lt_add, ix_one, vu_eq, vu_ne, arI_mk, arL_mk, arY_mZ, arY_mB, alen_mI, fld_sfl_ne, fld_sfl_same, Option.isSome_some, pok_i, b1z, b01, z10, b1o, Int32.zero_add, vu_vu, upd_eq, upd_ne, true_or, or_true, V.r1, V.r2, V.r3, V.r4, V.r16, V.r17, V.r18, V.r19, V.r20, V.r23, V.r24, V.r25, V.r26, V.r27, V.r28, V.r29, V.r30, V.c172, V.c173, V.c174, V.c186, V.c187, V.c188, V.n5, V.n13, V.n14, V.i0, V.i5, V.i6, V.i7, V.i8, V.i9, V.i10, V.i11, V.i12, V.i13, V.i14, V.i15, V.i21, V.i22, h4]
          have e40 : (40 : Int32) * nI j = nI (40 * j) := by rw [lit_nI 40, pk_mul]
          have t2 : ((2 : Int32) = 0) = False := eq_false (by decide)
          have tail : ∀ u5 u6 : Value, allB (fun i => t_ok s.1 (t_q s j i)) (nM s j) = false → TT X (d + 3) 276 114 [.ref 171, .int (nI j), .int (nI q), .int 0, u5, u6, a6] [] f N K (fun f' n' k' v => f' = f ∧ n' = N ∧ k' = K ∧ v = some (.int (if allB (fun i => t_ok s.1 (t_q s j i)) (nM s j) = true then (if (nT s.1).testBit q then 0 else -5) else -3))) := by
            intro u5 u6 h
            simp (disch := first | omega | decide | assumption | exact Nat.le_of_ble_eq_true rfl) only [s276_114, s276_116, ow_some, true_and, and_true, and_self, if_true, if_false, not_true, not_false_eq_true, Bool.false_eq_true, eq_self, Option.toList, List.cons_append, List.nil_append, ix_in, ix_cl, lt_in, lt_cl, lt_add, ix_one, vu_eq, vu_ne, arI_mk, arL_mk, arY_mZ, arY_mB, alen_mI, fld_sfl_ne, fld_sfl_same, Option.isSome_some, pok_i, b1z, b01, z10, b1o, Int32.zero_add, vu_vu, upd_eq, upd_ne, true_or, or_true, V.r1, V.r2, V.r3, V.r4, V.r16, V.r17, V.r18, V.r19, V.r20, V.r23, V.r24, V.r25, V.r26, V.r27, V.r28, V.r29, V.r30, V.c172, V.c173, V.c174, V.c186, V.c187, V.c188, V.n5, V.n13, V.n14, V.i0, V.i5, V.i6, V.i7, V.i8, V.i9, V.i10, V.i11, V.i12, V.i13, V.i14, V.i15, V.i21, V.i22, h]
          refine lp (fun i h (_ : Value × Value) => h = f ∧ ∀ k, k < i → t_ok s.1 (t_q s j k) = true) (fun i z => [.ref 171, .int (nI j), .int (nI q), .int 0, .int (nI i), z.1, z.2]) (nM s j) ?_ ?_ 0 f (a5, a6) (by omega) ⟨rfl, fun k hk => by omega⟩
          · rintro i h ⟨u5, u6⟩ hi ⟨rfl, hk⟩ hI
            have hc : (nM s j ≤ i) = False := eq_false (by omega)
            simp (disch := first | omega | decide | assumption | exact Nat.le_of_ble_eq_true rfl) only [s276_59, s276_61, s276_62, s276_65, s276_66, s276_67, s276_70, s276_71, s276_74, s276_76, s276_77, s276_78, s276_80, s276_81, s276_82, s276_84, s276_86, s276_87, ow_some, true_and, and_true, and_self, if_true, if_false, not_true, not_false_eq_true, Bool.false_eq_true, eq_self, Option.toList, List.cons_append, List.nil_append, ix_in, ix_cl, lt_in, lt_cl, lt_add, ix_one, vu_eq, vu_ne, arI_mk, arL_mk, arY_mZ, arY_mB, alen_mI, fld_sfl_ne, fld_sfl_same, Option.isSome_some, pok_i, b1z, b01, z10, b1o, Int32.zero_add, vu_vu, upd_eq, upd_ne, true_or, or_true, V.r1, V.r2, V.r3, V.r4, V.r16, V.r17, V.r18, V.r19, V.r20, V.r23, V.r24, V.r25, V.r26, V.r27, V.r28, V.r29, V.r30, V.c172, V.c173, V.c174, V.c186, V.c187, V.c188, V.n5, V.n13, V.n14, V.i0, V.i5, V.i6, V.i7, V.i8, V.i9, V.i10, V.i11, V.i12, V.i13, V.i14, V.i15, V.i21, V.i22, hMj.2, ix_le, hc, e40, nI_add]
            rw [p276_90 (Nat.le_of_ble_eq_true rfl) sp_within]
            have hqv : s.2.2.2.2.2.2 (40 * j + i) = t_q s j i := rfl
            rw [hqv]
            have e3 : (0 ≤ t_q s j i ∧ t_q s j i ≤ 1023) = (0 ≤ (t_q s j i).toInt ∧ (t_q s j i).toInt ≤ 1023) := by rw [Int64.le_iff_toInt_le, Int64.le_iff_toInt_le]; rfl
            simp only [e3]
            by_cases h5 : 0 ≤ (t_q s j i).toInt ∧ (t_q s j i).toInt ≤ 1023
            · obtain ⟨m, hm, hmv, hmi⟩ := l9 (v := t_q s j i) (N := 1024) h5.1 (by omega) (by omega)
              have d2 := dv2 (show m < 65536 by omega)
              simp (disch := first | omega | decide | assumption | exact Nat.le_of_ble_eq_true rfl) only [s276_93, ow_some, true_and, and_true, and_self, if_true, if_false, not_true, not_false_eq_true, Bool.false_eq_true, eq_self, Option.toList, List.cons_append, List.nil_append, ix_in, ix_cl, lt_in, lt_cl, lt_add, ix_one, vu_eq, vu_ne, arI_mk, arL_mk, arY_mZ, arY_mB, alen_mI, fld_sfl_ne, fld_sfl_same, Option.isSome_some, pok_i, b1z, b01, z10, b1o, Int32.zero_add, vu_vu, upd_eq, upd_ne, true_or, or_true, V.r1, V.r2, V.r3, V.r4, V.r16, V.r17, V.r18, V.r19, V.r20, V.r23, V.r24, V.r25, V.r26, V.r27, V.r28, V.r29, V.r30, V.c172, V.c173, V.c174, V.c186, V.c187, V.c188, V.n5, V.n13, V.n14, V.i0, V.i5, V.i6, V.i7, V.i8, V.i9, V.i10, V.i11, V.i12, V.i13, V.i14, V.i15, V.i21, V.i22, h5]
              simp (disch := first | omega | decide | assumption | exact Nat.le_of_ble_eq_true rfl) only [s276_96, s276_98, s276_99, s276_100, s276_101, s276_102, s276_105, s276_107, ow_some, true_and, and_true, and_self, if_true, if_false, not_true, not_false_eq_true, Bool.false_eq_true, eq_self, Option.toList, List.cons_append, List.nil_append, ix_in, ix_cl, lt_in, lt_cl, lt_add, ix_one, vu_eq, vu_ne, arI_mk, arL_mk, arY_mZ, arY_mB, alen_mI, fld_sfl_ne, fld_sfl_same, Option.isSome_some, pok_i, b1z, b01, z10, b1o, Int32.zero_add, vu_vu, upd_eq, upd_ne, true_or, or_true, V.r1, V.r2, V.r3, V.r4, V.r16, V.r17, V.r18, V.r19, V.r20, V.r23, V.r24, V.r25, V.r26, V.r27, V.r28, V.r29, V.r30, V.c172, V.c173, V.c174, V.c186, V.c187, V.c188, V.n5, V.n13, V.n14, V.i0, V.i5, V.i6, V.i7, V.i8, V.i9, V.i10, V.i11, V.i12, V.i13, V.i14, V.i15, V.i21, V.i22, hmv, nI_6432, t2, d2, W.2.1, ne_eq]
              rw [p276_108 (Nat.le_of_ble_eq_true rfl) (sp_isPartN (show m / 2 < 512 by omega) W.T)]
              by_cases h6 : sub (m / 2) (nT s.1) = true
              · simp (disch := first | omega | decide | assumption | exact Nat.le_of_ble_eq_true rfl) only [s276_111, s276_114, s276_116, s276_117, h276_120, ow_some, true_and, and_true, and_self, if_true, if_false, not_true, not_false_eq_true, Bool.false_eq_true, eq_self, Option.toList, List.cons_append, List.nil_append, ix_in, ix_cl, lt_in, lt_cl, lt_add, ix_one, vu_eq, vu_ne, arI_mk, arL_mk, arY_mZ, arY_mB, alen_mI, fld_sfl_ne, fld_sfl_same, Option.isSome_some, pok_i, b1z, b01, z10, b1o, Int32.zero_add, vu_vu, upd_eq, upd_ne, true_or, or_true, V.r1, V.r2, V.r3, V.r4, V.r16, V.r17, V.r18, V.r19, V.r20, V.r23, V.r24, V.r25, V.r26, V.r27, V.r28, V.r29, V.r30, V.c172, V.c173, V.c174, V.c186, V.c187, V.c188, V.n5, V.n13, V.n14, V.i0, V.i5, V.i6, V.i7, V.i8, V.i9, V.i10, V.i11, V.i12, V.i13, V.i14, V.i15, V.i21, V.i22, h6]
                refine hI _ (_, _) ⟨rfl, fun k hk2 => ?_⟩
                by_cases hki : k = i
                · subst hki
                  unfold t_ok
                  rw [hmi, Int.toNat_natCast, h6]
                  rw [hmi] at h5
                  simp [h5]
                · exact hk k (by omega)
              · have hno : allB (fun i => t_ok s.1 (t_q s j i)) (nM s j) = false := allB_no hi (by
                  show t_ok s.1 (t_q s j i) = false
                  unfold t_ok
                  rw [hmi, Int.toNat_natCast]
                  simp [h6])
                simp (disch := first | omega | decide | assumption | exact Nat.le_of_ble_eq_true rfl) only [s276_111, s276_114, s276_116, ow_some, true_and, and_true, and_self, if_true, if_false, not_true, not_false_eq_true, Bool.false_eq_true, eq_self, Option.toList, List.cons_append, List.nil_append, ix_in, ix_cl, lt_in, lt_cl, lt_add, ix_one, vu_eq, vu_ne, arI_mk, arL_mk, arY_mZ, arY_mB, alen_mI, fld_sfl_ne, fld_sfl_same, Option.isSome_some, pok_i, b1z, b01, z10, b1o, Int32.zero_add, vu_vu, upd_eq, upd_ne, true_or, or_true, V.r1, V.r2, V.r3, V.r4, V.r16, V.r17, V.r18, V.r19, V.r20, V.r23, V.r24, V.r25, V.r26, V.r27, V.r28, V.r29, V.r30, V.c172, V.c173, V.c174, V.c186, V.c187, V.c188, V.n5, V.n13, V.n14, V.i0, V.i5, V.i6, V.i7, V.i8, V.i9, V.i10, V.i11, V.i12, V.i13, V.i14, V.i15, V.i21, V.i22, h6, hno]
                all_goals first | exact ⟨rfl, rfl, rfl, rfl⟩ | rfl
            · have hno : allB (fun i => t_ok s.1 (t_q s j i)) (nM s j) = false := allB_no hi (by
                show t_ok s.1 (t_q s j i) = false
                unfold t_ok
                by_cases z : 0 ≤ (t_q s j i).toInt
                · have : ¬ (t_q s j i).toInt ≤ 1023 := fun y => h5 ⟨z, y⟩
                  simp [this]
                · simp [z])
              simp (disch := first | omega | decide | assumption | exact Nat.le_of_ble_eq_true rfl) only [s276_93, s276_114, s276_116, ow_some, true_and, and_true, and_self, if_true, if_false, not_true, not_false_eq_true, Bool.false_eq_true, eq_self, Option.toList, List.cons_append, List.nil_append, ix_in, ix_cl, lt_in, lt_cl, lt_add, ix_one, vu_eq, vu_ne, arI_mk, arL_mk, arY_mZ, arY_mB, alen_mI, fld_sfl_ne, fld_sfl_same, Option.isSome_some, pok_i, b1z, b01, z10, b1o, Int32.zero_add, vu_vu, upd_eq, upd_ne, true_or, or_true, V.r1, V.r2, V.r3, V.r4, V.r16, V.r17, V.r18, V.r19, V.r20, V.r23, V.r24, V.r25, V.r26, V.r27, V.r28, V.r29, V.r30, V.c172, V.c173, V.c174, V.c186, V.c187, V.c188, V.n5, V.n13, V.n14, V.i0, V.i5, V.i6, V.i7, V.i8, V.i9, V.i10, V.i11, V.i12, V.i13, V.i14, V.i15, V.i21, V.i22, h5, hno]
              all_goals first | exact ⟨rfl, rfl, rfl, rfl⟩ | rfl
          · rintro h ⟨u5, u6⟩ ⟨rfl, hk⟩
            have hyes : allB (fun i => t_ok s.1 (t_q s j i)) (nM s j) = true := allB_iff.mpr hk
            simp (disch := first | omega | decide | assumption | exact Nat.le_of_ble_eq_true rfl) only [s276_59, s276_61, s276_62, s276_65, s276_66, s276_67, s276_123, s276_124, ow_some, true_and, and_true, and_self, if_true, if_false, not_true, not_false_eq_true, Bool.false_eq_true, eq_self, Option.toList, List.cons_append, List.nil_append, ix_in, ix_cl, lt_in, lt_cl, lt_add, ix_one, vu_eq, vu_ne, arI_mk, arL_mk, arY_mZ, arY_mB, alen_mI, fld_sfl_ne, fld_sfl_same, Option.isSome_some, pok_i, b1z, b01, z10, b1o, Int32.zero_add, vu_vu, upd_eq, upd_ne, true_or, or_true, V.r1, V.r2, V.r3, V.r4, V.r16, V.r17, V.r18, V.r19, V.r20, V.r23, V.r24, V.r25, V.r26, V.r27, V.r28, V.r29, V.r30, V.c172, V.c173, V.c174, V.c186, V.c187, V.c188, V.n5, V.n13, V.n14, V.i0, V.i5, V.i6, V.i7, V.i8, V.i9, V.i10, V.i11, V.i12, V.i13, V.i14, V.i15, V.i21, V.i22, hMj.2, ix_le, Nat.le_refl, hyes]
            rw [p276_125 (cno_MR V.mr) (Nat.le_of_ble_eq_true rfl) (sp_isThere V.mr V.c172 W.2.1 W.T (show q < 9 by omega))]
            by_cases h7 : (nT s.1).testBit q = true
            · simp (disch := first | omega | decide | assumption | exact Nat.le_of_ble_eq_true rfl) only [s276_128, s276_131, s276_132, s276_135, s276_137, ow_some, true_and, and_true, and_self, if_true, if_false, not_true, not_false_eq_true, Bool.false_eq_true, eq_self, Option.toList, List.cons_append, List.nil_append, ix_in, ix_cl, lt_in, lt_cl, lt_add, ix_one, vu_eq, vu_ne, arI_mk, arL_mk, arY_mZ, arY_mB, alen_mI, fld_sfl_ne, fld_sfl_same, Option.isSome_some, pok_i, b1z, b01, z10, b1o, Int32.zero_add, vu_vu, upd_eq, upd_ne, true_or, or_true, V.r1, V.r2, V.r3, V.r4, V.r16, V.r17, V.r18, V.r19, V.r20, V.r23, V.r24, V.r25, V.r26, V.r27, V.r28, V.r29, V.r30, V.c172, V.c173, V.c174, V.c186, V.c187, V.c188, V.n5, V.n13, V.n14, V.i0, V.i5, V.i6, V.i7, V.i8, V.i9, V.i10, V.i11, V.i12, V.i13, V.i14, V.i15, V.i21, V.i22, h7]
              all_goals first | exact ⟨rfl, rfl, rfl, rfl⟩ | rfl
            · simp (disch := first | omega | decide | assumption | exact Nat.le_of_ble_eq_true rfl) only [s276_128, s276_131, s276_132, s276_135, s276_137, ow_some, true_and, and_true, and_self, if_true, if_false, not_true, not_false_eq_true, Bool.false_eq_true, eq_self, Option.toList, List.cons_append, List.nil_append, ix_in, ix_cl, lt_in, lt_cl, lt_add, ix_one, vu_eq, vu_ne, arI_mk, arL_mk, arY_mZ, arY_mB, alen_mI, fld_sfl_ne, fld_sfl_same, Option.isSome_some, pok_i, b1z, b01, z10, b1o, Int32.zero_add, vu_vu, upd_eq, upd_ne, true_or, or_true, V.r1, V.r2, V.r3, V.r4, V.r16, V.r17, V.r18, V.r19, V.r20, V.r23, V.r24, V.r25, V.r26, V.r27, V.r28, V.r29, V.r30, V.c172, V.c173, V.c174, V.c186, V.c187, V.c188, V.n5, V.n13, V.n14, V.i0, V.i5, V.i6, V.i7, V.i8, V.i9, V.i10, V.i11, V.i12, V.i13, V.i14, V.i15, V.i21, V.i22, h7]
              all_goals first | exact ⟨rfl, rfl, rfl, rfl⟩ | rfl
        · simp (disch := first | omega | decide | assumption | exact Nat.le_of_ble_eq_true rfl) only [s276_50, s276_53, s276_55, ow_some, true_and, and_true, and_self, if_true, if_false, not_true, not_false_eq_true, Bool.false_eq_true, eq_self, Option.toList, List.cons_append, List.nil_append, ix_in, ix_cl, lt_in, lt_cl, lt_add, ix_one, vu_eq, vu_ne, arI_mk, arL_mk, arY_mZ, arY_mB, alen_mI, fld_sfl_ne, fld_sfl_same, Option.isSome_some, pok_i, b1z, b01, z10, b1o, Int32.zero_add, vu_vu, upd_eq, upd_ne, true_or, or_true, V.r1, V.r2, V.r3, V.r4, V.r16, V.r17, V.r18, V.r19, V.r20, V.r23, V.r24, V.r25, V.r26, V.r27, V.r28, V.r29, V.r30, V.c172, V.c173, V.c174, V.c186, V.c187, V.c188, V.n5, V.n13, V.n14, V.i0, V.i5, V.i6, V.i7, V.i8, V.i9, V.i10, V.i11, V.i12, V.i13, V.i14, V.i15, V.i21, V.i22, h4]
          all_goals first | exact ⟨rfl, rfl, rfl, rfl⟩ | rfl
    · simp (disch := first | omega | decide | assumption | exact Nat.le_of_ble_eq_true rfl) only [s276_18, s276_21, s276_23, ow_some, true_and, and_true, and_self, if_true, if_false, not_true, not_false_eq_true, Bool.false_eq_true, eq_self, Option.toList, List.cons_append, List.nil_append, ix_in, ix_cl, lt_in, lt_cl, lt_add, ix_one, vu_eq, vu_ne, arI_mk, arL_mk, arY_mZ, arY_mB, alen_mI, fld_sfl_ne, fld_sfl_same, Option.isSome_some, pok_i, b1z, b01, z10, b1o, Int32.zero_add, vu_vu, upd_eq, upd_ne, true_or, or_true, V.r1, V.r2, V.r3, V.r4, V.r16, V.r17, V.r18, V.r19, V.r20, V.r23, V.r24, V.r25, V.r26, V.r27, V.r28, V.r29, V.r30, V.c172, V.c173, V.c174, V.c186, V.c187, V.c188, V.n5, V.n13, V.n14, V.i0, V.i5, V.i6, V.i7, V.i8, V.i9, V.i10, V.i11, V.i12, V.i13, V.i14, V.i15, V.i21, V.i22, h2]
      all_goals first | exact ⟨rfl, rfl, rfl, rfl⟩ | rfl
  · have : ¬ ((0 ≤ t.toInt ∧ t.toInt ≤ 3) ∧ (0 ≤ p.toInt ∧ p.toInt < P)) := fun z => h1 z.1
    rw [if_neg this]
    simp (disch := first | omega | decide | assumption | exact Nat.le_of_ble_eq_true rfl) only [s276_9, s276_21, s276_23, ow_some, true_and, and_true, and_self, if_true, if_false, not_true, not_false_eq_true, Bool.false_eq_true, eq_self, Option.toList, List.cons_append, List.nil_append, ix_in, ix_cl, lt_in, lt_cl, lt_add, ix_one, vu_eq, vu_ne, arI_mk, arL_mk, arY_mZ, arY_mB, alen_mI, fld_sfl_ne, fld_sfl_same, Option.isSome_some, pok_i, b1z, b01, z10, b1o, Int32.zero_add, vu_vu, upd_eq, upd_ne, true_or, or_true, V.r1, V.r2, V.r3, V.r4, V.r16, V.r17, V.r18, V.r19, V.r20, V.r23, V.r24, V.r25, V.r26, V.r27, V.r28, V.r29, V.r30, V.c172, V.c173, V.c174, V.c186, V.c187, V.c188, V.n5, V.n13, V.n14, V.i0, V.i5, V.i6, V.i7, V.i8, V.i9, V.i10, V.i11, V.i12, V.i13, V.i14, V.i15, V.i21, V.i22, h1]
    all_goals first | exact ⟨rfl, rfl, rfl, rfl⟩ | rfl
def t_c (s : m_T) (S P t p b i : Nat) : Bool := m_hold (upd s.1 (66 + p) (nI b)) S P (dif (nT s.1) ((t_q s t i).toInt.toNat / 2)) == decide ((t_q s t i).toInt.toNat % 2 = 1)
def t_fit (s : m_T) (S P t p b : Nat) : Bool := allB (t_c s S P t p b) (nM s t)
theorem allB_mono {c : Nat → Bool} {i n : Nat} (h : allB c i = false) (hi : i ≤ n) : allB c n = false := by
  by_cases ha : allB c n = true
  · have : allB c i = true := allB_iff.mpr (fun j hj => allB_iff.mp ha j (by omega))
    rw [h] at this; exact absurd this (by decide)
  · simpa using ha
theorem sp_laysBuilds {X : Nat × (Nat → Int32)} {d N K : Nat} {f : Nat → e_C} {s : m_T} {S P : Nat} (V : MV f s) (W : WF s.1 S P) (hR : RM s) {t p : Nat} (ht : t < 4) (hp : p < 9) (hok : allB (fun i => t_ok s.1 (t_q s t i)) (nM s t) = true) {a3 a4 a5 a6 a7 : Value} : TT X (d + 6) 277 0 [.ref 171, .int (nI t), .int (nI p), a3, a4, a5, a6, a7] [] f N K (fun f' n' k' v => n' = N ∧ k' = K ∧ SW f f' ∧ MV f' s ∧ v = some (.int (nI (cnt (t_fit s S P t p) 100))) ∧ ∃ g, arZ (f' 184) = some (100, g) ∧ ∀ i, i < 100 → g i = bI (t_fit s S P t p i)) := by
  obtain ⟨g0, hg0⟩ := V.e184
  have hMt := hR t ht
  have e40 : (40 : Int32) * nI t = nI (40 * t) := by rw [lit_nI 40, pk_mul]
  have t2 : ((2 : Int32) = 0) = False := eq_false (by decide)
  simp (disch := first | omega | decide | assumption | exact Nat.le_of_ble_eq_true rfl) only [s277_0, s277_1, s277_4, s277_6, s277_7, s277_8, s277_9, s277_10, s277_11, s277_13, h277_14, ow_some, true_and, and_true, and_self, if_true, if_false, not_true, not_false_eq_true, Bool.false_eq_true, eq_self, Option.toList, List.cons_append, List.nil_append, ix_in, ix_cl, lt_in, lt_cl, lt_add, ix_one, vu_eq, vu_ne, arI_mk, arL_mk, arY_mZ, arY_mB, alen_mI, fld_sfl_ne, fld_sfl_same, Option.isSome_some, pok_i, b1z, b01, z10, b1o, Int32.zero_add, vu_vu, upd_eq, upd_ne, true_or, or_true, V.r1, V.r2, V.r3, V.r4, V.r16, V.r17, V.r18, V.r19, V.r20, V.r23, V.r24, V.r25, V.r26, V.r27, V.r28, V.r29, V.r30, V.c172, V.c173, V.c174, V.c186, V.c187, V.c188, V.n5, V.n13, V.n14, V.i0, V.i5, V.i6, V.i7, V.i8, V.i9, V.i10, V.i11, V.i12, V.i13, V.i14, V.i15, V.i21, V.i22]
  refine lp (fun b h (z : Int32 × (Nat → Int32) × Value × Value) => SW f h ∧ MV h (upd s.1 (66 + p) z.1, s.2) ∧ arZ (h 184) = some (100, z.2.1) ∧ ∀ i, i < b → z.2.1 i = bI (t_fit s S P t p i)) (fun b z => [.ref 171, .int (nI t), .int (nI p), .int (s.1 (66 + p)), .int (nI (cnt (t_fit s S P t p) b)), .int (nI b), z.2.2.1, z.2.2.2]) 100 ?_ ?_ 0 f (s.1 (66 + p), g0, a6, a7) (by omega) ⟨SW.rf, by rw [upd_self]; exact V, hg0, fun i hi => by omega⟩
  · rintro b h ⟨y, g, u6, u7⟩ hb ⟨sw, V1, hg, gv⟩ hI
    simp only at V1 hg gv
    have hc : (99 < b) = False := eq_false (by omega)
    have hcn := cnt_le (c := t_fit s S P t p) (n := b)
    have hy := arY_Z hg
    simp (disch := first | omega | decide | assumption | exact Nat.le_of_ble_eq_true rfl) only [s277_16, s277_18, s277_20, s277_23, s277_24, s277_27, s277_29, s277_30, s277_31, s277_33, s277_34, s277_35, s277_38, s277_40, y277_41, s277_42, h277_43, ow_some, true_and, and_true, and_self, if_true, if_false, not_true, not_false_eq_true, Bool.false_eq_true, eq_self, Option.toList, List.cons_append, List.nil_append, ix_in, ix_cl, lt_in, lt_cl, lt_add, ix_one, vu_eq, vu_ne, arI_mk, arL_mk, arY_mZ, arY_mB, alen_mI, fld_sfl_ne, fld_sfl_same, Option.isSome_some, pok_i, b1z, b01, z10, b1o, Int32.zero_add, vu_vu, upd_eq, upd_ne, true_or, or_true, V1.r1, V1.r2, V1.r3, V1.r4, V1.r16, V1.r17, V1.r18, V1.r19, V1.r20, V1.r23, V1.r24, V1.r25, V1.r26, V1.r27, V1.r28, V1.r29, V1.r30, V1.c172, V1.c173, V1.c174, V1.c186, V1.c187, V1.c188, V1.n5, V1.n13, V1.n14, V1.i0, V1.i5, V1.i6, V1.i7, V1.i8, V1.i9, V1.i10, V1.i11, V1.i12, V1.i13, V1.i14, V1.i15, V1.i21, V1.i22, lt_lt, hc, hy, nar_1, upd_upd]
    have V2 : MV (va_up h 172 (.inl (.int, 4182, .inl (upd s.1 (66 + p) (nI b))))) (upd s.1 (66 + p) (nI b), s.2) := V1.all
    have V3 : MV (va_up (va_up h 172 (.inl (.int, 4182, .inl (upd s.1 (66 + p) (nI b))))) 184 (.inl (.boolean, 100, .inl (upd g b 1)))) (upd s.1 (66 + p) (nI b), s.2) := V2.up ⟨_, rfl⟩
    have sw3 : SW f (va_up (va_up h 172 (.inl (.int, 4182, .inl (upd s.1 (66 + p) (nI b))))) 184 (.inl (.boolean, 100, .inl (upd g b 1)))) := (sw.tr (SW.up (by omega) (by omega))).tr (SW.up (by omega) (by omega))
    have hg3 : arZ (va_up (va_up h 172 (.inl (.int, 4182, .inl (upd s.1 (66 + p) (nI b))))) 184 (.inl (.boolean, 100, .inl (upd g b 1))) 184) = some (100, upd g b 1) := by rw [vu_eq]; rfl
    generalize va_up (va_up h 172 (.inl (.int, 4182, .inl (upd s.1 (66 + p) (nI b))))) 184 (.inl (.boolean, 100, .inl (upd g b 1))) = h3 at V3 sw3 hg3 ⊢
    have W3 : WF (upd s.1 (66 + p) (nI b)) S P := W.up (by unfold al_i; omega) (by omega)
    have e53 : upd s.1 (66 + p) (nI b) 53 = nI (nT s.1) := by rw [upd_ne (by omega)]; exact W.2.1
    have tail : ∀ h g' u6 u7, SW f h → MV h (upd s.1 (66 + p) (nI b), s.2) → arZ (h 184) = some (100, g') → g' b = bI (t_fit s S P t p b) → (∀ i, i ≠ b → g' i = g i) → TT X (d + 6) 277 133 [.ref 171, .int (nI t), .int (nI p), .int (s.1 (66 + p)), .int (nI (cnt (t_fit s S P t p) b)), .int (nI b), u6, u7] [] h N K (fun f' n' k' v => n' = N ∧ k' = K ∧ SW f f' ∧ MV f' s ∧ v = some (.int (nI (cnt (t_fit s S P t p) 100))) ∧ ∃ g, arZ (f' 184) = some (100, g) ∧ ∀ i, i < 100 → g i = bI (t_fit s S P t p i)) := by
      intro h g' u6 u7 sw V4 hg4 gb gn
      have hy := arY_Z hg4
      have gv' : ∀ i, i < b + 1 → g' i = bI (t_fit s S P t p i) := by
        intro i hi
        by_cases hib : i = b
        · subst hib; exact gb
        · rw [gn i hib]; exact gv i (by omega)
      have hcs := cnt_s (c := t_fit s S P t p) (n := b)
      by_cases hf : t_fit s S P t p b = true
      · rw [hf] at hcs gb
        simp only [if_true] at hcs
        simp (disch := first | omega | decide | assumption | exact Nat.le_of_ble_eq_true rfl) only [s277_133, s277_135, s277_136, s277_139, y277_141, s277_142, s277_145, s277_146, s277_149, s277_150, s277_151, s277_153, h277_156, ow_some, true_and, and_true, and_self, if_true, if_false, not_true, not_false_eq_true, Bool.false_eq_true, eq_self, Option.toList, List.cons_append, List.nil_append, ix_in, ix_cl, lt_in, lt_cl, lt_add, ix_one, vu_eq, vu_ne, arI_mk, arL_mk, arY_mZ, arY_mB, alen_mI, fld_sfl_ne, fld_sfl_same, Option.isSome_some, pok_i, b1z, b01, z10, b1o, Int32.zero_add, vu_vu, upd_eq, upd_ne, true_or, or_true, V4.r1, V4.r2, V4.r3, V4.r4, V4.r16, V4.r17, V4.r18, V4.r19, V4.r20, V4.r23, V4.r24, V4.r25, V4.r26, V4.r27, V4.r28, V4.r29, V4.r30, V4.c172, V4.c173, V4.c174, V4.c186, V4.c187, V4.c188, V4.n5, V4.n13, V4.n14, V4.i0, V4.i5, V4.i6, V4.i7, V4.i8, V4.i9, V4.i10, V4.i11, V4.i12, V4.i13, V4.i14, V4.i15, V4.i21, V4.i22, hy, gb, bI]
        rw [← hcs]
        exact hI h (nI b, g', u6, u7) ⟨sw, V4, hg4, gv'⟩
      · rw [Bool.not_eq_true] at hf
        rw [hf] at hcs gb
        simp only [Bool.false_eq_true, if_false] at hcs
        simp (disch := first | omega | decide | assumption | exact Nat.le_of_ble_eq_true rfl) only [s277_133, s277_135, s277_136, s277_139, y277_141, s277_142, s277_149, s277_150, s277_151, s277_153, h277_156, ow_some, true_and, and_true, and_self, if_true, if_false, not_true, not_false_eq_true, Bool.false_eq_true, eq_self, Option.toList, List.cons_append, List.nil_append, ix_in, ix_cl, lt_in, lt_cl, lt_add, ix_one, vu_eq, vu_ne, arI_mk, arL_mk, arY_mZ, arY_mB, alen_mI, fld_sfl_ne, fld_sfl_same, Option.isSome_some, pok_i, b1z, b01, z10, b1o, Int32.zero_add, vu_vu, upd_eq, upd_ne, true_or, or_true, V4.r1, V4.r2, V4.r3, V4.r4, V4.r16, V4.r17, V4.r18, V4.r19, V4.r20, V4.r23, V4.r24, V4.r25, V4.r26, V4.r27, V4.r28, V4.r29, V4.r30, V4.c172, V4.c173, V4.c174, V4.c186, V4.c187, V4.c188, V4.n5, V4.n13, V4.n14, V4.i0, V4.i5, V4.i6, V4.i7, V4.i8, V4.i9, V4.i10, V4.i11, V4.i12, V4.i13, V4.i14, V4.i15, V4.i21, V4.i22, hy, gb, bI, Int32.add_zero]
        rw [← hcs]
        exact hI h (nI b, g', u6, u7) ⟨sw, V4, hg4, gv'⟩
    refine lp (fun i h (z : (Nat → Int32) × Value) => SW f h ∧ MV h (upd s.1 (66 + p) (nI b), s.2) ∧ arZ (h 184) = some (100, z.1) ∧ z.1 b = bI (allB (t_c s S P t p b) i) ∧ ∀ i, i ≠ b → z.1 i = g i) (fun i z => [.ref 171, .int (nI t), .int (nI p), .int (s.1 (66 + p)), .int (nI (cnt (t_fit s S P t p) b)), .int (nI b), .int (nI i), z.2]) (nM s t) ?_ ?_ 0 h3 (upd g b 1, u7) (by omega) ⟨sw3, V3, hg3, upd_eq, fun i hi => upd_ne hi⟩
    · rintro i h ⟨g', u7⟩ hi ⟨sw, V4, hg4, gb, gn⟩ hJ
      simp only at hg4 gb gn
      have hc : (nM s t ≤ i) = False := eq_false (by omega)
      have hy := arY_Z hg4
      by_cases ha : allB (t_c s S P t p b) i = true
      · have hoki := allB_iff.mp hok i hi
        unfold t_ok at hoki
        simp only [Bool.and_eq_true, decide_eq_true_eq] at hoki
        obtain ⟨m, hm, hmv, hmi⟩ := l9 (v := t_q s t i) (N := 1024) hoki.1.1 (by omega) (by omega)
        have hqv : s.2.2.2.2.2.2 (40 * t + i) = (nI m).toInt64 := hmv
        have d2 := dv2 (show m < 65536 by omega)
        have r2 := rm2 (show m < 65536 by omega)
        have hdn := dif_nI (s := m / 2) W.T
        have gb2 : g' b = 1 := by rw [gb, ha]; rfl
        simp (disch := first | omega | decide | assumption | exact Nat.le_of_ble_eq_true rfl) only [s277_45, s277_47, s277_48, s277_51, s277_52, s277_53, s277_56, s277_57, s277_60, y277_62, s277_63, s277_66, s277_67, s277_70, s277_72, s277_73, s277_74, s277_76, s277_77, s277_78, s277_79, s277_81, s277_82, s277_85, s277_87, s277_88, s277_89, s277_92, s277_94, s277_95, s277_97, s277_98, s277_99, s277_100, s277_101, ow_some, true_and, and_true, and_self, if_true, if_false, not_true, not_false_eq_true, Bool.false_eq_true, eq_self, Option.toList, List.cons_append, List.nil_append, ix_in, ix_cl, lt_in, lt_cl, lt_add, ix_one, vu_eq, vu_ne, arI_mk, arL_mk, arY_mZ, arY_mB, alen_mI, fld_sfl_ne, fld_sfl_same, Option.isSome_some, pok_i, b1z, b01, z10, b1o, Int32.zero_add, vu_vu, upd_eq, upd_ne, true_or, or_true, V4.r1, V4.r2, V4.r3, V4.r4, V4.r16, V4.r17, V4.r18, V4.r19, V4.r20, V4.r23, V4.r24, V4.r25, V4.r26, V4.r27, V4.r28, V4.r29, V4.r30, V4.c172, V4.c173, V4.c174, V4.c186, V4.c187, V4.c188, V4.n5, V4.n13, V4.n14, V4.i0, V4.i5, V4.i6, V4.i7, V4.i8, V4.i9, V4.i10, V4.i11, V4.i12, V4.i13, V4.i14, V4.i15, V4.i21, V4.i22, hMt.2, ix_le, hc, hy, gb2, e40, nI_add, hqv, nI_6432, W.2.1, t2, d2, hdn, ne_eq]
        refine k277_102 (cno_MR V4.mr) (Nat.le_of_ble_eq_true rfl) (vb_hold V4 W3 (dif_lt W.T)) ?_
        rintro h5 n5 k5 v5 ⟨rfl, rfl, sm5, V5, rfl⟩
        have hg5 : arZ (h5 184) = some (100, g') := by rw [sm5 184 (by omega)]; exact hg4
        have hy5 := arY_Z hg5
        have hcn : t_c s S P t p b i = (m_hold (upd s.1 (66 + p) (nI b)) S P (dif (nT s.1) (m / 2)) == decide (m % 2 = 1)) := by unfold t_c; rw [hmi, Int.toNat_natCast]
        have hall : allB (t_c s S P t p b) (i + 1) = (m_hold (upd s.1 (66 + p) (nI b)) S P (dif (nT s.1) (m / 2)) == decide (m % 2 = 1)) := by rw [allB, ha, hcn]; rfl
        have e1 : (nI (m % 2) = 1) = (m % 2 = 1) := tl_eq (c := 1) (by decide) (by omega)
        have z01 : ((0 : Int32) = 1) = False := eq_false (by decide)
        have fin : ∀ x : Int32, x = bI (allB (t_c s S P t p b) (i + 1)) → TT X (d + 6) 277 126 [.ref 171, .int (nI t), .int (nI p), .int (s.1 (66 + p)), .int (nI (cnt (t_fit s S P t p) b)), .int (nI b), .int (nI i), .int (nI m)] [.int x, .int (nI b), .ref 184] h5 n5 k5 (fun f' n' k' v => n' = n5 ∧ k' = k5 ∧ SW f f' ∧ MV f' s ∧ v = some (.int (nI (cnt (t_fit s S P t p) 100))) ∧ ∃ g, arZ (f' 184) = some (100, g) ∧ ∀ i, i < 100 → g i = bI (t_fit s S P t p i)) := by
          intro x hx
          have hn : vp_nar .boolean x = x := by rw [hx]; unfold bI; exact nar_Z
          simp (disch := first | omega | decide | assumption | exact Nat.le_of_ble_eq_true rfl) only [y277_126, s277_127, h277_130, ow_some, true_and, and_true, and_self, if_true, if_false, not_true, not_false_eq_true, Bool.false_eq_true, eq_self, Option.toList, List.cons_append, List.nil_append, ix_in, ix_cl, lt_in, lt_cl, lt_add, ix_one, vu_eq, vu_ne, arI_mk, arL_mk, arY_mZ, arY_mB, alen_mI, fld_sfl_ne, fld_sfl_same, Option.isSome_some, pok_i, b1z, b01, z10, b1o, Int32.zero_add, vu_vu, upd_eq, upd_ne, true_or, or_true, V5.r1, V5.r2, V5.r3, V5.r4, V5.r16, V5.r17, V5.r18, V5.r19, V5.r20, V5.r23, V5.r24, V5.r25, V5.r26, V5.r27, V5.r28, V5.r29, V5.r30, V5.c172, V5.c173, V5.c174, V5.c186, V5.c187, V5.c188, V5.n5, V5.n13, V5.n14, V5.i0, V5.i5, V5.i6, V5.i7, V5.i8, V5.i9, V5.i10, V5.i11, V5.i12, V5.i13, V5.i14, V5.i15, V5.i21, V5.i22, hy5, hn]
          refine hJ _ (upd g' b x, _) ⟨(sw.tr sm5.w).tr (SW.up (by omega) (by omega)), V5.up ⟨_, rfl⟩, by rw [vu_eq]; rfl, ?_, fun i hi => ?_⟩
          · show upd g' b x b = _
            rw [upd_eq, hx]
          · show upd g' b x i = _
            rw [upd_ne hi]; exact gn i hi
        by_cases hh : m_hold (upd s.1 (66 + p) (nI b)) S P (dif (nT s.1) (m / 2)) = true
        · by_cases hm2 : m % 2 = 1
          · simp (disch := first | omega | decide | assumption | exact Nat.le_of_ble_eq_true rfl) only [s277_105, s277_107, s277_108, s277_109, s277_110, s277_113, s277_114, s277_117, s277_118, s277_121, s277_122, ow_some, true_and, and_true, and_self, if_true, if_false, not_true, not_false_eq_true, Bool.false_eq_true, eq_self, Option.toList, List.cons_append, List.nil_append, ix_in, ix_cl, lt_in, lt_cl, lt_add, ix_one, vu_eq, vu_ne, arI_mk, arL_mk, arY_mZ, arY_mB, alen_mI, fld_sfl_ne, fld_sfl_same, Option.isSome_some, pok_i, b1z, b01, z10, b1o, Int32.zero_add, vu_vu, upd_eq, upd_ne, true_or, or_true, V5.r1, V5.r2, V5.r3, V5.r4, V5.r16, V5.r17, V5.r18, V5.r19, V5.r20, V5.r23, V5.r24, V5.r25, V5.r26, V5.r27, V5.r28, V5.r29, V5.r30, V5.c172, V5.c173, V5.c174, V5.c186, V5.c187, V5.c188, V5.n5, V5.n13, V5.n14, V5.i0, V5.i5, V5.i6, V5.i7, V5.i8, V5.i9, V5.i10, V5.i11, V5.i12, V5.i13, V5.i14, V5.i15, V5.i21, V5.i22, hh, t2, r2, e1, hm2, ne_eq]
            exact fin 1 (by rw [hall, hh, decide_eq_true hm2]; rfl)
          · simp (disch := first | omega | decide | assumption | exact Nat.le_of_ble_eq_true rfl) only [s277_105, s277_107, s277_108, s277_109, s277_110, s277_113, s277_114, s277_117, s277_118, s277_121, s277_122, s277_125, ow_some, true_and, and_true, and_self, if_true, if_false, not_true, not_false_eq_true, Bool.false_eq_true, eq_self, Option.toList, List.cons_append, List.nil_append, ix_in, ix_cl, lt_in, lt_cl, lt_add, ix_one, vu_eq, vu_ne, arI_mk, arL_mk, arY_mZ, arY_mB, alen_mI, fld_sfl_ne, fld_sfl_same, Option.isSome_some, pok_i, b1z, b01, z10, b1o, Int32.zero_add, vu_vu, upd_eq, upd_ne, true_or, or_true, V5.r1, V5.r2, V5.r3, V5.r4, V5.r16, V5.r17, V5.r18, V5.r19, V5.r20, V5.r23, V5.r24, V5.r25, V5.r26, V5.r27, V5.r28, V5.r29, V5.r30, V5.c172, V5.c173, V5.c174, V5.c186, V5.c187, V5.c188, V5.n5, V5.n13, V5.n14, V5.i0, V5.i5, V5.i6, V5.i7, V5.i8, V5.i9, V5.i10, V5.i11, V5.i12, V5.i13, V5.i14, V5.i15, V5.i21, V5.i22, hh, t2, r2, e1, hm2, ne_eq, z10]
            exact fin 0 (by rw [hall, hh, decide_eq_false hm2]; rfl)
        · rw [Bool.not_eq_true] at hh
          by_cases hm2 : m % 2 = 1
          · simp (disch := first | omega | decide | assumption | exact Nat.le_of_ble_eq_true rfl) only [s277_105, s277_107, s277_108, s277_109, s277_110, s277_113, s277_114, s277_117, s277_118, s277_121, s277_122, s277_125, ow_some, true_and, and_true, and_self, if_true, if_false, not_true, not_false_eq_true, Bool.false_eq_true, eq_self, Option.toList, List.cons_append, List.nil_append, ix_in, ix_cl, lt_in, lt_cl, lt_add, ix_one, vu_eq, vu_ne, arI_mk, arL_mk, arY_mZ, arY_mB, alen_mI, fld_sfl_ne, fld_sfl_same, Option.isSome_some, pok_i, b1z, b01, z10, b1o, Int32.zero_add, vu_vu, upd_eq, upd_ne, true_or, or_true, V5.r1, V5.r2, V5.r3, V5.r4, V5.r16, V5.r17, V5.r18, V5.r19, V5.r20, V5.r23, V5.r24, V5.r25, V5.r26, V5.r27, V5.r28, V5.r29, V5.r30, V5.c172, V5.c173, V5.c174, V5.c186, V5.c187, V5.c188, V5.n5, V5.n13, V5.n14, V5.i0, V5.i5, V5.i6, V5.i7, V5.i8, V5.i9, V5.i10, V5.i11, V5.i12, V5.i13, V5.i14, V5.i15, V5.i21, V5.i22, hh, t2, r2, e1, hm2, ne_eq, z01]
            exact fin 0 (by rw [hall, hh, decide_eq_true hm2]; rfl)
          · simp (disch := first | omega | decide | assumption | exact Nat.le_of_ble_eq_true rfl) only [s277_105, s277_107, s277_108, s277_109, s277_110, s277_113, s277_114, s277_117, s277_118, s277_121, s277_122, s277_125, ow_some, true_and, and_true, and_self, if_true, if_false, not_true, not_false_eq_true, Bool.false_eq_true, eq_self, Option.toList, List.cons_append, List.nil_append, ix_in, ix_cl, lt_in, lt_cl, lt_add, ix_one, vu_eq, vu_ne, arI_mk, arL_mk, arY_mZ, arY_mB, alen_mI, fld_sfl_ne, fld_sfl_same, Option.isSome_some, pok_i, b1z, b01, z10, b1o, Int32.zero_add, vu_vu, upd_eq, upd_ne, true_or, or_true, V5.r1, V5.r2, V5.r3, V5.r4, V5.r16, V5.r17, V5.r18, V5.r19, V5.r20, V5.r23, V5.r24, V5.r25, V5.r26, V5.r27, V5.r28, V5.r29, V5.r30, V5.c172, V5.c173, V5.c174, V5.c186, V5.c187, V5.c188, V5.n5, V5.n13, V5.n14, V5.i0, V5.i5, V5.i6, V5.i7, V5.i8, V5.i9, V5.i10, V5.i11, V5.i12, V5.i13, V5.i14, V5.i15, V5.i21, V5.i22, hh, t2, r2, e1, hm2, ne_eq]
            exact fin 1 (by rw [hall, hh, decide_eq_false hm2]; rfl)
      · rw [Bool.not_eq_true] at ha
        have gb2 : g' b = 0 := by rw [gb, ha]; rfl
        simp (disch := first | omega | decide | assumption | exact Nat.le_of_ble_eq_true rfl) only [s277_45, s277_47, s277_48, s277_51, s277_52, s277_53, s277_56, s277_57, s277_60, y277_62, s277_63, ow_some, true_and, and_true, and_self, if_true, if_false, not_true, not_false_eq_true, Bool.false_eq_true, eq_self, Option.toList, List.cons_append, List.nil_append, ix_in, ix_cl, lt_in, lt_cl, lt_add, ix_one, vu_eq, vu_ne, arI_mk, arL_mk, arY_mZ, arY_mB, alen_mI, fld_sfl_ne, fld_sfl_same, Option.isSome_some, pok_i, b1z, b01, z10, b1o, Int32.zero_add, vu_vu, upd_eq, upd_ne, true_or, or_true, V4.r1, V4.r2, V4.r3, V4.r4, V4.r16, V4.r17, V4.r18, V4.r19, V4.r20, V4.r23, V4.r24, V4.r25, V4.r26, V4.r27, V4.r28, V4.r29, V4.r30, V4.c172, V4.c173, V4.c174, V4.c186, V4.c187, V4.c188, V4.n5, V4.n13, V4.n14, V4.i0, V4.i5, V4.i6, V4.i7, V4.i8, V4.i9, V4.i10, V4.i11, V4.i12, V4.i13, V4.i14, V4.i15, V4.i21, V4.i22, hMt.2, ix_le, hc, hy, gb2]
        exact tail h g' _ _ sw V4 hg4 (by rw [gb2, t_fit, allB_mono ha (by omega)]; rfl) gn
    · rintro h ⟨g', u7⟩ ⟨sw, V4, hg4, gb, gn⟩
      simp (disch := first | omega | decide | assumption | exact Nat.le_of_ble_eq_true rfl) only [s277_45, s277_47, s277_48, s277_51, s277_52, s277_53, ow_some, true_and, and_true, and_self, if_true, if_false, not_true, not_false_eq_true, Bool.false_eq_true, eq_self, Option.toList, List.cons_append, List.nil_append, ix_in, ix_cl, lt_in, lt_cl, lt_add, ix_one, vu_eq, vu_ne, arI_mk, arL_mk, arY_mZ, arY_mB, alen_mI, fld_sfl_ne, fld_sfl_same, Option.isSome_some, pok_i, b1z, b01, z10, b1o, Int32.zero_add, vu_vu, upd_eq, upd_ne, true_or, or_true, V4.r1, V4.r2, V4.r3, V4.r4, V4.r16, V4.r17, V4.r18, V4.r19, V4.r20, V4.r23, V4.r24, V4.r25, V4.r26, V4.r27, V4.r28, V4.r29, V4.r30, V4.c172, V4.c173, V4.c174, V4.c186, V4.c187, V4.c188, V4.n5, V4.n13, V4.n14, V4.i0, V4.i5, V4.i6, V4.i7, V4.i8, V4.i9, V4.i10, V4.i11, V4.i12, V4.i13, V4.i14, V4.i15, V4.i21, V4.i22, hMt.2, ix_le, Nat.le_refl]
      exact tail h g' _ _ sw V4 hg4 gb gn
  · rintro h ⟨y, g, u6, u7⟩ ⟨sw, V1, hg, gv⟩
    simp only at V1 hg gv
    simp (disch := first | omega | decide | assumption | exact Nat.le_of_ble_eq_true rfl) only [s277_16, s277_18, s277_20, s277_159, s277_160, s277_163, s277_165, s277_166, s277_167, s277_168, s277_169, s277_171, ow_some, true_and, and_true, and_self, if_true, if_false, not_true, not_false_eq_true, Bool.false_eq_true, eq_self, Option.toList, List.cons_append, List.nil_append, ix_in, ix_cl, lt_in, lt_cl, lt_add, ix_one, vu_eq, vu_ne, arI_mk, arL_mk, arY_mZ, arY_mB, alen_mI, fld_sfl_ne, fld_sfl_same, Option.isSome_some, pok_i, b1z, b01, z10, b1o, Int32.zero_add, vu_vu, upd_eq, upd_ne, true_or, or_true, V1.r1, V1.r2, V1.r3, V1.r4, V1.r16, V1.r17, V1.r18, V1.r19, V1.r20, V1.r23, V1.r24, V1.r25, V1.r26, V1.r27, V1.r28, V1.r29, V1.r30, V1.c172, V1.c173, V1.c174, V1.c186, V1.c187, V1.c188, V1.n5, V1.n13, V1.n14, V1.i0, V1.i5, V1.i6, V1.i7, V1.i8, V1.i9, V1.i10, V1.i11, V1.i12, V1.i13, V1.i14, V1.i15, V1.i21, V1.i22, lt_lt]
    have V2 := V1.all (all' := upd (upd s.1 (66 + p) y) (66 + p) (s.1 (66 + p)))
    have he : upd (upd s.1 (66 + p) y) (66 + p) (s.1 (66 + p)) = s.1 := by rw [upd_upd, upd_self]
    rw [he] at V2
    refine ⟨sw.tr (SW.up (by omega) (by omega)), ?_, g, ?_, gv⟩
    · simpa only [upd_upd, upd_self] using V2
    · exact hg
theorem nt_0 {s : m_T} {P : Nat} {t p : Int32} (h : m_nt s P t p = 0) : ∃ t' p', t = nI t' ∧ t' < 4 ∧ p = nI p' ∧ p' < P ∧ allB (fun i => t_ok s.1 (t_q s t' i)) (nM s t') = true ∧ (nT s.1).testBit p' = true := by
  unfold m_nt at h
  by_cases h1 : (0 ≤ t.toInt ∧ t.toInt ≤ 3) ∧ (0 ≤ p.toInt ∧ p.toInt < P)
  · rw [if_pos h1] at h
    refine ⟨t.toInt.toNat, p.toInt.toNat, Int32.toInt_inj.mp (by rw [nI_toInt (by omega)]; omega), by omega, Int32.toInt_inj.mp ?_, by omega, ?_⟩
    · have hb := p.toInt_lt
      rw [nI_toInt (by omega)]; omega
    · by_cases h2 : s.2.2.2.2.1 t.toInt.toNat = -1
      · rw [if_pos h2] at h; exact absurd h (by decide)
      · rw [if_neg h2] at h
        by_cases h3 : 1 ≤ nM s t.toInt.toNat ∧ nM s t.toInt.toNat ≤ 10
        · rw [if_pos h3] at h
          by_cases h4 : allB (fun i => t_ok s.1 (t_q s t.toInt.toNat i)) (nM s t.toInt.toNat) = true
          · rw [if_pos h4] at h
            refine ⟨h4, ?_⟩
            by_cases h5 : (nT s.1).testBit p.toInt.toNat = true
            · exact h5
            · rw [if_neg h5] at h; exact absurd h (by decide)
          · rw [if_neg h4] at h; exact absurd h (by decide)
        · rw [if_neg h3] at h; exact absurd h (by decide)
  · rw [if_neg h1] at h; exact absurd h (by decide)
def o_builds (s : m_T) (S P : Nat) (t p : Int32) : Int32 := if m_nt s P t p = 0 then nI (cnt (t_fit s S P t.toInt.toNat p.toInt.toNat) 100) else m_nt s P t p
theorem nI_tn {m : Nat} (h : m < 2147483648) : (nI m).toInt.toNat = m := by rw [nI_toInt (by omega)]; omega
theorem sp_builds {X : Nat × (Nat → Int32)} {d N K : Nat} {f : Nat → e_C} {s : m_T} {S P : Nat} (V : MV f s) (W : WF s.1 S P) (hR : RM s) {t p : Int32} {a3 : Value} : TT X (d + 8) 275 0 [.ref 171, .int t, .int p, a3] [] f N K (MZ N K f (s.1, o_builds s S P t p) s.2) := by
  simp only [s275_0, s275_1, s275_2, V.i0, pok_i, true_and]
  have sm0 : SM f (va_up f 171 (sfl (f 171) 0 (.int 0))) := SM.up (by omega) (by omega)
  have V0 := V.num (j := 0) (x := 0) (by decide)
  generalize va_up f 171 (sfl (f 171) 0 (.int 0)) = f0 at sm0 V0 ⊢
  simp (disch := first | omega | decide | assumption | exact Nat.le_of_ble_eq_true rfl) only [s275_5, s275_6, s275_7, ow_some, true_and, and_true, and_self, if_true, if_false, not_true, not_false_eq_true, Bool.false_eq_true, eq_self, Option.toList, List.cons_append, List.nil_append, ix_in, ix_cl, lt_in, lt_cl, lt_add, ix_one, vu_eq, vu_ne, arI_mk, arL_mk, arY_mZ, arY_mB, alen_mI, fld_sfl_ne, fld_sfl_same, Option.isSome_some, pok_i, b1z, b01, z10, b1o, Int32.zero_add, vu_vu, upd_eq, upd_ne, true_or, or_true, V0.r1, V0.r2, V0.r3, V0.r4, V0.r16, V0.r17, V0.r18, V0.r19, V0.r20, V0.r23, V0.r24, V0.r25, V0.r26, V0.r27, V0.r28, V0.r29, V0.r30, V0.c172, V0.c173, V0.c174, V0.c186, V0.c187, V0.c188, V0.n5, V0.n13, V0.n14, V0.i0, V0.i5, V0.i6, V0.i7, V0.i8, V0.i9, V0.i10, V0.i11, V0.i12, V0.i13, V0.i14, V0.i15, V0.i21, V0.i22]
  rw [p275_8 (cno_MR V0.mr) (Nat.le_of_ble_eq_true rfl) (sp_noTrials V0 W hR)]
  unfold o_builds
  have h9 := W.1.2.2.2.2.1
  by_cases h0 : m_nt s P t p = 0
  · rw [if_pos h0]
    simp (disch := first | omega | decide | assumption | exact Nat.le_of_ble_eq_true rfl) only [s275_11, s275_12, s275_13, s275_16, s275_17, s275_20, s275_21, s275_22, ow_some, true_and, and_true, and_self, if_true, if_false, not_true, not_false_eq_true, Bool.false_eq_true, eq_self, Option.toList, List.cons_append, List.nil_append, ix_in, ix_cl, lt_in, lt_cl, lt_add, ix_one, vu_eq, vu_ne, arI_mk, arL_mk, arY_mZ, arY_mB, alen_mI, fld_sfl_ne, fld_sfl_same, Option.isSome_some, pok_i, b1z, b01, z10, b1o, Int32.zero_add, vu_vu, upd_eq, upd_ne, true_or, or_true, V0.r1, V0.r2, V0.r3, V0.r4, V0.r16, V0.r17, V0.r18, V0.r19, V0.r20, V0.r23, V0.r24, V0.r25, V0.r26, V0.r27, V0.r28, V0.r29, V0.r30, V0.c172, V0.c173, V0.c174, V0.c186, V0.c187, V0.c188, V0.n5, V0.n13, V0.n14, V0.i0, V0.i5, V0.i6, V0.i7, V0.i8, V0.i9, V0.i10, V0.i11, V0.i12, V0.i13, V0.i14, V0.i15, V0.i21, V0.i22, h0]
    obtain ⟨t', p', rfl, ht, rfl, hp, hok, hth⟩ := nt_0 h0
    rw [nI_tn (by omega), nI_tn (by omega)]
    refine k275_23 (cno_MR V0.mr) (Nat.le_of_ble_eq_true rfl) (sp_laysBuilds V0 W hR ht (show p' < 9 by omega) hok) ?_
    rintro f1 n1 k1 v1 ⟨rfl, rfl, sw1, V1, rfl, g, hg, gv⟩
    simp (disch := first | omega | decide | assumption | exact Nat.le_of_ble_eq_true rfl) only [s275_26, ow_some, true_and, and_true, and_self, if_true, if_false, not_true, not_false_eq_true, Bool.false_eq_true, eq_self, Option.toList, List.cons_append, List.nil_append, ix_in, ix_cl, lt_in, lt_cl, lt_add, ix_one, vu_eq, vu_ne, arI_mk, arL_mk, arY_mZ, arY_mB, alen_mI, fld_sfl_ne, fld_sfl_same, Option.isSome_some, pok_i, b1z, b01, z10, b1o, Int32.zero_add, vu_vu, upd_eq, upd_ne, true_or, or_true, V1.r1, V1.r2, V1.r3, V1.r4, V1.r16, V1.r17, V1.r18, V1.r19, V1.r20, V1.r23, V1.r24, V1.r25, V1.r26, V1.r27, V1.r28, V1.r29, V1.r30, V1.c172, V1.c173, V1.c174, V1.c186, V1.c187, V1.c188, V1.n5, V1.n13, V1.n14, V1.i0, V1.i5, V1.i6, V1.i7, V1.i8, V1.i9, V1.i10, V1.i11, V1.i12, V1.i13, V1.i14, V1.i15, V1.i21, V1.i22]
    exact ⟨rfl, rfl, sm0.w.tr sw1, V1, rfl⟩
  · rw [if_neg h0]
    simp (disch := first | omega | decide | assumption | exact Nat.le_of_ble_eq_true rfl) only [s275_11, s275_12, s275_13, s275_16, s275_17, s275_26, ow_some, true_and, and_true, and_self, if_true, if_false, not_true, not_false_eq_true, Bool.false_eq_true, eq_self, Option.toList, List.cons_append, List.nil_append, ix_in, ix_cl, lt_in, lt_cl, lt_add, ix_one, vu_eq, vu_ne, arI_mk, arL_mk, arY_mZ, arY_mB, alen_mI, fld_sfl_ne, fld_sfl_same, Option.isSome_some, pok_i, b1z, b01, z10, b1o, Int32.zero_add, vu_vu, upd_eq, upd_ne, true_or, or_true, V0.r1, V0.r2, V0.r3, V0.r4, V0.r16, V0.r17, V0.r18, V0.r19, V0.r20, V0.r23, V0.r24, V0.r25, V0.r26, V0.r27, V0.r28, V0.r29, V0.r30, V0.c172, V0.c173, V0.c174, V0.c186, V0.c187, V0.c188, V0.n5, V0.n13, V0.n14, V0.i0, V0.i5, V0.i6, V0.i7, V0.i8, V0.i9, V0.i10, V0.i11, V0.i12, V0.i13, V0.i14, V0.i15, V0.i21, V0.i22, h0]
    exact ⟨rfl, rfl, sm0.w, V0, rfl⟩

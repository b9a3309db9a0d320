/-! the reference: deeds asked from outside -/
abbrev MZ (N K : Nat) (f : Nat → e_C) (r : (Nat → Int32) × Int32) (t : (Int32 × Int32 × Int32) × (Nat → Int32) × (Nat → Int32) × (Nat → Int32) × (Nat → Int32) × (Nat → Int64)) : t_Q := fun f' n' k' v => n' = N ∧ k' = K ∧ SW f f' ∧ MV f' (r.1, t) ∧ v = some (.int r.2)
theorem i9 {v : Int32} {N : Nat} (h0 : 0 ≤ v.toInt) (h1 : v.toInt < N) (hN : N ≤ 65536) : ∃ p, p < N ∧ v = nI p ∧ v.toInt = p := ⟨v.toInt.toNat, by omega, Int32.toInt_inj.mp (by rw [nI_toInt (by omega)]; omega), by omega⟩
def m_kept (all : Nat → Int32) : Nat → Int32 := fun i => all (52 + i)
theorem m_row_cg {all w w' : Nat → Int32} {D : Nat} (h : ∀ i, i < 40 → w i = w' i) : m_row all w D 40 = m_row all w' D 40 := by
  funext a
  unfold m_row
  by_cases h1 : 93 + 40 * D ≤ a ∧ a < 93 + 40 * D + 40
  · rw [if_pos h1, if_pos h1, h _ (by omega)]
  · rw [if_neg h1, if_neg h1]
theorem note_cg {all w w' : Nat → Int32} {D : Nat} (h : ∀ i, i < 40 → w i = w' i) : m_note all w D = m_note all w' D := by
  unfold m_note
  rw [m_row_cg h, m_row_cg h]
theorem note_lo {all w : Nat → Int32} {D a : Nat} (h : a < 92) : m_note all w D a = all a := by
  unfold m_note
  split
  · rw [upd_ne (by omega), m_row, if_neg (by omega), upd_ne (by omega), m_shift, if_neg (by omega)]
  · rw [upd_ne (by omega), m_row, if_neg (by omega)]
theorem w_see_0 {all : Nat → Int32} {P T : Nat} {v : Int} (h : w_see all P T v = 0) : 0 ≤ v ∧ v < P := by
  unfold w_see at h
  by_cases h3 : 0 ≤ v ∧ v < P
  · exact h3
  · rw [if_neg h3] at h; exact absurd h (by decide)
theorem w_move_0 {all : Nat → Int32} {S P T : Nat} {v w : Int} (h : w_move all S P T v w = 0) : (0 ≤ v ∧ v < P) ∧ (0 ≤ w ∧ w < S) := by
  unfold w_move at h
  by_cases h3 : (0 ≤ v ∧ v < P) ∧ (0 ≤ w ∧ w < S)
  · exact h3
  · rw [if_neg h3] at h; exact absurd h (by decide)
theorem w_prop_0 {all : Nat → Int32} {S : Nat} {v : Int} (h : w_prop all S v = 0) : 0 ≤ v ∧ v < S := by
  unfold w_prop at h
  by_cases h3 : 0 ≤ v ∧ v < S
  · exact h3
  · rw [if_neg h3] at h; exact absurd h (by decide)
def o_see (all : Nat → Int32) (S P D : Nat) (p : Int32) : (Nat → Int32) × Int32 := if w_see all P (nT all) p.toInt = 0 then (m_note (m_see all S P (nT all) p.toInt.toNat) (m_kept all) D, nI (m_bits (clr (nT all) p.toInt.toNat) 9)) else (all, -10 - w_see all P (nT all) p.toInt)
theorem sp_see {X : Nat × (Nat → Int32)} {d N K : Nat} {f : Nat → e_C} {s : m_T} {S P : Nat} (V : MV f s) (W : WF s.1 S P) {D : Nat} (hD : s.1 92 = nI D) (hD2 : D ≤ 10) {p : Int32} {a2 : Value} : TT X (d + 8) 222 0 [.ref 171, .int p, a2] [] f N K (MZ N K f (o_see s.1 S P D p) s.2) := by
  simp only [s222_0, s222_1, s222_2, V.i0, pok_i, true_and]
  have sm0 : SM f (va_up f 171 (sfl (f 171) 0 (.int 0))) := SM.up (by omega) (by omega)
  have V0 := V.num (j := 0) (x := 0) (by decide)
  generalize va_up f 171 (sfl (f 171) 0 (.int 0)) = f0 at sm0 V0 ⊢
  simp (disch := first | omega | decide | assumption | exact Nat.le_of_ble_eq_true rfl) only [s222_5, s222_6, s222_7, ow_some, true_and, and_true, and_self, if_true, if_false, not_true, not_false_eq_true, Bool.false_eq_true, eq_self, Option.toList, List.cons_append, List.nil_append, ix_in, ix_cl, lt_in, lt_cl, lt_add, ix_one, vu_eq, vu_ne, arI_mk, arL_mk, arY_mZ, arY_mB, alen_mI, fld_sfl_ne, fld_sfl_same, Option.isSome_some, pok_i, b1z, b01, z10, b1o, Int32.zero_add, vu_vu, upd_eq, upd_ne, V0.r1, V0.r2, V0.r3, V0.r4, V0.r16, V0.r17, V0.r18, V0.r19, V0.r20, V0.r23, V0.r24, V0.r25, V0.r26, V0.r27, V0.r28, V0.r29, V0.r30, V0.c172, V0.c173, V0.c174, V0.c186, V0.c187, V0.c188, V0.n5, V0.n13, V0.n14, V0.i0, V0.i5, V0.i6, V0.i7, V0.i8, V0.i9, V0.i10, V0.i11, V0.i12, V0.i13, V0.i14, V0.i15, V0.i21, V0.i22]
  refine k222_8 (cno_MR V0.mr) (Nat.le_of_ble_eq_true rfl) (sp_whySee V0 W.1 W.2.1 W.T) ?_
  rintro f1 n1 k1 v1 ⟨rfl, rfl, sm1, V1, rfl⟩
  unfold o_see
  rw [Int32.toInt_toInt64]
  by_cases h0 : w_see s.1 P (nT s.1) p.toInt = 0
  · rw [if_pos h0]
    have h9 := W.1.2.2.2.2.1
    obtain ⟨h1, h2⟩ := w_see_0 h0
    obtain ⟨q, hq, rfl, hv⟩ := i9 h1 h2 (by omega)
    rw [hv, Int.toNat_natCast]
    rw [hv] at h0
    have hc := (bit_clr (nT s.1) W.T q (by omega)).2
    simp (disch := first | omega | decide | assumption | exact Nat.le_of_ble_eq_true rfl) only [s222_11, s222_12, s222_13, s222_16, s222_18, s222_19, s222_20, s222_21, ow_some, true_and, and_true, and_self, if_true, if_false, not_true, not_false_eq_true, Bool.false_eq_true, eq_self, Option.toList, List.cons_append, List.nil_append, ix_in, ix_cl, lt_in, lt_cl, lt_add, ix_one, vu_eq, vu_ne, arI_mk, arL_mk, arY_mZ, arY_mB, alen_mI, fld_sfl_ne, fld_sfl_same, Option.isSome_some, pok_i, b1z, b01, z10, b1o, Int32.zero_add, vu_vu, upd_eq, upd_ne, V1.r1, V1.r2, V1.r3, V1.r4, V1.r16, V1.r17, V1.r18, V1.r19, V1.r20, V1.r23, V1.r24, V1.r25, V1.r26, V1.r27, V1.r28, V1.r29, V1.r30, V1.c172, V1.c173, V1.c174, V1.c186, V1.c187, V1.c188, V1.n5, V1.n13, V1.n14, V1.i0, V1.i5, V1.i6, V1.i7, V1.i8, V1.i9, V1.i10, V1.i11, V1.i12, V1.i13, V1.i14, V1.i15, V1.i21, V1.i22, h0]
    refine k222_22 (cno_MR V1.mr) (Nat.le_of_ble_eq_true rfl) (sp_keeps V1) ?_
    rintro f2 n2 k2 v2 ⟨rfl, rfl, rfl, sw2, V2, w, hw, hwv⟩
    simp (disch := first | omega | decide | assumption | exact Nat.le_of_ble_eq_true rfl) only [s222_25, s222_26, ow_some, true_and, and_true, and_self, if_true, if_false, not_true, not_false_eq_true, Bool.false_eq_true, eq_self, Option.toList, List.cons_append, List.nil_append, ix_in, ix_cl, lt_in, lt_cl, lt_add, ix_one, vu_eq, vu_ne, arI_mk, arL_mk, arY_mZ, arY_mB, alen_mI, fld_sfl_ne, fld_sfl_same, Option.isSome_some, pok_i, b1z, b01, z10, b1o, Int32.zero_add, vu_vu, upd_eq, upd_ne, V2.r1, V2.r2, V2.r3, V2.r4, V2.r16, V2.r17, V2.r18, V2.r19, V2.r20, V2.r23, V2.r24, V2.r25, V2.r26, V2.r27, V2.r28, V2.r29, V2.r30, V2.c172, V2.c173, V2.c174, V2.c186, V2.c187, V2.c188, V2.n5, V2.n13, V2.n14, V2.i0, V2.i5, V2.i6, V2.i7, V2.i8, V2.i9, V2.i10, V2.i11, V2.i12, V2.i13, V2.i14, V2.i15, V2.i21, V2.i22]
    refine k222_27 (cno_MR V2.mr) (Nat.le_of_ble_eq_true rfl) (sp_sees V2 W.1 W.2.1 W.T (show q < 9 by omega)) ?_
    rintro f3 n3 k3 v3 ⟨rfl, rfl, sm3, V3, rfl⟩
    simp (disch := first | omega | decide | assumption | exact Nat.le_of_ble_eq_true rfl) only [s222_30, ow_some, true_and, and_true, and_self, if_true, if_false, not_true, not_false_eq_true, Bool.false_eq_true, eq_self, Option.toList, List.cons_append, List.nil_append, ix_in, ix_cl, lt_in, lt_cl, lt_add, ix_one, vu_eq, vu_ne, arI_mk, arL_mk, arY_mZ, arY_mB, alen_mI, fld_sfl_ne, fld_sfl_same, Option.isSome_some, pok_i, b1z, b01, z10, b1o, Int32.zero_add, vu_vu, upd_eq, upd_ne, V3.r1, V3.r2, V3.r3, V3.r4, V3.r16, V3.r17, V3.r18, V3.r19, V3.r20, V3.r23, V3.r24, V3.r25, V3.r26, V3.r27, V3.r28, V3.r29, V3.r30, V3.c172, V3.c173, V3.c174, V3.c186, V3.c187, V3.c188, V3.n5, V3.n13, V3.n14, V3.i0, V3.i5, V3.i6, V3.i7, V3.i8, V3.i9, V3.i10, V3.i11, V3.i12, V3.i13, V3.i14, V3.i15, V3.i21, V3.i22]
    refine k222_31 (cno_MR V3.mr) (Nat.le_of_ble_eq_true rfl) (sp_notes V3 (by rw [sm3 180 (by omega)]; exact hw) (by show m_fall _ _ _ _ _ = _; rw [fall_ne (by omega), upd_ne (by omega), upd_ne (by omega)]; exact hD) hD2) ?_
    rintro f4 n4 k4 v4 ⟨rfl, rfl, sm4, V4, rfl⟩
    rw [note_cg (w' := m_kept s.1) hwv] at V4
    have h53 : m_note (m_see s.1 S P (nT s.1) q) (m_kept s.1) D 53 = nI (clr (nT s.1) q) := by
      rw [note_lo (by omega), m_see, fall_ne (by omega), upd_ne (by omega), upd_eq]
    simp (disch := first | omega | decide | assumption | exact Nat.le_of_ble_eq_true rfl) only [s222_34, s222_35, s222_38, s222_40, ow_some, true_and, and_true, and_self, if_true, if_false, not_true, not_false_eq_true, Bool.false_eq_true, eq_self, Option.toList, List.cons_append, List.nil_append, ix_in, ix_cl, lt_in, lt_cl, lt_add, ix_one, vu_eq, vu_ne, arI_mk, arL_mk, arY_mZ, arY_mB, alen_mI, fld_sfl_ne, fld_sfl_same, Option.isSome_some, pok_i, b1z, b01, z10, b1o, Int32.zero_add, vu_vu, upd_eq, upd_ne, V4.r1, V4.r2, V4.r3, V4.r4, V4.r16, V4.r17, V4.r18, V4.r19, V4.r20, V4.r23, V4.r24, V4.r25, V4.r26, V4.r27, V4.r28, V4.r29, V4.r30, V4.c172, V4.c173, V4.c174, V4.c186, V4.c187, V4.c188, V4.n5, V4.n13, V4.n14, V4.i0, V4.i5, V4.i6, V4.i7, V4.i8, V4.i9, V4.i10, V4.i11, V4.i12, V4.i13, V4.i14, V4.i15, V4.i21, V4.i22, h53]
    rw [p222_41 (Nat.le_of_ble_eq_true rfl) (sp_bitsOf hc)]
    simp (disch := first | omega | decide | assumption | exact Nat.le_of_ble_eq_true rfl) only [s222_44, ow_some, true_and, and_true, and_self, if_true, if_false, not_true, not_false_eq_true, Bool.false_eq_true, eq_self, Option.toList, List.cons_append, List.nil_append, ix_in, ix_cl, lt_in, lt_cl, lt_add, ix_one, vu_eq, vu_ne, arI_mk, arL_mk, arY_mZ, arY_mB, alen_mI, fld_sfl_ne, fld_sfl_same, Option.isSome_some, pok_i, b1z, b01, z10, b1o, Int32.zero_add, vu_vu, upd_eq, upd_ne, V4.r1, V4.r2, V4.r3, V4.r4, V4.r16, V4.r17, V4.r18, V4.r19, V4.r20, V4.r23, V4.r24, V4.r25, V4.r26, V4.r27, V4.r28, V4.r29, V4.r30, V4.c172, V4.c173, V4.c174, V4.c186, V4.c187, V4.c188, V4.n5, V4.n13, V4.n14, V4.i0, V4.i5, V4.i6, V4.i7, V4.i8, V4.i9, V4.i10, V4.i11, V4.i12, V4.i13, V4.i14, V4.i15, V4.i21, V4.i22]
    exact ⟨rfl, rfl, ((sm0.tr sm1).w.tr sw2).tr (sm3.tr sm4).w, V4, rfl⟩
  · rw [if_neg h0]
    simp (disch := first | omega | decide | assumption | exact Nat.le_of_ble_eq_true rfl) only [s222_11, s222_12, s222_13, s222_16, s222_18, s222_19, s222_20, ow_some, true_and, and_true, and_self, if_true, if_false, not_true, not_false_eq_true, Bool.false_eq_true, eq_self, Option.toList, List.cons_append, List.nil_append, ix_in, ix_cl, lt_in, lt_cl, lt_add, ix_one, vu_eq, vu_ne, arI_mk, arL_mk, arY_mZ, arY_mB, alen_mI, fld_sfl_ne, fld_sfl_same, Option.isSome_some, pok_i, b1z, b01, z10, b1o, Int32.zero_add, vu_vu, upd_eq, upd_ne, V1.r1, V1.r2, V1.r3, V1.r4, V1.r16, V1.r17, V1.r18, V1.r19, V1.r20, V1.r23, V1.r24, V1.r25, V1.r26, V1.r27, V1.r28, V1.r29, V1.r30, V1.c172, V1.c173, V1.c174, V1.c186, V1.c187, V1.c188, V1.n5, V1.n13, V1.n14, V1.i0, V1.i5, V1.i6, V1.i7, V1.i8, V1.i9, V1.i10, V1.i11, V1.i12, V1.i13, V1.i14, V1.i15, V1.i21, V1.i22, h0]
    exact ⟨rfl, rfl, (sm0.tr sm1).w, V1, rfl⟩
def o_bring (all : Nat → Int32) (S P D : Nat) (k b : Int32) : (Nat → Int32) × Int32 := if (0 ≤ k.toInt ∧ k.toInt < S) ∧ (0 ≤ b.toInt ∧ b.toInt ≤ 99) then (if all 54 = 1 ∨ P = 9 then (all, -12) else (m_note (m_fall (m_come all P (nT all) k b) S (P + 1) (nT all ||| 2 ^ P)) (m_kept all) D, nI P)) else (all, -11)
theorem bld {b : Int32} : (0 ≤ b.toInt64 ∧ b.toInt64 ≤ 99) = (0 ≤ b.toInt ∧ b.toInt ≤ 99) := by
  rw [Int64.le_iff_toInt_le, Int64.le_iff_toInt_le, Int32.toInt_toInt64]; rfl
theorem sp_bring {X : Nat × (Nat → Int32)} {d N K : Nat} {f : Nat → e_C} {s : m_T} {S P : Nat} (V : MV f s) (W : WF s.1 S P) {D : Nat} (hD : s.1 92 = nI D) (hD2 : D ≤ 10) {k b : Int32} {a3 : Value} : TT X (d + 8) 228 0 [.ref 171, .int k, .int b, a3] [] f N K (MZ N K f (o_bring s.1 S P D k b) s.2) := by
  simp only [s228_0, s228_1, s228_2, V.i0, pok_i, true_and]
  have sm0 : SM f (va_up f 171 (sfl (f 171) 0 (.int 0))) := SM.up (by omega) (by omega)
  have V0 := V.num (j := 0) (x := 0) (by decide)
  generalize va_up f 171 (sfl (f 171) 0 (.int 0)) = f0 at sm0 V0 ⊢
  simp (disch := first | omega | decide | assumption | exact Nat.le_of_ble_eq_true rfl) only [s228_5, s228_6, s228_7, ow_some, true_and, and_true, and_self, if_true, if_false, not_true, not_false_eq_true, Bool.false_eq_true, eq_self, Option.toList, List.cons_append, List.nil_append, ix_in, ix_cl, lt_in, lt_cl, lt_add, ix_one, vu_eq, vu_ne, arI_mk, arL_mk, arY_mZ, arY_mB, alen_mI, fld_sfl_ne, fld_sfl_same, Option.isSome_some, pok_i, b1z, b01, z10, b1o, Int32.zero_add, vu_vu, upd_eq, upd_ne, V0.r1, V0.r2, V0.r3, V0.r4, V0.r16, V0.r17, V0.r18, V0.r19, V0.r20, V0.r23, V0.r24, V0.r25, V0.r26, V0.r27, V0.r28, V0.r29, V0.r30, V0.c172, V0.c173, V0.c174, V0.c186, V0.c187, V0.c188, V0.n5, V0.n13, V0.n14, V0.i0, V0.i5, V0.i6, V0.i7, V0.i8, V0.i9, V0.i10, V0.i11, V0.i12, V0.i13, V0.i14, V0.i15, V0.i21, V0.i22]
  rw [p228_8 (cno_MR V0.mr) (Nat.le_of_ble_eq_true rfl) (sp_isStepT V0 W.1)]
  unfold o_bring
  have A4 := W.1.2.2.2.1
  have h9 := W.1.2.2.2.2.1
  have h8 := W.1.2.2.1
  simp only [Int32.toInt_toInt64]
  by_cases h1 : 0 ≤ k.toInt ∧ k.toInt < S
  · simp (disch := first | omega | decide | assumption | exact Nat.le_of_ble_eq_true rfl) only [s228_11, s228_14, ow_some, true_and, and_true, and_self, if_true, if_false, not_true, not_false_eq_true, Bool.false_eq_true, eq_self, Option.toList, List.cons_append, List.nil_append, ix_in, ix_cl, lt_in, lt_cl, lt_add, ix_one, vu_eq, vu_ne, arI_mk, arL_mk, arY_mZ, arY_mB, alen_mI, fld_sfl_ne, fld_sfl_same, Option.isSome_some, pok_i, b1z, b01, z10, b1o, Int32.zero_add, vu_vu, upd_eq, upd_ne, V0.r1, V0.r2, V0.r3, V0.r4, V0.r16, V0.r17, V0.r18, V0.r19, V0.r20, V0.r23, V0.r24, V0.r25, V0.r26, V0.r27, V0.r28, V0.r29, V0.r30, V0.c172, V0.c173, V0.c174, V0.c186, V0.c187, V0.c188, V0.n5, V0.n13, V0.n14, V0.i0, V0.i5, V0.i6, V0.i7, V0.i8, V0.i9, V0.i10, V0.i11, V0.i12, V0.i13, V0.i14, V0.i15, V0.i21, V0.i22, h1]
    rw [p228_15 (Nat.le_of_ble_eq_true rfl) sp_isBuild]
    simp only [bld]
    by_cases h2 : 0 ≤ b.toInt ∧ b.toInt ≤ 99
    · simp (disch := first | omega | decide | assumption | exact Nat.le_of_ble_eq_true rfl) only [s228_18, s228_21, s228_23, s228_24, s228_25, s228_28, s228_30, s228_31, s228_32, ow_some, true_and, and_true, and_self, if_true, if_false, not_true, not_false_eq_true, Bool.false_eq_true, eq_self, Option.toList, List.cons_append, List.nil_append, ix_in, ix_cl, lt_in, lt_cl, lt_add, ix_one, vu_eq, vu_ne, arI_mk, arL_mk, arY_mZ, arY_mB, alen_mI, fld_sfl_ne, fld_sfl_same, Option.isSome_some, pok_i, b1z, b01, z10, b1o, Int32.zero_add, vu_vu, upd_eq, upd_ne, V0.r1, V0.r2, V0.r3, V0.r4, V0.r16, V0.r17, V0.r18, V0.r19, V0.r20, V0.r23, V0.r24, V0.r25, V0.r26, V0.r27, V0.r28, V0.r29, V0.r30, V0.c172, V0.c173, V0.c174, V0.c186, V0.c187, V0.c188, V0.n5, V0.n13, V0.n14, V0.i0, V0.i5, V0.i6, V0.i7, V0.i8, V0.i9, V0.i10, V0.i11, V0.i12, V0.i13, V0.i14, V0.i15, V0.i21, V0.i22, h1, h2]
      have tail : (s.1 54 = 1 ∨ P = 9) → TT X (d + 8) 228 42 [.ref 171, .int k, .int b, a3] [] f0 N K (MZ N K f (if s.1 54 = 1 ∨ P = 9 then (s.1, -12) else (m_note (m_fall (m_come s.1 P (nT s.1) k b) S (P + 1) (nT s.1 ||| 2 ^ P)) (m_kept s.1) D, nI P)) s.2) := by
        intro h
        rw [if_pos h]
        simp (disch := first | omega | decide | assumption | exact Nat.le_of_ble_eq_true rfl) only [s228_42, s228_44, ow_some, true_and, and_true, and_self, if_true, if_false, not_true, not_false_eq_true, Bool.false_eq_true, eq_self, Option.toList, List.cons_append, List.nil_append, ix_in, ix_cl, lt_in, lt_cl, lt_add, ix_one, vu_eq, vu_ne, arI_mk, arL_mk, arY_mZ, arY_mB, alen_mI, fld_sfl_ne, fld_sfl_same, Option.isSome_some, pok_i, b1z, b01, z10, b1o, Int32.zero_add, vu_vu, upd_eq, upd_ne, V0.r1, V0.r2, V0.r3, V0.r4, V0.r16, V0.r17, V0.r18, V0.r19, V0.r20, V0.r23, V0.r24, V0.r25, V0.r26, V0.r27, V0.r28, V0.r29, V0.r30, V0.c172, V0.c173, V0.c174, V0.c186, V0.c187, V0.c188, V0.n5, V0.n13, V0.n14, V0.i0, V0.i5, V0.i6, V0.i7, V0.i8, V0.i9, V0.i10, V0.i11, V0.i12, V0.i13, V0.i14, V0.i15, V0.i21, V0.i22]
        exact ⟨rfl, rfl, sm0.w, V0, rfl⟩
      by_cases h3 : s.1 54 = 1
      · simp only [h3, if_true, true_or]
        simp only [h3, if_true, true_or] at tail
        exact tail trivial
      · simp only [h3, if_false, false_or]
        simp only [h3, false_or] at tail
        simp (disch := first | omega | decide | assumption | exact Nat.le_of_ble_eq_true rfl) only [s228_35, ow_some, true_and, and_true, and_self, if_true, if_false, not_true, not_false_eq_true, Bool.false_eq_true, eq_self, Option.toList, List.cons_append, List.nil_append, ix_in, ix_cl, lt_in, lt_cl, lt_add, ix_one, vu_eq, vu_ne, arI_mk, arL_mk, arY_mZ, arY_mB, alen_mI, fld_sfl_ne, fld_sfl_same, Option.isSome_some, pok_i, b1z, b01, z10, b1o, Int32.zero_add, vu_vu, upd_eq, upd_ne, V0.r1, V0.r2, V0.r3, V0.r4, V0.r16, V0.r17, V0.r18, V0.r19, V0.r20, V0.r23, V0.r24, V0.r25, V0.r26, V0.r27, V0.r28, V0.r29, V0.r30, V0.c172, V0.c173, V0.c174, V0.c186, V0.c187, V0.c188, V0.n5, V0.n13, V0.n14, V0.i0, V0.i5, V0.i6, V0.i7, V0.i8, V0.i9, V0.i10, V0.i11, V0.i12, V0.i13, V0.i14, V0.i15, V0.i21, V0.i22]
        rw [p228_36 (cno_MR V0.mr) (Nat.le_of_ble_eq_true rfl) (sp_isFull V0.mr V0.c172)]
        simp only [A4, tl_eq (c := 9) (by decide) (show P < 2147483648 by omega)]
        by_cases h4 : P = 9
        · simp (disch := first | omega | decide | assumption | exact Nat.le_of_ble_eq_true rfl) only [s228_39, ow_some, true_and, and_true, and_self, if_true, if_false, not_true, not_false_eq_true, Bool.false_eq_true, eq_self, Option.toList, List.cons_append, List.nil_append, ix_in, ix_cl, lt_in, lt_cl, lt_add, ix_one, vu_eq, vu_ne, arI_mk, arL_mk, arY_mZ, arY_mB, alen_mI, fld_sfl_ne, fld_sfl_same, Option.isSome_some, pok_i, b1z, b01, z10, b1o, Int32.zero_add, vu_vu, upd_eq, upd_ne, V0.r1, V0.r2, V0.r3, V0.r4, V0.r16, V0.r17, V0.r18, V0.r19, V0.r20, V0.r23, V0.r24, V0.r25, V0.r26, V0.r27, V0.r28, V0.r29, V0.r30, V0.c172, V0.c173, V0.c174, V0.c186, V0.c187, V0.c188, V0.n5, V0.n13, V0.n14, V0.i0, V0.i5, V0.i6, V0.i7, V0.i8, V0.i9, V0.i10, V0.i11, V0.i12, V0.i13, V0.i14, V0.i15, V0.i21, V0.i22, h4]
          simp only [h4, if_true] at tail
          exact tail trivial
        · simp (disch := first | omega | decide | assumption | exact Nat.le_of_ble_eq_true rfl) only [s228_39, s228_42, s228_44, s228_45, ow_some, true_and, and_true, and_self, if_true, if_false, not_true, not_false_eq_true, Bool.false_eq_true, eq_self, Option.toList, List.cons_append, List.nil_append, ix_in, ix_cl, lt_in, lt_cl, lt_add, ix_one, vu_eq, vu_ne, arI_mk, arL_mk, arY_mZ, arY_mB, alen_mI, fld_sfl_ne, fld_sfl_same, Option.isSome_some, pok_i, b1z, b01, z10, b1o, Int32.zero_add, vu_vu, upd_eq, upd_ne, V0.r1, V0.r2, V0.r3, V0.r4, V0.r16, V0.r17, V0.r18, V0.r19, V0.r20, V0.r23, V0.r24, V0.r25, V0.r26, V0.r27, V0.r28, V0.r29, V0.r30, V0.c172, V0.c173, V0.c174, V0.c186, V0.c187, V0.c188, V0.n5, V0.n13, V0.n14, V0.i0, V0.i5, V0.i6, V0.i7, V0.i8, V0.i9, V0.i10, V0.i11, V0.i12, V0.i13, V0.i14, V0.i15, V0.i21, V0.i22, h4]
          obtain ⟨q, hq, rfl, hv⟩ := i9 h1.1 h1.2 (by omega)
          have hb := bit_set (nT s.1) W.T P (by omega)
          refine k228_46 (cno_MR V0.mr) (Nat.le_of_ble_eq_true rfl) (sp_keeps V0) ?_
          rintro f2 n2 k2 v2 ⟨rfl, rfl, rfl, sw2, V2, w, hw, hwv⟩
          simp (disch := first | omega | decide | assumption | exact Nat.le_of_ble_eq_true rfl) only [s228_49, s228_50, s228_51, ow_some, true_and, and_true, and_self, if_true, if_false, not_true, not_false_eq_true, Bool.false_eq_true, eq_self, Option.toList, List.cons_append, List.nil_append, ix_in, ix_cl, lt_in, lt_cl, lt_add, ix_one, vu_eq, vu_ne, arI_mk, arL_mk, arY_mZ, arY_mB, alen_mI, fld_sfl_ne, fld_sfl_same, Option.isSome_some, pok_i, b1z, b01, z10, b1o, Int32.zero_add, vu_vu, upd_eq, upd_ne, V2.r1, V2.r2, V2.r3, V2.r4, V2.r16, V2.r17, V2.r18, V2.r19, V2.r20, V2.r23, V2.r24, V2.r25, V2.r26, V2.r27, V2.r28, V2.r29, V2.r30, V2.c172, V2.c173, V2.c174, V2.c186, V2.c187, V2.c188, V2.n5, V2.n13, V2.n14, V2.i0, V2.i5, V2.i6, V2.i7, V2.i8, V2.i9, V2.i10, V2.i11, V2.i12, V2.i13, V2.i14, V2.i15, V2.i21, V2.i22]
          refine k228_52 (cno_MR V2.mr) (Nat.le_of_ble_eq_true rfl) (sp_comes V2 W.1 W.2.1 W.T (show P < 9 by omega)) ?_
          rintro f3 n3 k3 v3 ⟨rfl, rfl, sm3, V3, rfl⟩
          simp (disch := first | omega | decide | assumption | exact Nat.le_of_ble_eq_true rfl) only [s228_55, s228_56, ow_some, true_and, and_true, and_self, if_true, if_false, not_true, not_false_eq_true, Bool.false_eq_true, eq_self, Option.toList, List.cons_append, List.nil_append, ix_in, ix_cl, lt_in, lt_cl, lt_add, ix_one, vu_eq, vu_ne, arI_mk, arL_mk, arY_mZ, arY_mB, alen_mI, fld_sfl_ne, fld_sfl_same, Option.isSome_some, pok_i, b1z, b01, z10, b1o, Int32.zero_add, vu_vu, upd_eq, upd_ne, V3.r1, V3.r2, V3.r3, V3.r4, V3.r16, V3.r17, V3.r18, V3.r19, V3.r20, V3.r23, V3.r24, V3.r25, V3.r26, V3.r27, V3.r28, V3.r29, V3.r30, V3.c172, V3.c173, V3.c174, V3.c186, V3.c187, V3.c188, V3.n5, V3.n13, V3.n14, V3.i0, V3.i5, V3.i6, V3.i7, V3.i8, V3.i9, V3.i10, V3.i11, V3.i12, V3.i13, V3.i14, V3.i15, V3.i21, V3.i22]
          refine k228_57 (cno_MR V3.mr) (Nat.le_of_ble_eq_true rfl) (sp_falls V3 (W.1.come (T := nT s.1) (b := b) (show P < 9 by omega) hq) (by show m_come _ _ _ _ _ _ = _; rw [m_come, upd_ne (by omega), upd_ne (by omega), upd_ne (by omega), upd_eq]) hb.2) ?_
          rintro f4 n4 k4 v4 ⟨rfl, rfl, rfl, sm4, V4⟩
          simp (disch := first | omega | decide | assumption | exact Nat.le_of_ble_eq_true rfl) only [s228_60, ow_some, true_and, and_true, and_self, if_true, if_false, not_true, not_false_eq_true, Bool.false_eq_true, eq_self, Option.toList, List.cons_append, List.nil_append, ix_in, ix_cl, lt_in, lt_cl, lt_add, ix_one, vu_eq, vu_ne, arI_mk, arL_mk, arY_mZ, arY_mB, alen_mI, fld_sfl_ne, fld_sfl_same, Option.isSome_some, pok_i, b1z, b01, z10, b1o, Int32.zero_add, vu_vu, upd_eq, upd_ne, V4.r1, V4.r2, V4.r3, V4.r4, V4.r16, V4.r17, V4.r18, V4.r19, V4.r20, V4.r23, V4.r24, V4.r25, V4.r26, V4.r27, V4.r28, V4.r29, V4.r30, V4.c172, V4.c173, V4.c174, V4.c186, V4.c187, V4.c188, V4.n5, V4.n13, V4.n14, V4.i0, V4.i5, V4.i6, V4.i7, V4.i8, V4.i9, V4.i10, V4.i11, V4.i12, V4.i13, V4.i14, V4.i15, V4.i21, V4.i22]
          refine k228_61 (cno_MR V4.mr) (Nat.le_of_ble_eq_true rfl) (sp_notes V4 (by rw [sm4 180 (by omega), sm3 180 (by omega)]; exact hw) (by show m_fall _ _ _ _ _ = _; rw [fall_ne (by omega)]; show m_come _ _ _ _ _ _ = _; rw [m_come, upd_ne (by omega), upd_ne (by omega), upd_ne (by omega), upd_ne (by omega), upd_ne (by omega)]; exact hD) hD2) ?_
          rintro f5 n5 k5 v5 ⟨rfl, rfl, sm5, V5, rfl⟩
          rw [note_cg (w' := m_kept s.1) hwv] at V5
          simp (disch := first | omega | decide | assumption | exact Nat.le_of_ble_eq_true rfl) only [s228_64, s228_65, ow_some, true_and, and_true, and_self, if_true, if_false, not_true, not_false_eq_true, Bool.false_eq_true, eq_self, Option.toList, List.cons_append, List.nil_append, ix_in, ix_cl, lt_in, lt_cl, lt_add, ix_one, vu_eq, vu_ne, arI_mk, arL_mk, arY_mZ, arY_mB, alen_mI, fld_sfl_ne, fld_sfl_same, Option.isSome_some, pok_i, b1z, b01, z10, b1o, Int32.zero_add, vu_vu, upd_eq, upd_ne, V5.r1, V5.r2, V5.r3, V5.r4, V5.r16, V5.r17, V5.r18, V5.r19, V5.r20, V5.r23, V5.r24, V5.r25, V5.r26, V5.r27, V5.r28, V5.r29, V5.r30, V5.c172, V5.c173, V5.c174, V5.c186, V5.c187, V5.c188, V5.n5, V5.n13, V5.n14, V5.i0, V5.i5, V5.i6, V5.i7, V5.i8, V5.i9, V5.i10, V5.i11, V5.i12, V5.i13, V5.i14, V5.i15, V5.i21, V5.i22]
          exact ⟨rfl, rfl, (sm0.w.tr sw2).tr ((sm3.tr sm4).tr sm5).w, V5, rfl⟩
    · simp (disch := first | omega | decide | assumption | exact Nat.le_of_ble_eq_true rfl) only [s228_18, s228_21, s228_23, ow_some, true_and, and_true, and_self, if_true, if_false, not_true, not_false_eq_true, Bool.false_eq_true, eq_self, Option.toList, List.cons_append, List.nil_append, ix_in, ix_cl, lt_in, lt_cl, lt_add, ix_one, vu_eq, vu_ne, arI_mk, arL_mk, arY_mZ, arY_mB, alen_mI, fld_sfl_ne, fld_sfl_same, Option.isSome_some, pok_i, b1z, b01, z10, b1o, Int32.zero_add, vu_vu, upd_eq, upd_ne, V0.r1, V0.r2, V0.r3, V0.r4, V0.r16, V0.r17, V0.r18, V0.r19, V0.r20, V0.r23, V0.r24, V0.r25, V0.r26, V0.r27, V0.r28, V0.r29, V0.r30, V0.c172, V0.c173, V0.c174, V0.c186, V0.c187, V0.c188, V0.n5, V0.n13, V0.n14, V0.i0, V0.i5, V0.i6, V0.i7, V0.i8, V0.i9, V0.i10, V0.i11, V0.i12, V0.i13, V0.i14, V0.i15, V0.i21, V0.i22, h1, h2, and_false]
      exact ⟨rfl, rfl, sm0.w, V0, rfl⟩
  · simp (disch := first | omega | decide | assumption | exact Nat.le_of_ble_eq_true rfl) only [s228_11, s228_21, s228_23, ow_some, true_and, and_true, and_self, if_true, if_false, not_true, not_false_eq_true, Bool.false_eq_true, eq_self, Option.toList, List.cons_append, List.nil_append, ix_in, ix_cl, lt_in, lt_cl, lt_add, ix_one, vu_eq, vu_ne, arI_mk, arL_mk, arY_mZ, arY_mB, alen_mI, fld_sfl_ne, fld_sfl_same, Option.isSome_some, pok_i, b1z, b01, z10, b1o, Int32.zero_add, vu_vu, upd_eq, upd_ne, V0.r1, V0.r2, V0.r3, V0.r4, V0.r16, V0.r17, V0.r18, V0.r19, V0.r20, V0.r23, V0.r24, V0.r25, V0.r26, V0.r27, V0.r28, V0.r29, V0.r30, V0.c172, V0.c173, V0.c174, V0.c186, V0.c187, V0.c188, V0.n5, V0.n13, V0.n14, V0.i0, V0.i5, V0.i6, V0.i7, V0.i8, V0.i9, V0.i10, V0.i11, V0.i12, V0.i13, V0.i14, V0.i15, V0.i21, V0.i22, h1, false_and]
    exact ⟨rfl, rfl, sm0.w, V0, rfl⟩
def o_move (all : Nat → Int32) (S P D : Nat) (p k : Int32) : (Nat → Int32) × Int32 := if w_move all S P (nT all) p.toInt k.toInt = 0 then (m_note (m_move all S P (nT all) p.toInt.toNat k.toInt.toNat) (m_kept all) D, 1 - m_move all S P (nT all) p.toInt.toNat k.toInt.toNat 54) else (all, -10 - w_move all S P (nT all) p.toInt k.toInt)
theorem sp_move {X : Nat × (Nat → Int32)} {d N K : Nat} {f : Nat → e_C} {s : m_T} {S P : Nat} (V : MV f s) (W : WF s.1 S P) {D : Nat} (hD : s.1 92 = nI D) (hD2 : D ≤ 10) {p k : Int32} {a2 : Value} : TT X (d + 8) 232 0 [.ref 171, .int p, .int k, a2] [] f N K (MZ N K f (o_move s.1 S P D p k) s.2) := by
  simp only [s232_0, s232_1, s232_2, V.i0, pok_i, true_and]
  have sm0 : SM f (va_up f 171 (sfl (f 171) 0 (.int 0))) := SM.up (by omega) (by omega)
  have V0 := V.num (j := 0) (x := 0) (by decide)
  generalize va_up f 171 (sfl (f 171) 0 (.int 0)) = f0 at sm0 V0 ⊢
  simp (disch := first | omega | decide | assumption | exact Nat.le_of_ble_eq_true rfl) only [s232_5, s232_6, s232_7, s232_8, s232_9, ow_some, true_and, and_true, and_self, if_true, if_false, not_true, not_false_eq_true, Bool.false_eq_true, eq_self, Option.toList, List.cons_append, List.nil_append, ix_in, ix_cl, lt_in, lt_cl, lt_add, ix_one, vu_eq, vu_ne, arI_mk, arL_mk, arY_mZ, arY_mB, alen_mI, fld_sfl_ne, fld_sfl_same, Option.isSome_some, pok_i, b1z, b01, z10, b1o, Int32.zero_add, vu_vu, upd_eq, upd_ne, V0.r1, V0.r2, V0.r3, V0.r4, V0.r16, V0.r17, V0.r18, V0.r19, V0.r20, V0.r23, V0.r24, V0.r25, V0.r26, V0.r27, V0.r28, V0.r29, V0.r30, V0.c172, V0.c173, V0.c174, V0.c186, V0.c187, V0.c188, V0.n5, V0.n13, V0.n14, V0.i0, V0.i5, V0.i6, V0.i7, V0.i8, V0.i9, V0.i10, V0.i11, V0.i12, V0.i13, V0.i14, V0.i15, V0.i21, V0.i22]
  rw [p232_10 (cno_MR V0.mr) (Nat.le_of_ble_eq_true rfl) (sp_whyMove V0 W.1 W.2.1 W.T)]
  unfold o_move
  simp only [Int32.toInt_toInt64]
  by_cases h0 : w_move s.1 S P (nT s.1) p.toInt k.toInt = 0
  · rw [if_pos h0]
    have h9 := W.1.2.2.2.2.1
    have h8 := W.1.2.2.1
    obtain ⟨⟨h1, h2⟩, h3, h4⟩ := w_move_0 h0
    obtain ⟨q, hq, rfl, hv⟩ := i9 h1 h2 (by omega)
    obtain ⟨j, hj, rfl, hv2⟩ := i9 h3 h4 (by omega)
    rw [hv, hv2, Int.toNat_natCast, Int.toNat_natCast]
    rw [hv, hv2] at h0
    simp (disch := first | omega | decide | assumption | exact Nat.le_of_ble_eq_true rfl) only [s232_13, s232_14, s232_15, s232_18, s232_20, s232_21, s232_22, s232_23, ow_some, true_and, and_true, and_self, if_true, if_false, not_true, not_false_eq_true, Bool.false_eq_true, eq_self, Option.toList, List.cons_append, List.nil_append, ix_in, ix_cl, lt_in, lt_cl, lt_add, ix_one, vu_eq, vu_ne, arI_mk, arL_mk, arY_mZ, arY_mB, alen_mI, fld_sfl_ne, fld_sfl_same, Option.isSome_some, pok_i, b1z, b01, z10, b1o, Int32.zero_add, vu_vu, upd_eq, upd_ne, V0.r1, V0.r2, V0.r3, V0.r4, V0.r16, V0.r17, V0.r18, V0.r19, V0.r20, V0.r23, V0.r24, V0.r25, V0.r26, V0.r27, V0.r28, V0.r29, V0.r30, V0.c172, V0.c173, V0.c174, V0.c186, V0.c187, V0.c188, V0.n5, V0.n13, V0.n14, V0.i0, V0.i5, V0.i6, V0.i7, V0.i8, V0.i9, V0.i10, V0.i11, V0.i12, V0.i13, V0.i14, V0.i15, V0.i21, V0.i22, h0]
    refine k232_24 (cno_MR V0.mr) (Nat.le_of_ble_eq_true rfl) (sp_keeps V0) ?_
    rintro f2 n2 k2 v2 ⟨rfl, rfl, rfl, sw2, V2, w, hw, hwv⟩
    simp (disch := first | omega | decide | assumption | exact Nat.le_of_ble_eq_true rfl) only [s232_27, s232_28, s232_29, ow_some, true_and, and_true, and_self, if_true, if_false, not_true, not_false_eq_true, Bool.false_eq_true, eq_self, Option.toList, List.cons_append, List.nil_append, ix_in, ix_cl, lt_in, lt_cl, lt_add, ix_one, vu_eq, vu_ne, arI_mk, arL_mk, arY_mZ, arY_mB, alen_mI, fld_sfl_ne, fld_sfl_same, Option.isSome_some, pok_i, b1z, b01, z10, b1o, Int32.zero_add, vu_vu, upd_eq, upd_ne, V2.r1, V2.r2, V2.r3, V2.r4, V2.r16, V2.r17, V2.r18, V2.r19, V2.r20, V2.r23, V2.r24, V2.r25, V2.r26, V2.r27, V2.r28, V2.r29, V2.r30, V2.c172, V2.c173, V2.c174, V2.c186, V2.c187, V2.c188, V2.n5, V2.n13, V2.n14, V2.i0, V2.i5, V2.i6, V2.i7, V2.i8, V2.i9, V2.i10, V2.i11, V2.i12, V2.i13, V2.i14, V2.i15, V2.i21, V2.i22]
    refine k232_30 (cno_MR V2.mr) (Nat.le_of_ble_eq_true rfl) (sp_moves V2 W.1 W.2.1 W.T (show q < 9 by omega) hj) ?_
    rintro f3 n3 k3 v3 ⟨rfl, rfl, sm3, V3, rfl⟩
    simp (disch := first | omega | decide | assumption | exact Nat.le_of_ble_eq_true rfl) only [s232_33, ow_some, true_and, and_true, and_self, if_true, if_false, not_true, not_false_eq_true, Bool.false_eq_true, eq_self, Option.toList, List.cons_append, List.nil_append, ix_in, ix_cl, lt_in, lt_cl, lt_add, ix_one, vu_eq, vu_ne, arI_mk, arL_mk, arY_mZ, arY_mB, alen_mI, fld_sfl_ne, fld_sfl_same, Option.isSome_some, pok_i, b1z, b01, z10, b1o, Int32.zero_add, vu_vu, upd_eq, upd_ne, V3.r1, V3.r2, V3.r3, V3.r4, V3.r16, V3.r17, V3.r18, V3.r19, V3.r20, V3.r23, V3.r24, V3.r25, V3.r26, V3.r27, V3.r28, V3.r29, V3.r30, V3.c172, V3.c173, V3.c174, V3.c186, V3.c187, V3.c188, V3.n5, V3.n13, V3.n14, V3.i0, V3.i5, V3.i6, V3.i7, V3.i8, V3.i9, V3.i10, V3.i11, V3.i12, V3.i13, V3.i14, V3.i15, V3.i21, V3.i22]
    refine k232_34 (cno_MR V3.mr) (Nat.le_of_ble_eq_true rfl) (sp_notes V3 (by rw [sm3 180 (by omega)]; exact hw) (by show m_fall _ _ _ _ _ = _; rw [fall_ne (by omega), upd_ne (by omega)]; exact hD) hD2) ?_
    rintro f4 n4 k4 v4 ⟨rfl, rfl, sm4, V4, rfl⟩
    rw [note_cg (w' := m_kept s.1) hwv] at V4
    simp (disch := first | omega | decide | assumption | exact Nat.le_of_ble_eq_true rfl) only [s232_37, s232_38, s232_39, s232_42, s232_44, s232_45, s232_46, ow_some, true_and, and_true, and_self, if_true, if_false, not_true, not_false_eq_true, Bool.false_eq_true, eq_self, Option.toList, List.cons_append, List.nil_append, ix_in, ix_cl, lt_in, lt_cl, lt_add, ix_one, vu_eq, vu_ne, arI_mk, arL_mk, arY_mZ, arY_mB, alen_mI, fld_sfl_ne, fld_sfl_same, Option.isSome_some, pok_i, b1z, b01, z10, b1o, Int32.zero_add, vu_vu, upd_eq, upd_ne, V4.r1, V4.r2, V4.r3, V4.r4, V4.r16, V4.r17, V4.r18, V4.r19, V4.r20, V4.r23, V4.r24, V4.r25, V4.r26, V4.r27, V4.r28, V4.r29, V4.r30, V4.c172, V4.c173, V4.c174, V4.c186, V4.c187, V4.c188, V4.n5, V4.n13, V4.n14, V4.i0, V4.i5, V4.i6, V4.i7, V4.i8, V4.i9, V4.i10, V4.i11, V4.i12, V4.i13, V4.i14, V4.i15, V4.i21, V4.i22, note_lo]
    exact ⟨rfl, rfl, (sm0.w.tr sw2).tr (sm3.tr sm4).w, V4, rfl⟩
  · rw [if_neg h0]
    simp (disch := first | omega | decide | assumption | exact Nat.le_of_ble_eq_true rfl) only [s232_13, s232_14, s232_15, s232_18, s232_20, s232_21, s232_22, ow_some, true_and, and_true, and_self, if_true, if_false, not_true, not_false_eq_true, Bool.false_eq_true, eq_self, Option.toList, List.cons_append, List.nil_append, ix_in, ix_cl, lt_in, lt_cl, lt_add, ix_one, vu_eq, vu_ne, arI_mk, arL_mk, arY_mZ, arY_mB, alen_mI, fld_sfl_ne, fld_sfl_same, Option.isSome_some, pok_i, b1z, b01, z10, b1o, Int32.zero_add, vu_vu, upd_eq, upd_ne, V0.r1, V0.r2, V0.r3, V0.r4, V0.r16, V0.r17, V0.r18, V0.r19, V0.r20, V0.r23, V0.r24, V0.r25, V0.r26, V0.r27, V0.r28, V0.r29, V0.r30, V0.c172, V0.c173, V0.c174, V0.c186, V0.c187, V0.c188, V0.n5, V0.n13, V0.n14, V0.i0, V0.i5, V0.i6, V0.i7, V0.i8, V0.i9, V0.i10, V0.i11, V0.i12, V0.i13, V0.i14, V0.i15, V0.i21, V0.i22, h0]
    exact ⟨rfl, rfl, sm0.w, V0, rfl⟩
def o_prop (all : Nat → Int32) (S P D : Nat) (k : Int32) : (Nat → Int32) × Int32 := if w_prop all S k.toInt = 0 then (m_note (m_prop all S P (nT all) k.toInt.toNat) (m_kept all) D, all (84 + k.toInt.toNat) + 1) else (all, -10 - w_prop all S k.toInt)
theorem sp_prop {X : Nat × (Nat → Int32)} {d N K : Nat} {f : Nat → e_C} {s : m_T} {S P : Nat} (V : MV f s) (W : WF s.1 S P) {D : Nat} (hD : s.1 92 = nI D) (hD2 : D ≤ 10) {k : Int32} {a2 : Value} : TT X (d + 8) 235 0 [.ref 171, .int k, a2] [] f N K (MZ N K f (o_prop s.1 S P D k) s.2) := by
  simp only [s235_0, s235_1, s235_2, V.i0, pok_i, true_and]
  have sm0 : SM f (va_up f 171 (sfl (f 171) 0 (.int 0))) := SM.up (by omega) (by omega)
  have V0 := V.num (j := 0) (x := 0) (by decide)
  generalize va_up f 171 (sfl (f 171) 0 (.int 0)) = f0 at sm0 V0 ⊢
  simp (disch := first | omega | decide | assumption | exact Nat.le_of_ble_eq_true rfl) only [s235_5, s235_6, s235_7, ow_some, true_and, and_true, and_self, if_true, if_false, not_true, not_false_eq_true, Bool.false_eq_true, eq_self, Option.toList, List.cons_append, List.nil_append, ix_in, ix_cl, lt_in, lt_cl, lt_add, ix_one, vu_eq, vu_ne, arI_mk, arL_mk, arY_mZ, arY_mB, alen_mI, fld_sfl_ne, fld_sfl_same, Option.isSome_some, pok_i, b1z, b01, z10, b1o, Int32.zero_add, vu_vu, upd_eq, upd_ne, V0.r1, V0.r2, V0.r3, V0.r4, V0.r16, V0.r17, V0.r18, V0.r19, V0.r20, V0.r23, V0.r24, V0.r25, V0.r26, V0.r27, V0.r28, V0.r29, V0.r30, V0.c172, V0.c173, V0.c174, V0.c186, V0.c187, V0.c188, V0.n5, V0.n13, V0.n14, V0.i0, V0.i5, V0.i6, V0.i7, V0.i8, V0.i9, V0.i10, V0.i11, V0.i12, V0.i13, V0.i14, V0.i15, V0.i21, V0.i22]
  rw [p235_8 (cno_MR V0.mr) (Nat.le_of_ble_eq_true rfl) (sp_whyProp V0 W.1)]
  unfold o_prop
  simp only [Int32.toInt_toInt64]
  by_cases h0 : w_prop s.1 S k.toInt = 0
  · rw [if_pos h0]
    have h8 := W.1.2.2.1
    obtain ⟨h1, h2⟩ := w_prop_0 h0
    obtain ⟨q, hq, rfl, hv⟩ := i9 h1 h2 (by omega)
    rw [hv, Int.toNat_natCast]
    rw [hv] at h0
    simp (disch := first | omega | decide | assumption | exact Nat.le_of_ble_eq_true rfl) only [s235_11, s235_12, s235_13, s235_16, s235_18, s235_19, s235_20, s235_21, ow_some, true_and, and_true, and_self, if_true, if_false, not_true, not_false_eq_true, Bool.false_eq_true, eq_self, Option.toList, List.cons_append, List.nil_append, ix_in, ix_cl, lt_in, lt_cl, lt_add, ix_one, vu_eq, vu_ne, arI_mk, arL_mk, arY_mZ, arY_mB, alen_mI, fld_sfl_ne, fld_sfl_same, Option.isSome_some, pok_i, b1z, b01, z10, b1o, Int32.zero_add, vu_vu, upd_eq, upd_ne, V0.r1, V0.r2, V0.r3, V0.r4, V0.r16, V0.r17, V0.r18, V0.r19, V0.r20, V0.r23, V0.r24, V0.r25, V0.r26, V0.r27, V0.r28, V0.r29, V0.r30, V0.c172, V0.c173, V0.c174, V0.c186, V0.c187, V0.c188, V0.n5, V0.n13, V0.n14, V0.i0, V0.i5, V0.i6, V0.i7, V0.i8, V0.i9, V0.i10, V0.i11, V0.i12, V0.i13, V0.i14, V0.i15, V0.i21, V0.i22, h0]
    refine k235_22 (cno_MR V0.mr) (Nat.le_of_ble_eq_true rfl) (sp_keeps V0) ?_
    rintro f2 n2 k2 v2 ⟨rfl, rfl, rfl, sw2, V2, w, hw, hwv⟩
    simp (disch := first | omega | decide | assumption | exact Nat.le_of_ble_eq_true rfl) only [s235_25, s235_26, ow_some, true_and, and_true, and_self, if_true, if_false, not_true, not_false_eq_true, Bool.false_eq_true, eq_self, Option.toList, List.cons_append, List.nil_append, ix_in, ix_cl, lt_in, lt_cl, lt_add, ix_one, vu_eq, vu_ne, arI_mk, arL_mk, arY_mZ, arY_mB, alen_mI, fld_sfl_ne, fld_sfl_same, Option.isSome_some, pok_i, b1z, b01, z10, b1o, Int32.zero_add, vu_vu, upd_eq, upd_ne, V2.r1, V2.r2, V2.r3, V2.r4, V2.r16, V2.r17, V2.r18, V2.r19, V2.r20, V2.r23, V2.r24, V2.r25, V2.r26, V2.r27, V2.r28, V2.r29, V2.r30, V2.c172, V2.c173, V2.c174, V2.c186, V2.c187, V2.c188, V2.n5, V2.n13, V2.n14, V2.i0, V2.i5, V2.i6, V2.i7, V2.i8, V2.i9, V2.i10, V2.i11, V2.i12, V2.i13, V2.i14, V2.i15, V2.i21, V2.i22]
    refine k235_27 (cno_MR V2.mr) (Nat.le_of_ble_eq_true rfl) (sp_propsUp V2 W.1 W.2.1 W.T hq) ?_
    rintro f3 n3 k3 v3 ⟨rfl, rfl, sm3, V3, rfl⟩
    simp (disch := first | omega | decide | assumption | exact Nat.le_of_ble_eq_true rfl) only [s235_30, ow_some, true_and, and_true, and_self, if_true, if_false, not_true, not_false_eq_true, Bool.false_eq_true, eq_self, Option.toList, List.cons_append, List.nil_append, ix_in, ix_cl, lt_in, lt_cl, lt_add, ix_one, vu_eq, vu_ne, arI_mk, arL_mk, arY_mZ, arY_mB, alen_mI, fld_sfl_ne, fld_sfl_same, Option.isSome_some, pok_i, b1z, b01, z10, b1o, Int32.zero_add, vu_vu, upd_eq, upd_ne, V3.r1, V3.r2, V3.r3, V3.r4, V3.r16, V3.r17, V3.r18, V3.r19, V3.r20, V3.r23, V3.r24, V3.r25, V3.r26, V3.r27, V3.r28, V3.r29, V3.r30, V3.c172, V3.c173, V3.c174, V3.c186, V3.c187, V3.c188, V3.n5, V3.n13, V3.n14, V3.i0, V3.i5, V3.i6, V3.i7, V3.i8, V3.i9, V3.i10, V3.i11, V3.i12, V3.i13, V3.i14, V3.i15, V3.i21, V3.i22]
    refine k235_31 (cno_MR V3.mr) (Nat.le_of_ble_eq_true rfl) (sp_notes V3 (by rw [sm3 180 (by omega)]; exact hw) (by show m_fall _ _ _ _ _ = _; rw [fall_ne (by omega), upd_ne (by omega)]; exact hD) hD2) ?_
    rintro f4 n4 k4 v4 ⟨rfl, rfl, sm4, V4, rfl⟩
    rw [note_cg (w' := m_kept s.1) hwv] at V4
    have h84 : m_note (m_prop s.1 S P (nT s.1) q) (m_kept s.1) D (84 + q) = s.1 (84 + q) + 1 := by
      rw [note_lo (by omega), m_prop, fall_ne (by omega), upd_eq]
    simp (disch := first | omega | decide | assumption | exact Nat.le_of_ble_eq_true rfl) only [s235_34, s235_35, s235_38, s235_40, s235_41, s235_42, s235_43, ow_some, true_and, and_true, and_self, if_true, if_false, not_true, not_false_eq_true, Bool.false_eq_true, eq_self, Option.toList, List.cons_append, List.nil_append, ix_in, ix_cl, lt_in, lt_cl, lt_add, ix_one, vu_eq, vu_ne, arI_mk, arL_mk, arY_mZ, arY_mB, alen_mI, fld_sfl_ne, fld_sfl_same, Option.isSome_some, pok_i, b1z, b01, z10, b1o, Int32.zero_add, vu_vu, upd_eq, upd_ne, V4.r1, V4.r2, V4.r3, V4.r4, V4.r16, V4.r17, V4.r18, V4.r19, V4.r20, V4.r23, V4.r24, V4.r25, V4.r26, V4.r27, V4.r28, V4.r29, V4.r30, V4.c172, V4.c173, V4.c174, V4.c186, V4.c187, V4.c188, V4.n5, V4.n13, V4.n14, V4.i0, V4.i5, V4.i6, V4.i7, V4.i8, V4.i9, V4.i10, V4.i11, V4.i12, V4.i13, V4.i14, V4.i15, V4.i21, V4.i22, h84]
    exact ⟨rfl, rfl, (sm0.w.tr sw2).tr (sm3.tr sm4).w, V4, rfl⟩
  · rw [if_neg h0]
    simp (disch := first | omega | decide | assumption | exact Nat.le_of_ble_eq_true rfl) only [s235_11, s235_12, s235_13, s235_16, s235_18, s235_19, s235_20, ow_some, true_and, and_true, and_self, if_true, if_false, not_true, not_false_eq_true, Bool.false_eq_true, eq_self, Option.toList, List.cons_append, List.nil_append, ix_in, ix_cl, lt_in, lt_cl, lt_add, ix_one, vu_eq, vu_ne, arI_mk, arL_mk, arY_mZ, arY_mB, alen_mI, fld_sfl_ne, fld_sfl_same, Option.isSome_some, pok_i, b1z, b01, z10, b1o, Int32.zero_add, vu_vu, upd_eq, upd_ne, V0.r1, V0.r2, V0.r3, V0.r4, V0.r16, V0.r17, V0.r18, V0.r19, V0.r20, V0.r23, V0.r24, V0.r25, V0.r26, V0.r27, V0.r28, V0.r29, V0.r30, V0.c172, V0.c173, V0.c174, V0.c186, V0.c187, V0.c188, V0.n5, V0.n13, V0.n14, V0.i0, V0.i5, V0.i6, V0.i7, V0.i8, V0.i9, V0.i10, V0.i11, V0.i12, V0.i13, V0.i14, V0.i15, V0.i21, V0.i22, h0]
    exact ⟨rfl, rfl, sm0.w, V0, rfl⟩

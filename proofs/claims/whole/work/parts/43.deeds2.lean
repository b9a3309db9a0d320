/-! the reference: deeds done -/
def m_shift (all : Nat → Int32) (m : Nat) : Nat → Int32 := fun a => if 93 ≤ a ∧ a < 93 + m then all (a + 40) else all a
theorem m_shift_s {all : Nat → Int32} {m : Nat} : upd (m_shift all m) (93 + m) (m_shift all m (133 + m)) = m_shift all (m + 1) := by
  funext a
  by_cases h : a = 93 + m
  · subst h; rw [upd_eq, m_shift, m_shift, if_neg (by omega), if_pos (by omega)]; congr 1; omega
  · rw [upd_ne h, m_shift, m_shift]
    by_cases h2 : 93 ≤ a ∧ a < 93 + m
    · rw [if_pos h2, if_pos (by omega)]
    · rw [if_neg h2, if_neg (by omega)]
def m_row (all w : Nat → Int32) (D m : Nat) : Nat → Int32 := fun a => if 93 + 40 * D ≤ a ∧ a < 93 + 40 * D + m then w (a - (93 + 40 * D)) else all a
theorem m_row_s {all w : Nat → Int32} {D m : Nat} : upd (m_row all w D m) (93 + 40 * D + m) (w m) = m_row all w D (m + 1) := by
  funext a
  by_cases h : a = 93 + 40 * D + m
  · subst h; rw [upd_eq, m_row, if_pos (by omega)]; congr 1; omega
  · rw [upd_ne h, m_row, m_row]
    by_cases h2 : 93 + 40 * D ≤ a ∧ a < 93 + 40 * D + m
    · rw [if_pos h2, if_pos (by omega)]
    · rw [if_neg h2, if_neg (by omega)]
/-- a deed noted -/
def m_note (all w : Nat → Int32) (D : Nat) : Nat → Int32 := if D = 10 then upd (m_row (upd (m_shift all 360) 92 (nI 9)) w 9 40) 92 (nI 10) else upd (m_row all w D 40) 92 (nI (D + 1))
theorem sp_notes2 {X : Nat × (Nat → Int32)} {d N K : Nat} {f : Nat → e_C} {s : m_T} {w : Nat → Int32} {D : Nat} {a1 : Value} (V : MV f s) (hw : arI (f 180) = some (40, w)) (hD : s.1 92 = nI D) (hD2 : D < 10) : TT X d 226 57 [.ref 171, a1] [] f N K (MP N K f (upd (m_row s.1 w D 40) 92 (nI (D + 1)), s.2) none) := by
  simp (disch := first | omega | decide | assumption | exact Nat.le_of_ble_eq_true rfl) only [s226_57, h226_58, s226_59, ow_some, true_and, and_true, and_self, if_true, if_false, not_true, not_false_eq_true, Bool.false_eq_true, eq_self, Option.toList, List.cons_append, List.nil_append, ix_in, ix_cl, lt_in, lt_cl, lt_add, ix_one, vu_eq, vu_ne, arI_mk, arL_mk, arY_mZ, arY_mB, alen_mI, fld_sfl_ne, fld_sfl_same, Option.isSome_some, pok_i, b1z, b01, z10, b1o, Int32.zero_add, vu_vu, upd_eq, upd_ne, V.r1, V.r2, V.r3, V.r4, V.r16, V.r17, V.r18, V.r19, V.r20, V.r23, V.r24, V.r25, V.r26, V.r27, V.r28, V.r29, V.r30, V.c172, V.c173, V.c174, V.c186, V.c187, V.c188, V.n5, V.n13, V.n14, V.i0, V.i5, V.i6, V.i7, V.i8, V.i9, V.i10, V.i11, V.i12, V.i13, V.i14, V.i15, V.i21, V.i22]
  refine lp (fun p g (_ : Unit) => SM f g ∧ MV g (m_row s.1 w D p, s.2) ∧ arI (g 180) = some (40, w)) (fun p x => [.ref 171, .int (nI p)]) 40 ?_ ?_ 0 f () (by omega) ⟨SM.rf, ?_, hw⟩
  · rintro p g _ hp ⟨sm, V1, hw⟩ hI
    have hc : (40 ≤ p) = False := eq_false (by omega)
    have h92 : m_row s.1 w D p 92 = nI D := by rw [m_row, if_neg (by omega)]; exact hD
    have e1 : (40 : Int32) * nI D = nI (40 * D) := by rw [lit_nI 40, pk_mul]
    simp (disch := first | omega | decide | assumption | exact Nat.le_of_ble_eq_true rfl) only [s226_59, s226_60, s226_62, s226_65, s226_66, s226_69, s226_71, s226_73, s226_74, s226_77, s226_79, s226_80, s226_81, s226_82, s226_83, s226_84, s226_85, s226_88, s226_89, s226_90, s226_91, h226_94, ow_some, true_and, and_true, and_self, if_true, if_false, not_true, not_false_eq_true, Bool.false_eq_true, eq_self, Option.toList, List.cons_append, List.nil_append, ix_in, ix_cl, lt_in, lt_cl, lt_add, ix_one, vu_eq, vu_ne, arI_mk, arL_mk, arY_mZ, arY_mB, alen_mI, fld_sfl_ne, fld_sfl_same, Option.isSome_some, pok_i, b1z, b01, z10, b1o, Int32.zero_add, vu_vu, upd_eq, upd_ne, V1.r1, V1.r2, V1.r3, V1.r4, V1.r16, V1.r17, V1.r18, V1.r19, V1.r20, V1.r23, V1.r24, V1.r25, V1.r26, V1.r27, V1.r28, V1.r29, V1.r30, V1.c172, V1.c173, V1.c174, V1.c186, V1.c187, V1.c188, V1.n5, V1.n13, V1.n14, V1.i0, V1.i5, V1.i6, V1.i7, V1.i8, V1.i9, V1.i10, V1.i11, V1.i12, V1.i13, V1.i14, V1.i15, V1.i21, V1.i22, lt_le, hc, hw, h92, e1, nI_add, m_row_s]
    exact hI _ () ⟨sm.tr (SM.up (by omega) (by omega)), V1.all, by rw [vu_ne (by decide)]; exact hw⟩
  · rintro g _ ⟨sm, V1, hw⟩
    have h92 : m_row s.1 w D 40 92 = nI D := by rw [m_row, if_neg (by omega)]; exact hD
    simp (disch := first | omega | decide | assumption | exact Nat.le_of_ble_eq_true rfl) only [s226_59, s226_60, s226_62, s226_65, s226_66, s226_69, s226_71, s226_73, s226_74, s226_77, s226_79, s226_80, s226_81, s226_82, s226_83, s226_84, s226_85, s226_88, s226_89, s226_90, s226_91, h226_94, s226_97, s226_98, s226_101, s226_103, s226_104, s226_105, s226_106, s226_107, s226_108, ow_some, true_and, and_true, and_self, if_true, if_false, not_true, not_false_eq_true, Bool.false_eq_true, eq_self, Option.toList, List.cons_append, List.nil_append, ix_in, ix_cl, lt_in, lt_cl, lt_add, ix_one, vu_eq, vu_ne, arI_mk, arL_mk, arY_mZ, arY_mB, alen_mI, fld_sfl_ne, fld_sfl_same, Option.isSome_some, pok_i, b1z, b01, z10, b1o, Int32.zero_add, vu_vu, upd_eq, upd_ne, V1.r1, V1.r2, V1.r3, V1.r4, V1.r16, V1.r17, V1.r18, V1.r19, V1.r20, V1.r23, V1.r24, V1.r25, V1.r26, V1.r27, V1.r28, V1.r29, V1.r30, V1.c172, V1.c173, V1.c174, V1.c186, V1.c187, V1.c188, V1.n5, V1.n13, V1.n14, V1.i0, V1.i5, V1.i6, V1.i7, V1.i8, V1.i9, V1.i10, V1.i11, V1.i12, V1.i13, V1.i14, V1.i15, V1.i21, V1.i22, lt_le, Nat.le_refl, h92]
    exact ⟨rfl, rfl, sm.tr (SM.up (by omega) (by omega)), V1.all, rfl⟩
  · have : m_row s.1 w D 0 = s.1 := by funext a; rw [m_row, if_neg (by omega)]
    rw [this]; exact V
theorem sp_notes {X : Nat × (Nat → Int32)} {d N K : Nat} {f : Nat → e_C} {s : m_T} {w : Nat → Int32} {D : Nat} {a1 : Value} (V : MV f s) (hw : arI (f 180) = some (40, w)) (hD : s.1 92 = nI D) (hD2 : D ≤ 10) : TT X d 226 0 [.ref 171, a1] [] f N K (MP N K f (m_note s.1 w D, s.2) none) := by
  by_cases h10 : D = 10
  · subst h10
    have e0 : (nI 10 = (10 : Int32)) = True := eq_true rfl
    have e9 : nI 10 - 1 = nI 9 := by decide
    simp (disch := first | omega | decide | assumption | exact Nat.le_of_ble_eq_true rfl) only [s226_0, s226_1, s226_4, s226_6, s226_7, s226_9, s226_12, h226_13, ow_some, true_and, and_true, and_self, if_true, if_false, not_true, not_false_eq_true, Bool.false_eq_true, eq_self, Option.toList, List.cons_append, List.nil_append, ix_in, ix_cl, lt_in, lt_cl, lt_add, ix_one, vu_eq, vu_ne, arI_mk, arL_mk, arY_mZ, arY_mB, alen_mI, fld_sfl_ne, fld_sfl_same, Option.isSome_some, pok_i, b1z, b01, z10, b1o, Int32.zero_add, vu_vu, upd_eq, upd_ne, V.r1, V.r2, V.r3, V.r4, V.r16, V.r17, V.r18, V.r19, V.r20, V.r23, V.r24, V.r25, V.r26, V.r27, V.r28, V.r29, V.r30, V.c172, V.c173, V.c174, V.c186, V.c187, V.c188, V.n5, V.n13, V.n14, V.i0, V.i5, V.i6, V.i7, V.i8, V.i9, V.i10, V.i11, V.i12, V.i13, V.i14, V.i15, V.i21, V.i22, hD, e0]
    refine lp (fun p g (_ : Unit) => SM f g ∧ MV g (m_shift s.1 p, s.2) ∧ arI (g 180) = some (40, w)) (fun p x => [.ref 171, .int (nI p)]) 360 ?_ ?_ 0 f () (by omega) ⟨SM.rf, ?_, hw⟩
    · rintro p g _ hp ⟨sm, V1, hw⟩ hI
      have hc : (360 ≤ p) = False := eq_false (by omega)
      simp (disch := first | omega | decide | assumption | exact Nat.le_of_ble_eq_true rfl) only [s226_14, s226_15, s226_18, s226_21, s226_22, s226_25, s226_27, s226_28, s226_29, s226_30, s226_33, s226_36, s226_37, s226_38, s226_39, s226_40, h226_43, ow_some, true_and, and_true, and_self, if_true, if_false, not_true, not_false_eq_true, Bool.false_eq_true, eq_self, Option.toList, List.cons_append, List.nil_append, ix_in, ix_cl, lt_in, lt_cl, lt_add, ix_one, vu_eq, vu_ne, arI_mk, arL_mk, arY_mZ, arY_mB, alen_mI, fld_sfl_ne, fld_sfl_same, Option.isSome_some, pok_i, b1z, b01, z10, b1o, Int32.zero_add, vu_vu, upd_eq, upd_ne, V1.r1, V1.r2, V1.r3, V1.r4, V1.r16, V1.r17, V1.r18, V1.r19, V1.r20, V1.r23, V1.r24, V1.r25, V1.r26, V1.r27, V1.r28, V1.r29, V1.r30, V1.c172, V1.c173, V1.c174, V1.c186, V1.c187, V1.c188, V1.n5, V1.n13, V1.n14, V1.i0, V1.i5, V1.i6, V1.i7, V1.i8, V1.i9, V1.i10, V1.i11, V1.i12, V1.i13, V1.i14, V1.i15, V1.i21, V1.i22, lt_le, hc, hw, m_shift_s]
      exact hI _ () ⟨sm.tr (SM.up (by omega) (by omega)), V1.all, by rw [vu_ne (by decide)]; exact hw⟩
    · rintro g _ ⟨sm, V1, hw⟩
      have h92 : m_shift s.1 360 92 = nI 10 := by rw [m_shift, if_neg (by omega)]; exact hD
      simp (disch := first | omega | decide | assumption | exact Nat.le_of_ble_eq_true rfl) only [s226_14, s226_15, s226_18, s226_21, s226_22, s226_25, s226_27, s226_28, s226_29, s226_30, s226_33, s226_36, s226_37, s226_38, s226_39, s226_40, h226_43, s226_46, s226_47, s226_50, s226_52, s226_53, s226_54, s226_55, s226_56, ow_some, true_and, and_true, and_self, if_true, if_false, not_true, not_false_eq_true, Bool.false_eq_true, eq_self, Option.toList, List.cons_append, List.nil_append, ix_in, ix_cl, lt_in, lt_cl, lt_add, ix_one, vu_eq, vu_ne, arI_mk, arL_mk, arY_mZ, arY_mB, alen_mI, fld_sfl_ne, fld_sfl_same, Option.isSome_some, pok_i, b1z, b01, z10, b1o, Int32.zero_add, vu_vu, upd_eq, upd_ne, V1.r1, V1.r2, V1.r3, V1.r4, V1.r16, V1.r17, V1.r18, V1.r19, V1.r20, V1.r23, V1.r24, V1.r25, V1.r26, V1.r27, V1.r28, V1.r29, V1.r30, V1.c172, V1.c173, V1.c174, V1.c186, V1.c187, V1.c188, V1.n5, V1.n13, V1.n14, V1.i0, V1.i5, V1.i6, V1.i7, V1.i8, V1.i9, V1.i10, V1.i11, V1.i12, V1.i13, V1.i14, V1.i15, V1.i21, V1.i22, lt_le, Nat.le_refl, h92, e9]
      have sm2 : SM f (va_up g 172 (.inl (.int, 4182, .inl (upd (m_shift s.1 360) 92 (nI 9))))) := sm.tr (SM.up (by omega) (by omega))
      refine (sp_notes2 (D := 9) (V1.all (all' := upd (m_shift s.1 360) 92 (nI 9))) (by rw [vu_ne (by decide)]; exact hw) (by simp [upd]) (by omega)).mono ?_
      rintro f' n' k' v ⟨rfl, rfl, sm3, V3, rfl⟩
      refine ⟨rfl, rfl, sm2.tr sm3, ?_, rfl⟩
      rw [m_note, if_pos rfl]; exact V3
    · have : m_shift s.1 0 = s.1 := by funext a; rw [m_shift, if_neg (by omega)]
      rw [this]; exact V
  · have e0 : (nI D = (10 : Int32)) = False := by rw [tl_eq (c := 10) (by decide) (by omega)]; exact eq_false h10
    simp (disch := first | omega | decide | assumption | exact Nat.le_of_ble_eq_true rfl) only [s226_0, s226_1, s226_4, s226_6, s226_7, s226_9, s226_12, h226_13, ow_some, true_and, and_true, and_self, if_true, if_false, not_true, not_false_eq_true, Bool.false_eq_true, eq_self, Option.toList, List.cons_append, List.nil_append, ix_in, ix_cl, lt_in, lt_cl, lt_add, ix_one, vu_eq, vu_ne, arI_mk, arL_mk, arY_mZ, arY_mB, alen_mI, fld_sfl_ne, fld_sfl_same, Option.isSome_some, pok_i, b1z, b01, z10, b1o, Int32.zero_add, vu_vu, upd_eq, upd_ne, V.r1, V.r2, V.r3, V.r4, V.r16, V.r17, V.r18, V.r19, V.r20, V.r23, V.r24, V.r25, V.r26, V.r27, V.r28, V.r29, V.r30, V.c172, V.c173, V.c174, V.c186, V.c187, V.c188, V.n5, V.n13, V.n14, V.i0, V.i5, V.i6, V.i7, V.i8, V.i9, V.i10, V.i11, V.i12, V.i13, V.i14, V.i15, V.i21, V.i22, hD, e0]
    refine (sp_notes2 (D := D) V hw hD (by omega)).mono ?_
    rintro f' n' k' v ⟨rfl, rfl, sm3, V3, rfl⟩
    refine ⟨rfl, rfl, sm3, ?_, rfl⟩
    rw [m_note, if_neg h10]; exact V3
/-- one seen -/
def m_see (all : Nat → Int32) (S P T p : Nat) : Nat → Int32 := m_fall (upd (upd all 53 (nI (clr T p))) 55 (all 55 + 1)) S P (clr T p)
theorem sp_sees {X : Nat × (Nat → Int32)} {d N K : Nat} {f : Nat → e_C} {s : m_T} {S P T p : Nat} (V : MV f s) (A : AL s.1 S P) (hT : s.1 53 = nI T) (hT2 : T < 512) (hp : p < 9) : TT X (d + 7) 225 0 [.ref 171, .int (nI p)] [] f N K (MP N K f (m_see s.1 S P T p, s.2) none) := by
  obtain ⟨hb, hlt⟩ := bit_clr T hT2 p hp
  simp (disch := first | omega | decide | assumption | exact Nat.le_of_ble_eq_true rfl) only [s225_0, s225_1, s225_4, s225_6, s225_7, s225_8, s225_9, s225_10, s225_11, s225_12, s225_13, s225_14, s225_15, s225_16, s225_19, s225_21, s225_22, s225_23, s225_24, s225_25, s225_26, s225_30, ow_some, true_and, and_true, and_self, if_true, if_false, not_true, not_false_eq_true, Bool.false_eq_true, eq_self, Option.toList, List.cons_append, List.nil_append, ix_in, ix_cl, lt_in, lt_cl, lt_add, ix_one, vu_eq, vu_ne, arI_mk, arL_mk, arY_mZ, arY_mB, alen_mI, fld_sfl_ne, fld_sfl_same, Option.isSome_some, pok_i, b1z, b01, z10, b1o, Int32.zero_add, vu_vu, upd_eq, upd_ne, V.r1, V.r2, V.r3, V.r4, V.r16, V.r17, V.r18, V.r19, V.r20, V.r23, V.r24, V.r25, V.r26, V.r27, V.r28, V.r29, V.r30, V.c172, V.c173, V.c174, V.c186, V.c187, V.c188, V.n5, V.n13, V.n14, V.i0, V.i5, V.i6, V.i7, V.i8, V.i9, V.i10, V.i11, V.i12, V.i13, V.i14, V.i15, V.i21, V.i22, hT, hb, upd_ne]
  have V1 := (V.all (all' := upd (upd s.1 53 (nI (clr T p))) 55 (s.1 55 + 1)))
  have A1 : AL (upd (upd s.1 53 (nI (clr T p))) 55 (s.1 55 + 1)) S P := (A.up (by unfold al_i; omega)).up (by unfold al_i; omega)
  refine k225_27 (cno_MR V1.mr) (Nat.le_of_ble_eq_true rfl) (sp_falls V1 A1 (by simp [upd]) hlt) ?_
  rintro f' n' k' v ⟨rfl, rfl, rfl, sm, V2⟩
  simp (disch := first | omega | decide | assumption | exact Nat.le_of_ble_eq_true rfl) only [s225_0, s225_1, s225_4, s225_6, s225_7, s225_8, s225_9, s225_10, s225_11, s225_12, s225_13, s225_14, s225_15, s225_16, s225_19, s225_21, s225_22, s225_23, s225_24, s225_25, s225_26, s225_30, ow_some, true_and, and_true, and_self, if_true, if_false, not_true, not_false_eq_true, Bool.false_eq_true, eq_self, Option.toList, List.cons_append, List.nil_append, ix_in, ix_cl, lt_in, lt_cl, lt_add, ix_one, vu_eq, vu_ne, arI_mk, arL_mk, arY_mZ, arY_mB, alen_mI, fld_sfl_ne, fld_sfl_same, Option.isSome_some, pok_i, b1z, b01, z10, b1o, Int32.zero_add, vu_vu, upd_eq, upd_ne, V2.r1, V2.r2, V2.r3, V2.r4, V2.r16, V2.r17, V2.r18, V2.r19, V2.r20, V2.r23, V2.r24, V2.r25, V2.r26, V2.r27, V2.r28, V2.r29, V2.r30, V2.c172, V2.c173, V2.c174, V2.c186, V2.c187, V2.c188, V2.n5, V2.n13, V2.n14, V2.i0, V2.i5, V2.i6, V2.i7, V2.i8, V2.i9, V2.i10, V2.i11, V2.i12, V2.i13, V2.i14, V2.i15, V2.i21, V2.i22]
  exact ⟨rfl, rfl, (SM.up (by omega) (by omega)).tr sm, V2, rfl⟩

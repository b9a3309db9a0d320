/-! the reference: who can be seen in time -/
def allB (c : Nat → Bool) : Nat → Bool
  | 0 => true
  | n + 1 => allB c n && c n
theorem allB_iff {c : Nat → Bool} : ∀ {n : Nat}, allB c n = true ↔ ∀ j, j < n → c j = true := by
  intro n
  induction n with
  | zero => exact ⟨fun _ j hj => by omega, fun _ => rfl⟩
  | succ n ih =>
    unfold allB
    rw [Bool.and_eq_true, ih]
    constructor
    · rintro ⟨h1, h2⟩ j hj
      by_cases h : j = n
      · subst h; exact h2
      · exact h1 j (by omega)
    · intro h; exact ⟨fun j hj => h j (by omega), h n (by omega)⟩
theorem allB_no {c : Nat → Bool} {n j : Nat} (hj : j < n) (h : c j = false) : allB c n = false := by
  by_cases ha : allB c n = true
  · rw [allB_iff.mp ha j hj] at h; exact absurd h (by decide)
  · simpa using ha
def c_ok (all : Nat → Int32) (t seen day p : Nat) : Bool := !t.testBit p || (!decide (all (34 + p) = -1) && !decide (all (34 + p) < all 56 + nI day) && (decide (all (43 + p) = -1) || !seen.testBit (all (43 + p)).toNatClampNeg))
def m_can (all : Nat → Int32) (P t seen day : Nat) : Bool := decide (nI (bits t) ≤ if day = 0 then all 2 - all 55 else all 2) && allB (c_ok all t seen day) P
theorem sp_canSee {X : Nat × (Nat → Int32)} {d N K : Nat} {f : Nat → e_C} {s : m_T} {S P : Nat} (V : MV f s) (W : WF s.1 S P) {t u y : Nat} {a4 a5 : Value} (ht : t < 512) (hu : u < 512) (hy : y < 100) : PU X (d + 1) 264 [.ref 171, .int (nI t), .int (nI u), .int (nI y), a4, a5] f N K (some (.int (bI (m_can s.1 P t u y)))) := by
  unfold PU
  have A4 := W.1.2.2.2.1
  have h9 := W.1.2.2.2.2.1
  have ey : (nI y = 0) = (y = 0) := tl_eq (c := 0) (by decide) (by omega)
  have tail : ∀ a4 a5 : Value, TT X (d + 1) 264 27 [.ref 171, .int (nI t), .int (nI u), .int (nI y), a4, a5] [.int (if y = 0 then s.1 2 - s.1 55 else s.1 2)] f N K (fun f' n' k' v => f' = f ∧ n' = N ∧ k' = K ∧ v = some (.int (bI (m_can s.1 P t u y)))) := by
    intro a4 a5
    simp (disch := first | omega | decide | assumption | exact Nat.le_of_ble_eq_true rfl) only [s264_27, s264_29, ow_some, true_and, and_true, and_self, if_true, if_false, not_true, not_false_eq_true, Bool.false_eq_true, eq_self, Option.toList, List.cons_append, List.nil_append, ix_in, ix_cl, lt_in, lt_cl, lt_add, ix_one, vu_eq, vu_ne, arI_mk, arL_mk, arY_mZ, arY_mB, alen_mI, fld_sfl_ne, fld_sfl_same, Option.isSome_some, pok_i, b1z, b01, z10, b1o, Int32.zero_add, vu_vu, upd_eq, upd_ne, true_or, or_true, V.r1, V.r2, V.r3, V.r4, V.r16, V.r17, V.r18, V.r19, V.r20, V.r23, V.r24, V.r25, V.r26, V.r27, V.r28, V.r29, V.r30, V.c172, V.c173, V.c174, V.c186, V.c187, V.c188, V.n5, V.n13, V.n14, V.i0, V.i5, V.i6, V.i7, V.i8, V.i9, V.i10, V.i11, V.i12, V.i13, V.i14, V.i15, V.i21, V.i22]
    rw [p264_30 (Nat.le_of_ble_eq_true rfl) (sp_bitsOf ht)]
    unfold m_can
    by_cases h1 : nI (bits t) ≤ (if y = 0 then s.1 2 - s.1 55 else s.1 2)
    · have h1' : (nI (m_bits t 9) ≤ (if y = 0 then s.1 2 - s.1 55 else s.1 2)) = True := eq_true h1
      simp (disch := first | omega | decide | assumption | exact Nat.le_of_ble_eq_true rfl) only [s264_33, s264_35, s264_38, s264_39, s264_40, h264_41, ow_some, true_and, and_true, and_self, if_true, if_false, not_true, not_false_eq_true, Bool.false_eq_true, eq_self, Option.toList, List.cons_append, List.nil_append, ix_in, ix_cl, lt_in, lt_cl, lt_add, ix_one, vu_eq, vu_ne, arI_mk, arL_mk, arY_mZ, arY_mB, alen_mI, fld_sfl_ne, fld_sfl_same, Option.isSome_some, pok_i, b1z, b01, z10, b1o, Int32.zero_add, vu_vu, upd_eq, upd_ne, true_or, or_true, V.r1, V.r2, V.r3, V.r4, V.r16, V.r17, V.r18, V.r19, V.r20, V.r23, V.r24, V.r25, V.r26, V.r27, V.r28, V.r29, V.r30, V.c172, V.c173, V.c174, V.c186, V.c187, V.c188, V.n5, V.n13, V.n14, V.i0, V.i5, V.i6, V.i7, V.i8, V.i9, V.i10, V.i11, V.i12, V.i13, V.i14, V.i15, V.i21, V.i22, h1']
      refine lp (fun j g (_ : Unit) => g = f ∧ ∀ p, p < j → c_ok s.1 t u y p = true) (fun j _ => [.ref 171, .int (nI t), .int (nI u), .int (nI y), .int (if y = 0 then s.1 2 - s.1 55 else s.1 2), .int (nI j)]) P ?_ ?_ 0 f () (by omega) ⟨rfl, fun p hp => by omega⟩
      · rintro j g _ hj ⟨rfl, hv⟩ hI
        have hc : (P ≤ j) = False := eq_false (by omega)
        have bad : c_ok s.1 t u y j = false → (decide (nI (bits t) ≤ if y = 0 then s.1 2 - s.1 55 else s.1 2) && allB (c_ok s.1 t u y) P) = false := fun h => by rw [allB_no hj h]; simp
        have good : c_ok s.1 t u y j = true → TT X (d + 1) 264 140 [.ref 171, .int (nI t), .int (nI u), .int (nI y), .int (if y = 0 then s.1 2 - s.1 55 else s.1 2), .int (nI j)] [] g N K (fun f' n' k' v => f' = g ∧ n' = N ∧ k' = K ∧ v = some (.int (bI (decide (nI (bits t) ≤ if y = 0 then s.1 2 - s.1 55 else s.1 2) && allB (c_ok s.1 t u y) P)))) := by
          intro h
          simp (disch := first | omega | decide | assumption | exact Nat.le_of_ble_eq_true rfl) only [s264_140, h264_143, ow_some, true_and, and_true, and_self, if_true, if_false, not_true, not_false_eq_true, Bool.false_eq_true, eq_self, Option.toList, List.cons_append, List.nil_append, ix_in, ix_cl, lt_in, lt_cl, lt_add, ix_one, vu_eq, vu_ne, arI_mk, arL_mk, arY_mZ, arY_mB, alen_mI, fld_sfl_ne, fld_sfl_same, Option.isSome_some, pok_i, b1z, b01, z10, b1o, Int32.zero_add, vu_vu, upd_eq, upd_ne, true_or, or_true, V.r1, V.r2, V.r3, V.r4, V.r16, V.r17, V.r18, V.r19, V.r20, V.r23, V.r24, V.r25, V.r26, V.r27, V.r28, V.r29, V.r30, V.c172, V.c173, V.c174, V.c186, V.c187, V.c188, V.n5, V.n13, V.n14, V.i0, V.i5, V.i6, V.i7, V.i8, V.i9, V.i10, V.i11, V.i12, V.i13, V.i14, V.i15, V.i21, V.i22]
          refine hI _ () ⟨rfl, fun p hp => ?_⟩
          by_cases hpj : p = j
          · subst hpj; exact h
          · exact hv p (by omega)
        simp (disch := first | omega | decide | assumption | exact Nat.le_of_ble_eq_true rfl) only [s264_43, s264_45, s264_46, s264_49, s264_51, s264_52, s264_55, s264_56, s264_57, ow_some, true_and, and_true, and_self, if_true, if_false, not_true, not_false_eq_true, Bool.false_eq_true, eq_self, Option.toList, List.cons_append, List.nil_append, ix_in, ix_cl, lt_in, lt_cl, lt_add, ix_one, vu_eq, vu_ne, arI_mk, arL_mk, arY_mZ, arY_mB, alen_mI, fld_sfl_ne, fld_sfl_same, Option.isSome_some, pok_i, b1z, b01, z10, b1o, Int32.zero_add, vu_vu, upd_eq, upd_ne, true_or, or_true, V.r1, V.r2, V.r3, V.r4, V.r16, V.r17, V.r18, V.r19, V.r20, V.r23, V.r24, V.r25, V.r26, V.r27, V.r28, V.r29, V.r30, V.c172, V.c173, V.c174, V.c186, V.c187, V.c188, V.n5, V.n13, V.n14, V.i0, V.i5, V.i6, V.i7, V.i8, V.i9, V.i10, V.i11, V.i12, V.i13, V.i14, V.i15, V.i21, V.i22, A4, ix_le, hc]
        rw [p264_59 (Nat.le_of_ble_eq_true rfl) (sp_isIn ht (show j < 9 by omega))]
        by_cases h2 : t.testBit j = true
        · simp (disch := first | omega | decide | assumption | exact Nat.le_of_ble_eq_true rfl) only [s264_62, s264_65, s264_68, s264_69, s264_72, s264_74, s264_76, s264_77, s264_78, s264_79, ow_some, true_and, and_true, and_self, if_true, if_false, not_true, not_false_eq_true, Bool.false_eq_true, eq_self, Option.toList, List.cons_append, List.nil_append, ix_in, ix_cl, lt_in, lt_cl, lt_add, ix_one, vu_eq, vu_ne, arI_mk, arL_mk, arY_mZ, arY_mB, alen_mI, fld_sfl_ne, fld_sfl_same, Option.isSome_some, pok_i, b1z, b01, z10, b1o, Int32.zero_add, vu_vu, upd_eq, upd_ne, true_or, or_true, V.r1, V.r2, V.r3, V.r4, V.r16, V.r17, V.r18, V.r19, V.r20, V.r23, V.r24, V.r25, V.r26, V.r27, V.r28, V.r29, V.r30, V.c172, V.c173, V.c174, V.c186, V.c187, V.c188, V.n5, V.n13, V.n14, V.i0, V.i5, V.i6, V.i7, V.i8, V.i9, V.i10, V.i11, V.i12, V.i13, V.i14, V.i15, V.i21, V.i22, h2]
          by_cases h3 : s.1 (34 + j) = -1
          · simp (disch := first | omega | decide | assumption | exact Nat.le_of_ble_eq_true rfl) only [s264_104, s264_105, ow_some, true_and, and_true, and_self, if_true, if_false, not_true, not_false_eq_true, Bool.false_eq_true, eq_self, Option.toList, List.cons_append, List.nil_append, ix_in, ix_cl, lt_in, lt_cl, lt_add, ix_one, vu_eq, vu_ne, arI_mk, arL_mk, arY_mZ, arY_mB, alen_mI, fld_sfl_ne, fld_sfl_same, Option.isSome_some, pok_i, b1z, b01, z10, b1o, Int32.zero_add, vu_vu, upd_eq, upd_ne, true_or, or_true, V.r1, V.r2, V.r3, V.r4, V.r16, V.r17, V.r18, V.r19, V.r20, V.r23, V.r24, V.r25, V.r26, V.r27, V.r28, V.r29, V.r30, V.c172, V.c173, V.c174, V.c186, V.c187, V.c188, V.n5, V.n13, V.n14, V.i0, V.i5, V.i6, V.i7, V.i8, V.i9, V.i10, V.i11, V.i12, V.i13, V.i14, V.i15, V.i21, V.i22, h3]
            rw [bad (by unfold c_ok; rw [h2, h3]; rfl)]
            first | exact ⟨rfl, rfl, rfl, rfl⟩ | rfl
          · simp (disch := first | omega | decide | assumption | exact Nat.le_of_ble_eq_true rfl) only [s264_82, s264_83, s264_86, s264_88, s264_90, s264_91, s264_92, s264_93, s264_96, s264_98, s264_99, s264_100, s264_101, ow_some, true_and, and_true, and_self, if_true, if_false, not_true, not_false_eq_true, Bool.false_eq_true, eq_self, Option.toList, List.cons_append, List.nil_append, ix_in, ix_cl, lt_in, lt_cl, lt_add, ix_one, vu_eq, vu_ne, arI_mk, arL_mk, arY_mZ, arY_mB, alen_mI, fld_sfl_ne, fld_sfl_same, Option.isSome_some, pok_i, b1z, b01, z10, b1o, Int32.zero_add, vu_vu, upd_eq, upd_ne, true_or, or_true, V.r1, V.r2, V.r3, V.r4, V.r16, V.r17, V.r18, V.r19, V.r20, V.r23, V.r24, V.r25, V.r26, V.r27, V.r28, V.r29, V.r30, V.c172, V.c173, V.c174, V.c186, V.c187, V.c188, V.n5, V.n13, V.n14, V.i0, V.i5, V.i6, V.i7, V.i8, V.i9, V.i10, V.i11, V.i12, V.i13, V.i14, V.i15, V.i21, V.i22, h3]
            by_cases h4 : s.1 (34 + j) < s.1 56 + nI y
            · have h4' : (s.1 56 + nI y ≤ s.1 (34 + j)) = False := eq_false (by rw [Int32.le_iff_toInt_le]; rw [Int32.lt_iff_toInt_lt] at h4; omega)
              simp (disch := first | omega | decide | assumption | exact Nat.le_of_ble_eq_true rfl) only [s264_104, s264_105, ow_some, true_and, and_true, and_self, if_true, if_false, not_true, not_false_eq_true, Bool.false_eq_true, eq_self, Option.toList, List.cons_append, List.nil_append, ix_in, ix_cl, lt_in, lt_cl, lt_add, ix_one, vu_eq, vu_ne, arI_mk, arL_mk, arY_mZ, arY_mB, alen_mI, fld_sfl_ne, fld_sfl_same, Option.isSome_some, pok_i, b1z, b01, z10, b1o, Int32.zero_add, vu_vu, upd_eq, upd_ne, true_or, or_true, V.r1, V.r2, V.r3, V.r4, V.r16, V.r17, V.r18, V.r19, V.r20, V.r23, V.r24, V.r25, V.r26, V.r27, V.r28, V.r29, V.r30, V.c172, V.c173, V.c174, V.c186, V.c187, V.c188, V.n5, V.n13, V.n14, V.i0, V.i5, V.i6, V.i7, V.i8, V.i9, V.i10, V.i11, V.i12, V.i13, V.i14, V.i15, V.i21, V.i22, h4']
              rw [bad (by unfold c_ok; simp [h2, h4])]
              first | exact ⟨rfl, rfl, rfl, rfl⟩ | rfl
            · have h4' : (s.1 56 + nI y ≤ s.1 (34 + j)) = True := eq_true (by rw [Int32.le_iff_toInt_le]; rw [Int32.lt_iff_toInt_lt] at h4; omega)
              simp (disch := first | omega | decide | assumption | exact Nat.le_of_ble_eq_true rfl) only [s264_106, s264_107, s264_110, s264_112, s264_114, s264_115, s264_116, s264_117, ow_some, true_and, and_true, and_self, if_true, if_false, not_true, not_false_eq_true, Bool.false_eq_true, eq_self, Option.toList, List.cons_append, List.nil_append, ix_in, ix_cl, lt_in, lt_cl, lt_add, ix_one, vu_eq, vu_ne, arI_mk, arL_mk, arY_mZ, arY_mB, alen_mI, fld_sfl_ne, fld_sfl_same, Option.isSome_some, pok_i, b1z, b01, z10, b1o, Int32.zero_add, vu_vu, upd_eq, upd_ne, true_or, or_true, V.r1, V.r2, V.r3, V.r4, V.r16, V.r17, V.r18, V.r19, V.r20, V.r23, V.r24, V.r25, V.r26, V.r27, V.r28, V.r29, V.r30, V.c172, V.c173, V.c174, V.c186, V.c187, V.c188, V.n5, V.n13, V.n14, V.i0, V.i5, V.i6, V.i7, V.i8, V.i9, V.i10, V.i11, V.i12, V.i13, V.i14, V.i15, V.i21, V.i22, h4']
              rcases W.1.2.2.2.2.2.2.1 j (by omega) with h5 | ⟨q, hq, h5⟩
              · simp only [h5, if_true]
                exact good (by unfold c_ok; simp [h2, h3, h4, h5])
              · have hq0 : (nI q = -1) = False := ne_m1 (by omega)
                simp (disch := first | omega | decide | assumption | exact Nat.le_of_ble_eq_true rfl) only [s264_120, s264_121, s264_122, s264_123, s264_126, s264_128, s264_130, s264_131, ow_some, true_and, and_true, and_self, if_true, if_false, not_true, not_false_eq_true, Bool.false_eq_true, eq_self, Option.toList, List.cons_append, List.nil_append, ix_in, ix_cl, lt_in, lt_cl, lt_add, ix_one, vu_eq, vu_ne, arI_mk, arL_mk, arY_mZ, arY_mB, alen_mI, fld_sfl_ne, fld_sfl_same, Option.isSome_some, pok_i, b1z, b01, z10, b1o, Int32.zero_add, vu_vu, upd_eq, upd_ne, true_or, or_true, V.r1, V.r2, V.r3, V.r4, V.r16, V.r17, V.r18, V.r19, V.r20, V.r23, V.r24, V.r25, V.r26, V.r27, V.r28, V.r29, V.r30, V.c172, V.c173, V.c174, V.c186, V.c187, V.c188, V.n5, V.n13, V.n14, V.i0, V.i5, V.i6, V.i7, V.i8, V.i9, V.i10, V.i11, V.i12, V.i13, V.i14, V.i15, V.i21, V.i22, h5, hq0]
                rw [p264_132 (Nat.le_of_ble_eq_true rfl) (sp_isIn hu hq)]
                by_cases h6 : u.testBit q = true
                · simp (disch := first | omega | decide | assumption | exact Nat.le_of_ble_eq_true rfl) only [s264_135, s264_138, s264_139, ow_some, true_and, and_true, and_self, if_true, if_false, not_true, not_false_eq_true, Bool.false_eq_true, eq_self, Option.toList, List.cons_append, List.nil_append, ix_in, ix_cl, lt_in, lt_cl, lt_add, ix_one, vu_eq, vu_ne, arI_mk, arL_mk, arY_mZ, arY_mB, alen_mI, fld_sfl_ne, fld_sfl_same, Option.isSome_some, pok_i, b1z, b01, z10, b1o, Int32.zero_add, vu_vu, upd_eq, upd_ne, true_or, or_true, V.r1, V.r2, V.r3, V.r4, V.r16, V.r17, V.r18, V.r19, V.r20, V.r23, V.r24, V.r25, V.r26, V.r27, V.r28, V.r29, V.r30, V.c172, V.c173, V.c174, V.c186, V.c187, V.c188, V.n5, V.n13, V.n14, V.i0, V.i5, V.i6, V.i7, V.i8, V.i9, V.i10, V.i11, V.i12, V.i13, V.i14, V.i15, V.i21, V.i22, h6]
                  rw [bad (by unfold c_ok; simp [h2, h5, hq0, ix_cl (show q < 2147483648 by omega), h6])]
                  first | exact ⟨rfl, rfl, rfl, rfl⟩ | rfl
                · simp (disch := first | omega | decide | assumption | exact Nat.le_of_ble_eq_true rfl) only [s264_135, ow_some, true_and, and_true, and_self, if_true, if_false, not_true, not_false_eq_true, Bool.false_eq_true, eq_self, Option.toList, List.cons_append, List.nil_append, ix_in, ix_cl, lt_in, lt_cl, lt_add, ix_one, vu_eq, vu_ne, arI_mk, arL_mk, arY_mZ, arY_mB, alen_mI, fld_sfl_ne, fld_sfl_same, Option.isSome_some, pok_i, b1z, b01, z10, b1o, Int32.zero_add, vu_vu, upd_eq, upd_ne, true_or, or_true, V.r1, V.r2, V.r3, V.r4, V.r16, V.r17, V.r18, V.r19, V.r20, V.r23, V.r24, V.r25, V.r26, V.r27, V.r28, V.r29, V.r30, V.c172, V.c173, V.c174, V.c186, V.c187, V.c188, V.n5, V.n13, V.n14, V.i0, V.i5, V.i6, V.i7, V.i8, V.i9, V.i10, V.i11, V.i12, V.i13, V.i14, V.i15, V.i21, V.i22, h6]
                  exact good (by unfold c_ok; simp [h2, h3, h4, h5, hq0, ix_cl (show q < 2147483648 by omega), h6])
        · simp (disch := first | omega | decide | assumption | exact Nat.le_of_ble_eq_true rfl) only [s264_62, s264_65, ow_some, true_and, and_true, and_self, if_true, if_false, not_true, not_false_eq_true, Bool.false_eq_true, eq_self, Option.toList, List.cons_append, List.nil_append, ix_in, ix_cl, lt_in, lt_cl, lt_add, ix_one, vu_eq, vu_ne, arI_mk, arL_mk, arY_mZ, arY_mB, alen_mI, fld_sfl_ne, fld_sfl_same, Option.isSome_some, pok_i, b1z, b01, z10, b1o, Int32.zero_add, vu_vu, upd_eq, upd_ne, true_or, or_true, V.r1, V.r2, V.r3, V.r4, V.r16, V.r17, V.r18, V.r19, V.r20, V.r23, V.r24, V.r25, V.r26, V.r27, V.r28, V.r29, V.r30, V.c172, V.c173, V.c174, V.c186, V.c187, V.c188, V.n5, V.n13, V.n14, V.i0, V.i5, V.i6, V.i7, V.i8, V.i9, V.i10, V.i11, V.i12, V.i13, V.i14, V.i15, V.i21, V.i22, h2]
          exact good (by unfold c_ok; simp [h2])
      · rintro g _ ⟨rfl, hv⟩
        simp (disch := first | omega | decide | assumption | exact Nat.le_of_ble_eq_true rfl) only [s264_43, s264_45, s264_46, s264_49, s264_51, s264_52, s264_146, s264_147, ow_some, true_and, and_true, and_self, if_true, if_false, not_true, not_false_eq_true, Bool.false_eq_true, eq_self, Option.toList, List.cons_append, List.nil_append, ix_in, ix_cl, lt_in, lt_cl, lt_add, ix_one, vu_eq, vu_ne, arI_mk, arL_mk, arY_mZ, arY_mB, alen_mI, fld_sfl_ne, fld_sfl_same, Option.isSome_some, pok_i, b1z, b01, z10, b1o, Int32.zero_add, vu_vu, upd_eq, upd_ne, true_or, or_true, V.r1, V.r2, V.r3, V.r4, V.r16, V.r17, V.r18, V.r19, V.r20, V.r23, V.r24, V.r25, V.r26, V.r27, V.r28, V.r29, V.r30, V.c172, V.c173, V.c174, V.c186, V.c187, V.c188, V.n5, V.n13, V.n14, V.i0, V.i5, V.i6, V.i7, V.i8, V.i9, V.i10, V.i11, V.i12, V.i13, V.i14, V.i15, V.i21, V.i22, A4, ix_le, Nat.le_refl]
        have : (decide (nI (bits t) ≤ if y = 0 then s.1 2 - s.1 55 else s.1 2) && allB (c_ok s.1 t u y) P) = true := by
          rw [allB_iff.mpr hv]; simp [h1]
        rw [this]
        first | exact ⟨rfl, rfl, rfl, rfl⟩ | rfl
    · have h1' : (nI (m_bits t 9) ≤ (if y = 0 then s.1 2 - s.1 55 else s.1 2)) = False := eq_false h1
      simp (disch := first | omega | decide | assumption | exact Nat.le_of_ble_eq_true rfl) only [s264_33, s264_35, s264_38, s264_39, ow_some, true_and, and_true, and_self, if_true, if_false, not_true, not_false_eq_true, Bool.false_eq_true, eq_self, Option.toList, List.cons_append, List.nil_append, ix_in, ix_cl, lt_in, lt_cl, lt_add, ix_one, vu_eq, vu_ne, arI_mk, arL_mk, arY_mZ, arY_mB, alen_mI, fld_sfl_ne, fld_sfl_same, Option.isSome_some, pok_i, b1z, b01, z10, b1o, Int32.zero_add, vu_vu, upd_eq, upd_ne, true_or, or_true, V.r1, V.r2, V.r3, V.r4, V.r16, V.r17, V.r18, V.r19, V.r20, V.r23, V.r24, V.r25, V.r26, V.r27, V.r28, V.r29, V.r30, V.c172, V.c173, V.c174, V.c186, V.c187, V.c188, V.n5, V.n13, V.n14, V.i0, V.i5, V.i6, V.i7, V.i8, V.i9, V.i10, V.i11, V.i12, V.i13, V.i14, V.i15, V.i21, V.i22, h1']
      have : (decide (nI (bits t) ≤ if y = 0 then s.1 2 - s.1 55 else s.1 2) && allB (c_ok s.1 t u y) P) = false := by simp [h1]
      rw [this]
      first | exact ⟨rfl, rfl, rfl, rfl⟩ | rfl
  by_cases h0 : y = 0
  · have h0' : (y = 0) = True := eq_true h0
    simp (disch := first | omega | decide | assumption | exact Nat.le_of_ble_eq_true rfl) only [s264_0, s264_1, s264_4, s264_5, s264_8, s264_9, s264_10, s264_11, s264_14, s264_16, s264_17, s264_18, ow_some, true_and, and_true, and_self, if_true, if_false, not_true, not_false_eq_true, Bool.false_eq_true, eq_self, Option.toList, List.cons_append, List.nil_append, ix_in, ix_cl, lt_in, lt_cl, lt_add, ix_one, vu_eq, vu_ne, arI_mk, arL_mk, arY_mZ, arY_mB, alen_mI, fld_sfl_ne, fld_sfl_same, Option.isSome_some, pok_i, b1z, b01, z10, b1o, Int32.zero_add, vu_vu, upd_eq, upd_ne, true_or, or_true, V.r1, V.r2, V.r3, V.r4, V.r16, V.r17, V.r18, V.r19, V.r20, V.r23, V.r24, V.r25, V.r26, V.r27, V.r28, V.r29, V.r30, V.c172, V.c173, V.c174, V.c186, V.c187, V.c188, V.n5, V.n13, V.n14, V.i0, V.i5, V.i6, V.i7, V.i8, V.i9, V.i10, V.i11, V.i12, V.i13, V.i14, V.i15, V.i21, V.i22, ey, h0']
    have := tail a4 a5
    rw [if_pos h0] at this
    exact this
  · simp (disch := first | omega | decide | assumption | exact Nat.le_of_ble_eq_true rfl) only [s264_0, s264_1, s264_21, s264_22, s264_25, s264_26, ow_some, true_and, and_true, and_self, if_true, if_false, not_true, not_false_eq_true, Bool.false_eq_true, eq_self, Option.toList, List.cons_append, List.nil_append, ix_in, ix_cl, lt_in, lt_cl, lt_add, ix_one, vu_eq, vu_ne, arI_mk, arL_mk, arY_mZ, arY_mB, alen_mI, fld_sfl_ne, fld_sfl_same, Option.isSome_some, pok_i, b1z, b01, z10, b1o, Int32.zero_add, vu_vu, upd_eq, upd_ne, true_or, or_true, V.r1, V.r2, V.r3, V.r4, V.r16, V.r17, V.r18, V.r19, V.r20, V.r23, V.r24, V.r25, V.r26, V.r27, V.r28, V.r29, V.r30, V.c172, V.c173, V.c174, V.c186, V.c187, V.c188, V.n5, V.n13, V.n14, V.i0, V.i5, V.i6, V.i7, V.i8, V.i9, V.i10, V.i11, V.i12, V.i13, V.i14, V.i15, V.i21, V.i22, ey, h0]
    have := tail a4 a5
    simp only [h0, if_false] at this
    exact this
/-- whom one can have seen before day d -/
def rch (all : Nat → Int32) (P : Nat) : Nat → Nat → Prop
  | 0, set => set = 0
  | d + 1, set => rch all P d set ∨ ∃ s0 t, rch all P d s0 ∧ s0 < 512 ∧ 0 < t ∧ sub t (dif (nT all) s0) = true ∧ m_can all P t s0 d = true ∧ set = s0 ||| t
theorem land_step : ∀ (n s m t : Nat), s < 2 ^ n → s &&& m = s → t &&& m = t → t < s → t ≤ (s - 1) &&& m := by
  intro n
  induction n with
  | zero => intro s m t h1 _ _ h; have : s < 1 := h1; omega
  | succ n ih =>
    intro s m t hn hs ht h
    have d1 := Nat.and_div_two (a := s) (b := m)
    have d2 := Nat.and_div_two (a := t) (b := m)
    have d3 := Nat.and_div_two (a := s - 1) (b := m)
    have r1 := Nat.and_mod_two_eq_one (a := s) (b := m)
    have r2 := Nat.and_mod_two_eq_one (a := t) (b := m)
    have r3 := Nat.and_mod_two_eq_one (a := s - 1) (b := m)
    rw [hs] at d1 r1
    rw [ht] at d2 r2
    have hs2 : s / 2 < 2 ^ n := by rw [Nat.pow_succ] at hn; omega
    by_cases hb : s % 2 = 1
    · have e : (s - 1) / 2 = s / 2 := by omega
      rw [e, ← d1] at d3
      omega
    · have e : (s - 1) / 2 = s / 2 - 1 := by omega
      have hlt : t / 2 < s / 2 := by omega
      have := ih (s / 2) (m / 2) (t / 2) hs2 d1.symm d2.symm hlt
      rw [e] at d3
      rw [← d3] at this
      by_cases hm : m % 2 = 1
      · have : ((s - 1) &&& m) % 2 = 1 := r3.mpr ⟨by omega, hm⟩
        omega
      · have : t % 2 ≠ 1 := fun z => hm (r2.mp z).2
        omega
def dn (i : Nat) : Int32 := if i < 512 then nI (511 - i) else -1
theorem dn_s : ∀ i, i < 512 → dn i + Int32.ofInt (-1) = dn (i + 1) := by decide +kernel
theorem dn_neg : (dn 512 < 0) = True := by decide
/-- behind the sets from q on, of a day -/
def rcj (all : Nat → Int32) (P d q i : Nat) : Prop := rch all P d i ∨ ∃ s0 t, q ≤ s0 ∧ rch all P d s0 ∧ s0 < 512 ∧ 0 < t ∧ sub t (dif (nT all) s0) = true ∧ m_can all P t s0 d = true ∧ i = s0 ||| t
def c_is (c : Nat → Int32) (R : Nat → Prop) : Prop := ∀ i, i < 512 → (c i = 0 ∨ c i = 1) ∧ (c i = 1 ↔ R i)
theorem sub_le {s T : Nat} (h : sub s T = true) : s ≤ T := by
  unfold sub at h
  rw [beq_iff_eq] at h
  rw [← h]; exact Nat.and_le_right
theorem or_lt {a b : Nat} (ha : a < 512) (hb : b < 512) : a ||| b < 512 := Nat.or_lt_two_pow (n := 9) ha hb
theorem sp_laysSeen {X : Nat × (Nat → Int32)} {d N K : Nat} {f : Nat → e_C} {s : m_T} {S P : Nat} (V : MV f s) (W : WF s.1 S P) {a1 a2 a3 a4 : Value} : TT X (d + 2) 263 0 [.ref 171, a1, a2, a3, a4] [] f N K (fun f' n' k' v => n' = N ∧ k' = K ∧ v = none ∧ SN 182 f f' ∧ MV f' s ∧ ∃ c, arZ (f' 182) = some (512, c) ∧ c_is c (rch s.1 P 10)) := by
  obtain ⟨c0, hc0⟩ := V.e182
  simp (disch := first | omega | decide | assumption | exact Nat.le_of_ble_eq_true rfl) only [s263_0, h263_1, ow_some, true_and, and_true, and_self, if_true, if_false, not_true, not_false_eq_true, Bool.false_eq_true, eq_self, Option.toList, List.cons_append, List.nil_append, ix_in, ix_cl, lt_in, lt_cl, lt_add, ix_one, vu_eq, vu_ne, arI_mk, arL_mk, arY_mZ, arY_mB, alen_mI, fld_sfl_ne, fld_sfl_same, Option.isSome_some, pok_i, b1z, b01, z10, b1o, Int32.zero_add, vu_vu, upd_eq, upd_ne, true_or, or_true, V.r1, V.r2, V.r3, V.r4, V.r16, V.r17, V.r18, V.r19, V.r20, V.r23, V.r24, V.r25, V.r26, V.r27, V.r28, V.r29, V.r30, V.c172, V.c173, V.c174, V.c186, V.c187, V.c188, V.n5, V.n13, V.n14, V.i0, V.i5, V.i6, V.i7, V.i8, V.i9, V.i10, V.i11, V.i12, V.i13, V.i14, V.i15, V.i21, V.i22]
  refine lp (fun j g (c : Nat → Int32) => SN 182 f g ∧ MV g s ∧ arZ (g 182) = some (512, c) ∧ ∀ i, i < j → c i = if i = 0 then 1 else 0) (fun j _ => [.ref 171, .int (nI j), a2, a3, a4]) 512 ?_ ?_ 0 f c0 (by omega) ⟨SM.rf.n, V, hc0, fun i hi => by omega⟩
  · rintro j g c hj ⟨sn, V2, hc, cv⟩ hI
    have hq : (512 ≤ j) = False := eq_false (by omega)
    have hy := arY_Z hc
    have ej : (nI j = 0) = (j = 0) := tl_eq (c := 0) (by decide) (by omega)
    have hN : ∀ x : Int32, x = (if j = 0 then 1 else 0) → TT X (d + 2) 263 23 [.ref 171, .int (nI j), a2, a3, a4] [.int x, .int (nI j), .ref 182] g N K (fun f' n' k' v => n' = N ∧ k' = K ∧ v = none ∧ SN 182 f f' ∧ MV f' s ∧ ∃ c, arZ (f' 182) = some (512, c) ∧ c_is c (rch s.1 P 10)) := by
      intro x hx
      have hn : vp_nar .boolean x = x := by rw [hx]; exact nar_Z
      simp (disch := first | omega | decide | assumption | exact Nat.le_of_ble_eq_true rfl) only [y263_23, s263_24, h263_27, ow_some, true_and, and_true, and_self, if_true, if_false, not_true, not_false_eq_true, Bool.false_eq_true, eq_self, Option.toList, List.cons_append, List.nil_append, ix_in, ix_cl, lt_in, lt_cl, lt_add, ix_one, vu_eq, vu_ne, arI_mk, arL_mk, arY_mZ, arY_mB, alen_mI, fld_sfl_ne, fld_sfl_same, Option.isSome_some, pok_i, b1z, b01, z10, b1o, Int32.zero_add, vu_vu, upd_eq, upd_ne, true_or, or_true, V2.r1, V2.r2, V2.r3, V2.r4, V2.r16, V2.r17, V2.r18, V2.r19, V2.r20, V2.r23, V2.r24, V2.r25, V2.r26, V2.r27, V2.r28, V2.r29, V2.r30, V2.c172, V2.c173, V2.c174, V2.c186, V2.c187, V2.c188, V2.n5, V2.n13, V2.n14, V2.i0, V2.i5, V2.i6, V2.i7, V2.i8, V2.i9, V2.i10, V2.i11, V2.i12, V2.i13, V2.i14, V2.i15, V2.i21, V2.i22, hy, hn]
      refine hI _ (upd c j x) ⟨sn.tr SN.up, V2.up ⟨_, rfl⟩, by rw [vu_eq]; rfl, fun i hi => ?_⟩
      by_cases hij : i = j
      · subst hij; rw [upd_eq]; exact hx
      · rw [upd_ne hij]; exact cv i (by omega)
    by_cases h0 : j = 0
    · have h0' : (j = 0) = True := eq_true h0
      simp (disch := first | omega | decide | assumption | exact Nat.le_of_ble_eq_true rfl) only [s263_2, s263_3, s263_6, s263_9, s263_10, s263_13, s263_14, s263_15, s263_18, s263_19, ow_some, true_and, and_true, and_self, if_true, if_false, not_true, not_false_eq_true, Bool.false_eq_true, eq_self, Option.toList, List.cons_append, List.nil_append, ix_in, ix_cl, lt_in, lt_cl, lt_add, ix_one, vu_eq, vu_ne, arI_mk, arL_mk, arY_mZ, arY_mB, alen_mI, fld_sfl_ne, fld_sfl_same, Option.isSome_some, pok_i, b1z, b01, z10, b1o, Int32.zero_add, vu_vu, upd_eq, upd_ne, true_or, or_true, V2.r1, V2.r2, V2.r3, V2.r4, V2.r16, V2.r17, V2.r18, V2.r19, V2.r20, V2.r23, V2.r24, V2.r25, V2.r26, V2.r27, V2.r28, V2.r29, V2.r30, V2.c172, V2.c173, V2.c174, V2.c186, V2.c187, V2.c188, V2.n5, V2.n13, V2.n14, V2.i0, V2.i5, V2.i6, V2.i7, V2.i8, V2.i9, V2.i10, V2.i11, V2.i12, V2.i13, V2.i14, V2.i15, V2.i21, V2.i22, lt_le, hq, ej, h0']
      exact hN 1 (by rw [if_pos h0])
    · simp (disch := first | omega | decide | assumption | exact Nat.le_of_ble_eq_true rfl) only [s263_2, s263_3, s263_6, s263_9, s263_10, s263_13, s263_14, s263_15, s263_22, ow_some, true_and, and_true, and_self, if_true, if_false, not_true, not_false_eq_true, Bool.false_eq_true, eq_self, Option.toList, List.cons_append, List.nil_append, ix_in, ix_cl, lt_in, lt_cl, lt_add, ix_one, vu_eq, vu_ne, arI_mk, arL_mk, arY_mZ, arY_mB, alen_mI, fld_sfl_ne, fld_sfl_same, Option.isSome_some, pok_i, b1z, b01, z10, b1o, Int32.zero_add, vu_vu, upd_eq, upd_ne, true_or, or_true, V2.r1, V2.r2, V2.r3, V2.r4, V2.r16, V2.r17, V2.r18, V2.r19, V2.r20, V2.r23, V2.r24, V2.r25, V2.r26, V2.r27, V2.r28, V2.r29, V2.r30, V2.c172, V2.c173, V2.c174, V2.c186, V2.c187, V2.c188, V2.n5, V2.n13, V2.n14, V2.i0, V2.i5, V2.i6, V2.i7, V2.i8, V2.i9, V2.i10, V2.i11, V2.i12, V2.i13, V2.i14, V2.i15, V2.i21, V2.i22, lt_le, hq, ej, h0]
      exact hN 0 (by rw [if_neg h0])
  · rintro g c ⟨sn, V2, hc, cv⟩
    simp (disch := first | omega | decide | assumption | exact Nat.le_of_ble_eq_true rfl) only [s263_2, s263_3, s263_6, s263_30, h263_31, ow_some, true_and, and_true, and_self, if_true, if_false, not_true, not_false_eq_true, Bool.false_eq_true, eq_self, Option.toList, List.cons_append, List.nil_append, ix_in, ix_cl, lt_in, lt_cl, lt_add, ix_one, vu_eq, vu_ne, arI_mk, arL_mk, arY_mZ, arY_mB, alen_mI, fld_sfl_ne, fld_sfl_same, Option.isSome_some, pok_i, b1z, b01, z10, b1o, Int32.zero_add, vu_vu, upd_eq, upd_ne, true_or, or_true, V2.r1, V2.r2, V2.r3, V2.r4, V2.r16, V2.r17, V2.r18, V2.r19, V2.r20, V2.r23, V2.r24, V2.r25, V2.r26, V2.r27, V2.r28, V2.r29, V2.r30, V2.c172, V2.c173, V2.c174, V2.c186, V2.c187, V2.c188, V2.n5, V2.n13, V2.n14, V2.i0, V2.i5, V2.i6, V2.i7, V2.i8, V2.i9, V2.i10, V2.i11, V2.i12, V2.i13, V2.i14, V2.i15, V2.i21, V2.i22, lt_le, Nat.le_refl]
    refine lp (fun y g (c : (Nat → Int32) × Value × Value × Value) => SN 182 f g ∧ MV g s ∧ arZ (g 182) = some (512, c.1) ∧ c_is c.1 (rch s.1 P y)) (fun y c => [.ref 171, .int (nI y), c.2.1, c.2.2.1, c.2.2.2]) 10 ?_ ?_ 0 g (c, a2, a3, a4) (by omega) ⟨sn, V2, hc, ?_⟩
    · rintro y g ⟨c, u2, u3, u4⟩ hy ⟨sn, V3, hc, cv⟩ hY
      simp only at hc cv
      have hq : (9 < y) = False := eq_false (by omega)
      simp (disch := first | omega | decide | assumption | exact Nat.le_of_ble_eq_true rfl) only [s263_32, s263_33, s263_35, s263_38, h263_41, ow_some, true_and, and_true, and_self, if_true, if_false, not_true, not_false_eq_true, Bool.false_eq_true, eq_self, Option.toList, List.cons_append, List.nil_append, ix_in, ix_cl, lt_in, lt_cl, lt_add, ix_one, vu_eq, vu_ne, arI_mk, arL_mk, arY_mZ, arY_mB, alen_mI, fld_sfl_ne, fld_sfl_same, Option.isSome_some, pok_i, b1z, b01, z10, b1o, Int32.zero_add, vu_vu, upd_eq, upd_ne, true_or, or_true, V3.r1, V3.r2, V3.r3, V3.r4, V3.r16, V3.r17, V3.r18, V3.r19, V3.r20, V3.r23, V3.r24, V3.r25, V3.r26, V3.r27, V3.r28, V3.r29, V3.r30, V3.c172, V3.c173, V3.c174, V3.c186, V3.c187, V3.c188, V3.n5, V3.n13, V3.n14, V3.i0, V3.i5, V3.i6, V3.i7, V3.i8, V3.i9, V3.i10, V3.i11, V3.i12, V3.i13, V3.i14, V3.i15, V3.i21, V3.i22, lt_lt, hq]
      refine lp (fun i g (c : (Nat → Int32) × Value × Value) => SN 182 f g ∧ MV g s ∧ arZ (g 182) = some (512, c.1) ∧ c_is c.1 (rcj s.1 P y (512 - i))) (fun i c => [.ref 171, .int (nI y), .int (dn i), c.2.1, c.2.2]) 512 ?_ ?_ 0 g (c, u3, u4) (by omega) ⟨sn, V3, hc, ?_⟩
      · rintro i g ⟨c, u3, u4⟩ hi ⟨sn, V4, hc, cv⟩ hI
        simp only at hc cv
        have ed : dn i = nI (511 - i) := by unfold dn; rw [if_pos hi]
        have ed2 : nI (511 - i) + Int32.ofInt (-1) = dn (i + 1) := by rw [← ed]; exact dn_s i hi
        have ea : 512 - i = 511 - i + 1 := by omega
        have eb : 512 - (i + 1) = 511 - i := by omega
        rw [ea] at cv
        have hI' : ∀ g (c' : Nat → Int32) v3 v4, SN 182 f g → MV g s → arZ (g 182) = some (512, c') → c_is c' (rcj s.1 P y (511 - i)) → TH X (d + 2) 263 42 [.ref 171, .int (nI y), .int (dn (i + 1)), v3, v4] [] g N K (fun f' n' k' v => n' = N ∧ k' = K ∧ v = none ∧ SN 182 f f' ∧ MV f' s ∧ ∃ c, arZ (f' 182) = some (512, c) ∧ c_is c (rch s.1 P 10)) := fun g c' v3 v4 a b c e => hI g (c', v3, v4) ⟨a, b, c, by rw [eb]; exact e⟩
        clear hI
        rw [ed]
        have hset : 511 - i < 512 := by omega
        generalize 511 - i = set at *
        have hneg : (nI set < 0) = False := by rw [tl_lt (c := 0) (by decide) (by omega)]; exact eq_false (by omega)
        have hy2 := arY_Z hc
        have cj0 := (cv set hset).1
        have c1 : c set = 1 ↔ rch s.1 P y set := by
          rw [(cv set hset).2]; unfold rcj
          constructor
          · rintro (h | ⟨s0, t, h1, h2, h3, h4, h5, h6, h7⟩)
            · exact h
            · have := Nat.left_le_or (n := s0) (m := t)
              omega
          · intro h; exact Or.inl h
        have step : ∀ g (c' : Nat → Int32) v3 v4, SN 182 f g → MV g s → arZ (g 182) = some (512, c') → c_is c' (rcj s.1 P y set) → TT X (d + 2) 263 110 [.ref 171, .int (nI y), .int (nI set), v3, v4] [] g N K (fun f' n' k' v => n' = N ∧ k' = K ∧ v = none ∧ SN 182 f f' ∧ MV f' s ∧ ∃ c, arZ (f' 182) = some (512, c) ∧ c_is c (rch s.1 P 10)) := by
          intro g c' v3 v4 sn V5 hc cv'
          simp (disch := first | omega | decide | assumption | exact Nat.le_of_ble_eq_true rfl) only [s263_110, h263_113, ow_some, true_and, and_true, and_self, if_true, if_false, not_true, not_false_eq_true, Bool.false_eq_true, eq_self, Option.toList, List.cons_append, List.nil_append, ix_in, ix_cl, lt_in, lt_cl, lt_add, ix_one, vu_eq, vu_ne, arI_mk, arL_mk, arY_mZ, arY_mB, alen_mI, fld_sfl_ne, fld_sfl_same, Option.isSome_some, pok_i, b1z, b01, z10, b1o, Int32.zero_add, vu_vu, upd_eq, upd_ne, true_or, or_true, V5.r1, V5.r2, V5.r3, V5.r4, V5.r16, V5.r17, V5.r18, V5.r19, V5.r20, V5.r23, V5.r24, V5.r25, V5.r26, V5.r27, V5.r28, V5.r29, V5.r30, V5.c172, V5.c173, V5.c174, V5.c186, V5.c187, V5.c188, V5.n5, V5.n13, V5.n14, V5.i0, V5.i5, V5.i6, V5.i7, V5.i8, V5.i9, V5.i10, V5.i11, V5.i12, V5.i13, V5.i14, V5.i15, V5.i21, V5.i22, ed2]
          exact hI' g c' v3 v4 sn V5 hc cv'
        by_cases h0 : c set = 0
        · simp (disch := first | omega | decide | assumption | exact Nat.le_of_ble_eq_true rfl) only [s263_42, s263_43, s263_46, s263_47, s263_50, y263_51, s263_52, s263_55, ow_some, true_and, and_true, and_self, if_true, if_false, not_true, not_false_eq_true, Bool.false_eq_true, eq_self, Option.toList, List.cons_append, List.nil_append, ix_in, ix_cl, lt_in, lt_cl, lt_add, ix_one, vu_eq, vu_ne, arI_mk, arL_mk, arY_mZ, arY_mB, alen_mI, fld_sfl_ne, fld_sfl_same, Option.isSome_some, pok_i, b1z, b01, z10, b1o, Int32.zero_add, vu_vu, upd_eq, upd_ne, true_or, or_true, V4.r1, V4.r2, V4.r3, V4.r4, V4.r16, V4.r17, V4.r18, V4.r19, V4.r20, V4.r23, V4.r24, V4.r25, V4.r26, V4.r27, V4.r28, V4.r29, V4.r30, V4.c172, V4.c173, V4.c174, V4.c186, V4.c187, V4.c188, V4.n5, V4.n13, V4.n14, V4.i0, V4.i5, V4.i6, V4.i7, V4.i8, V4.i9, V4.i10, V4.i11, V4.i12, V4.i13, V4.i14, V4.i15, V4.i21, V4.i22, hneg, hy2, h0]
          refine step g c u3 u4 sn V4 hc (fun k hk => ⟨(cv k hk).1, ?_⟩)
          rw [(cv k hk).2]
          unfold rcj
          constructor
          · rintro (h | ⟨s0, t, h1, h2⟩)
            · exact Or.inl h
            · exact Or.inr ⟨s0, t, by omega, h2⟩
          · rintro (h | ⟨s0, t, h1, h2, h3⟩)
            · exact Or.inl h
            · by_cases hz : s0 = set
              · subst hz
                rw [c1.mpr h2] at h0; exact absurd h0 (by decide)
              · exact Or.inr ⟨s0, t, by omega, h2, h3⟩
        · have hrc : rch s.1 P y set := c1.mp (by rcases cj0 with z | z; exact absurd z h0; exact z)
          have hdn := dif_nI (s := set) W.T
          have hl9 := dif_lt (s := set) W.T
          simp (disch := first | omega | decide | assumption | exact Nat.le_of_ble_eq_true rfl) only [s263_42, s263_43, s263_46, s263_47, s263_50, y263_51, s263_52, s263_55, s263_58, s263_59, s263_62, s263_64, s263_65, s263_66, s263_67, s263_68, s263_69, s263_70, h263_71, ow_some, true_and, and_true, and_self, if_true, if_false, not_true, not_false_eq_true, Bool.false_eq_true, eq_self, Option.toList, List.cons_append, List.nil_append, ix_in, ix_cl, lt_in, lt_cl, lt_add, ix_one, vu_eq, vu_ne, arI_mk, arL_mk, arY_mZ, arY_mB, alen_mI, fld_sfl_ne, fld_sfl_same, Option.isSome_some, pok_i, b1z, b01, z10, b1o, Int32.zero_add, vu_vu, upd_eq, upd_ne, true_or, or_true, V4.r1, V4.r2, V4.r3, V4.r4, V4.r16, V4.r17, V4.r18, V4.r19, V4.r20, V4.r23, V4.r24, V4.r25, V4.r26, V4.r27, V4.r28, V4.r29, V4.r30, V4.c172, V4.c173, V4.c174, V4.c186, V4.c187, V4.c188, V4.n5, V4.n13, V4.n14, V4.i0, V4.i5, V4.i6, V4.i7, V4.i8, V4.i9, V4.i10, V4.i11, V4.i12, V4.i13, V4.i14, V4.i15, V4.i21, V4.i22, hneg, hy2, h0, W.2.1, hdn]
          generalize hlf : dif (nT s.1) set = left at *
          refine lw (fun m g (z : (Nat → Int32) × Nat) => z.2 = m ∧ SN 182 f g ∧ MV g s ∧ arZ (g 182) = some (512, z.1) ∧ sub z.2 left = true ∧ c_is z.1 (fun k => rcj s.1 P y (set + 1) k ∨ ∃ t, z.2 < t ∧ 0 < t ∧ sub t left = true ∧ m_can s.1 P t set y = true ∧ k = set ||| t)) (fun z => [.ref 171, .int (nI y), .int (nI set), .int (nI left), .int (nI z.2)]) ?_ left g (c, left) ⟨rfl, sn, V4, hc, ?_, ?_⟩
          · rintro m g ⟨c', t⟩ ⟨rfl, sn, V5, hc, hsub, cv'⟩ hJ
            simp only at hc hsub cv'
            have htl := sub_le hsub
            have e0 : (nI t ≤ 0) = (t ≤ 0) := le_lt (c := 0) (by decide) (by omega)
            by_cases ht : t = 0
            · have hz : (t ≤ 0) = True := eq_true (by omega)
              simp (disch := first | omega | decide | assumption | exact Nat.le_of_ble_eq_true rfl) only [s263_73, s263_75, ow_some, true_and, and_true, and_self, if_true, if_false, not_true, not_false_eq_true, Bool.false_eq_true, eq_self, Option.toList, List.cons_append, List.nil_append, ix_in, ix_cl, lt_in, lt_cl, lt_add, ix_one, vu_eq, vu_ne, arI_mk, arL_mk, arY_mZ, arY_mB, alen_mI, fld_sfl_ne, fld_sfl_same, Option.isSome_some, pok_i, b1z, b01, z10, b1o, Int32.zero_add, vu_vu, upd_eq, upd_ne, true_or, or_true, V5.r1, V5.r2, V5.r3, V5.r4, V5.r16, V5.r17, V5.r18, V5.r19, V5.r20, V5.r23, V5.r24, V5.r25, V5.r26, V5.r27, V5.r28, V5.r29, V5.r30, V5.c172, V5.c173, V5.c174, V5.c186, V5.c187, V5.c188, V5.n5, V5.n13, V5.n14, V5.i0, V5.i5, V5.i6, V5.i7, V5.i8, V5.i9, V5.i10, V5.i11, V5.i12, V5.i13, V5.i14, V5.i15, V5.i21, V5.i22, e0, hz]
              refine step g c' _ _ sn V5 hc (fun k hk => ⟨(cv' k hk).1, ?_⟩)
              rw [(cv' k hk).2]
              unfold rcj
              constructor
              · rintro ((h | ⟨s0, t, h1, h2⟩) | ⟨t1, h1, h2, h3⟩)
                · exact Or.inl h
                · exact Or.inr ⟨s0, t, by omega, h2⟩
                · exact Or.inr ⟨set, t1, Nat.le_refl _, hrc, hset, h2, by rw [hlf]; exact h3⟩
              · rintro (h | ⟨s0, t1, h1, h2, h3, h4, h5⟩)
                · exact Or.inl (Or.inl h)
                · by_cases hz : s0 = set
                  · subst hz
                    rw [hlf] at h5
                    exact Or.inr ⟨t1, by omega, h4, h5⟩
                  · exact Or.inl (Or.inr ⟨s0, t1, by omega, h2, h3, h4, h5⟩)
            · have hz : (t ≤ 0) = False := eq_false (by omega)
              have hm1 : nI t - 1 = nI (t - 1) := by rw [lit_nI 1]; exact pk_sub (by omega)
              have hnx : nI t - 1 &&& nI left = nI ((t - 1) &&& left) := by rw [hm1, and_nI]
              have hno : ((t - 1) &&& left) < t := Nat.lt_of_le_of_lt Nat.and_le_left (by omega)
              have hsn : sub ((t - 1) &&& left) left = true := by
                unfold sub; rw [beq_iff_eq, Nat.and_assoc, Nat.and_self]
              have hnext : ∀ t', sub t' left = true → ((t - 1) &&& left < t' ↔ (t < t' ∨ t' = t)) := by
                intro t' h'
                constructor
                · intro h
                  by_cases hlt : t' < t
                  · have := land_step 9 t left t' (by omega) (by unfold sub at hsub; rwa [beq_iff_eq] at hsub) (by unfold sub at h'; rwa [beq_iff_eq] at h') hlt
                    omega
                  · omega
                · intro h; omega
              simp (disch := first | omega | decide | assumption | exact Nat.le_of_ble_eq_true rfl) only [s263_73, s263_75, s263_78, s263_79, s263_81, s263_82, ow_some, true_and, and_true, and_self, if_true, if_false, not_true, not_false_eq_true, Bool.false_eq_true, eq_self, Option.toList, List.cons_append, List.nil_append, ix_in, ix_cl, lt_in, lt_cl, lt_add, ix_one, vu_eq, vu_ne, arI_mk, arL_mk, arY_mZ, arY_mB, alen_mI, fld_sfl_ne, fld_sfl_same, Option.isSome_some, pok_i, b1z, b01, z10, b1o, Int32.zero_add, vu_vu, upd_eq, upd_ne, true_or, or_true, V5.r1, V5.r2, V5.r3, V5.r4, V5.r16, V5.r17, V5.r18, V5.r19, V5.r20, V5.r23, V5.r24, V5.r25, V5.r26, V5.r27, V5.r28, V5.r29, V5.r30, V5.c172, V5.c173, V5.c174, V5.c186, V5.c187, V5.c188, V5.n5, V5.n13, V5.n14, V5.i0, V5.i5, V5.i6, V5.i7, V5.i8, V5.i9, V5.i10, V5.i11, V5.i12, V5.i13, V5.i14, V5.i15, V5.i21, V5.i22, e0, hz]
              rw [p263_83 (cno_MR V5.mr) (Nat.le_of_ble_eq_true rfl) (sp_canSee V5 W (show t < 512 by omega) hset (show y < 100 by omega))]
              by_cases h1 : m_can s.1 P t set y = true
              · have hy3 := arY_Z hc
                have horl := or_lt hset (show t < 512 by omega)
                simp (disch := first | omega | decide | assumption | exact Nat.le_of_ble_eq_true rfl) only [s263_86, s263_89, s263_90, s263_93, s263_94, s263_96, s263_97, y263_98, s263_99, s263_101, s263_102, s263_103, s263_104, s263_105, h263_107, ow_some, true_and, and_true, and_self, if_true, if_false, not_true, not_false_eq_true, Bool.false_eq_true, eq_self, Option.toList, List.cons_append, List.nil_append, ix_in, ix_cl, lt_in, lt_cl, lt_add, ix_one, vu_eq, vu_ne, arI_mk, arL_mk, arY_mZ, arY_mB, alen_mI, fld_sfl_ne, fld_sfl_same, Option.isSome_some, pok_i, b1z, b01, z10, b1o, Int32.zero_add, vu_vu, upd_eq, upd_ne, true_or, or_true, V5.r1, V5.r2, V5.r3, V5.r4, V5.r16, V5.r17, V5.r18, V5.r19, V5.r20, V5.r23, V5.r24, V5.r25, V5.r26, V5.r27, V5.r28, V5.r29, V5.r30, V5.c172, V5.c173, V5.c174, V5.c186, V5.c187, V5.c188, V5.n5, V5.n13, V5.n14, V5.i0, V5.i5, V5.i6, V5.i7, V5.i8, V5.i9, V5.i10, V5.i11, V5.i12, V5.i13, V5.i14, V5.i15, V5.i21, V5.i22, h1, bI, or_nI, hy3, nar_1, hnx]
                refine hJ _ _ (upd c' (set ||| t) 1, (t - 1) &&& left) hno ⟨rfl, sn.tr SN.up, V5.up ⟨_, rfl⟩, by rw [vu_eq]; rfl, hsn, fun k hk => ?_⟩
                by_cases hk2 : k = set ||| t
                · subst hk2
                  simp only [upd_eq]
                  refine ⟨Or.inr trivial, fun _ => Or.inr ⟨t, hno, by omega, hsub, h1, rfl⟩, fun _ => trivial⟩
                · simp only [upd_ne hk2]
                  refine ⟨(cv' k hk).1, ?_⟩
                  rw [(cv' k hk).2]
                  constructor
                  · rintro (h | ⟨t', h1, h2⟩)
                    · exact Or.inl h
                    · exact Or.inr ⟨t', by omega, h2⟩
                  · rintro (h | ⟨t', h1, h2, h3, h4, h5⟩)
                    · exact Or.inl h
                    · rcases (hnext t' h3).mp h1 with h6 | h6
                      · exact Or.inr ⟨t', h6, h2, h3, h4, h5⟩
                      · subst h6; exact absurd h5 hk2
              · rw [Bool.not_eq_true] at h1
                simp (disch := first | omega | decide | assumption | exact Nat.le_of_ble_eq_true rfl) only [s263_86, s263_99, s263_101, s263_102, s263_103, s263_104, s263_105, h263_107, ow_some, true_and, and_true, and_self, if_true, if_false, not_true, not_false_eq_true, Bool.false_eq_true, eq_self, Option.toList, List.cons_append, List.nil_append, ix_in, ix_cl, lt_in, lt_cl, lt_add, ix_one, vu_eq, vu_ne, arI_mk, arL_mk, arY_mZ, arY_mB, alen_mI, fld_sfl_ne, fld_sfl_same, Option.isSome_some, pok_i, b1z, b01, z10, b1o, Int32.zero_add, vu_vu, upd_eq, upd_ne, true_or, or_true, V5.r1, V5.r2, V5.r3, V5.r4, V5.r16, V5.r17, V5.r18, V5.r19, V5.r20, V5.r23, V5.r24, V5.r25, V5.r26, V5.r27, V5.r28, V5.r29, V5.r30, V5.c172, V5.c173, V5.c174, V5.c186, V5.c187, V5.c188, V5.n5, V5.n13, V5.n14, V5.i0, V5.i5, V5.i6, V5.i7, V5.i8, V5.i9, V5.i10, V5.i11, V5.i12, V5.i13, V5.i14, V5.i15, V5.i21, V5.i22, h1, bI, hnx]
                refine hJ _ _ (c', (t - 1) &&& left) hno ⟨rfl, sn, V5, hc, hsn, fun k hk => ⟨(cv' k hk).1, ?_⟩⟩
                rw [(cv' k hk).2]
                constructor
                · rintro (h | ⟨t', h1, h2⟩)
                  · exact Or.inl h
                  · exact Or.inr ⟨t', by show (t - 1) &&& left < t'; omega, h2⟩
                · rintro (h | ⟨t', h6, h2, h3, h4, h5⟩)
                  · exact Or.inl h
                  · rcases (hnext t' h3).mp h6 with h7 | h7
                    · exact Or.inr ⟨t', h7, h2, h3, h4, h5⟩
                    · subst h7; rw [h1] at h4; exact absurd h4 (by decide)
          · unfold sub; simp
          · intro k hk
            refine ⟨(cv k hk).1, ?_⟩
            rw [(cv k hk).2]
            constructor
            · intro h; exact Or.inl h
            · rintro (h | ⟨t', h1, h2, h3, h4⟩)
              · exact h
              · have := sub_le h3; simp only at h1; omega
      · rintro g ⟨c, u3, u4⟩ ⟨sn, V4, hc, cv⟩
        simp (disch := first | omega | decide | assumption | exact Nat.le_of_ble_eq_true rfl) only [s263_42, s263_43, s263_116, h263_119, ow_some, true_and, and_true, and_self, if_true, if_false, not_true, not_false_eq_true, Bool.false_eq_true, eq_self, Option.toList, List.cons_append, List.nil_append, ix_in, ix_cl, lt_in, lt_cl, lt_add, ix_one, vu_eq, vu_ne, arI_mk, arL_mk, arY_mZ, arY_mB, alen_mI, fld_sfl_ne, fld_sfl_same, Option.isSome_some, pok_i, b1z, b01, z10, b1o, Int32.zero_add, vu_vu, upd_eq, upd_ne, true_or, or_true, V4.r1, V4.r2, V4.r3, V4.r4, V4.r16, V4.r17, V4.r18, V4.r19, V4.r20, V4.r23, V4.r24, V4.r25, V4.r26, V4.r27, V4.r28, V4.r29, V4.r30, V4.c172, V4.c173, V4.c174, V4.c186, V4.c187, V4.c188, V4.n5, V4.n13, V4.n14, V4.i0, V4.i5, V4.i6, V4.i7, V4.i8, V4.i9, V4.i10, V4.i11, V4.i12, V4.i13, V4.i14, V4.i15, V4.i21, V4.i22, dn_neg]
        refine hY g (c, _, u3, u4) ⟨sn, V4, hc, fun k hk => ⟨(cv k hk).1, ?_⟩⟩
        rw [(cv k hk).2]
        unfold rcj
        show _ ↔ (_ ∨ _)
        constructor
        · rintro (h | ⟨s0, t, h1, h2⟩)
          · exact Or.inl h
          · exact Or.inr ⟨s0, t, h2⟩
        · rintro (h | ⟨s0, t, h2⟩)
          · exact Or.inl h
          · exact Or.inr ⟨s0, t, by omega, h2⟩
      · intro k hk
        refine ⟨(cv k hk).1, ?_⟩
        rw [(cv k hk).2]
        unfold rcj
        constructor
        · intro h; exact Or.inl h
        · rintro (h | ⟨s0, t, h1, h2, h3, h4⟩)
          · exact h
          · omega
    · rintro g ⟨c, u2, u3, u4⟩ ⟨sn, V3, hc, cv⟩
      simp (disch := first | omega | decide | assumption | exact Nat.le_of_ble_eq_true rfl) only [s263_32, s263_33, s263_35, s263_122, ow_some, true_and, and_true, and_self, if_true, if_false, not_true, not_false_eq_true, Bool.false_eq_true, eq_self, Option.toList, List.cons_append, List.nil_append, ix_in, ix_cl, lt_in, lt_cl, lt_add, ix_one, vu_eq, vu_ne, arI_mk, arL_mk, arY_mZ, arY_mB, alen_mI, fld_sfl_ne, fld_sfl_same, Option.isSome_some, pok_i, b1z, b01, z10, b1o, Int32.zero_add, vu_vu, upd_eq, upd_ne, true_or, or_true, V3.r1, V3.r2, V3.r3, V3.r4, V3.r16, V3.r17, V3.r18, V3.r19, V3.r20, V3.r23, V3.r24, V3.r25, V3.r26, V3.r27, V3.r28, V3.r29, V3.r30, V3.c172, V3.c173, V3.c174, V3.c186, V3.c187, V3.c188, V3.n5, V3.n13, V3.n14, V3.i0, V3.i5, V3.i6, V3.i7, V3.i8, V3.i9, V3.i10, V3.i11, V3.i12, V3.i13, V3.i14, V3.i15, V3.i21, V3.i22, lt_lt]
      exact ⟨sn, V3, c, hc, cv⟩
    · intro k hk
      show (c k = 0 ∨ c k = 1) ∧ (c k = 1 ↔ rch s.1 P 0 k)
      rw [cv k hk]
      by_cases h : k = 0
      · rw [if_pos h]; exact ⟨Or.inr rfl, by simp [rch, h]⟩
      · rw [if_neg h]; exact ⟨Or.inl rfl, by simp [rch, h]⟩
def o_served (all : Nat → Int32) (S P : Nat) (w : Int32) (can : Nat → Bool) : Int32 := if 0 ≤ w.toInt ∧ w.toInt ≤ 1 then tset (m_gone all S P can) w else -2
theorem sp_served {X : Nat × (Nat → Int32)} {d N K : Nat} {f : Nat → e_C} {s : m_T} {S P : Nat} (V : MV f s) (W : WF s.1 S P) {w : Int32} (can : Nat → Bool) (hcan : ∀ i, i < 512 → (can i = true ↔ rch s.1 P 10 i)) : TT X (d + 8) 262 0 [.ref 171, .int w] [] f N K (MZ N K f (s.1, o_served s.1 S P w can) s.2) := by
  simp only [s262_0, s262_1, s262_2, V.i0, pok_i, true_and]
  have sm0 : SM f (va_up f 171 (sfl (f 171) 0 (.int 0))) := SM.up (by omega) (by omega)
  have V0 := V.num (j := 0) (x := 0) (by decide)
  generalize va_up f 171 (sfl (f 171) 0 (.int 0)) = f0 at sm0 V0 ⊢
  simp (disch := first | omega | decide | assumption | exact Nat.le_of_ble_eq_true rfl) only [s262_5, ow_some, true_and, and_true, and_self, if_true, if_false, not_true, not_false_eq_true, Bool.false_eq_true, eq_self, Option.toList, List.cons_append, List.nil_append, ix_in, ix_cl, lt_in, lt_cl, lt_add, ix_one, vu_eq, vu_ne, arI_mk, arL_mk, arY_mZ, arY_mB, alen_mI, fld_sfl_ne, fld_sfl_same, Option.isSome_some, pok_i, b1z, b01, z10, b1o, Int32.zero_add, vu_vu, upd_eq, upd_ne, true_or, or_true, V0.r1, V0.r2, V0.r3, V0.r4, V0.r16, V0.r17, V0.r18, V0.r19, V0.r20, V0.r23, V0.r24, V0.r25, V0.r26, V0.r27, V0.r28, V0.r29, V0.r30, V0.c172, V0.c173, V0.c174, V0.c186, V0.c187, V0.c188, V0.n5, V0.n13, V0.n14, V0.i0, V0.i5, V0.i6, V0.i7, V0.i8, V0.i9, V0.i10, V0.i11, V0.i12, V0.i13, V0.i14, V0.i15, V0.i21, V0.i22]
  rw [p262_6 (Nat.le_of_ble_eq_true rfl) sp_isWhat]
  simp only [wh1]
  unfold o_served
  by_cases h1 : 0 ≤ w.toInt ∧ w.toInt ≤ 1
  · rw [if_pos h1]
    simp (disch := first | omega | decide | assumption | exact Nat.le_of_ble_eq_true rfl) only [s262_9, s262_12, s262_14, s262_15, ow_some, true_and, and_true, and_self, if_true, if_false, not_true, not_false_eq_true, Bool.false_eq_true, eq_self, Option.toList, List.cons_append, List.nil_append, ix_in, ix_cl, lt_in, lt_cl, lt_add, ix_one, vu_eq, vu_ne, arI_mk, arL_mk, arY_mZ, arY_mB, alen_mI, fld_sfl_ne, fld_sfl_same, Option.isSome_some, pok_i, b1z, b01, z10, b1o, Int32.zero_add, vu_vu, upd_eq, upd_ne, true_or, or_true, V0.r1, V0.r2, V0.r3, V0.r4, V0.r16, V0.r17, V0.r18, V0.r19, V0.r20, V0.r23, V0.r24, V0.r25, V0.r26, V0.r27, V0.r28, V0.r29, V0.r30, V0.c172, V0.c173, V0.c174, V0.c186, V0.c187, V0.c188, V0.n5, V0.n13, V0.n14, V0.i0, V0.i5, V0.i6, V0.i7, V0.i8, V0.i9, V0.i10, V0.i11, V0.i12, V0.i13, V0.i14, V0.i15, V0.i21, V0.i22, h1]
    refine k262_16 (cno_MR V0.mr) (Nat.le_of_ble_eq_true rfl) (sp_laysHold V0 W) ?_
    rintro f1 n1 k1 v1 ⟨rfl, rfl, rfl, sn1, V1, h, hh, hv⟩
    simp (disch := first | omega | decide | assumption | exact Nat.le_of_ble_eq_true rfl) only [s262_19, ow_some, true_and, and_true, and_self, if_true, if_false, not_true, not_false_eq_true, Bool.false_eq_true, eq_self, Option.toList, List.cons_append, List.nil_append, ix_in, ix_cl, lt_in, lt_cl, lt_add, ix_one, vu_eq, vu_ne, arI_mk, arL_mk, arY_mZ, arY_mB, alen_mI, fld_sfl_ne, fld_sfl_same, Option.isSome_some, pok_i, b1z, b01, z10, b1o, Int32.zero_add, vu_vu, upd_eq, upd_ne, true_or, or_true, V1.r1, V1.r2, V1.r3, V1.r4, V1.r16, V1.r17, V1.r18, V1.r19, V1.r20, V1.r23, V1.r24, V1.r25, V1.r26, V1.r27, V1.r28, V1.r29, V1.r30, V1.c172, V1.c173, V1.c174, V1.c186, V1.c187, V1.c188, V1.n5, V1.n13, V1.n14, V1.i0, V1.i5, V1.i6, V1.i7, V1.i8, V1.i9, V1.i10, V1.i11, V1.i12, V1.i13, V1.i14, V1.i15, V1.i21, V1.i22]
    refine k262_20 (cno_MR V1.mr) (Nat.le_of_ble_eq_true rfl) (sp_laysSeen V1 W) ?_
    rintro f2 n2 k2 v2 ⟨rfl, rfl, rfl, sn2, V2, c, hc, cv⟩
    simp (disch := first | omega | decide | assumption | exact Nat.le_of_ble_eq_true rfl) only [s262_23, s262_24, s262_25, ow_some, true_and, and_true, and_self, if_true, if_false, not_true, not_false_eq_true, Bool.false_eq_true, eq_self, Option.toList, List.cons_append, List.nil_append, ix_in, ix_cl, lt_in, lt_cl, lt_add, ix_one, vu_eq, vu_ne, arI_mk, arL_mk, arY_mZ, arY_mB, alen_mI, fld_sfl_ne, fld_sfl_same, Option.isSome_some, pok_i, b1z, b01, z10, b1o, Int32.zero_add, vu_vu, upd_eq, upd_ne, true_or, or_true, V2.r1, V2.r2, V2.r3, V2.r4, V2.r16, V2.r17, V2.r18, V2.r19, V2.r20, V2.r23, V2.r24, V2.r25, V2.r26, V2.r27, V2.r28, V2.r29, V2.r30, V2.c172, V2.c173, V2.c174, V2.c186, V2.c187, V2.c188, V2.n5, V2.n13, V2.n14, V2.i0, V2.i5, V2.i6, V2.i7, V2.i8, V2.i9, V2.i10, V2.i11, V2.i12, V2.i13, V2.i14, V2.i15, V2.i21, V2.i22]
    have cv2 : ∀ i, i < 512 → c i = bI (can i) := by
      intro i hi
      have h1 := hcan i hi
      have h2 := cv i hi
      by_cases h3 : can i = true
      · rw [h3]; exact h2.2.mpr (h1.mp h3)
      · rw [Bool.not_eq_true] at h3
        rw [h3]
        rcases h2.1 with z | z
        · exact z
        · exact absurd (h1.mpr (h2.2.mp z)) (by rw [h3]; decide)
    rw [p262_28 (cno_MR V2.mr) (Nat.le_of_ble_eq_true rfl) (sp_mostGone V2 W (by rw [sn2 181 (by omega) (by omega)]; exact hh) hv hc cv2)]
    simp (disch := first | omega | decide | assumption | exact Nat.le_of_ble_eq_true rfl) only [s262_31, ow_some, true_and, and_true, and_self, if_true, if_false, not_true, not_false_eq_true, Bool.false_eq_true, eq_self, Option.toList, List.cons_append, List.nil_append, ix_in, ix_cl, lt_in, lt_cl, lt_add, ix_one, vu_eq, vu_ne, arI_mk, arL_mk, arY_mZ, arY_mB, alen_mI, fld_sfl_ne, fld_sfl_same, Option.isSome_some, pok_i, b1z, b01, z10, b1o, Int32.zero_add, vu_vu, upd_eq, upd_ne, true_or, or_true, V2.r1, V2.r2, V2.r3, V2.r4, V2.r16, V2.r17, V2.r18, V2.r19, V2.r20, V2.r23, V2.r24, V2.r25, V2.r26, V2.r27, V2.r28, V2.r29, V2.r30, V2.c172, V2.c173, V2.c174, V2.c186, V2.c187, V2.c188, V2.n5, V2.n13, V2.n14, V2.i0, V2.i5, V2.i6, V2.i7, V2.i8, V2.i9, V2.i10, V2.i11, V2.i12, V2.i13, V2.i14, V2.i15, V2.i21, V2.i22]
    rw [p262_32 (Nat.le_of_ble_eq_true rfl) (sp_tellsSet (gone_lt W.1.2.2.2.2.1))]
    simp (disch := first | omega | decide | assumption | exact Nat.le_of_ble_eq_true rfl) only [s262_35, ow_some, true_and, and_true, and_self, if_true, if_false, not_true, not_false_eq_true, Bool.false_eq_true, eq_self, Option.toList, List.cons_append, List.nil_append, ix_in, ix_cl, lt_in, lt_cl, lt_add, ix_one, vu_eq, vu_ne, arI_mk, arL_mk, arY_mZ, arY_mB, alen_mI, fld_sfl_ne, fld_sfl_same, Option.isSome_some, pok_i, b1z, b01, z10, b1o, Int32.zero_add, vu_vu, upd_eq, upd_ne, true_or, or_true, V2.r1, V2.r2, V2.r3, V2.r4, V2.r16, V2.r17, V2.r18, V2.r19, V2.r20, V2.r23, V2.r24, V2.r25, V2.r26, V2.r27, V2.r28, V2.r29, V2.r30, V2.c172, V2.c173, V2.c174, V2.c186, V2.c187, V2.c188, V2.n5, V2.n13, V2.n14, V2.i0, V2.i5, V2.i6, V2.i7, V2.i8, V2.i9, V2.i10, V2.i11, V2.i12, V2.i13, V2.i14, V2.i15, V2.i21, V2.i22]
    exact ⟨rfl, rfl, (sm0.w.tr (sn1.w (by omega) (by omega))).tr (sn2.w (by omega) (by omega)), V2, rfl⟩
  · rw [if_neg h1]
    simp (disch := first | omega | decide | assumption | exact Nat.le_of_ble_eq_true rfl) only [s262_9, s262_12, s262_14, ow_some, true_and, and_true, and_self, if_true, if_false, not_true, not_false_eq_true, Bool.false_eq_true, eq_self, Option.toList, List.cons_append, List.nil_append, ix_in, ix_cl, lt_in, lt_cl, lt_add, ix_one, vu_eq, vu_ne, arI_mk, arL_mk, arY_mZ, arY_mB, alen_mI, fld_sfl_ne, fld_sfl_same, Option.isSome_some, pok_i, b1z, b01, z10, b1o, Int32.zero_add, vu_vu, upd_eq, upd_ne, true_or, or_true, V0.r1, V0.r2, V0.r3, V0.r4, V0.r16, V0.r17, V0.r18, V0.r19, V0.r20, V0.r23, V0.r24, V0.r25, V0.r26, V0.r27, V0.r28, V0.r29, V0.r30, V0.c172, V0.c173, V0.c174, V0.c186, V0.c187, V0.c188, V0.n5, V0.n13, V0.n14, V0.i0, V0.i5, V0.i6, V0.i7, V0.i8, V0.i9, V0.i10, V0.i11, V0.i12, V0.i13, V0.i14, V0.i15, V0.i21, V0.i22, h1]
    exact ⟨rfl, rfl, sm0.w, V0, rfl⟩

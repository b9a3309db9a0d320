/-! the reference reads a person's line -/
def fl' (w : Int32) (c : Cu) : Lr := .inr (ft w c.2.2.1, c.1)
def l_person (tx : Nat → Int32) (sz S R k : Nat) (c : Cu) (fr ag : Nat → Int32) : Option Lr := if R = 9 then some (fl' 4 c) else if (nx tx sz c).2.2.1 = 4 then (if tko (nx tx sz (nx tx sz c)) 0 ((S : Int) - 1) = true then (if (nx tx sz (nx tx sz (nx tx sz c))).2.2.1 = 5 then (if tko (nx tx sz (nx tx sz (nx tx sz (nx tx sz c)))) 0 99 = true then (match l_flags tx sz R k (nx tx sz (nx tx sz (nx tx sz (nx tx sz (nx tx sz c))))) (upd (upd fr (57 + R) (nx tx sz (nx tx sz c)).2.2.2) (66 + R) (nx tx sz (nx tx sz (nx tx sz (nx tx sz c)))).2.2.2) (upd ag R 0) with
    | none => none
    | some (.inr e) => some (.inr e)
    | some (.inl q) => some (.inl (q.1, upd q.2.1 52 (nI (R + 1)), q.2.2))) else some (.inr (tkw (nx tx sz (nx tx sz (nx tx sz (nx tx sz c)))), (nx tx sz (nx tx sz (nx tx sz (nx tx sz c)))).1))) else some (fl' 2 (nx tx sz (nx tx sz (nx tx sz c))))) else some (.inr (tkw (nx tx sz (nx tx sz c)), (nx tx sz (nx tx sz c)).1))) else some (fl' 2 (nx tx sz c))
theorem flag_52 {tx : Nat → Int32} {sz p : Nat} {c c' : Cu} {fr ag fr' ag' : Nat → Int32} (hp : p < 9) (h : l_flag tx sz p c fr ag = some (.inl (c', fr', ag'))) : fr' 52 = fr 52 := by
  unfold l_flag at h
  by_cases h6 : c.2.2.1 = 6
  · rw [if_pos h6] at h
    have h := Option.some.inj h
    split at h
    · cases h; rfl
    · cases h
  · rw [if_neg h6] at h
    by_cases h7 : c.2.2.1 = 7
    · rw [if_pos h7] at h
      have h := Option.some.inj h
      split at h
      · cases h; exact upd_ne (by omega)
      · cases h
    · rw [if_neg h7] at h
      by_cases h8 : c.2.2.1 = 8
      · rw [if_pos h8] at h
        have h := Option.some.inj h
        split at h
        · cases h; exact upd_ne (by omega)
        · cases h
      · rw [if_neg h8] at h; cases h
theorem flags_52 {tx : Nat → Int32} {sz p : Nat} (hp : p < 9) : ∀ (k : Nat) (c c' : Cu) (fr ag fr' ag' : Nat → Int32), l_flags tx sz p k c fr ag = some (.inl (c', fr', ag')) → fr' 52 = fr 52 := by
  intro k
  induction k with
  | zero => intro c c' fr ag fr' ag' h; cases h
  | succ k ih =>
    intro c c' fr ag fr' ag' h
    rw [l_flags] at h
    cases hf : l_flag tx sz p c fr ag with
    | none => rw [hf] at h; cases h; rfl
    | some q =>
      rw [hf] at h
      rcases q with ⟨c1, fr1, ag1⟩ | e
      · simp only at h
        rw [ih _ _ _ _ _ _ h, flag_52 hp hf]
      · cases h
theorem PC.person {X : Nat × (Nat → Int32)} {d N K : Nat} {f : Nat → e_C} {s : m_T} {fr ag : Nat → Int32} {sz S R k : Nat} {c : Cu} {wa rd : Int32} {a1 : Value} {r : Lr} (P : PC f s fr ag sz c 0 wa rd) (hS : fr 1 = nI S) (h1 : 1 ≤ S) (h8 : S ≤ 8) (hR : fr 52 = nI R) (h9 : R ≤ 9) (hr : l_person s.2.2.1 sz S R k c fr ag = some r) : TT X (d + 9) 187 0 [.ref 171, a1] [] f N K (PL f s sz N K r) := by
  have V := P.V
  have Q := P.1
  obtain ⟨s2, s1⟩ := s_2 S (by omega) h1
  unfold l_person at hr
  by_cases hR9 : R = 9
  · rw [if_pos hR9] at hr
    have hr := Option.some.inj hr
    have e9 : (nI R = 9) = True := eq_true (by rw [hR9]; rfl)
    simp (disch := first | omega | decide | assumption | exact Nat.le_of_ble_eq_true rfl) only [s187_0, s187_1, s187_4, s187_6, s187_7, s187_8, s187_9, s187_11, s187_14, s187_15, ow_some, true_and, and_true, and_self, if_true, if_false, not_true, not_false_eq_true, Bool.false_eq_true, eq_self, Option.toList, List.cons_append, List.nil_append, ix_in, ix_cl, lt_in, lt_cl, lt_add, ix_one, vu_eq, vu_ne, arI_mk, arL_mk, arY_mZ, arY_mB, alen_mI, fld_sfl_ne, fld_sfl_same, Option.isSome_some, pok_i, b1z, b01, z10, b1o, Int32.zero_add, vu_vu, upd_eq, upd_ne, true_or, or_true, V.r1, V.r2, V.r3, V.r4, V.r16, V.r17, V.r18, V.r19, V.r20, V.r23, V.r24, V.r25, V.r26, V.r27, V.r28, V.r29, V.r30, V.c172, V.c173, V.c174, V.c186, V.c187, V.c188, V.n5, V.n13, V.n14, V.i0, V.i5, V.i6, V.i7, V.i8, V.i9, V.i10, V.i11, V.i12, V.i13, V.i14, V.i15, V.i21, V.i22, Q.f6, Q.f7, Q.f8, Q.f9, Q.f10, Q.f11, Q.f12, Q.f15, Q.c175, Q.c176, hR, e9]
    refine k187_16 (cno_MR V.mr) (Nat.le_of_ble_eq_true rfl) (P.fail (w := 4)) ?_
    rintro f1 n1 k1 v1 ⟨rfl, rfl, rfl, sm1, P1⟩
    have V1 := P1.V
    have Q1 := P1.1
    have hw : ¬ ft 4 c.2.2.1 = 0 := ft_ne (by decide)
    simp (disch := first | omega | decide | assumption | exact Nat.le_of_ble_eq_true rfl) only [s187_19, s187_20, s187_23, s187_26, ow_some, true_and, and_true, and_self, if_true, if_false, not_true, not_false_eq_true, Bool.false_eq_true, eq_self, Option.toList, List.cons_append, List.nil_append, ix_in, ix_cl, lt_in, lt_cl, lt_add, ix_one, vu_eq, vu_ne, arI_mk, arL_mk, arY_mZ, arY_mB, alen_mI, fld_sfl_ne, fld_sfl_same, Option.isSome_some, pok_i, b1z, b01, z10, b1o, Int32.zero_add, vu_vu, upd_eq, upd_ne, true_or, or_true, V1.r1, V1.r2, V1.r3, V1.r4, V1.r16, V1.r17, V1.r18, V1.r19, V1.r20, V1.r23, V1.r24, V1.r25, V1.r26, V1.r27, V1.r28, V1.r29, V1.r30, V1.c172, V1.c173, V1.c174, V1.c186, V1.c187, V1.c188, V1.n5, V1.n13, V1.n14, V1.i0, V1.i5, V1.i6, V1.i7, V1.i8, V1.i9, V1.i10, V1.i11, V1.i12, V1.i13, V1.i14, V1.i15, V1.i21, V1.i22, Q1.f6, Q1.f7, Q1.f8, Q1.f9, Q1.f10, Q1.f11, Q1.f12, Q1.f15, Q1.c175, Q1.c176, hw]
    rw [← hr]
    exact PL.er sm1 hw P1
  · rw [if_neg hR9] at hr
    have e9 : (nI R = 9) = False := by rw [tl_eq (c := 9) (by decide) (by omega)]; exact eq_false hR9
    simp (disch := first | omega | decide | assumption | exact Nat.le_of_ble_eq_true rfl) only [s187_0, s187_1, s187_4, s187_6, s187_7, s187_8, s187_9, s187_11, s187_19, s187_20, s187_23, s187_26, s187_27, ow_some, true_and, and_true, and_self, if_true, if_false, not_true, not_false_eq_true, Bool.false_eq_true, eq_self, Option.toList, List.cons_append, List.nil_append, ix_in, ix_cl, lt_in, lt_cl, lt_add, ix_one, vu_eq, vu_ne, arI_mk, arL_mk, arY_mZ, arY_mB, alen_mI, fld_sfl_ne, fld_sfl_same, Option.isSome_some, pok_i, b1z, b01, z10, b1o, Int32.zero_add, vu_vu, upd_eq, upd_ne, true_or, or_true, V.r1, V.r2, V.r3, V.r4, V.r16, V.r17, V.r18, V.r19, V.r20, V.r23, V.r24, V.r25, V.r26, V.r27, V.r28, V.r29, V.r30, V.c172, V.c173, V.c174, V.c186, V.c187, V.c188, V.n5, V.n13, V.n14, V.i0, V.i5, V.i6, V.i7, V.i8, V.i9, V.i10, V.i11, V.i12, V.i13, V.i14, V.i15, V.i21, V.i22, Q.f6, Q.f7, Q.f8, Q.f9, Q.f10, Q.f11, Q.f12, Q.f15, Q.c175, Q.c176, hR, e9]
    refine k187_28 (cno_MR V.mr) (Nat.le_of_ble_eq_true rfl) P.next ?_
    rintro f1 n1 k1 v1 ⟨rfl, rfl, rfl, sm1, P1⟩
    have V1 := P1.V
    generalize nx s.2.2.1 sz c = c1 at P1 hr
    -- in a wrong state
    have e79 : ∀ (w : Int32) (p : Nat) fr' (c' : Cu) f' rd', w ≠ 0 → SM f f' → PC f' s fr' ag sz c' w (nI p) rd' → TT X (d + 9) 187 79 [.ref 171, .int (nI R)] [] f' n1 k1 (PL f s sz n1 k1 (.inr (w, p))) := by
      intro w p fr' c' f' rd' hw sm P2
      have V2 := P2.V
      have Q2 := P2.1
      simp (disch := first | omega | decide | assumption | exact Nat.le_of_ble_eq_true rfl) only [s187_79, s187_80, s187_83, s187_85, s187_86, s187_87, s187_88, s187_89, ow_some, true_and, and_true, and_self, if_true, if_false, not_true, not_false_eq_true, Bool.false_eq_true, eq_self, Option.toList, List.cons_append, List.nil_append, ix_in, ix_cl, lt_in, lt_cl, lt_add, ix_one, vu_eq, vu_ne, arI_mk, arL_mk, arY_mZ, arY_mB, alen_mI, fld_sfl_ne, fld_sfl_same, Option.isSome_some, pok_i, b1z, b01, z10, b1o, Int32.zero_add, vu_vu, upd_eq, upd_ne, true_or, or_true, V2.r1, V2.r2, V2.r3, V2.r4, V2.r16, V2.r17, V2.r18, V2.r19, V2.r20, V2.r23, V2.r24, V2.r25, V2.r26, V2.r27, V2.r28, V2.r29, V2.r30, V2.c172, V2.c173, V2.c174, V2.c186, V2.c187, V2.c188, V2.n5, V2.n13, V2.n14, V2.i0, V2.i5, V2.i6, V2.i7, V2.i8, V2.i9, V2.i10, V2.i11, V2.i12, V2.i13, V2.i14, V2.i15, V2.i21, V2.i22, Q2.f6, Q2.f7, Q2.f8, Q2.f9, Q2.f10, Q2.f11, Q2.f12, Q2.f15, Q2.c175, Q2.c176]
      rw [p187_91 (cno_MR V2.mr) (Nat.le_of_ble_eq_true rfl) (P2.takeE hw)]
      simp (disch := first | omega | decide | assumption | exact Nat.le_of_ble_eq_true rfl) only [s187_94, ow_some, true_and, and_true, and_self, if_true, if_false, not_true, not_false_eq_true, Bool.false_eq_true, eq_self, Option.toList, List.cons_append, List.nil_append, ix_in, ix_cl, lt_in, lt_cl, lt_add, ix_one, vu_eq, vu_ne, arI_mk, arL_mk, arY_mZ, arY_mB, alen_mI, fld_sfl_ne, fld_sfl_same, Option.isSome_some, pok_i, b1z, b01, z10, b1o, Int32.zero_add, vu_vu, upd_eq, upd_ne, true_or, or_true, V2.r1, V2.r2, V2.r3, V2.r4, V2.r16, V2.r17, V2.r18, V2.r19, V2.r20, V2.r23, V2.r24, V2.r25, V2.r26, V2.r27, V2.r28, V2.r29, V2.r30, V2.c172, V2.c173, V2.c174, V2.c186, V2.c187, V2.c188, V2.n5, V2.n13, V2.n14, V2.i0, V2.i5, V2.i6, V2.i7, V2.i8, V2.i9, V2.i10, V2.i11, V2.i12, V2.i13, V2.i14, V2.i15, V2.i21, V2.i22, Q2.f6, Q2.f7, Q2.f8, Q2.f9, Q2.f10, Q2.f11, Q2.f12, Q2.f15, Q2.c175, Q2.c176]
      have P3 : PC (va_up f' 175 (.inl (.int, 1394, .inl (upd fr' (66 + R) c'.2.2.2)))) s (upd fr' (66 + R) c'.2.2.2) ag sz c' w (nI p) rd' := ⟨Q2.fr', P2.2⟩
      have sm3 : SM f (va_up f' 175 (.inl (.int, 1394, .inl (upd fr' (66 + R) c'.2.2.2)))) := sm.tr (SM.up (by omega) (by omega))
      generalize va_up f' 175 (.inl (.int, 1394, .inl (upd fr' (66 + R) c'.2.2.2))) = g at P3 sm3 ⊢
      have V3 := P3.V
      have Q3 := P3.1
      simp (disch := first | omega | decide | assumption | exact Nat.le_of_ble_eq_true rfl) only [s187_95, s187_96, s187_99, s187_100, h187_101, ow_some, true_and, and_true, and_self, if_true, if_false, not_true, not_false_eq_true, Bool.false_eq_true, eq_self, Option.toList, List.cons_append, List.nil_append, ix_in, ix_cl, lt_in, lt_cl, lt_add, ix_one, vu_eq, vu_ne, arI_mk, arL_mk, arY_mZ, arY_mB, alen_mI, fld_sfl_ne, fld_sfl_same, Option.isSome_some, pok_i, b1z, b01, z10, b1o, Int32.zero_add, vu_vu, upd_eq, upd_ne, true_or, or_true, V3.r1, V3.r2, V3.r3, V3.r4, V3.r16, V3.r17, V3.r18, V3.r19, V3.r20, V3.r23, V3.r24, V3.r25, V3.r26, V3.r27, V3.r28, V3.r29, V3.r30, V3.c172, V3.c173, V3.c174, V3.c186, V3.c187, V3.c188, V3.n5, V3.n13, V3.n14, V3.i0, V3.i5, V3.i6, V3.i7, V3.i8, V3.i9, V3.i10, V3.i11, V3.i12, V3.i13, V3.i14, V3.i15, V3.i21, V3.i22, Q3.f6, Q3.f7, Q3.f8, Q3.f9, Q3.f10, Q3.f11, Q3.f12, Q3.f15, Q3.c175, Q3.c176]
      have P4 : PC (va_up g 176 (.inl (.int, 9, .inl (upd ag R 0)))) s (upd fr' (66 + R) c'.2.2.2) (upd ag R 0) sz c' w (nI p) rd' := ⟨Q3.ag', P2.2⟩
      have sm4 : SM f (va_up g 176 (.inl (.int, 9, .inl (upd ag R 0)))) := sm3.tr (SM.up (by omega) (by omega))
      generalize va_up g 176 (.inl (.int, 9, .inl (upd ag R 0))) = g4 at P4 sm4 ⊢
      have V4 := P4.V
      have Q4 := P4.1
      show TT X (d + 9) 187 102 _ _ _ _ _ _
      simp (disch := first | omega | decide | assumption | exact Nat.le_of_ble_eq_true rfl) only [s187_102, s187_103, s187_106, s187_120, s187_121, s187_124, s187_138, ow_some, true_and, and_true, and_self, if_true, if_false, not_true, not_false_eq_true, Bool.false_eq_true, eq_self, Option.toList, List.cons_append, List.nil_append, ix_in, ix_cl, lt_in, lt_cl, lt_add, ix_one, vu_eq, vu_ne, arI_mk, arL_mk, arY_mZ, arY_mB, alen_mI, fld_sfl_ne, fld_sfl_same, Option.isSome_some, pok_i, b1z, b01, z10, b1o, Int32.zero_add, vu_vu, upd_eq, upd_ne, true_or, or_true, V4.r1, V4.r2, V4.r3, V4.r4, V4.r16, V4.r17, V4.r18, V4.r19, V4.r20, V4.r23, V4.r24, V4.r25, V4.r26, V4.r27, V4.r28, V4.r29, V4.r30, V4.c172, V4.c173, V4.c174, V4.c186, V4.c187, V4.c188, V4.n5, V4.n13, V4.n14, V4.i0, V4.i5, V4.i6, V4.i7, V4.i8, V4.i9, V4.i10, V4.i11, V4.i12, V4.i13, V4.i14, V4.i15, V4.i21, V4.i22, Q4.f6, Q4.f7, Q4.f8, Q4.f9, Q4.f10, Q4.f11, Q4.f12, Q4.f15, Q4.c175, Q4.c176, hw]
      exact PL.er sm4 hw P4
    have e66 : ∀ (w : Int32) (p : Nat) fr' (c' : Cu) f' rd', w ≠ 0 → SM f f' → PC f' s fr' ag sz c' w (nI p) rd' → TT X (d + 9) 187 66 [.ref 171, .int (nI R)] [] f' n1 k1 (PL f s sz n1 k1 (.inr (w, p))) := by
      intro w p fr' c' f' rd' hw sm P2
      have V2 := P2.V
      simp (disch := first | omega | decide | assumption | exact Nat.le_of_ble_eq_true rfl) only [s187_66, s187_67, ow_some, true_and, and_true, and_self, if_true, if_false, not_true, not_false_eq_true, Bool.false_eq_true, eq_self, Option.toList, List.cons_append, List.nil_append, ix_in, ix_cl, lt_in, lt_cl, lt_add, ix_one, vu_eq, vu_ne, arI_mk, arL_mk, arY_mZ, arY_mB, alen_mI, fld_sfl_ne, fld_sfl_same, Option.isSome_some, pok_i, b1z, b01, z10, b1o, Int32.zero_add, vu_vu, upd_eq, upd_ne, true_or, or_true, V2.r1, V2.r2, V2.r3, V2.r4, V2.r16, V2.r17, V2.r18, V2.r19, V2.r20, V2.r23, V2.r24, V2.r25, V2.r26, V2.r27, V2.r28, V2.r29, V2.r30, V2.c172, V2.c173, V2.c174, V2.c186, V2.c187, V2.c188, V2.n5, V2.n13, V2.n14, V2.i0, V2.i5, V2.i6, V2.i7, V2.i8, V2.i9, V2.i10, V2.i11, V2.i12, V2.i13, V2.i14, V2.i15, V2.i21, V2.i22]
      rw [p187_68 (cno_MR V2.mr) (Nat.le_of_ble_eq_true rfl) (P2.eatN (fun z => hw z.1))]
      simp (disch := first | omega | decide | assumption | exact Nat.le_of_ble_eq_true rfl) only [s187_71, s187_74, s187_75, ow_some, true_and, and_true, and_self, if_true, if_false, not_true, not_false_eq_true, Bool.false_eq_true, eq_self, Option.toList, List.cons_append, List.nil_append, ix_in, ix_cl, lt_in, lt_cl, lt_add, ix_one, vu_eq, vu_ne, arI_mk, arL_mk, arY_mZ, arY_mB, alen_mI, fld_sfl_ne, fld_sfl_same, Option.isSome_some, pok_i, b1z, b01, z10, b1o, Int32.zero_add, vu_vu, upd_eq, upd_ne, true_or, or_true, V2.r1, V2.r2, V2.r3, V2.r4, V2.r16, V2.r17, V2.r18, V2.r19, V2.r20, V2.r23, V2.r24, V2.r25, V2.r26, V2.r27, V2.r28, V2.r29, V2.r30, V2.c172, V2.c173, V2.c174, V2.c186, V2.c187, V2.c188, V2.n5, V2.n13, V2.n14, V2.i0, V2.i5, V2.i6, V2.i7, V2.i8, V2.i9, V2.i10, V2.i11, V2.i12, V2.i13, V2.i14, V2.i15, V2.i21, V2.i22]
      rw [p187_76 (cno_MR V2.mr) (Nat.le_of_ble_eq_true rfl) (P2.failE hw)]
      exact e79 w p fr' c' f' rd' hw sm P2
    simp (disch := first | omega | decide | assumption | exact Nat.le_of_ble_eq_true rfl) only [s187_31, s187_32, ow_some, true_and, and_true, and_self, if_true, if_false, not_true, not_false_eq_true, Bool.false_eq_true, eq_self, Option.toList, List.cons_append, List.nil_append, ix_in, ix_cl, lt_in, lt_cl, lt_add, ix_one, vu_eq, vu_ne, arI_mk, arL_mk, arY_mZ, arY_mB, alen_mI, fld_sfl_ne, fld_sfl_same, Option.isSome_some, pok_i, b1z, b01, z10, b1o, Int32.zero_add, vu_vu, upd_eq, upd_ne, true_or, or_true, V1.r1, V1.r2, V1.r3, V1.r4, V1.r16, V1.r17, V1.r18, V1.r19, V1.r20, V1.r23, V1.r24, V1.r25, V1.r26, V1.r27, V1.r28, V1.r29, V1.r30, V1.c172, V1.c173, V1.c174, V1.c186, V1.c187, V1.c188, V1.n5, V1.n13, V1.n14, V1.i0, V1.i5, V1.i6, V1.i7, V1.i8, V1.i9, V1.i10, V1.i11, V1.i12, V1.i13, V1.i14, V1.i15, V1.i21, V1.i22]
    by_cases t1 : c1.2.2.1 = 4
    · rw [if_pos t1] at hr
      refine k187_33 (cno_MR V1.mr) (Nat.le_of_ble_eq_true rfl) (P1.eatY t1) ?_
      rintro f2 n2 k2 v2 ⟨rfl, rfl, sm2, P2, rfl⟩
      have V2 := P2.V
      have Q2 := P2.1
      generalize nx s.2.2.1 sz c1 = c2 at P2 Q2 hr
      simp (disch := first | omega | decide | assumption | exact Nat.le_of_ble_eq_true rfl) only [s187_36, s187_44, s187_45, s187_48, s187_50, s187_51, s187_52, s187_53, s187_54, s187_55, s187_58, s187_59, s187_60, s187_61, ow_some, true_and, and_true, and_self, if_true, if_false, not_true, not_false_eq_true, Bool.false_eq_true, eq_self, Option.toList, List.cons_append, List.nil_append, ix_in, ix_cl, lt_in, lt_cl, lt_add, ix_one, vu_eq, vu_ne, arI_mk, arL_mk, arY_mZ, arY_mB, alen_mI, fld_sfl_ne, fld_sfl_same, Option.isSome_some, pok_i, b1z, b01, z10, b1o, Int32.zero_add, vu_vu, upd_eq, upd_ne, true_or, or_true, V2.r1, V2.r2, V2.r3, V2.r4, V2.r16, V2.r17, V2.r18, V2.r19, V2.r20, V2.r23, V2.r24, V2.r25, V2.r26, V2.r27, V2.r28, V2.r29, V2.r30, V2.c172, V2.c173, V2.c174, V2.c186, V2.c187, V2.c188, V2.n5, V2.n13, V2.n14, V2.i0, V2.i5, V2.i6, V2.i7, V2.i8, V2.i9, V2.i10, V2.i11, V2.i12, V2.i13, V2.i14, V2.i15, V2.i21, V2.i22, Q2.f6, Q2.f7, Q2.f8, Q2.f9, Q2.f10, Q2.f11, Q2.f12, Q2.f15, Q2.c175, Q2.c176, hS]
      by_cases t2 : tko c2 0 ((S : Int) - 1) = true
      · rw [if_pos t2] at hr
        rw [tko_iff] at t2
        refine k187_62 (cno_MR V2.mr) (Nat.le_of_ble_eq_true rfl) (P2.takeY t2.1 (by rw [s1, i999.2.1]; exact t2.2)) ?_
        rintro f3 n3 k3 v3 ⟨rfl, rfl, sm3, P3, rfl⟩
        have V3 := P3.V
        have Q3 := P3.1
        generalize nx s.2.2.1 sz c2 = c3 at P3 Q3 hr
        simp (disch := first | omega | decide | assumption | exact Nat.le_of_ble_eq_true rfl) only [s187_65, ow_some, true_and, and_true, and_self, if_true, if_false, not_true, not_false_eq_true, Bool.false_eq_true, eq_self, Option.toList, List.cons_append, List.nil_append, ix_in, ix_cl, lt_in, lt_cl, lt_add, ix_one, vu_eq, vu_ne, arI_mk, arL_mk, arY_mZ, arY_mB, alen_mI, fld_sfl_ne, fld_sfl_same, Option.isSome_some, pok_i, b1z, b01, z10, b1o, Int32.zero_add, vu_vu, upd_eq, upd_ne, true_or, or_true, V3.r1, V3.r2, V3.r3, V3.r4, V3.r16, V3.r17, V3.r18, V3.r19, V3.r20, V3.r23, V3.r24, V3.r25, V3.r26, V3.r27, V3.r28, V3.r29, V3.r30, V3.c172, V3.c173, V3.c174, V3.c186, V3.c187, V3.c188, V3.n5, V3.n13, V3.n14, V3.i0, V3.i5, V3.i6, V3.i7, V3.i8, V3.i9, V3.i10, V3.i11, V3.i12, V3.i13, V3.i14, V3.i15, V3.i21, V3.i22, Q3.f6, Q3.f7, Q3.f8, Q3.f9, Q3.f10, Q3.f11, Q3.f12, Q3.f15, Q3.c175, Q3.c176]
        have P4 : PC (va_up f3 175 (.inl (.int, 1394, .inl (upd fr (57 + R) c2.2.2.2)))) s (upd fr (57 + R) c2.2.2.2) ag sz c3 0 wa rd := ⟨Q3.fr', P3.2⟩
        have sm4 : SM f (va_up f3 175 (.inl (.int, 1394, .inl (upd fr (57 + R) c2.2.2.2)))) := ((sm1.tr sm2).tr sm3).tr (SM.up (by omega) (by omega))
        generalize va_up f3 175 (.inl (.int, 1394, .inl (upd fr (57 + R) c2.2.2.2))) = f4 at P4 sm4 ⊢
        have V4 := P4.V
        simp (disch := first | omega | decide | assumption | exact Nat.le_of_ble_eq_true rfl) only [s187_66, s187_67, ow_some, true_and, and_true, and_self, if_true, if_false, not_true, not_false_eq_true, Bool.false_eq_true, eq_self, Option.toList, List.cons_append, List.nil_append, ix_in, ix_cl, lt_in, lt_cl, lt_add, ix_one, vu_eq, vu_ne, arI_mk, arL_mk, arY_mZ, arY_mB, alen_mI, fld_sfl_ne, fld_sfl_same, Option.isSome_some, pok_i, b1z, b01, z10, b1o, Int32.zero_add, vu_vu, upd_eq, upd_ne, true_or, or_true, V4.r1, V4.r2, V4.r3, V4.r4, V4.r16, V4.r17, V4.r18, V4.r19, V4.r20, V4.r23, V4.r24, V4.r25, V4.r26, V4.r27, V4.r28, V4.r29, V4.r30, V4.c172, V4.c173, V4.c174, V4.c186, V4.c187, V4.c188, V4.n5, V4.n13, V4.n14, V4.i0, V4.i5, V4.i6, V4.i7, V4.i8, V4.i9, V4.i10, V4.i11, V4.i12, V4.i13, V4.i14, V4.i15, V4.i21, V4.i22]
        by_cases t3 : c3.2.2.1 = 5
        · rw [if_pos t3] at hr
          refine k187_68 (cno_MR V4.mr) (Nat.le_of_ble_eq_true rfl) (P4.eatY t3) ?_
          rintro f5 n5 k5 v5 ⟨rfl, rfl, sm5, P5, rfl⟩
          have V5 := P5.V
          have Q5 := P5.1
          generalize nx s.2.2.1 sz c3 = c4 at P5 Q5 hr
          simp (disch := first | omega | decide | assumption | exact Nat.le_of_ble_eq_true rfl) only [s187_71, s187_79, s187_80, s187_83, s187_85, s187_86, s187_87, s187_88, s187_89, ow_some, true_and, and_true, and_self, if_true, if_false, not_true, not_false_eq_true, Bool.false_eq_true, eq_self, Option.toList, List.cons_append, List.nil_append, ix_in, ix_cl, lt_in, lt_cl, lt_add, ix_one, vu_eq, vu_ne, arI_mk, arL_mk, arY_mZ, arY_mB, alen_mI, fld_sfl_ne, fld_sfl_same, Option.isSome_some, pok_i, b1z, b01, z10, b1o, Int32.zero_add, vu_vu, upd_eq, upd_ne, true_or, or_true, V5.r1, V5.r2, V5.r3, V5.r4, V5.r16, V5.r17, V5.r18, V5.r19, V5.r20, V5.r23, V5.r24, V5.r25, V5.r26, V5.r27, V5.r28, V5.r29, V5.r30, V5.c172, V5.c173, V5.c174, V5.c186, V5.c187, V5.c188, V5.n5, V5.n13, V5.n14, V5.i0, V5.i5, V5.i6, V5.i7, V5.i8, V5.i9, V5.i10, V5.i11, V5.i12, V5.i13, V5.i14, V5.i15, V5.i21, V5.i22, Q5.f6, Q5.f7, Q5.f8, Q5.f9, Q5.f10, Q5.f11, Q5.f12, Q5.f15, Q5.c175, Q5.c176]
          by_cases t4 : tko c4 0 99 = true
          · rw [if_pos t4] at hr
            rw [tko_iff] at t4
            refine k187_91 (cno_MR V5.mr) (Nat.le_of_ble_eq_true rfl) (P5.takeY t4.1 (by rw [i999.2.2.1, i999.2.1]; exact t4.2)) ?_
            rintro f6 n6 k6 v6 ⟨rfl, rfl, sm6, P6, rfl⟩
            have V6 := P6.V
            have Q6 := P6.1
            generalize nx s.2.2.1 sz c4 = c5 at P6 Q6 hr
            simp (disch := first | omega | decide | assumption | exact Nat.le_of_ble_eq_true rfl) only [s187_94, ow_some, true_and, and_true, and_self, if_true, if_false, not_true, not_false_eq_true, Bool.false_eq_true, eq_self, Option.toList, List.cons_append, List.nil_append, ix_in, ix_cl, lt_in, lt_cl, lt_add, ix_one, vu_eq, vu_ne, arI_mk, arL_mk, arY_mZ, arY_mB, alen_mI, fld_sfl_ne, fld_sfl_same, Option.isSome_some, pok_i, b1z, b01, z10, b1o, Int32.zero_add, vu_vu, upd_eq, upd_ne, true_or, or_true, V6.r1, V6.r2, V6.r3, V6.r4, V6.r16, V6.r17, V6.r18, V6.r19, V6.r20, V6.r23, V6.r24, V6.r25, V6.r26, V6.r27, V6.r28, V6.r29, V6.r30, V6.c172, V6.c173, V6.c174, V6.c186, V6.c187, V6.c188, V6.n5, V6.n13, V6.n14, V6.i0, V6.i5, V6.i6, V6.i7, V6.i8, V6.i9, V6.i10, V6.i11, V6.i12, V6.i13, V6.i14, V6.i15, V6.i21, V6.i22, Q6.f6, Q6.f7, Q6.f8, Q6.f9, Q6.f10, Q6.f11, Q6.f12, Q6.f15, Q6.c175, Q6.c176]
            have P7 : PC (va_up f6 175 (.inl (.int, 1394, .inl (upd (upd fr (57 + R) c2.2.2.2) (66 + R) c4.2.2.2)))) s (upd (upd fr (57 + R) c2.2.2.2) (66 + R) c4.2.2.2) ag sz c5 0 wa rd := ⟨Q6.fr', P6.2⟩
            have sm7 : SM f (va_up f6 175 (.inl (.int, 1394, .inl (upd (upd fr (57 + R) c2.2.2.2) (66 + R) c4.2.2.2)))) := ((sm4.tr sm5).tr sm6).tr (SM.up (by omega) (by omega))
            generalize va_up f6 175 (.inl (.int, 1394, .inl (upd (upd fr (57 + R) c2.2.2.2) (66 + R) c4.2.2.2))) = f7 at P7 sm7 ⊢
            have V7 := P7.V
            have Q7 := P7.1
            simp (disch := first | omega | decide | assumption | exact Nat.le_of_ble_eq_true rfl) only [s187_95, s187_96, s187_99, s187_100, h187_101, ow_some, true_and, and_true, and_self, if_true, if_false, not_true, not_false_eq_true, Bool.false_eq_true, eq_self, Option.toList, List.cons_append, List.nil_append, ix_in, ix_cl, lt_in, lt_cl, lt_add, ix_one, vu_eq, vu_ne, arI_mk, arL_mk, arY_mZ, arY_mB, alen_mI, fld_sfl_ne, fld_sfl_same, Option.isSome_some, pok_i, b1z, b01, z10, b1o, Int32.zero_add, vu_vu, upd_eq, upd_ne, true_or, or_true, V7.r1, V7.r2, V7.r3, V7.r4, V7.r16, V7.r17, V7.r18, V7.r19, V7.r20, V7.r23, V7.r24, V7.r25, V7.r26, V7.r27, V7.r28, V7.r29, V7.r30, V7.c172, V7.c173, V7.c174, V7.c186, V7.c187, V7.c188, V7.n5, V7.n13, V7.n14, V7.i0, V7.i5, V7.i6, V7.i7, V7.i8, V7.i9, V7.i10, V7.i11, V7.i12, V7.i13, V7.i14, V7.i15, V7.i21, V7.i22, Q7.f6, Q7.f7, Q7.f8, Q7.f9, Q7.f10, Q7.f11, Q7.f12, Q7.f15, Q7.c175, Q7.c176]
            have P8 : PC (va_up f7 176 (.inl (.int, 9, .inl (upd ag R 0)))) s (upd (upd fr (57 + R) c2.2.2.2) (66 + R) c4.2.2.2) (upd ag R 0) sz c5 0 wa rd := ⟨Q7.ag', P7.2⟩
            have sm8 : SM f (va_up f7 176 (.inl (.int, 9, .inl (upd ag R 0)))) := sm7.tr (SM.up (by omega) (by omega))
            generalize va_up f7 176 (.inl (.int, 9, .inl (upd ag R 0))) = f8 at P8 sm8 ⊢
            show TT X (d + 9) 187 102 _ _ _ _ _ _
            have h52 : upd (upd fr (57 + R) c2.2.2.2) (66 + R) c4.2.2.2 52 = nI R := by rw [upd_ne (by omega), upd_ne (by omega)]; exact hR
            generalize upd (upd fr (57 + R) c2.2.2.2) (66 + R) c4.2.2.2 = fr8 at P8 hr h52
            cases hfl : l_flags s.2.2.1 sz R k c5 fr8 (upd ag R 0) with
            | none => rw [hfl] at hr; cases hr
            | some q =>
              rw [hfl] at hr
              refine PC.flags (show R < 9 by omega) k f8 c5 fr8 _ wa rd q P8 hfl ?_ ?_
              · rintro f9 c9 fr9 ag9 wa9 rd9 rfl sm9 P9
                have hr := Option.some.inj hr
                have V9 := P9.V
                have Q9 := P9.1
                have h529 : fr9 52 = nI R := by rw [flags_52 (by omega) _ _ _ _ _ _ _ hfl]; exact h52
                simp (disch := first | omega | decide | assumption | exact Nat.le_of_ble_eq_true rfl) only [s187_120, s187_121, s187_124, s187_127, s187_128, s187_131, s187_133, s187_134, s187_135, s187_136, s187_137, s187_138, ow_some, true_and, and_true, and_self, if_true, if_false, not_true, not_false_eq_true, Bool.false_eq_true, eq_self, Option.toList, List.cons_append, List.nil_append, ix_in, ix_cl, lt_in, lt_cl, lt_add, ix_one, vu_eq, vu_ne, arI_mk, arL_mk, arY_mZ, arY_mB, alen_mI, fld_sfl_ne, fld_sfl_same, Option.isSome_some, pok_i, b1z, b01, z10, b1o, Int32.zero_add, vu_vu, upd_eq, upd_ne, true_or, or_true, V9.r1, V9.r2, V9.r3, V9.r4, V9.r16, V9.r17, V9.r18, V9.r19, V9.r20, V9.r23, V9.r24, V9.r25, V9.r26, V9.r27, V9.r28, V9.r29, V9.r30, V9.c172, V9.c173, V9.c174, V9.c186, V9.c187, V9.c188, V9.n5, V9.n13, V9.n14, V9.i0, V9.i5, V9.i6, V9.i7, V9.i8, V9.i9, V9.i10, V9.i11, V9.i12, V9.i13, V9.i14, V9.i15, V9.i21, V9.i22, Q9.f6, Q9.f7, Q9.f8, Q9.f9, Q9.f10, Q9.f11, Q9.f12, Q9.f15, Q9.c175, Q9.c176, h529]
                rw [← hr]
                exact PL.ok ((sm8.tr sm9).tr (SM.up (by omega) (by omega))) ⟨Q9.fr', P9.2⟩
              · rintro f9 c9 fr9 ag9 w p' rd9 rfl hw sm9 P9
                have hr := Option.some.inj hr
                have V9 := P9.V
                have Q9 := P9.1
                simp (disch := first | omega | decide | assumption | exact Nat.le_of_ble_eq_true rfl) only [s187_120, s187_121, s187_124, s187_138, ow_some, true_and, and_true, and_self, if_true, if_false, not_true, not_false_eq_true, Bool.false_eq_true, eq_self, Option.toList, List.cons_append, List.nil_append, ix_in, ix_cl, lt_in, lt_cl, lt_add, ix_one, vu_eq, vu_ne, arI_mk, arL_mk, arY_mZ, arY_mB, alen_mI, fld_sfl_ne, fld_sfl_same, Option.isSome_some, pok_i, b1z, b01, z10, b1o, Int32.zero_add, vu_vu, upd_eq, upd_ne, true_or, or_true, V9.r1, V9.r2, V9.r3, V9.r4, V9.r16, V9.r17, V9.r18, V9.r19, V9.r20, V9.r23, V9.r24, V9.r25, V9.r26, V9.r27, V9.r28, V9.r29, V9.r30, V9.c172, V9.c173, V9.c174, V9.c186, V9.c187, V9.c188, V9.n5, V9.n13, V9.n14, V9.i0, V9.i5, V9.i6, V9.i7, V9.i8, V9.i9, V9.i10, V9.i11, V9.i12, V9.i13, V9.i14, V9.i15, V9.i21, V9.i22, Q9.f6, Q9.f7, Q9.f8, Q9.f9, Q9.f10, Q9.f11, Q9.f12, Q9.f15, Q9.c175, Q9.c176, hw]
                rw [← hr]
                exact PL.er (sm8.tr sm9) hw P9
          · rw [if_neg t4] at hr
            have hr := Option.some.inj hr
            rw [tko_iff] at t4
            refine k187_91 (cno_MR V5.mr) (Nat.le_of_ble_eq_true rfl) (P5.takeN (by rw [i999.2.2.1, i999.2.1]; exact t4)) ?_
            rintro f6 n6 k6 v6 ⟨rfl, rfl, sm6, P6, rfl⟩
            have V6 := P6.V
            have Q6 := P6.1
            have hw : ¬ tkf c4 0 99 = 0 := tkw_ne
            simp (disch := first | omega | decide | assumption | exact Nat.le_of_ble_eq_true rfl) only [s187_94, ow_some, true_and, and_true, and_self, if_true, if_false, not_true, not_false_eq_true, Bool.false_eq_true, eq_self, Option.toList, List.cons_append, List.nil_append, ix_in, ix_cl, lt_in, lt_cl, lt_add, ix_one, vu_eq, vu_ne, arI_mk, arL_mk, arY_mZ, arY_mB, alen_mI, fld_sfl_ne, fld_sfl_same, Option.isSome_some, pok_i, b1z, b01, z10, b1o, Int32.zero_add, vu_vu, upd_eq, upd_ne, true_or, or_true, V6.r1, V6.r2, V6.r3, V6.r4, V6.r16, V6.r17, V6.r18, V6.r19, V6.r20, V6.r23, V6.r24, V6.r25, V6.r26, V6.r27, V6.r28, V6.r29, V6.r30, V6.c172, V6.c173, V6.c174, V6.c186, V6.c187, V6.c188, V6.n5, V6.n13, V6.n14, V6.i0, V6.i5, V6.i6, V6.i7, V6.i8, V6.i9, V6.i10, V6.i11, V6.i12, V6.i13, V6.i14, V6.i15, V6.i21, V6.i22, Q6.f6, Q6.f7, Q6.f8, Q6.f9, Q6.f10, Q6.f11, Q6.f12, Q6.f15, Q6.c175, Q6.c176]
            have P7 : PC (va_up f6 175 (.inl (.int, 1394, .inl (upd (upd fr (57 + R) c2.2.2.2) (66 + R) c4.2.2.2)))) s (upd (upd fr (57 + R) c2.2.2.2) (66 + R) c4.2.2.2) ag sz c4 (tkf c4 0 99) (nI c4.1) rd := ⟨Q6.fr', P6.2⟩
            have sm7 : SM f (va_up f6 175 (.inl (.int, 1394, .inl (upd (upd fr (57 + R) c2.2.2.2) (66 + R) c4.2.2.2)))) := ((sm4.tr sm5).tr sm6).tr (SM.up (by omega) (by omega))
            generalize va_up f6 175 (.inl (.int, 1394, .inl (upd (upd fr (57 + R) c2.2.2.2) (66 + R) c4.2.2.2))) = f7 at P7 sm7 ⊢
            have V7 := P7.V
            have Q7 := P7.1
            simp (disch := first | omega | decide | assumption | exact Nat.le_of_ble_eq_true rfl) only [s187_95, s187_96, s187_99, s187_100, h187_101, ow_some, true_and, and_true, and_self, if_true, if_false, not_true, not_false_eq_true, Bool.false_eq_true, eq_self, Option.toList, List.cons_append, List.nil_append, ix_in, ix_cl, lt_in, lt_cl, lt_add, ix_one, vu_eq, vu_ne, arI_mk, arL_mk, arY_mZ, arY_mB, alen_mI, fld_sfl_ne, fld_sfl_same, Option.isSome_some, pok_i, b1z, b01, z10, b1o, Int32.zero_add, vu_vu, upd_eq, upd_ne, true_or, or_true, V7.r1, V7.r2, V7.r3, V7.r4, V7.r16, V7.r17, V7.r18, V7.r19, V7.r20, V7.r23, V7.r24, V7.r25, V7.r26, V7.r27, V7.r28, V7.r29, V7.r30, V7.c172, V7.c173, V7.c174, V7.c186, V7.c187, V7.c188, V7.n5, V7.n13, V7.n14, V7.i0, V7.i5, V7.i6, V7.i7, V7.i8, V7.i9, V7.i10, V7.i11, V7.i12, V7.i13, V7.i14, V7.i15, V7.i21, V7.i22, Q7.f6, Q7.f7, Q7.f8, Q7.f9, Q7.f10, Q7.f11, Q7.f12, Q7.f15, Q7.c175, Q7.c176]
            have P8 : PC (va_up f7 176 (.inl (.int, 9, .inl (upd ag R 0)))) s (upd (upd fr (57 + R) c2.2.2.2) (66 + R) c4.2.2.2) (upd ag R 0) sz c4 (tkf c4 0 99) (nI c4.1) rd := ⟨Q7.ag', P7.2⟩
            have sm8 : SM f (va_up f7 176 (.inl (.int, 9, .inl (upd ag R 0)))) := sm7.tr (SM.up (by omega) (by omega))
            generalize va_up f7 176 (.inl (.int, 9, .inl (upd ag R 0))) = f8 at P8 sm8 ⊢
            have V8 := P8.V
            have Q8 := P8.1
            show TT X (d + 9) 187 102 _ _ _ _ _ _
            simp (disch := first | omega | decide | assumption | exact Nat.le_of_ble_eq_true rfl) only [s187_102, s187_103, s187_106, s187_120, s187_121, s187_124, s187_138, ow_some, true_and, and_true, and_self, if_true, if_false, not_true, not_false_eq_true, Bool.false_eq_true, eq_self, Option.toList, List.cons_append, List.nil_append, ix_in, ix_cl, lt_in, lt_cl, lt_add, ix_one, vu_eq, vu_ne, arI_mk, arL_mk, arY_mZ, arY_mB, alen_mI, fld_sfl_ne, fld_sfl_same, Option.isSome_some, pok_i, b1z, b01, z10, b1o, Int32.zero_add, vu_vu, upd_eq, upd_ne, true_or, or_true, V8.r1, V8.r2, V8.r3, V8.r4, V8.r16, V8.r17, V8.r18, V8.r19, V8.r20, V8.r23, V8.r24, V8.r25, V8.r26, V8.r27, V8.r28, V8.r29, V8.r30, V8.c172, V8.c173, V8.c174, V8.c186, V8.c187, V8.c188, V8.n5, V8.n13, V8.n14, V8.i0, V8.i5, V8.i6, V8.i7, V8.i8, V8.i9, V8.i10, V8.i11, V8.i12, V8.i13, V8.i14, V8.i15, V8.i21, V8.i22, Q8.f6, Q8.f7, Q8.f8, Q8.f9, Q8.f10, Q8.f11, Q8.f12, Q8.f15, Q8.c175, Q8.c176, hw]
            rw [← hr]
            exact PL.er sm8 hw P8
        · rw [if_neg t3] at hr
          have hr := Option.some.inj hr
          rw [p187_68 (cno_MR V4.mr) (Nat.le_of_ble_eq_true rfl) (P4.eatN (fun z => t3 z.2))]
          simp (disch := first | omega | decide | assumption | exact Nat.le_of_ble_eq_true rfl) only [s187_71, s187_74, s187_75, ow_some, true_and, and_true, and_self, if_true, if_false, not_true, not_false_eq_true, Bool.false_eq_true, eq_self, Option.toList, List.cons_append, List.nil_append, ix_in, ix_cl, lt_in, lt_cl, lt_add, ix_one, vu_eq, vu_ne, arI_mk, arL_mk, arY_mZ, arY_mB, alen_mI, fld_sfl_ne, fld_sfl_same, Option.isSome_some, pok_i, b1z, b01, z10, b1o, Int32.zero_add, vu_vu, upd_eq, upd_ne, true_or, or_true, V4.r1, V4.r2, V4.r3, V4.r4, V4.r16, V4.r17, V4.r18, V4.r19, V4.r20, V4.r23, V4.r24, V4.r25, V4.r26, V4.r27, V4.r28, V4.r29, V4.r30, V4.c172, V4.c173, V4.c174, V4.c186, V4.c187, V4.c188, V4.n5, V4.n13, V4.n14, V4.i0, V4.i5, V4.i6, V4.i7, V4.i8, V4.i9, V4.i10, V4.i11, V4.i12, V4.i13, V4.i14, V4.i15, V4.i21, V4.i22]
          refine k187_76 (cno_MR V4.mr) (Nat.le_of_ble_eq_true rfl) (P4.fail (w := 2)) ?_
          rintro f5 n5 k5 v5 ⟨rfl, rfl, rfl, sm5, P5⟩
          rw [← hr]
          exact e79 _ _ _ _ f5 _ (ft_ne (by decide)) (sm4.tr sm5) P5
      · rw [if_neg t2] at hr
        have hr := Option.some.inj hr
        rw [tko_iff] at t2
        refine k187_62 (cno_MR V2.mr) (Nat.le_of_ble_eq_true rfl) (P2.takeN (by rw [s1, i999.2.1]; exact t2)) ?_
        rintro f3 n3 k3 v3 ⟨rfl, rfl, sm3, P3, rfl⟩
        have V3 := P3.V
        have Q3 := P3.1
        simp (disch := first | omega | decide | assumption | exact Nat.le_of_ble_eq_true rfl) only [s187_65, ow_some, true_and, and_true, and_self, if_true, if_false, not_true, not_false_eq_true, Bool.false_eq_true, eq_self, Option.toList, List.cons_append, List.nil_append, ix_in, ix_cl, lt_in, lt_cl, lt_add, ix_one, vu_eq, vu_ne, arI_mk, arL_mk, arY_mZ, arY_mB, alen_mI, fld_sfl_ne, fld_sfl_same, Option.isSome_some, pok_i, b1z, b01, z10, b1o, Int32.zero_add, vu_vu, upd_eq, upd_ne, true_or, or_true, V3.r1, V3.r2, V3.r3, V3.r4, V3.r16, V3.r17, V3.r18, V3.r19, V3.r20, V3.r23, V3.r24, V3.r25, V3.r26, V3.r27, V3.r28, V3.r29, V3.r30, V3.c172, V3.c173, V3.c174, V3.c186, V3.c187, V3.c188, V3.n5, V3.n13, V3.n14, V3.i0, V3.i5, V3.i6, V3.i7, V3.i8, V3.i9, V3.i10, V3.i11, V3.i12, V3.i13, V3.i14, V3.i15, V3.i21, V3.i22, Q3.f6, Q3.f7, Q3.f8, Q3.f9, Q3.f10, Q3.f11, Q3.f12, Q3.f15, Q3.c175, Q3.c176]
        rw [← hr]
        exact e66 _ _ _ c2 _ rd tkw_ne (((sm1.tr sm2).tr sm3).tr (SM.up (by omega) (by omega))) ⟨Q3.fr', P3.2⟩
    · rw [if_neg t1] at hr
      have hr := Option.some.inj hr
      rw [p187_33 (cno_MR V1.mr) (Nat.le_of_ble_eq_true rfl) (P1.eatN (fun z => t1 z.2))]
      simp (disch := first | omega | decide | assumption | exact Nat.le_of_ble_eq_true rfl) only [s187_36, s187_39, s187_40, ow_some, true_and, and_true, and_self, if_true, if_false, not_true, not_false_eq_true, Bool.false_eq_true, eq_self, Option.toList, List.cons_append, List.nil_append, ix_in, ix_cl, lt_in, lt_cl, lt_add, ix_one, vu_eq, vu_ne, arI_mk, arL_mk, arY_mZ, arY_mB, alen_mI, fld_sfl_ne, fld_sfl_same, Option.isSome_some, pok_i, b1z, b01, z10, b1o, Int32.zero_add, vu_vu, upd_eq, upd_ne, true_or, or_true, V1.r1, V1.r2, V1.r3, V1.r4, V1.r16, V1.r17, V1.r18, V1.r19, V1.r20, V1.r23, V1.r24, V1.r25, V1.r26, V1.r27, V1.r28, V1.r29, V1.r30, V1.c172, V1.c173, V1.c174, V1.c186, V1.c187, V1.c188, V1.n5, V1.n13, V1.n14, V1.i0, V1.i5, V1.i6, V1.i7, V1.i8, V1.i9, V1.i10, V1.i11, V1.i12, V1.i13, V1.i14, V1.i15, V1.i21, V1.i22]
      refine k187_41 (cno_MR V1.mr) (Nat.le_of_ble_eq_true rfl) (P1.fail (w := 2)) ?_
      rintro f2 n2 k2 v2 ⟨rfl, rfl, rfl, sm2, P2⟩
      have V2 := P2.V
      have Q2 := P2.1
      have hw : ¬ ft 2 c1.2.2.1 = 0 := ft_ne (by decide)
      simp (disch := first | omega | decide | assumption | exact Nat.le_of_ble_eq_true rfl) only [s187_44, s187_45, s187_48, s187_50, s187_51, s187_52, s187_53, s187_54, s187_55, s187_58, s187_59, s187_60, s187_61, ow_some, true_and, and_true, and_self, if_true, if_false, not_true, not_false_eq_true, Bool.false_eq_true, eq_self, Option.toList, List.cons_append, List.nil_append, ix_in, ix_cl, lt_in, lt_cl, lt_add, ix_one, vu_eq, vu_ne, arI_mk, arL_mk, arY_mZ, arY_mB, alen_mI, fld_sfl_ne, fld_sfl_same, Option.isSome_some, pok_i, b1z, b01, z10, b1o, Int32.zero_add, vu_vu, upd_eq, upd_ne, true_or, or_true, V2.r1, V2.r2, V2.r3, V2.r4, V2.r16, V2.r17, V2.r18, V2.r19, V2.r20, V2.r23, V2.r24, V2.r25, V2.r26, V2.r27, V2.r28, V2.r29, V2.r30, V2.c172, V2.c173, V2.c174, V2.c186, V2.c187, V2.c188, V2.n5, V2.n13, V2.n14, V2.i0, V2.i5, V2.i6, V2.i7, V2.i8, V2.i9, V2.i10, V2.i11, V2.i12, V2.i13, V2.i14, V2.i15, V2.i21, V2.i22, Q2.f6, Q2.f7, Q2.f8, Q2.f9, Q2.f10, Q2.f11, Q2.f12, Q2.f15, Q2.c175, Q2.c176]
      rw [p187_62 (cno_MR V2.mr) (Nat.le_of_ble_eq_true rfl) (P2.takeE hw)]
      simp (disch := first | omega | decide | assumption | exact Nat.le_of_ble_eq_true rfl) only [s187_65, ow_some, true_and, and_true, and_self, if_true, if_false, not_true, not_false_eq_true, Bool.false_eq_true, eq_self, Option.toList, List.cons_append, List.nil_append, ix_in, ix_cl, lt_in, lt_cl, lt_add, ix_one, vu_eq, vu_ne, arI_mk, arL_mk, arY_mZ, arY_mB, alen_mI, fld_sfl_ne, fld_sfl_same, Option.isSome_some, pok_i, b1z, b01, z10, b1o, Int32.zero_add, vu_vu, upd_eq, upd_ne, true_or, or_true, V2.r1, V2.r2, V2.r3, V2.r4, V2.r16, V2.r17, V2.r18, V2.r19, V2.r20, V2.r23, V2.r24, V2.r25, V2.r26, V2.r27, V2.r28, V2.r29, V2.r30, V2.c172, V2.c173, V2.c174, V2.c186, V2.c187, V2.c188, V2.n5, V2.n13, V2.n14, V2.i0, V2.i5, V2.i6, V2.i7, V2.i8, V2.i9, V2.i10, V2.i11, V2.i12, V2.i13, V2.i14, V2.i15, V2.i21, V2.i22, Q2.f6, Q2.f7, Q2.f8, Q2.f9, Q2.f10, Q2.f11, Q2.f12, Q2.f15, Q2.c175, Q2.c176]
      rw [← hr]
      exact e66 _ _ _ c1 _ rd hw ((sm1.tr sm2).tr (SM.up (by omega) (by omega))) ⟨Q2.fr', P2.2⟩

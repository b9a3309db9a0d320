/-! the reference's reader: what it asks and takes -/
abbrev Cu : Type := Nat × Nat × Int32 × Int32
def PC (f : Nat → e_C) (s : m_T) (fr ag : Nat → Int32) (sz : Nat) (c : Cu) (wr wa rd : Int32) : Prop := PS f s fr ag sz c.1 c.2.1 c.2.2.1 c.2.2.2 wr wa rd ∧ c.2.1 ≤ sz ∧ sz ≤ 900
def nx (tx : Nat → Int32) (sz : Nat) (c : Cu) : Cu := lx tx sz c.2.1 c.2.2.2
theorem sk_le {tx : Nat → Int32} {sz : Nat} : ∀ (m p : Nat), p ≤ sz → p ≤ sk tx sz m p ∧ sk tx sz m p ≤ sz := by
  intro m
  induction m with
  | zero => intro p h; exact ⟨Nat.le_refl _, h⟩
  | succ m ih =>
    intro p h
    rw [sk_s m]
    split
    · next h2 => have := ih (p + 1) (by omega); omega
    · omega
theorem we_le {tx : Nat → Int32} {sz : Nat} : ∀ (m p : Nat), p ≤ sz → p ≤ we tx sz m p ∧ we tx sz m p ≤ sz := by
  intro m
  induction m with
  | zero => intro p h; exact ⟨Nat.le_refl _, h⟩
  | succ m ih =>
    intro p h
    rw [we_s m]
    split
    · next h2 => have := ih (p + 1) (by omega); omega
    · omega
theorem dg_le {tx : Nat → Int32} {sz a : Nat} : ∀ (m p : Nat) (n : Int32), p ≤ sz → p ≤ (dg tx sz a m p n).1 ∧ (dg tx sz a m p n).1 ≤ sz := by
  intro m
  induction m with
  | zero => intro p n h; exact ⟨Nat.le_refl _, h⟩
  | succ m ih =>
    intro p n h
    rw [dg_s m]
    split
    · next h2 =>
      have := ih (p + 1) (if p - a < 3 then 10 * n + tx p - 48 else n) (by omega)
      omega
    · exact ⟨Nat.le_refl _, h⟩
/-- a next token begins behind, ends further on, or is the end -/
theorem lx_le {tx : Nat → Int32} {sz b : Nat} {nm : Int32} (hb : b ≤ sz) : b ≤ (lx tx sz b nm).1 ∧ (lx tx sz b nm).2.1 ≤ sz ∧ ((lx tx sz b nm).1 < (lx tx sz b nm).2.1 ∨ ((lx tx sz b nm).2.2.1 = 24 ∧ (lx tx sz b nm).1 = sz ∧ (lx tx sz b nm).2.1 = sz)) := by
  obtain ⟨h1, h2⟩ := sk_le (tx := tx) (sz - b) b hb
  unfold lx
  generalize sk tx sz (sz - b) b = a at h1 h2 ⊢
  by_cases he : sz ≤ a
  · rw [if_pos he]; exact ⟨h1, h2, Or.inr ⟨rfl, by show a = sz; omega, by show a = sz; omega⟩⟩
  · rw [if_neg he]
    obtain ⟨m, hm⟩ : ∃ m, sz - a = m + 1 := ⟨sz - a - 1, by omega⟩
    by_cases hS : isS (tx a) = true
    · rw [if_pos hS]
      have h3 : we tx sz (sz - a) a = we tx sz m (a + 1) := by rw [hm, we_s m, if_pos ⟨by omega, hS⟩]
      have h4 := we_le (tx := tx) (sz := sz) m (a + 1) (by omega)
      rw [← h3] at h4
      exact ⟨h1, h4.2, Or.inl (by show a < we tx sz (sz - a) a; omega)⟩
    · rw [if_neg hS]
      by_cases hD : isD (tx a) = true
      · rw [if_pos hD]
        have h3 : dg tx sz a (sz - a) a 0 = dg tx sz a m (a + 1) (if a - a < 3 then 10 * 0 + tx a - 48 else 0) := by rw [hm, dg_s m, if_pos ⟨by omega, hD⟩]
        have h4 := dg_le (tx := tx) (sz := sz) (a := a) m (a + 1) (if a - a < 3 then 10 * 0 + tx a - 48 else 0) (by omega)
        rw [← h3] at h4
        exact ⟨h1, h4.2, Or.inl (by show a < (dg tx sz a (sz - a) a 0).1; omega)⟩
      · rw [if_neg hD]
        exact ⟨h1, by show a + 1 ≤ sz; omega, Or.inl (by show a < a + 1; omega)⟩
theorem PC.next {X : Nat × (Nat → Int32)} {d N K : Nat} {f : Nat → e_C} {s : m_T} {fr ag : Nat → Int32} {sz : Nat} {c : Cu} {wr wa rd : Int32} {a1 : Value} (P : PC f s fr ag sz c wr wa rd) : TT X (d + 5) 175 0 [.ref 171, a1] [] f N K (fun f' n' k' w => n' = N ∧ k' = K ∧ w = none ∧ SM f f' ∧ PC f' s fr ag sz (nx s.2.2.1 sz c) wr wa rd) := (sp_next P.1 P.2.2 P.2.1).mono (by
  rintro f' n' k' w ⟨h1, h2, h3, h4, h5⟩
  exact ⟨h1, h2, h3, h4, h5, (lx_le P.2.1).2.1, P.2.2⟩)
theorem PC.V {f : Nat → e_C} {s : m_T} {fr ag : Nat → Int32} {sz : Nat} {c : Cu} {wr wa rd : Int32} (P : PC f s fr ag sz c wr wa rd) : MV f s := P.1.V
theorem PC.is {X : Nat × (Nat → Int32)} {d N K : Nat} {f : Nat → e_C} {s : m_T} {fr ag : Nat → Int32} {sz : Nat} {c : Cu} {wr wa rd k : Int32} (P : PC f s fr ag sz c wr wa rd) : PU X d 181 [.ref 171, .int k] f N K (some (.int (if wr = 0 ∧ c.2.2.1 = k then 1 else 0))) := by
  unfold PU
  have V := P.V
  have Q := P.1
  by_cases h1 : wr = 0
  · by_cases h2 : c.2.2.1 = k
    · simp (disch := first | omega | decide | assumption | exact Nat.le_of_ble_eq_true rfl) only [s181_0, s181_1, s181_4, s181_7, s181_8, s181_11, s181_12, s181_15, s181_16, s181_19, s181_20, ow_some, true_and, and_true, and_self, if_true, if_false, not_true, not_false_eq_true, Bool.false_eq_true, eq_self, Option.toList, List.cons_append, List.nil_append, ix_in, ix_cl, lt_in, lt_cl, lt_add, ix_one, vu_eq, vu_ne, arI_mk, arL_mk, arY_mZ, arY_mB, alen_mI, fld_sfl_ne, fld_sfl_same, Option.isSome_some, pok_i, b1z, b01, z10, b1o, Int32.zero_add, vu_vu, upd_eq, upd_ne, true_or, or_true, V.r1, V.r2, V.r3, V.r4, V.r16, V.r17, V.r18, V.r19, V.r20, V.r23, V.r24, V.r25, V.r26, V.r27, V.r28, V.r29, V.r30, V.c172, V.c173, V.c174, V.c186, V.c187, V.c188, V.n5, V.n13, V.n14, V.i0, V.i5, V.i6, V.i7, V.i8, V.i9, V.i10, V.i11, V.i12, V.i13, V.i14, V.i15, V.i21, V.i22, Q.f6, Q.f7, Q.f8, Q.f9, Q.f10, Q.f11, Q.f12, Q.f15, Q.c175, Q.c176, h1, h2]
    · simp (disch := first | omega | decide | assumption | exact Nat.le_of_ble_eq_true rfl) only [s181_0, s181_1, s181_4, s181_7, s181_8, s181_11, s181_12, s181_15, s181_16, s181_19, s181_20, ow_some, true_and, and_true, and_self, if_true, if_false, not_true, not_false_eq_true, Bool.false_eq_true, eq_self, Option.toList, List.cons_append, List.nil_append, ix_in, ix_cl, lt_in, lt_cl, lt_add, ix_one, vu_eq, vu_ne, arI_mk, arL_mk, arY_mZ, arY_mB, alen_mI, fld_sfl_ne, fld_sfl_same, Option.isSome_some, pok_i, b1z, b01, z10, b1o, Int32.zero_add, vu_vu, upd_eq, upd_ne, true_or, or_true, V.r1, V.r2, V.r3, V.r4, V.r16, V.r17, V.r18, V.r19, V.r20, V.r23, V.r24, V.r25, V.r26, V.r27, V.r28, V.r29, V.r30, V.c172, V.c173, V.c174, V.c186, V.c187, V.c188, V.n5, V.n13, V.n14, V.i0, V.i5, V.i6, V.i7, V.i8, V.i9, V.i10, V.i11, V.i12, V.i13, V.i14, V.i15, V.i21, V.i22, Q.f6, Q.f7, Q.f8, Q.f9, Q.f10, Q.f11, Q.f12, Q.f15, Q.c175, Q.c176, h1, h2, and_false]
  · simp (disch := first | omega | decide | assumption | exact Nat.le_of_ble_eq_true rfl) only [s181_0, s181_1, s181_4, s181_7, s181_8, s181_11, s181_12, s181_15, s181_16, s181_19, s181_20, ow_some, true_and, and_true, and_self, if_true, if_false, not_true, not_false_eq_true, Bool.false_eq_true, eq_self, Option.toList, List.cons_append, List.nil_append, ix_in, ix_cl, lt_in, lt_cl, lt_add, ix_one, vu_eq, vu_ne, arI_mk, arL_mk, arY_mZ, arY_mB, alen_mI, fld_sfl_ne, fld_sfl_same, Option.isSome_some, pok_i, b1z, b01, z10, b1o, Int32.zero_add, vu_vu, upd_eq, upd_ne, true_or, or_true, V.r1, V.r2, V.r3, V.r4, V.r16, V.r17, V.r18, V.r19, V.r20, V.r23, V.r24, V.r25, V.r26, V.r27, V.r28, V.r29, V.r30, V.c172, V.c173, V.c174, V.c186, V.c187, V.c188, V.n5, V.n13, V.n14, V.i0, V.i5, V.i6, V.i7, V.i8, V.i9, V.i10, V.i11, V.i12, V.i13, V.i14, V.i15, V.i21, V.i22, Q.f6, Q.f7, Q.f8, Q.f9, Q.f10, Q.f11, Q.f12, Q.f15, Q.c175, Q.c176, h1, false_and]
theorem PC.eatY {X : Nat × (Nat → Int32)} {d N K : Nat} {f : Nat → e_C} {s : m_T} {fr ag : Nat → Int32} {sz : Nat} {c : Cu} {wa rd k : Int32} (P : PC f s fr ag sz c 0 wa rd) (hk : c.2.2.1 = k) : TT X (d + 6) 180 0 [.ref 171, .int k] [] f N K (fun f' n' k' w => n' = N ∧ k' = K ∧ SM f f' ∧ PC f' s fr ag sz (nx s.2.2.1 sz c) 0 wa rd ∧ w = some (.int 1)) := by
  have V := P.V
  simp (disch := first | omega | decide | assumption | exact Nat.le_of_ble_eq_true rfl) only [s180_0, s180_1, ow_some, true_and, and_true, and_self, if_true, if_false, not_true, not_false_eq_true, Bool.false_eq_true, eq_self, Option.toList, List.cons_append, List.nil_append, ix_in, ix_cl, lt_in, lt_cl, lt_add, ix_one, vu_eq, vu_ne, arI_mk, arL_mk, arY_mZ, arY_mB, alen_mI, fld_sfl_ne, fld_sfl_same, Option.isSome_some, pok_i, b1z, b01, z10, b1o, Int32.zero_add, vu_vu, upd_eq, upd_ne, true_or, or_true, V.r1, V.r2, V.r3, V.r4, V.r16, V.r17, V.r18, V.r19, V.r20, V.r23, V.r24, V.r25, V.r26, V.r27, V.r28, V.r29, V.r30, V.c172, V.c173, V.c174, V.c186, V.c187, V.c188, V.n5, V.n13, V.n14, V.i0, V.i5, V.i6, V.i7, V.i8, V.i9, V.i10, V.i11, V.i12, V.i13, V.i14, V.i15, V.i21, V.i22]
  rw [p180_2 (cno_MR V.mr) (Nat.le_of_ble_eq_true rfl) P.is]
  have h : (c.2.2.1 = k) = True := eq_true hk
  simp (disch := first | omega | decide | assumption | exact Nat.le_of_ble_eq_true rfl) only [s180_5, s180_8, s180_9, s180_10, ow_some, true_and, and_true, and_self, if_true, if_false, not_true, not_false_eq_true, Bool.false_eq_true, eq_self, Option.toList, List.cons_append, List.nil_append, ix_in, ix_cl, lt_in, lt_cl, lt_add, ix_one, vu_eq, vu_ne, arI_mk, arL_mk, arY_mZ, arY_mB, alen_mI, fld_sfl_ne, fld_sfl_same, Option.isSome_some, pok_i, b1z, b01, z10, b1o, Int32.zero_add, vu_vu, upd_eq, upd_ne, true_or, or_true, V.r1, V.r2, V.r3, V.r4, V.r16, V.r17, V.r18, V.r19, V.r20, V.r23, V.r24, V.r25, V.r26, V.r27, V.r28, V.r29, V.r30, V.c172, V.c173, V.c174, V.c186, V.c187, V.c188, V.n5, V.n13, V.n14, V.i0, V.i5, V.i6, V.i7, V.i8, V.i9, V.i10, V.i11, V.i12, V.i13, V.i14, V.i15, V.i21, V.i22, h]
  refine k180_11 (cno_MR V.mr) (Nat.le_of_ble_eq_true rfl) P.next ?_
  rintro f1 n1 k1 v1 ⟨rfl, rfl, rfl, sm1, P1⟩
  simp (disch := first | omega | decide | assumption | exact Nat.le_of_ble_eq_true rfl) only [s180_14, s180_15, ow_some, true_and, and_true, and_self, if_true, if_false, not_true, not_false_eq_true, Bool.false_eq_true, eq_self, Option.toList, List.cons_append, List.nil_append, ix_in, ix_cl, lt_in, lt_cl, lt_add, ix_one, vu_eq, vu_ne, arI_mk, arL_mk, arY_mZ, arY_mB, alen_mI, fld_sfl_ne, fld_sfl_same, Option.isSome_some, pok_i, b1z, b01, z10, b1o, Int32.zero_add, vu_vu, upd_eq, upd_ne, true_or, or_true]
  exact ⟨sm1, P1⟩
theorem PC.eatN {X : Nat × (Nat → Int32)} {d N K : Nat} {f : Nat → e_C} {s : m_T} {fr ag : Nat → Int32} {sz : Nat} {c : Cu} {wr wa rd k : Int32} (P : PC f s fr ag sz c wr wa rd) (hk : ¬ (wr = 0 ∧ c.2.2.1 = k)) : PU X (d + 1) 180 [.ref 171, .int k] f N K (some (.int 0)) := by
  unfold PU
  have V := P.V
  simp (disch := first | omega | decide | assumption | exact Nat.le_of_ble_eq_true rfl) only [s180_0, s180_1, ow_some, true_and, and_true, and_self, if_true, if_false, not_true, not_false_eq_true, Bool.false_eq_true, eq_self, Option.toList, List.cons_append, List.nil_append, ix_in, ix_cl, lt_in, lt_cl, lt_add, ix_one, vu_eq, vu_ne, arI_mk, arL_mk, arY_mZ, arY_mB, alen_mI, fld_sfl_ne, fld_sfl_same, Option.isSome_some, pok_i, b1z, b01, z10, b1o, Int32.zero_add, vu_vu, upd_eq, upd_ne, true_or, or_true, V.r1, V.r2, V.r3, V.r4, V.r16, V.r17, V.r18, V.r19, V.r20, V.r23, V.r24, V.r25, V.r26, V.r27, V.r28, V.r29, V.r30, V.c172, V.c173, V.c174, V.c186, V.c187, V.c188, V.n5, V.n13, V.n14, V.i0, V.i5, V.i6, V.i7, V.i8, V.i9, V.i10, V.i11, V.i12, V.i13, V.i14, V.i15, V.i21, V.i22]
  rw [p180_2 (cno_MR V.mr) (Nat.le_of_ble_eq_true rfl) P.is]
  simp (disch := first | omega | decide | assumption | exact Nat.le_of_ble_eq_true rfl) only [s180_5, s180_8, s180_9, ow_some, true_and, and_true, and_self, if_true, if_false, not_true, not_false_eq_true, Bool.false_eq_true, eq_self, Option.toList, List.cons_append, List.nil_append, ix_in, ix_cl, lt_in, lt_cl, lt_add, ix_one, vu_eq, vu_ne, arI_mk, arL_mk, arY_mZ, arY_mB, alen_mI, fld_sfl_ne, fld_sfl_same, Option.isSome_some, pok_i, b1z, b01, z10, b1o, Int32.zero_add, vu_vu, upd_eq, upd_ne, true_or, or_true, V.r1, V.r2, V.r3, V.r4, V.r16, V.r17, V.r18, V.r19, V.r20, V.r23, V.r24, V.r25, V.r26, V.r27, V.r28, V.r29, V.r30, V.c172, V.c173, V.c174, V.c186, V.c187, V.c188, V.n5, V.n13, V.n14, V.i0, V.i5, V.i6, V.i7, V.i8, V.i9, V.i10, V.i11, V.i12, V.i13, V.i14, V.i15, V.i21, V.i22, hk]
def ft (w kd : Int32) : Int32 := if kd = 25 then 1 else w
theorem PC.failE {X : Nat × (Nat → Int32)} {d N K : Nat} {f : Nat → e_C} {s : m_T} {fr ag : Nat → Int32} {sz : Nat} {c : Cu} {wr wa rd w : Int32} (P : PC f s fr ag sz c wr wa rd) (hw : ¬ wr = 0) : PU X d 182 [.ref 171, .int w] f N K none := by
  unfold PU
  have V := P.V
  have Q := P.1
  simp (disch := first | omega | decide | assumption | exact Nat.le_of_ble_eq_true rfl) only [s182_0, s182_1, s182_4, s182_7, ow_some, true_and, and_true, and_self, if_true, if_false, not_true, not_false_eq_true, Bool.false_eq_true, eq_self, Option.toList, List.cons_append, List.nil_append, ix_in, ix_cl, lt_in, lt_cl, lt_add, ix_one, vu_eq, vu_ne, arI_mk, arL_mk, arY_mZ, arY_mB, alen_mI, fld_sfl_ne, fld_sfl_same, Option.isSome_some, pok_i, b1z, b01, z10, b1o, Int32.zero_add, vu_vu, upd_eq, upd_ne, true_or, or_true, V.r1, V.r2, V.r3, V.r4, V.r16, V.r17, V.r18, V.r19, V.r20, V.r23, V.r24, V.r25, V.r26, V.r27, V.r28, V.r29, V.r30, V.c172, V.c173, V.c174, V.c186, V.c187, V.c188, V.n5, V.n13, V.n14, V.i0, V.i5, V.i6, V.i7, V.i8, V.i9, V.i10, V.i11, V.i12, V.i13, V.i14, V.i15, V.i21, V.i22, Q.f6, Q.f7, Q.f8, Q.f9, Q.f10, Q.f11, Q.f12, Q.f15, Q.c175, Q.c176, hw]
theorem PC.fail {X : Nat × (Nat → Int32)} {d N K : Nat} {f : Nat → e_C} {s : m_T} {fr ag : Nat → Int32} {sz : Nat} {c : Cu} {wa rd w : Int32} (P : PC f s fr ag sz c 0 wa rd) : TT X d 182 0 [.ref 171, .int w] [] f N K (fun f' n' k' v => n' = N ∧ k' = K ∧ v = none ∧ SM f f' ∧ PC f' s fr ag sz c (ft w c.2.2.1) (nI c.1) rd) := by
  have V := P.V
  have Q := P.1
  have main : ∀ y, y = ft w c.2.2.1 → TT X d 182 23 [.ref 171, .int w] [.int y, .ref 171] f N K (fun f' n' k' v => n' = N ∧ k' = K ∧ v = none ∧ SM f f' ∧ PC f' s fr ag sz c (ft w c.2.2.1) (nI c.1) rd) := by
    intro y hy
    rw [← hy]
    simp (disch := first | omega | decide | assumption | exact Nat.le_of_ble_eq_true rfl) only [s182_23, ow_some, true_and, and_true, and_self, if_true, if_false, not_true, not_false_eq_true, Bool.false_eq_true, eq_self, Option.toList, List.cons_append, List.nil_append, ix_in, ix_cl, lt_in, lt_cl, lt_add, ix_one, vu_eq, vu_ne, arI_mk, arL_mk, arY_mZ, arY_mB, alen_mI, fld_sfl_ne, fld_sfl_same, Option.isSome_some, pok_i, b1z, b01, z10, b1o, Int32.zero_add, vu_vu, upd_eq, upd_ne, true_or, or_true, V.r1, V.r2, V.r3, V.r4, V.r16, V.r17, V.r18, V.r19, V.r20, V.r23, V.r24, V.r25, V.r26, V.r27, V.r28, V.r29, V.r30, V.c172, V.c173, V.c174, V.c186, V.c187, V.c188, V.n5, V.n13, V.n14, V.i0, V.i5, V.i6, V.i7, V.i8, V.i9, V.i10, V.i11, V.i12, V.i13, V.i14, V.i15, V.i21, V.i22, Q.f6, Q.f7, Q.f8, Q.f9, Q.f10, Q.f11, Q.f12, Q.f15, Q.c175, Q.c176]
    have Q1 := Q.s11 (y := y)
    have V1 := Q1.V
    have sm1 : SM f (va_up f 171 (sfl (f 171) 11 (.int y))) := SM.up (by omega) (by omega)
    generalize va_up f 171 (sfl (f 171) 11 (.int y)) = f1 at Q1 sm1 V1 ⊢
    simp (disch := first | omega | decide | assumption | exact Nat.le_of_ble_eq_true rfl) only [s182_26, s182_27, s182_28, s182_31, s182_34, ow_some, true_and, and_true, and_self, if_true, if_false, not_true, not_false_eq_true, Bool.false_eq_true, eq_self, Option.toList, List.cons_append, List.nil_append, ix_in, ix_cl, lt_in, lt_cl, lt_add, ix_one, vu_eq, vu_ne, arI_mk, arL_mk, arY_mZ, arY_mB, alen_mI, fld_sfl_ne, fld_sfl_same, Option.isSome_some, pok_i, b1z, b01, z10, b1o, Int32.zero_add, vu_vu, upd_eq, upd_ne, true_or, or_true, V1.r1, V1.r2, V1.r3, V1.r4, V1.r16, V1.r17, V1.r18, V1.r19, V1.r20, V1.r23, V1.r24, V1.r25, V1.r26, V1.r27, V1.r28, V1.r29, V1.r30, V1.c172, V1.c173, V1.c174, V1.c186, V1.c187, V1.c188, V1.n5, V1.n13, V1.n14, V1.i0, V1.i5, V1.i6, V1.i7, V1.i8, V1.i9, V1.i10, V1.i11, V1.i12, V1.i13, V1.i14, V1.i15, V1.i21, V1.i22, Q1.f6, Q1.f7, Q1.f8, Q1.f9, Q1.f10, Q1.f11, Q1.f12, Q1.f15, Q1.c175, Q1.c176]
    exact ⟨sm1.tr (SM.up (by omega) (by omega)), Q1.s12, P.2⟩
  unfold ft at main
  by_cases h : c.2.2.1 = 25
  · rw [if_pos h] at main
    have h' : (c.2.2.1 = 25) = True := eq_true h
    simp (disch := first | omega | decide | assumption | exact Nat.le_of_ble_eq_true rfl) only [s182_0, s182_1, s182_4, s182_7, s182_8, s182_9, s182_10, s182_13, s182_15, s182_18, s182_19, ow_some, true_and, and_true, and_self, if_true, if_false, not_true, not_false_eq_true, Bool.false_eq_true, eq_self, Option.toList, List.cons_append, List.nil_append, ix_in, ix_cl, lt_in, lt_cl, lt_add, ix_one, vu_eq, vu_ne, arI_mk, arL_mk, arY_mZ, arY_mB, alen_mI, fld_sfl_ne, fld_sfl_same, Option.isSome_some, pok_i, b1z, b01, z10, b1o, Int32.zero_add, vu_vu, upd_eq, upd_ne, true_or, or_true, V.r1, V.r2, V.r3, V.r4, V.r16, V.r17, V.r18, V.r19, V.r20, V.r23, V.r24, V.r25, V.r26, V.r27, V.r28, V.r29, V.r30, V.c172, V.c173, V.c174, V.c186, V.c187, V.c188, V.n5, V.n13, V.n14, V.i0, V.i5, V.i6, V.i7, V.i8, V.i9, V.i10, V.i11, V.i12, V.i13, V.i14, V.i15, V.i21, V.i22, Q.f6, Q.f7, Q.f8, Q.f9, Q.f10, Q.f11, Q.f12, Q.f15, Q.c175, Q.c176, h']
    have := main 1 rfl
    unfold ft
    rw [if_pos h]
    exact this
  · rw [if_neg h] at main
    simp (disch := first | omega | decide | assumption | exact Nat.le_of_ble_eq_true rfl) only [s182_0, s182_1, s182_4, s182_7, s182_8, s182_9, s182_10, s182_13, s182_15, s182_22, ow_some, true_and, and_true, and_self, if_true, if_false, not_true, not_false_eq_true, Bool.false_eq_true, eq_self, Option.toList, List.cons_append, List.nil_append, ix_in, ix_cl, lt_in, lt_cl, lt_add, ix_one, vu_eq, vu_ne, arI_mk, arL_mk, arY_mZ, arY_mB, alen_mI, fld_sfl_ne, fld_sfl_same, Option.isSome_some, pok_i, b1z, b01, z10, b1o, Int32.zero_add, vu_vu, upd_eq, upd_ne, true_or, or_true, V.r1, V.r2, V.r3, V.r4, V.r16, V.r17, V.r18, V.r19, V.r20, V.r23, V.r24, V.r25, V.r26, V.r27, V.r28, V.r29, V.r30, V.c172, V.c173, V.c174, V.c186, V.c187, V.c188, V.n5, V.n13, V.n14, V.i0, V.i5, V.i6, V.i7, V.i8, V.i9, V.i10, V.i11, V.i12, V.i13, V.i14, V.i15, V.i21, V.i22, Q.f6, Q.f7, Q.f8, Q.f9, Q.f10, Q.f11, Q.f12, Q.f15, Q.c175, Q.c176, h]
    have := main w rfl
    unfold ft
    rw [if_neg h]
    exact this
theorem wth2 {a b v : Int32} : (a.toInt64 ≤ v.toInt64 ∧ v.toInt64 ≤ b.toInt64) = (a.toInt ≤ v.toInt ∧ v.toInt ≤ b.toInt) := by
  rw [Int64.le_iff_toInt_le, Int64.le_iff_toInt_le, Int32.toInt_toInt64, Int32.toInt_toInt64, Int32.toInt_toInt64]
theorem PC.takeY {X : Nat × (Nat → Int32)} {d N K : Nat} {f : Nat → e_C} {s : m_T} {fr ag : Nat → Int32} {sz : Nat} {c : Cu} {wa rd lo hi : Int32} {a3 : Value} (P : PC f s fr ag sz c 0 wa rd) (hk : c.2.2.1 = 23) (h : lo.toInt ≤ c.2.2.2.toInt ∧ c.2.2.2.toInt ≤ hi.toInt) : TT X (d + 6) 183 0 [.ref 171, .int lo, .int hi, a3] [] f N K (fun f' n' k' v => n' = N ∧ k' = K ∧ SM f f' ∧ PC f' s fr ag sz (nx s.2.2.1 sz c) 0 wa rd ∧ v = some (.int c.2.2.2)) := by
  have V := P.V
  have Q := P.1
  simp (disch := first | omega | decide | assumption | exact Nat.le_of_ble_eq_true rfl) only [s183_0, s183_1, ow_some, true_and, and_true, and_self, if_true, if_false, not_true, not_false_eq_true, Bool.false_eq_true, eq_self, Option.toList, List.cons_append, List.nil_append, ix_in, ix_cl, lt_in, lt_cl, lt_add, ix_one, vu_eq, vu_ne, arI_mk, arL_mk, arY_mZ, arY_mB, alen_mI, fld_sfl_ne, fld_sfl_same, Option.isSome_some, pok_i, b1z, b01, z10, b1o, Int32.zero_add, vu_vu, upd_eq, upd_ne, true_or, or_true, V.r1, V.r2, V.r3, V.r4, V.r16, V.r17, V.r18, V.r19, V.r20, V.r23, V.r24, V.r25, V.r26, V.r27, V.r28, V.r29, V.r30, V.c172, V.c173, V.c174, V.c186, V.c187, V.c188, V.n5, V.n13, V.n14, V.i0, V.i5, V.i6, V.i7, V.i8, V.i9, V.i10, V.i11, V.i12, V.i13, V.i14, V.i15, V.i21, V.i22, Q.f6, Q.f7, Q.f8, Q.f9, Q.f10, Q.f11, Q.f12, Q.f15, Q.c175, Q.c176]
  rw [p183_3 (cno_MR V.mr) (Nat.le_of_ble_eq_true rfl) P.is]
  have hk' : (c.2.2.1 = 23) = True := eq_true hk
  simp (disch := first | omega | decide | assumption | exact Nat.le_of_ble_eq_true rfl) only [s183_6, s183_9, s183_10, s183_14, s183_17, s183_18, s183_21, s183_22, s183_23, s183_24, s183_25, ow_some, true_and, and_true, and_self, if_true, if_false, not_true, not_false_eq_true, Bool.false_eq_true, eq_self, Option.toList, List.cons_append, List.nil_append, ix_in, ix_cl, lt_in, lt_cl, lt_add, ix_one, vu_eq, vu_ne, arI_mk, arL_mk, arY_mZ, arY_mB, alen_mI, fld_sfl_ne, fld_sfl_same, Option.isSome_some, pok_i, b1z, b01, z10, b1o, Int32.zero_add, vu_vu, upd_eq, upd_ne, true_or, or_true, V.r1, V.r2, V.r3, V.r4, V.r16, V.r17, V.r18, V.r19, V.r20, V.r23, V.r24, V.r25, V.r26, V.r27, V.r28, V.r29, V.r30, V.c172, V.c173, V.c174, V.c186, V.c187, V.c188, V.n5, V.n13, V.n14, V.i0, V.i5, V.i6, V.i7, V.i8, V.i9, V.i10, V.i11, V.i12, V.i13, V.i14, V.i15, V.i21, V.i22, Q.f6, Q.f7, Q.f8, Q.f9, Q.f10, Q.f11, Q.f12, Q.f15, Q.c175, Q.c176, hk']
  rw [p183_26 (Nat.le_of_ble_eq_true rfl) sp_within]
  simp only [wth2]
  simp (disch := first | omega | decide | assumption | exact Nat.le_of_ble_eq_true rfl) only [s183_29, s183_32, s183_33, s183_37, s183_38, s183_41, s183_42, s183_43, s183_46, s183_49, ow_some, true_and, and_true, and_self, if_true, if_false, not_true, not_false_eq_true, Bool.false_eq_true, eq_self, Option.toList, List.cons_append, List.nil_append, ix_in, ix_cl, lt_in, lt_cl, lt_add, ix_one, vu_eq, vu_ne, arI_mk, arL_mk, arY_mZ, arY_mB, alen_mI, fld_sfl_ne, fld_sfl_same, Option.isSome_some, pok_i, b1z, b01, z10, b1o, Int32.zero_add, vu_vu, upd_eq, upd_ne, true_or, or_true, V.r1, V.r2, V.r3, V.r4, V.r16, V.r17, V.r18, V.r19, V.r20, V.r23, V.r24, V.r25, V.r26, V.r27, V.r28, V.r29, V.r30, V.c172, V.c173, V.c174, V.c186, V.c187, V.c188, V.n5, V.n13, V.n14, V.i0, V.i5, V.i6, V.i7, V.i8, V.i9, V.i10, V.i11, V.i12, V.i13, V.i14, V.i15, V.i21, V.i22, Q.f6, Q.f7, Q.f8, Q.f9, Q.f10, Q.f11, Q.f12, Q.f15, Q.c175, Q.c176, h]
  refine k183_50 (cno_MR V.mr) (Nat.le_of_ble_eq_true rfl) P.next ?_
  rintro f1 n1 k1 v1 ⟨rfl, rfl, rfl, sm1, P1⟩
  simp (disch := first | omega | decide | assumption | exact Nat.le_of_ble_eq_true rfl) only [s183_53, s183_54, ow_some, true_and, and_true, and_self, if_true, if_false, not_true, not_false_eq_true, Bool.false_eq_true, eq_self, Option.toList, List.cons_append, List.nil_append, ix_in, ix_cl, lt_in, lt_cl, lt_add, ix_one, vu_eq, vu_ne, arI_mk, arL_mk, arY_mZ, arY_mB, alen_mI, fld_sfl_ne, fld_sfl_same, Option.isSome_some, pok_i, b1z, b01, z10, b1o, Int32.zero_add, vu_vu, upd_eq, upd_ne, true_or, or_true]
  exact ⟨sm1, P1⟩
/-- why a number can't be taken -/
def tkf (c : Cu) (lo hi : Int32) : Int32 := if c.2.2.1 = 23 then 3 else ft 2 c.2.2.1
theorem ft_ne {w kd : Int32} (h : w ≠ 0) : ft w kd ≠ 0 := by
  unfold ft; split
  · decide
  · exact h
theorem PC.takeN {X : Nat × (Nat → Int32)} {d N K : Nat} {f : Nat → e_C} {s : m_T} {fr ag : Nat → Int32} {sz : Nat} {c : Cu} {wa rd lo hi : Int32} {a3 : Value} (P : PC f s fr ag sz c 0 wa rd) (hk : ¬ (c.2.2.1 = 23 ∧ lo.toInt ≤ c.2.2.2.toInt ∧ c.2.2.2.toInt ≤ hi.toInt)) : TT X (d + 6) 183 0 [.ref 171, .int lo, .int hi, a3] [] f N K (fun f' n' k' v => n' = N ∧ k' = K ∧ SM f f' ∧ PC f' s fr ag sz c (tkf c lo hi) (nI c.1) rd ∧ v = some (.int c.2.2.2)) := by
  have V := P.V
  have Q := P.1
  simp (disch := first | omega | decide | assumption | exact Nat.le_of_ble_eq_true rfl) only [s183_0, s183_1, ow_some, true_and, and_true, and_self, if_true, if_false, not_true, not_false_eq_true, Bool.false_eq_true, eq_self, Option.toList, List.cons_append, List.nil_append, ix_in, ix_cl, lt_in, lt_cl, lt_add, ix_one, vu_eq, vu_ne, arI_mk, arL_mk, arY_mZ, arY_mB, alen_mI, fld_sfl_ne, fld_sfl_same, Option.isSome_some, pok_i, b1z, b01, z10, b1o, Int32.zero_add, vu_vu, upd_eq, upd_ne, true_or, or_true, V.r1, V.r2, V.r3, V.r4, V.r16, V.r17, V.r18, V.r19, V.r20, V.r23, V.r24, V.r25, V.r26, V.r27, V.r28, V.r29, V.r30, V.c172, V.c173, V.c174, V.c186, V.c187, V.c188, V.n5, V.n13, V.n14, V.i0, V.i5, V.i6, V.i7, V.i8, V.i9, V.i10, V.i11, V.i12, V.i13, V.i14, V.i15, V.i21, V.i22, Q.f6, Q.f7, Q.f8, Q.f9, Q.f10, Q.f11, Q.f12, Q.f15, Q.c175, Q.c176]
  rw [p183_3 (cno_MR V.mr) (Nat.le_of_ble_eq_true rfl) P.is]
  unfold tkf
  by_cases h1 : c.2.2.1 = 23
  · have h1' : (c.2.2.1 = 23) = True := eq_true h1
    simp (disch := first | omega | decide | assumption | exact Nat.le_of_ble_eq_true rfl) only [s183_6, s183_9, s183_10, s183_14, s183_17, s183_18, s183_21, s183_22, s183_23, s183_24, s183_25, ow_some, true_and, and_true, and_self, if_true, if_false, not_true, not_false_eq_true, Bool.false_eq_true, eq_self, Option.toList, List.cons_append, List.nil_append, ix_in, ix_cl, lt_in, lt_cl, lt_add, ix_one, vu_eq, vu_ne, arI_mk, arL_mk, arY_mZ, arY_mB, alen_mI, fld_sfl_ne, fld_sfl_same, Option.isSome_some, pok_i, b1z, b01, z10, b1o, Int32.zero_add, vu_vu, upd_eq, upd_ne, true_or, or_true, V.r1, V.r2, V.r3, V.r4, V.r16, V.r17, V.r18, V.r19, V.r20, V.r23, V.r24, V.r25, V.r26, V.r27, V.r28, V.r29, V.r30, V.c172, V.c173, V.c174, V.c186, V.c187, V.c188, V.n5, V.n13, V.n14, V.i0, V.i5, V.i6, V.i7, V.i8, V.i9, V.i10, V.i11, V.i12, V.i13, V.i14, V.i15, V.i21, V.i22, Q.f6, Q.f7, Q.f8, Q.f9, Q.f10, Q.f11, Q.f12, Q.f15, Q.c175, Q.c176, h1']
    rw [p183_26 (Nat.le_of_ble_eq_true rfl) sp_within]
    simp only [wth2]
    have h2 : (lo.toInt ≤ c.2.2.2.toInt ∧ c.2.2.2.toInt ≤ hi.toInt) = False := eq_false (fun z => hk ⟨h1, z⟩)
    simp (disch := first | omega | decide | assumption | exact Nat.le_of_ble_eq_true rfl) only [s183_29, s183_32, s183_33, ow_some, true_and, and_true, and_self, if_true, if_false, not_true, not_false_eq_true, Bool.false_eq_true, eq_self, Option.toList, List.cons_append, List.nil_append, ix_in, ix_cl, lt_in, lt_cl, lt_add, ix_one, vu_eq, vu_ne, arI_mk, arL_mk, arY_mZ, arY_mB, alen_mI, fld_sfl_ne, fld_sfl_same, Option.isSome_some, pok_i, b1z, b01, z10, b1o, Int32.zero_add, vu_vu, upd_eq, upd_ne, true_or, or_true, V.r1, V.r2, V.r3, V.r4, V.r16, V.r17, V.r18, V.r19, V.r20, V.r23, V.r24, V.r25, V.r26, V.r27, V.r28, V.r29, V.r30, V.c172, V.c173, V.c174, V.c186, V.c187, V.c188, V.n5, V.n13, V.n14, V.i0, V.i5, V.i6, V.i7, V.i8, V.i9, V.i10, V.i11, V.i12, V.i13, V.i14, V.i15, V.i21, V.i22, Q.f6, Q.f7, Q.f8, Q.f9, Q.f10, Q.f11, Q.f12, Q.f15, Q.c175, Q.c176, h2]
    refine k183_34 (cno_MR V.mr) (Nat.le_of_ble_eq_true rfl) (P.fail (w := 3)) ?_
    rintro f1 n1 k1 v1 ⟨rfl, rfl, rfl, sm1, P1⟩
    have V1 := P1.V
    have Q1 := P1.1
    have hft : ft 3 c.2.2.1 = 3 := by unfold ft; rw [h1]; decide
    rw [hft] at P1 Q1
    have t3 : ((3 : Int32) = 0) = False := eq_false (by decide)
    simp (disch := first | omega | decide | assumption | exact Nat.le_of_ble_eq_true rfl) only [s183_37, s183_38, s183_41, s183_42, s183_43, s183_46, s183_49, s183_53, s183_54, ow_some, true_and, and_true, and_self, if_true, if_false, not_true, not_false_eq_true, Bool.false_eq_true, eq_self, Option.toList, List.cons_append, List.nil_append, ix_in, ix_cl, lt_in, lt_cl, lt_add, ix_one, vu_eq, vu_ne, arI_mk, arL_mk, arY_mZ, arY_mB, alen_mI, fld_sfl_ne, fld_sfl_same, Option.isSome_some, pok_i, b1z, b01, z10, b1o, Int32.zero_add, vu_vu, upd_eq, upd_ne, true_or, or_true, V1.r1, V1.r2, V1.r3, V1.r4, V1.r16, V1.r17, V1.r18, V1.r19, V1.r20, V1.r23, V1.r24, V1.r25, V1.r26, V1.r27, V1.r28, V1.r29, V1.r30, V1.c172, V1.c173, V1.c174, V1.c186, V1.c187, V1.c188, V1.n5, V1.n13, V1.n14, V1.i0, V1.i5, V1.i6, V1.i7, V1.i8, V1.i9, V1.i10, V1.i11, V1.i12, V1.i13, V1.i14, V1.i15, V1.i21, V1.i22, Q1.f6, Q1.f7, Q1.f8, Q1.f9, Q1.f10, Q1.f11, Q1.f12, Q1.f15, Q1.c175, Q1.c176, t3]
    exact ⟨sm1, P1⟩
  · simp (disch := first | omega | decide | assumption | exact Nat.le_of_ble_eq_true rfl) only [s183_6, s183_9, s183_10, ow_some, true_and, and_true, and_self, if_true, if_false, not_true, not_false_eq_true, Bool.false_eq_true, eq_self, Option.toList, List.cons_append, List.nil_append, ix_in, ix_cl, lt_in, lt_cl, lt_add, ix_one, vu_eq, vu_ne, arI_mk, arL_mk, arY_mZ, arY_mB, alen_mI, fld_sfl_ne, fld_sfl_same, Option.isSome_some, pok_i, b1z, b01, z10, b1o, Int32.zero_add, vu_vu, upd_eq, upd_ne, true_or, or_true, V.r1, V.r2, V.r3, V.r4, V.r16, V.r17, V.r18, V.r19, V.r20, V.r23, V.r24, V.r25, V.r26, V.r27, V.r28, V.r29, V.r30, V.c172, V.c173, V.c174, V.c186, V.c187, V.c188, V.n5, V.n13, V.n14, V.i0, V.i5, V.i6, V.i7, V.i8, V.i9, V.i10, V.i11, V.i12, V.i13, V.i14, V.i15, V.i21, V.i22, Q.f6, Q.f7, Q.f8, Q.f9, Q.f10, Q.f11, Q.f12, Q.f15, Q.c175, Q.c176, h1, and_false]
    refine k183_11 (cno_MR V.mr) (Nat.le_of_ble_eq_true rfl) (P.fail (w := 2)) ?_
    rintro f1 n1 k1 v1 ⟨rfl, rfl, rfl, sm1, P1⟩
    have V1 := P1.V
    have Q1 := P1.1
    have t3 : (ft 2 c.2.2.1 = 0) = False := eq_false (ft_ne (by decide))
    simp (disch := first | omega | decide | assumption | exact Nat.le_of_ble_eq_true rfl) only [s183_14, s183_37, s183_38, s183_41, s183_42, s183_43, s183_46, s183_49, s183_53, s183_54, ow_some, true_and, and_true, and_self, if_true, if_false, not_true, not_false_eq_true, Bool.false_eq_true, eq_self, Option.toList, List.cons_append, List.nil_append, ix_in, ix_cl, lt_in, lt_cl, lt_add, ix_one, vu_eq, vu_ne, arI_mk, arL_mk, arY_mZ, arY_mB, alen_mI, fld_sfl_ne, fld_sfl_same, Option.isSome_some, pok_i, b1z, b01, z10, b1o, Int32.zero_add, vu_vu, upd_eq, upd_ne, true_or, or_true, V1.r1, V1.r2, V1.r3, V1.r4, V1.r16, V1.r17, V1.r18, V1.r19, V1.r20, V1.r23, V1.r24, V1.r25, V1.r26, V1.r27, V1.r28, V1.r29, V1.r30, V1.c172, V1.c173, V1.c174, V1.c186, V1.c187, V1.c188, V1.n5, V1.n13, V1.n14, V1.i0, V1.i5, V1.i6, V1.i7, V1.i8, V1.i9, V1.i10, V1.i11, V1.i12, V1.i13, V1.i14, V1.i15, V1.i21, V1.i22, Q1.f6, Q1.f7, Q1.f8, Q1.f9, Q1.f10, Q1.f11, Q1.f12, Q1.f15, Q1.c175, Q1.c176, t3]
    exact ⟨sm1, P1⟩
theorem PC.takeE {X : Nat × (Nat → Int32)} {d N K : Nat} {f : Nat → e_C} {s : m_T} {fr ag : Nat → Int32} {sz : Nat} {c : Cu} {wr wa rd lo hi : Int32} {a3 : Value} (P : PC f s fr ag sz c wr wa rd) (hw : ¬ wr = 0) : PU X (d + 1) 183 [.ref 171, .int lo, .int hi, a3] f N K (some (.int c.2.2.2)) := by
  unfold PU
  have V := P.V
  have Q := P.1
  simp (disch := first | omega | decide | assumption | exact Nat.le_of_ble_eq_true rfl) only [s183_0, s183_1, ow_some, true_and, and_true, and_self, if_true, if_false, not_true, not_false_eq_true, Bool.false_eq_true, eq_self, Option.toList, List.cons_append, List.nil_append, ix_in, ix_cl, lt_in, lt_cl, lt_add, ix_one, vu_eq, vu_ne, arI_mk, arL_mk, arY_mZ, arY_mB, alen_mI, fld_sfl_ne, fld_sfl_same, Option.isSome_some, pok_i, b1z, b01, z10, b1o, Int32.zero_add, vu_vu, upd_eq, upd_ne, true_or, or_true, V.r1, V.r2, V.r3, V.r4, V.r16, V.r17, V.r18, V.r19, V.r20, V.r23, V.r24, V.r25, V.r26, V.r27, V.r28, V.r29, V.r30, V.c172, V.c173, V.c174, V.c186, V.c187, V.c188, V.n5, V.n13, V.n14, V.i0, V.i5, V.i6, V.i7, V.i8, V.i9, V.i10, V.i11, V.i12, V.i13, V.i14, V.i15, V.i21, V.i22, Q.f6, Q.f7, Q.f8, Q.f9, Q.f10, Q.f11, Q.f12, Q.f15, Q.c175, Q.c176]
  rw [p183_3 (cno_MR V.mr) (Nat.le_of_ble_eq_true rfl) P.is]
  simp (disch := first | omega | decide | assumption | exact Nat.le_of_ble_eq_true rfl) only [s183_6, s183_9, s183_10, ow_some, true_and, and_true, and_self, if_true, if_false, not_true, not_false_eq_true, Bool.false_eq_true, eq_self, Option.toList, List.cons_append, List.nil_append, ix_in, ix_cl, lt_in, lt_cl, lt_add, ix_one, vu_eq, vu_ne, arI_mk, arL_mk, arY_mZ, arY_mB, alen_mI, fld_sfl_ne, fld_sfl_same, Option.isSome_some, pok_i, b1z, b01, z10, b1o, Int32.zero_add, vu_vu, upd_eq, upd_ne, true_or, or_true, V.r1, V.r2, V.r3, V.r4, V.r16, V.r17, V.r18, V.r19, V.r20, V.r23, V.r24, V.r25, V.r26, V.r27, V.r28, V.r29, V.r30, V.c172, V.c173, V.c174, V.c186, V.c187, V.c188, V.n5, V.n13, V.n14, V.i0, V.i5, V.i6, V.i7, V.i8, V.i9, V.i10, V.i11, V.i12, V.i13, V.i14, V.i15, V.i21, V.i22, Q.f6, Q.f7, Q.f8, Q.f9, Q.f10, Q.f11, Q.f12, Q.f15, Q.c175, Q.c176, hw, false_and]
  rw [p183_11 (cno_MR V.mr) (Nat.le_of_ble_eq_true rfl) (P.failE hw)]
  simp (disch := first | omega | decide | assumption | exact Nat.le_of_ble_eq_true rfl) only [s183_14, s183_37, s183_38, s183_41, s183_42, s183_43, s183_46, s183_49, s183_53, s183_54, ow_some, true_and, and_true, and_self, if_true, if_false, not_true, not_false_eq_true, Bool.false_eq_true, eq_self, Option.toList, List.cons_append, List.nil_append, ix_in, ix_cl, lt_in, lt_cl, lt_add, ix_one, vu_eq, vu_ne, arI_mk, arL_mk, arY_mZ, arY_mB, alen_mI, fld_sfl_ne, fld_sfl_same, Option.isSome_some, pok_i, b1z, b01, z10, b1o, Int32.zero_add, vu_vu, upd_eq, upd_ne, true_or, or_true, V.r1, V.r2, V.r3, V.r4, V.r16, V.r17, V.r18, V.r19, V.r20, V.r23, V.r24, V.r25, V.r26, V.r27, V.r28, V.r29, V.r30, V.c172, V.c173, V.c174, V.c186, V.c187, V.c188, V.n5, V.n13, V.n14, V.i0, V.i5, V.i6, V.i7, V.i8, V.i9, V.i10, V.i11, V.i12, V.i13, V.i14, V.i15, V.i21, V.i22, Q.f6, Q.f7, Q.f8, Q.f9, Q.f10, Q.f11, Q.f12, Q.f15, Q.c175, Q.c176, hw]

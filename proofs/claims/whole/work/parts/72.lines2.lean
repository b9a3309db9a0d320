/-! the reference reads couples, persons -/
def wdB (fr : Nat → Int32) (R q : Nat) : Bool := decide (q < R) && !decide (fr (43 + q) = -1)
theorem wdB_if {fr : Nat → Int32} {R q : Nat} : (if q < R ∧ fr (43 + q) ≠ -1 then (1 : Int32) else 0) = if wdB fr R q = true then 1 else 0 := by
  unfold wdB
  by_cases h1 : q < R
  · by_cases h2 : fr (43 + q) = -1
    · simp [h1, h2]
    · simp [h1, h2]
  · simp [h1]
/-- a number of one whom no couple has yet -/
def l_one (c : Cu) (fr : Nat → Int32) (R : Nat) (not : Option Nat) : Option (Int32 × Nat) := if c.2.2.1 = 23 ∧ (not = some c.2.2.2.toInt.toNat ∨ wdB fr R c.2.2.2.toInt.toNat = true) then some (3, c.1) else if tko c 0 ((R : Int) - 1) = true then none else some (tkw c, c.1)
def l_couple (tx : Nat → Int32) (sz R : Nat) (c : Cu) (fr ag : Nat → Int32) : Lr := match l_one (nx tx sz c) fr R none with
  | some e => .inr e
  | none => match l_one (nx tx sz (nx tx sz c)) fr R (some (nx tx sz c).2.2.2.toInt.toNat) with
    | some e => .inr e
    | none => .inl (nx tx sz (nx tx sz (nx tx sz c)), upd (upd fr (43 + (nx tx sz c).2.2.2.toInt.toNat) (nx tx sz (nx tx sz c)).2.2.2) (43 + (nx tx sz (nx tx sz c)).2.2.2.toInt.toNat) (nx tx sz c).2.2.2, ag)
/-- numbers of the text are from 0 to 999 -/
def cnm (c : Cu) : Prop := c.2.2.1 = 23 → ∃ q, q < 1000 ∧ c.2.2.2 = nI q
theorem r_1 : ∀ R, R < 10 → (nI R - 1).toInt = (R : Int) - 1 := by decide
theorem PC.couple {X : Nat × (Nat → Int32)} {d N K : Nat} {f : Nat → e_C} {s : m_T} {fr ag : Nat → Int32} {sz R : Nat} {c : Cu} {wa rd : Int32} {a1 a2 : Value} (P : PC f s fr ag sz c 0 wa rd) (hR : fr 52 = nI R) (h9 : R ≤ 9) (hn1 : cnm (nx s.2.2.1 sz c)) (hn2 : cnm (nx s.2.2.1 sz (nx s.2.2.1 sz c))) : TT X (d + 8) 189 0 [.ref 171, a1, a2] [] f N K (PL f s sz N K (l_couple s.2.2.1 sz R c fr ag)) := by
  have V := P.V
  have r1 := r_1 R (by omega)
  obtain ⟨res, hres⟩ : ∃ res, l_couple s.2.2.1 sz R c fr ag = res := ⟨_, rfl⟩
  rw [hres]
  unfold l_couple at hres
  simp (disch := first | omega | decide | assumption | exact Nat.le_of_ble_eq_true rfl) only [s189_0, ow_some, true_and, and_true, and_self, if_true, if_false, not_true, not_false_eq_true, Bool.false_eq_true, eq_self, Option.toList, List.cons_append, List.nil_append, ix_in, ix_cl, lt_in, lt_cl, lt_add, ix_one, vu_eq, vu_ne, arI_mk, arL_mk, arY_mZ, arY_mB, alen_mI, fld_sfl_ne, fld_sfl_same, Option.isSome_some, pok_i, b1z, b01, z10, b1o, Int32.zero_add, vu_vu, upd_eq, upd_ne, true_or, or_true, V.r1, V.r2, V.r3, V.r4, V.r16, V.r17, V.r18, V.r19, V.r20, V.r23, V.r24, V.r25, V.r26, V.r27, V.r28, V.r29, V.r30, V.c172, V.c173, V.c174, V.c186, V.c187, V.c188, V.n5, V.n13, V.n14, V.i0, V.i5, V.i6, V.i7, V.i8, V.i9, V.i10, V.i11, V.i12, V.i13, V.i14, V.i15, V.i21, V.i22]
  refine k189_1 (cno_MR V.mr) (Nat.le_of_ble_eq_true rfl) P.next ?_
  rintro f1 n1 k1 v1 ⟨rfl, rfl, rfl, sm1, P1⟩
  have V1 := P1.V
  have Q1 := P1.1
  generalize nx s.2.2.1 sz c = c1 at P1 Q1 hn1 hn2 hres
  have e77 : ∀ (w : Int32) (p : Nat) (c' : Cu) f' rd' u1 u2, w ≠ 0 → SM f f' → PC f' s fr ag sz c' w (nI p) rd' → TT X (d + 8) 189 77 [.ref 171, u1, u2] [] f' n1 k1 (PL f s sz n1 k1 (.inr (w, p))) := by
    intro w p c' f' rd' u1 u2 hw sm P2
    have V2 := P2.V
    have Q2 := P2.1
    simp (disch := first | omega | decide | assumption | exact Nat.le_of_ble_eq_true rfl) only [s189_77, s189_78, s189_79, s189_80, s189_83, s189_85, s189_86, s189_87, ow_some, true_and, and_true, and_self, if_true, if_false, not_true, not_false_eq_true, Bool.false_eq_true, eq_self, Option.toList, List.cons_append, List.nil_append, ix_in, ix_cl, lt_in, lt_cl, lt_add, ix_one, vu_eq, vu_ne, arI_mk, arL_mk, arY_mZ, arY_mB, alen_mI, fld_sfl_ne, fld_sfl_same, Option.isSome_some, pok_i, b1z, b01, z10, b1o, Int32.zero_add, vu_vu, upd_eq, upd_ne, true_or, or_true, V2.r1, V2.r2, V2.r3, V2.r4, V2.r16, V2.r17, V2.r18, V2.r19, V2.r20, V2.r23, V2.r24, V2.r25, V2.r26, V2.r27, V2.r28, V2.r29, V2.r30, V2.c172, V2.c173, V2.c174, V2.c186, V2.c187, V2.c188, V2.n5, V2.n13, V2.n14, V2.i0, V2.i5, V2.i6, V2.i7, V2.i8, V2.i9, V2.i10, V2.i11, V2.i12, V2.i13, V2.i14, V2.i15, V2.i21, V2.i22, Q2.f6, Q2.f7, Q2.f8, Q2.f9, Q2.f10, Q2.f11, Q2.f12, Q2.f15, Q2.c175, Q2.c176, hR]
    rw [p189_88 (cno_MR V2.mr) (Nat.le_of_ble_eq_true rfl) (P2.takeE hw)]
    simp (disch := first | omega | decide | assumption | exact Nat.le_of_ble_eq_true rfl) only [s189_91, s189_92, s189_93, s189_96, s189_99, ow_some, true_and, and_true, and_self, if_true, if_false, not_true, not_false_eq_true, Bool.false_eq_true, eq_self, Option.toList, List.cons_append, List.nil_append, ix_in, ix_cl, lt_in, lt_cl, lt_add, ix_one, vu_eq, vu_ne, arI_mk, arL_mk, arY_mZ, arY_mB, alen_mI, fld_sfl_ne, fld_sfl_same, Option.isSome_some, pok_i, b1z, b01, z10, b1o, Int32.zero_add, vu_vu, upd_eq, upd_ne, true_or, or_true, V2.r1, V2.r2, V2.r3, V2.r4, V2.r16, V2.r17, V2.r18, V2.r19, V2.r20, V2.r23, V2.r24, V2.r25, V2.r26, V2.r27, V2.r28, V2.r29, V2.r30, V2.c172, V2.c173, V2.c174, V2.c186, V2.c187, V2.c188, V2.n5, V2.n13, V2.n14, V2.i0, V2.i5, V2.i6, V2.i7, V2.i8, V2.i9, V2.i10, V2.i11, V2.i12, V2.i13, V2.i14, V2.i15, V2.i21, V2.i22, Q2.f6, Q2.f7, Q2.f8, Q2.f9, Q2.f10, Q2.f11, Q2.f12, Q2.f15, Q2.c175, Q2.c176, hw]
    exact PL.er sm hw P2
  have e29 : ∀ (w : Int32) (p : Nat) (c' : Cu) f' rd' u1 u2, w ≠ 0 → SM f f' → PC f' s fr ag sz c' w (nI p) rd' → TT X (d + 8) 189 29 [.ref 171, u1, u2] [] f' n1 k1 (PL f s sz n1 k1 (.inr (w, p))) := by
    intro w p c' f' rd' u1 u2 hw sm P2
    have V2 := P2.V
    have Q2 := P2.1
    simp (disch := first | omega | decide | assumption | exact Nat.le_of_ble_eq_true rfl) only [s189_29, s189_30, s189_31, s189_32, s189_35, s189_37, s189_38, s189_39, ow_some, true_and, and_true, and_self, if_true, if_false, not_true, not_false_eq_true, Bool.false_eq_true, eq_self, Option.toList, List.cons_append, List.nil_append, ix_in, ix_cl, lt_in, lt_cl, lt_add, ix_one, vu_eq, vu_ne, arI_mk, arL_mk, arY_mZ, arY_mB, alen_mI, fld_sfl_ne, fld_sfl_same, Option.isSome_some, pok_i, b1z, b01, z10, b1o, Int32.zero_add, vu_vu, upd_eq, upd_ne, true_or, or_true, V2.r1, V2.r2, V2.r3, V2.r4, V2.r16, V2.r17, V2.r18, V2.r19, V2.r20, V2.r23, V2.r24, V2.r25, V2.r26, V2.r27, V2.r28, V2.r29, V2.r30, V2.c172, V2.c173, V2.c174, V2.c186, V2.c187, V2.c188, V2.n5, V2.n13, V2.n14, V2.i0, V2.i5, V2.i6, V2.i7, V2.i8, V2.i9, V2.i10, V2.i11, V2.i12, V2.i13, V2.i14, V2.i15, V2.i21, V2.i22, Q2.f6, Q2.f7, Q2.f8, Q2.f9, Q2.f10, Q2.f11, Q2.f12, Q2.f15, Q2.c175, Q2.c176, hR]
    rw [p189_40 (cno_MR V2.mr) (Nat.le_of_ble_eq_true rfl) (P2.takeE hw)]
    simp (disch := first | omega | decide | assumption | exact Nat.le_of_ble_eq_true rfl) only [s189_43, s189_44, s189_45, ow_some, true_and, and_true, and_self, if_true, if_false, not_true, not_false_eq_true, Bool.false_eq_true, eq_self, Option.toList, List.cons_append, List.nil_append, ix_in, ix_cl, lt_in, lt_cl, lt_add, ix_one, vu_eq, vu_ne, arI_mk, arL_mk, arY_mZ, arY_mB, alen_mI, fld_sfl_ne, fld_sfl_same, Option.isSome_some, pok_i, b1z, b01, z10, b1o, Int32.zero_add, vu_vu, upd_eq, upd_ne, true_or, or_true, V2.r1, V2.r2, V2.r3, V2.r4, V2.r16, V2.r17, V2.r18, V2.r19, V2.r20, V2.r23, V2.r24, V2.r25, V2.r26, V2.r27, V2.r28, V2.r29, V2.r30, V2.c172, V2.c173, V2.c174, V2.c186, V2.c187, V2.c188, V2.n5, V2.n13, V2.n14, V2.i0, V2.i5, V2.i6, V2.i7, V2.i8, V2.i9, V2.i10, V2.i11, V2.i12, V2.i13, V2.i14, V2.i15, V2.i21, V2.i22, Q2.f6, Q2.f7, Q2.f8, Q2.f9, Q2.f10, Q2.f11, Q2.f12, Q2.f15, Q2.c175, Q2.c176]
    rw [p189_47 (cno_MR V2.mr) (Nat.le_of_ble_eq_true rfl) P2.is]
    simp (disch := first | omega | decide | assumption | exact Nat.le_of_ble_eq_true rfl) only [s189_50, ow_some, true_and, and_true, and_self, if_true, if_false, not_true, not_false_eq_true, Bool.false_eq_true, eq_self, Option.toList, List.cons_append, List.nil_append, ix_in, ix_cl, lt_in, lt_cl, lt_add, ix_one, vu_eq, vu_ne, arI_mk, arL_mk, arY_mZ, arY_mB, alen_mI, fld_sfl_ne, fld_sfl_same, Option.isSome_some, pok_i, b1z, b01, z10, b1o, Int32.zero_add, vu_vu, upd_eq, upd_ne, true_or, or_true, V2.r1, V2.r2, V2.r3, V2.r4, V2.r16, V2.r17, V2.r18, V2.r19, V2.r20, V2.r23, V2.r24, V2.r25, V2.r26, V2.r27, V2.r28, V2.r29, V2.r30, V2.c172, V2.c173, V2.c174, V2.c186, V2.c187, V2.c188, V2.n5, V2.n13, V2.n14, V2.i0, V2.i5, V2.i6, V2.i7, V2.i8, V2.i9, V2.i10, V2.i11, V2.i12, V2.i13, V2.i14, V2.i15, V2.i21, V2.i22, hw, false_and]
    exact e77 w p c' f' rd' _ u2 hw sm P2
  -- behind the first number
  have e44 : ∀ (w : Int32) (p : Nat) (c' : Cu) f' rd' u1 u2, w ≠ 0 → SM f f' → PC f' s fr ag sz c' w (nI p) rd' → TT X (d + 8) 189 44 [.ref 171, u1, u2] [] f' n1 k1 (PL f s sz n1 k1 (.inr (w, p))) := by
    intro w p c' f' rd' u1 u2 hw sm P2
    have V2 := P2.V
    simp (disch := first | omega | decide | assumption | exact Nat.le_of_ble_eq_true rfl) only [s189_44, s189_45, ow_some, true_and, and_true, and_self, if_true, if_false, not_true, not_false_eq_true, Bool.false_eq_true, eq_self, Option.toList, List.cons_append, List.nil_append, ix_in, ix_cl, lt_in, lt_cl, lt_add, ix_one, vu_eq, vu_ne, arI_mk, arL_mk, arY_mZ, arY_mB, alen_mI, fld_sfl_ne, fld_sfl_same, Option.isSome_some, pok_i, b1z, b01, z10, b1o, Int32.zero_add, vu_vu, upd_eq, upd_ne, true_or, or_true, V2.r1, V2.r2, V2.r3, V2.r4, V2.r16, V2.r17, V2.r18, V2.r19, V2.r20, V2.r23, V2.r24, V2.r25, V2.r26, V2.r27, V2.r28, V2.r29, V2.r30, V2.c172, V2.c173, V2.c174, V2.c186, V2.c187, V2.c188, V2.n5, V2.n13, V2.n14, V2.i0, V2.i5, V2.i6, V2.i7, V2.i8, V2.i9, V2.i10, V2.i11, V2.i12, V2.i13, V2.i14, V2.i15, V2.i21, V2.i22]
    rw [p189_47 (cno_MR V2.mr) (Nat.le_of_ble_eq_true rfl) P2.is]
    simp (disch := first | omega | decide | assumption | exact Nat.le_of_ble_eq_true rfl) only [s189_50, ow_some, true_and, and_true, and_self, if_true, if_false, not_true, not_false_eq_true, Bool.false_eq_true, eq_self, Option.toList, List.cons_append, List.nil_append, ix_in, ix_cl, lt_in, lt_cl, lt_add, ix_one, vu_eq, vu_ne, arI_mk, arL_mk, arY_mZ, arY_mB, alen_mI, fld_sfl_ne, fld_sfl_same, Option.isSome_some, pok_i, b1z, b01, z10, b1o, Int32.zero_add, vu_vu, upd_eq, upd_ne, true_or, or_true, V2.r1, V2.r2, V2.r3, V2.r4, V2.r16, V2.r17, V2.r18, V2.r19, V2.r20, V2.r23, V2.r24, V2.r25, V2.r26, V2.r27, V2.r28, V2.r29, V2.r30, V2.c172, V2.c173, V2.c174, V2.c186, V2.c187, V2.c188, V2.n5, V2.n13, V2.n14, V2.i0, V2.i5, V2.i6, V2.i7, V2.i8, V2.i9, V2.i10, V2.i11, V2.i12, V2.i13, V2.i14, V2.i15, V2.i21, V2.i22, hw, false_and]
    exact e77 w p c' f' rd' u1 u2 hw sm P2
  have m29 : ∀ u1 u2, (c1.2.2.1 = 23 → wdB fr R c1.2.2.2.toInt.toNat = false) → TT X (d + 8) 189 29 [.ref 171, u1, u2] [] f1 n1 k1 (PL f s sz n1 k1 res) := by
    intro u1 u2 hnw
    have ho : ¬ (c1.2.2.1 = 23 ∧ (none = some c1.2.2.2.toInt.toNat ∨ wdB fr R c1.2.2.2.toInt.toNat = true)) := by
      rintro ⟨z1, z2 | z2⟩
      · cases z2
      · rw [hnw z1] at z2; exact absurd z2 (by decide)
    simp (disch := first | omega | decide | assumption | exact Nat.le_of_ble_eq_true rfl) only [s189_29, s189_30, s189_31, s189_32, s189_35, s189_37, s189_38, s189_39, ow_some, true_and, and_true, and_self, if_true, if_false, not_true, not_false_eq_true, Bool.false_eq_true, eq_self, Option.toList, List.cons_append, List.nil_append, ix_in, ix_cl, lt_in, lt_cl, lt_add, ix_one, vu_eq, vu_ne, arI_mk, arL_mk, arY_mZ, arY_mB, alen_mI, fld_sfl_ne, fld_sfl_same, Option.isSome_some, pok_i, b1z, b01, z10, b1o, Int32.zero_add, vu_vu, upd_eq, upd_ne, true_or, or_true, V1.r1, V1.r2, V1.r3, V1.r4, V1.r16, V1.r17, V1.r18, V1.r19, V1.r20, V1.r23, V1.r24, V1.r25, V1.r26, V1.r27, V1.r28, V1.r29, V1.r30, V1.c172, V1.c173, V1.c174, V1.c186, V1.c187, V1.c188, V1.n5, V1.n13, V1.n14, V1.i0, V1.i5, V1.i6, V1.i7, V1.i8, V1.i9, V1.i10, V1.i11, V1.i12, V1.i13, V1.i14, V1.i15, V1.i21, V1.i22, Q1.f6, Q1.f7, Q1.f8, Q1.f9, Q1.f10, Q1.f11, Q1.f12, Q1.f15, Q1.c175, Q1.c176, hR]
    unfold l_one at hres
    rw [if_neg ho] at hres
    by_cases t1 : tko c1 0 ((R : Int) - 1) = true
    · rw [if_pos t1] at hres
      rw [tko_iff] at t1
      refine k189_40 (cno_MR V1.mr) (Nat.le_of_ble_eq_true rfl) (P1.takeY t1.1 (by rw [r1, i999.2.1]; exact t1.2)) ?_
      rintro f2 n2 k2 v2 ⟨rfl, rfl, sm2, P2, rfl⟩
      have V2 := P2.V
      have Q2 := P2.1
      obtain ⟨q, hq, hq1, hq2⟩ := i9 (v := c1.2.2.2) (N := R) t1.2.1 (by have := t1.2.2; omega) (by omega)
      simp only at hres
      rw [hq2, Int.toNat_natCast] at hres
      generalize nx s.2.2.1 sz c1 = c2 at P2 Q2 hn2 hres
      simp (disch := first | omega | decide | assumption | exact Nat.le_of_ble_eq_true rfl) only [s189_43, s189_44, s189_45, ow_some, true_and, and_true, and_self, if_true, if_false, not_true, not_false_eq_true, Bool.false_eq_true, eq_self, Option.toList, List.cons_append, List.nil_append, ix_in, ix_cl, lt_in, lt_cl, lt_add, ix_one, vu_eq, vu_ne, arI_mk, arL_mk, arY_mZ, arY_mB, alen_mI, fld_sfl_ne, fld_sfl_same, Option.isSome_some, pok_i, b1z, b01, z10, b1o, Int32.zero_add, vu_vu, upd_eq, upd_ne, true_or, or_true, V2.r1, V2.r2, V2.r3, V2.r4, V2.r16, V2.r17, V2.r18, V2.r19, V2.r20, V2.r23, V2.r24, V2.r25, V2.r26, V2.r27, V2.r28, V2.r29, V2.r30, V2.c172, V2.c173, V2.c174, V2.c186, V2.c187, V2.c188, V2.n5, V2.n13, V2.n14, V2.i0, V2.i5, V2.i6, V2.i7, V2.i8, V2.i9, V2.i10, V2.i11, V2.i12, V2.i13, V2.i14, V2.i15, V2.i21, V2.i22, Q2.f6, Q2.f7, Q2.f8, Q2.f9, Q2.f10, Q2.f11, Q2.f12, Q2.f15, Q2.c175, Q2.c176, hq1]
      rw [p189_47 (cno_MR V2.mr) (Nat.le_of_ble_eq_true rfl) P2.is]
      -- the second number
      have m77 : (c2.2.2.1 = 23 → ¬ (some q = some c2.2.2.2.toInt.toNat ∨ wdB fr R c2.2.2.2.toInt.toNat = true)) → TT X (d + 8) 189 77 [.ref 171, .int (nI q), u2] [] f2 n2 k2 (PL f s sz n2 k2 res) := by
        intro hno
        rw [if_neg (fun z => hno z.1 z.2)] at hres
        simp (disch := first | omega | decide | assumption | exact Nat.le_of_ble_eq_true rfl) only [s189_77, s189_78, s189_79, s189_80, s189_83, s189_85, s189_86, s189_87, ow_some, true_and, and_true, and_self, if_true, if_false, not_true, not_false_eq_true, Bool.false_eq_true, eq_self, Option.toList, List.cons_append, List.nil_append, ix_in, ix_cl, lt_in, lt_cl, lt_add, ix_one, vu_eq, vu_ne, arI_mk, arL_mk, arY_mZ, arY_mB, alen_mI, fld_sfl_ne, fld_sfl_same, Option.isSome_some, pok_i, b1z, b01, z10, b1o, Int32.zero_add, vu_vu, upd_eq, upd_ne, true_or, or_true, V2.r1, V2.r2, V2.r3, V2.r4, V2.r16, V2.r17, V2.r18, V2.r19, V2.r20, V2.r23, V2.r24, V2.r25, V2.r26, V2.r27, V2.r28, V2.r29, V2.r30, V2.c172, V2.c173, V2.c174, V2.c186, V2.c187, V2.c188, V2.n5, V2.n13, V2.n14, V2.i0, V2.i5, V2.i6, V2.i7, V2.i8, V2.i9, V2.i10, V2.i11, V2.i12, V2.i13, V2.i14, V2.i15, V2.i21, V2.i22, Q2.f6, Q2.f7, Q2.f8, Q2.f9, Q2.f10, Q2.f11, Q2.f12, Q2.f15, Q2.c175, Q2.c176, hR]
        by_cases t2 : tko c2 0 ((R : Int) - 1) = true
        · rw [if_pos t2] at hres
          rw [tko_iff] at t2
          refine k189_88 (cno_MR V2.mr) (Nat.le_of_ble_eq_true rfl) (P2.takeY t2.1 (by rw [r1, i999.2.1]; exact t2.2)) ?_
          rintro f3 n3 k3 v3 ⟨rfl, rfl, sm3, P3, rfl⟩
          have V3 := P3.V
          have Q3 := P3.1
          obtain ⟨q', hq', hq1', hq2'⟩ := i9 (v := c2.2.2.2) (N := R) t2.2.1 (by have := t2.2.2; omega) (by omega)
          simp only at hres
          rw [hq2', Int.toNat_natCast, hq1', hq1] at hres
          rw [hq1']
          simp (disch := first | omega | decide | assumption | exact Nat.le_of_ble_eq_true rfl) only [s189_91, s189_92, s189_93, s189_96, s189_99, s189_100, s189_101, s189_104, s189_106, s189_107, s189_108, s189_109, s189_110, s189_111, s189_114, s189_116, s189_117, s189_118, s189_119, s189_120, ow_some, true_and, and_true, and_self, if_true, if_false, not_true, not_false_eq_true, Bool.false_eq_true, eq_self, Option.toList, List.cons_append, List.nil_append, ix_in, ix_cl, lt_in, lt_cl, lt_add, ix_one, vu_eq, vu_ne, arI_mk, arL_mk, arY_mZ, arY_mB, alen_mI, fld_sfl_ne, fld_sfl_same, Option.isSome_some, pok_i, b1z, b01, z10, b1o, Int32.zero_add, vu_vu, upd_eq, upd_ne, true_or, or_true, V3.r1, V3.r2, V3.r3, V3.r4, V3.r16, V3.r17, V3.r18, V3.r19, V3.r20, V3.r23, V3.r24, V3.r25, V3.r26, V3.r27, V3.r28, V3.r29, V3.r30, V3.c172, V3.c173, V3.c174, V3.c186, V3.c187, V3.c188, V3.n5, V3.n13, V3.n14, V3.i0, V3.i5, V3.i6, V3.i7, V3.i8, V3.i9, V3.i10, V3.i11, V3.i12, V3.i13, V3.i14, V3.i15, V3.i21, V3.i22, Q3.f6, Q3.f7, Q3.f8, Q3.f9, Q3.f10, Q3.f11, Q3.f12, Q3.f15, Q3.c175, Q3.c176]
          rw [← hres]
          exact PL.ok (((sm1.tr sm2).tr sm3).tr (SM.up (by omega) (by omega))) ⟨Q3.fr', P3.2⟩
        · rw [if_neg t2] at hres
          rw [tko_iff] at t2
          refine k189_88 (cno_MR V2.mr) (Nat.le_of_ble_eq_true rfl) (P2.takeN (by rw [r1, i999.2.1]; exact t2)) ?_
          rintro f3 n3 k3 v3 ⟨rfl, rfl, sm3, P3, rfl⟩
          have V3 := P3.V
          have Q3 := P3.1
          have hw : ¬ tkf c2 0 (nI R - 1) = 0 := tkw_ne
          simp (disch := first | omega | decide | assumption | exact Nat.le_of_ble_eq_true rfl) only [s189_91, s189_92, s189_93, s189_96, s189_99, ow_some, true_and, and_true, and_self, if_true, if_false, not_true, not_false_eq_true, Bool.false_eq_true, eq_self, Option.toList, List.cons_append, List.nil_append, ix_in, ix_cl, lt_in, lt_cl, lt_add, ix_one, vu_eq, vu_ne, arI_mk, arL_mk, arY_mZ, arY_mB, alen_mI, fld_sfl_ne, fld_sfl_same, Option.isSome_some, pok_i, b1z, b01, z10, b1o, Int32.zero_add, vu_vu, upd_eq, upd_ne, true_or, or_true, V3.r1, V3.r2, V3.r3, V3.r4, V3.r16, V3.r17, V3.r18, V3.r19, V3.r20, V3.r23, V3.r24, V3.r25, V3.r26, V3.r27, V3.r28, V3.r29, V3.r30, V3.c172, V3.c173, V3.c174, V3.c186, V3.c187, V3.c188, V3.n5, V3.n13, V3.n14, V3.i0, V3.i5, V3.i6, V3.i7, V3.i8, V3.i9, V3.i10, V3.i11, V3.i12, V3.i13, V3.i14, V3.i15, V3.i21, V3.i22, Q3.f6, Q3.f7, Q3.f8, Q3.f9, Q3.f10, Q3.f11, Q3.f12, Q3.f15, Q3.c175, Q3.c176, hw]
          rw [← hres]
          exact PL.er ((sm1.tr sm2).tr sm3) tkw_ne P3
      have bad : c2.2.2.1 = 23 → (some q = some c2.2.2.2.toInt.toNat ∨ wdB fr R c2.2.2.2.toInt.toNat = true) → TT X (d + 8) 189 72 [.ref 171, .int (nI q), u2] [] f2 n2 k2 (PL f s sz n2 k2 res) := by
        intro z1 z2
        rw [if_pos ⟨z1, z2⟩] at hres
        have hft : ft 3 c2.2.2.1 = 3 := by unfold ft; rw [z1]; decide
        simp (disch := first | omega | decide | assumption | exact Nat.le_of_ble_eq_true rfl) only [s189_72, s189_73, ow_some, true_and, and_true, and_self, if_true, if_false, not_true, not_false_eq_true, Bool.false_eq_true, eq_self, Option.toList, List.cons_append, List.nil_append, ix_in, ix_cl, lt_in, lt_cl, lt_add, ix_one, vu_eq, vu_ne, arI_mk, arL_mk, arY_mZ, arY_mB, alen_mI, fld_sfl_ne, fld_sfl_same, Option.isSome_some, pok_i, b1z, b01, z10, b1o, Int32.zero_add, vu_vu, upd_eq, upd_ne, true_or, or_true, V2.r1, V2.r2, V2.r3, V2.r4, V2.r16, V2.r17, V2.r18, V2.r19, V2.r20, V2.r23, V2.r24, V2.r25, V2.r26, V2.r27, V2.r28, V2.r29, V2.r30, V2.c172, V2.c173, V2.c174, V2.c186, V2.c187, V2.c188, V2.n5, V2.n13, V2.n14, V2.i0, V2.i5, V2.i6, V2.i7, V2.i8, V2.i9, V2.i10, V2.i11, V2.i12, V2.i13, V2.i14, V2.i15, V2.i21, V2.i22]
        refine k189_74 (cno_MR V2.mr) (Nat.le_of_ble_eq_true rfl) (P2.fail (w := 3)) ?_
        rintro f3 n3 k3 v3 ⟨rfl, rfl, rfl, sm3, P3⟩
        rw [hft] at P3
        rw [← hres]
        exact e77 3 _ _ f3 _ _ _ (by decide) ((sm1.tr sm2).tr sm3) P3
      by_cases h23 : c2.2.2.1 = 23
      · obtain ⟨q2, hq3, hq4⟩ := hn2 h23
        have hq5 : c2.2.2.2.toInt.toNat = q2 := by rw [hq4]; exact nI_tn (by omega)
        have h23' : (c2.2.2.1 = 23) = True := eq_true h23
        simp (disch := first | omega | decide | assumption | exact Nat.le_of_ble_eq_true rfl) only [s189_50, s189_53, s189_54, s189_57, ow_some, true_and, and_true, and_self, if_true, if_false, not_true, not_false_eq_true, Bool.false_eq_true, eq_self, Option.toList, List.cons_append, List.nil_append, ix_in, ix_cl, lt_in, lt_cl, lt_add, ix_one, vu_eq, vu_ne, arI_mk, arL_mk, arY_mZ, arY_mB, alen_mI, fld_sfl_ne, fld_sfl_same, Option.isSome_some, pok_i, b1z, b01, z10, b1o, Int32.zero_add, vu_vu, upd_eq, upd_ne, true_or, or_true, V2.r1, V2.r2, V2.r3, V2.r4, V2.r16, V2.r17, V2.r18, V2.r19, V2.r20, V2.r23, V2.r24, V2.r25, V2.r26, V2.r27, V2.r28, V2.r29, V2.r30, V2.c172, V2.c173, V2.c174, V2.c186, V2.c187, V2.c188, V2.n5, V2.n13, V2.n14, V2.i0, V2.i5, V2.i6, V2.i7, V2.i8, V2.i9, V2.i10, V2.i11, V2.i12, V2.i13, V2.i14, V2.i15, V2.i21, V2.i22, Q2.f6, Q2.f7, Q2.f8, Q2.f9, Q2.f10, Q2.f11, Q2.f12, Q2.f15, Q2.c175, Q2.c176, h23']
        by_cases hqq : q2 = q
        · have e1 : (nI q2 = nI q) = True := eq_true (by rw [hqq])
          simp (disch := first | omega | decide | assumption | exact Nat.le_of_ble_eq_true rfl) only [s189_58, ow_some, true_and, and_true, and_self, if_true, if_false, not_true, not_false_eq_true, Bool.false_eq_true, eq_self, Option.toList, List.cons_append, List.nil_append, ix_in, ix_cl, lt_in, lt_cl, lt_add, ix_one, vu_eq, vu_ne, arI_mk, arL_mk, arY_mZ, arY_mB, alen_mI, fld_sfl_ne, fld_sfl_same, Option.isSome_some, pok_i, b1z, b01, z10, b1o, Int32.zero_add, vu_vu, upd_eq, upd_ne, true_or, or_true, V2.r1, V2.r2, V2.r3, V2.r4, V2.r16, V2.r17, V2.r18, V2.r19, V2.r20, V2.r23, V2.r24, V2.r25, V2.r26, V2.r27, V2.r28, V2.r29, V2.r30, V2.c172, V2.c173, V2.c174, V2.c186, V2.c187, V2.c188, V2.n5, V2.n13, V2.n14, V2.i0, V2.i5, V2.i6, V2.i7, V2.i8, V2.i9, V2.i10, V2.i11, V2.i12, V2.i13, V2.i14, V2.i15, V2.i21, V2.i22, Q2.f6, Q2.f7, Q2.f8, Q2.f9, Q2.f10, Q2.f11, Q2.f12, Q2.f15, Q2.c175, Q2.c176, hq4, e1]
          exact bad h23 (Or.inl (by rw [hq5, hqq]))
        · have e1 : (nI q2 = nI q) = False := by rw [ix_eq (by omega) (by omega)]; exact eq_false hqq
          simp (disch := first | omega | decide | assumption | exact Nat.le_of_ble_eq_true rfl) only [s189_58, s189_61, s189_62, s189_63, ow_some, true_and, and_true, and_self, if_true, if_false, not_true, not_false_eq_true, Bool.false_eq_true, eq_self, Option.toList, List.cons_append, List.nil_append, ix_in, ix_cl, lt_in, lt_cl, lt_add, ix_one, vu_eq, vu_ne, arI_mk, arL_mk, arY_mZ, arY_mB, alen_mI, fld_sfl_ne, fld_sfl_same, Option.isSome_some, pok_i, b1z, b01, z10, b1o, Int32.zero_add, vu_vu, upd_eq, upd_ne, true_or, or_true, V2.r1, V2.r2, V2.r3, V2.r4, V2.r16, V2.r17, V2.r18, V2.r19, V2.r20, V2.r23, V2.r24, V2.r25, V2.r26, V2.r27, V2.r28, V2.r29, V2.r30, V2.c172, V2.c173, V2.c174, V2.c186, V2.c187, V2.c188, V2.n5, V2.n13, V2.n14, V2.i0, V2.i5, V2.i6, V2.i7, V2.i8, V2.i9, V2.i10, V2.i11, V2.i12, V2.i13, V2.i14, V2.i15, V2.i21, V2.i22, Q2.f6, Q2.f7, Q2.f8, Q2.f9, Q2.f10, Q2.f11, Q2.f12, Q2.f15, Q2.c175, Q2.c176, hq4, e1]
          rw [p189_66 (cno_MR V2.mr) (Nat.le_of_ble_eq_true rfl) (P2.wed hR h9 hq3), wdB_if]
          by_cases hwd : wdB fr R q2 = true
          · simp (disch := first | omega | decide | assumption | exact Nat.le_of_ble_eq_true rfl) only [s189_69, ow_some, true_and, and_true, and_self, if_true, if_false, not_true, not_false_eq_true, Bool.false_eq_true, eq_self, Option.toList, List.cons_append, List.nil_append, ix_in, ix_cl, lt_in, lt_cl, lt_add, ix_one, vu_eq, vu_ne, arI_mk, arL_mk, arY_mZ, arY_mB, alen_mI, fld_sfl_ne, fld_sfl_same, Option.isSome_some, pok_i, b1z, b01, z10, b1o, Int32.zero_add, vu_vu, upd_eq, upd_ne, true_or, or_true, V2.r1, V2.r2, V2.r3, V2.r4, V2.r16, V2.r17, V2.r18, V2.r19, V2.r20, V2.r23, V2.r24, V2.r25, V2.r26, V2.r27, V2.r28, V2.r29, V2.r30, V2.c172, V2.c173, V2.c174, V2.c186, V2.c187, V2.c188, V2.n5, V2.n13, V2.n14, V2.i0, V2.i5, V2.i6, V2.i7, V2.i8, V2.i9, V2.i10, V2.i11, V2.i12, V2.i13, V2.i14, V2.i15, V2.i21, V2.i22, hwd]
            exact bad h23 (Or.inr (by rw [hq5]; exact hwd))
          · simp (disch := first | omega | decide | assumption | exact Nat.le_of_ble_eq_true rfl) only [s189_69, ow_some, true_and, and_true, and_self, if_true, if_false, not_true, not_false_eq_true, Bool.false_eq_true, eq_self, Option.toList, List.cons_append, List.nil_append, ix_in, ix_cl, lt_in, lt_cl, lt_add, ix_one, vu_eq, vu_ne, arI_mk, arL_mk, arY_mZ, arY_mB, alen_mI, fld_sfl_ne, fld_sfl_same, Option.isSome_some, pok_i, b1z, b01, z10, b1o, Int32.zero_add, vu_vu, upd_eq, upd_ne, true_or, or_true, V2.r1, V2.r2, V2.r3, V2.r4, V2.r16, V2.r17, V2.r18, V2.r19, V2.r20, V2.r23, V2.r24, V2.r25, V2.r26, V2.r27, V2.r28, V2.r29, V2.r30, V2.c172, V2.c173, V2.c174, V2.c186, V2.c187, V2.c188, V2.n5, V2.n13, V2.n14, V2.i0, V2.i5, V2.i6, V2.i7, V2.i8, V2.i9, V2.i10, V2.i11, V2.i12, V2.i13, V2.i14, V2.i15, V2.i21, V2.i22, hwd]
            refine m77 (fun _ => ?_)
            rw [hq5]
            rintro (z | z)
            · exact hqq (Option.some.inj z).symm
            · exact hwd z
      · simp (disch := first | omega | decide | assumption | exact Nat.le_of_ble_eq_true rfl) only [s189_50, ow_some, true_and, and_true, and_self, if_true, if_false, not_true, not_false_eq_true, Bool.false_eq_true, eq_self, Option.toList, List.cons_append, List.nil_append, ix_in, ix_cl, lt_in, lt_cl, lt_add, ix_one, vu_eq, vu_ne, arI_mk, arL_mk, arY_mZ, arY_mB, alen_mI, fld_sfl_ne, fld_sfl_same, Option.isSome_some, pok_i, b1z, b01, z10, b1o, Int32.zero_add, vu_vu, upd_eq, upd_ne, true_or, or_true, V2.r1, V2.r2, V2.r3, V2.r4, V2.r16, V2.r17, V2.r18, V2.r19, V2.r20, V2.r23, V2.r24, V2.r25, V2.r26, V2.r27, V2.r28, V2.r29, V2.r30, V2.c172, V2.c173, V2.c174, V2.c186, V2.c187, V2.c188, V2.n5, V2.n13, V2.n14, V2.i0, V2.i5, V2.i6, V2.i7, V2.i8, V2.i9, V2.i10, V2.i11, V2.i12, V2.i13, V2.i14, V2.i15, V2.i21, V2.i22, h23, and_false]
        exact m77 (fun z => absurd z h23)
    · rw [if_neg t1] at hres
      rw [tko_iff] at t1
      refine k189_40 (cno_MR V1.mr) (Nat.le_of_ble_eq_true rfl) (P1.takeN (by rw [r1, i999.2.1]; exact t1)) ?_
      rintro f2 n2 k2 v2 ⟨rfl, rfl, sm2, P2, rfl⟩
      simp (disch := first | omega | decide | assumption | exact Nat.le_of_ble_eq_true rfl) only [s189_43, ow_some, true_and, and_true, and_self, if_true, if_false, not_true, not_false_eq_true, Bool.false_eq_true, eq_self, Option.toList, List.cons_append, List.nil_append, ix_in, ix_cl, lt_in, lt_cl, lt_add, ix_one, vu_eq, vu_ne, arI_mk, arL_mk, arY_mZ, arY_mB, alen_mI, fld_sfl_ne, fld_sfl_same, Option.isSome_some, pok_i, b1z, b01, z10, b1o, Int32.zero_add, vu_vu, upd_eq, upd_ne, true_or, or_true]
      rw [← hres]
      exact e44 _ _ _ f2 _ _ _ tkw_ne (sm1.tr sm2) P2
  simp (disch := first | omega | decide | assumption | exact Nat.le_of_ble_eq_true rfl) only [s189_4, s189_5, ow_some, true_and, and_true, and_self, if_true, if_false, not_true, not_false_eq_true, Bool.false_eq_true, eq_self, Option.toList, List.cons_append, List.nil_append, ix_in, ix_cl, lt_in, lt_cl, lt_add, ix_one, vu_eq, vu_ne, arI_mk, arL_mk, arY_mZ, arY_mB, alen_mI, fld_sfl_ne, fld_sfl_same, Option.isSome_some, pok_i, b1z, b01, z10, b1o, Int32.zero_add, vu_vu, upd_eq, upd_ne, true_or, or_true, V1.r1, V1.r2, V1.r3, V1.r4, V1.r16, V1.r17, V1.r18, V1.r19, V1.r20, V1.r23, V1.r24, V1.r25, V1.r26, V1.r27, V1.r28, V1.r29, V1.r30, V1.c172, V1.c173, V1.c174, V1.c186, V1.c187, V1.c188, V1.n5, V1.n13, V1.n14, V1.i0, V1.i5, V1.i6, V1.i7, V1.i8, V1.i9, V1.i10, V1.i11, V1.i12, V1.i13, V1.i14, V1.i15, V1.i21, V1.i22, Q1.f6, Q1.f7, Q1.f8, Q1.f9, Q1.f10, Q1.f11, Q1.f12, Q1.f15, Q1.c175, Q1.c176]
  rw [p189_7 (cno_MR V1.mr) (Nat.le_of_ble_eq_true rfl) P1.is]
  by_cases h23 : c1.2.2.1 = 23
  · obtain ⟨q, hq3, hq4⟩ := hn1 h23
    have hq5 : c1.2.2.2.toInt.toNat = q := by rw [hq4]; exact nI_tn (by omega)
    have h23' : (c1.2.2.1 = 23) = True := eq_true h23
    simp (disch := first | omega | decide | assumption | exact Nat.le_of_ble_eq_true rfl) only [s189_10, s189_13, s189_14, s189_15, ow_some, true_and, and_true, and_self, if_true, if_false, not_true, not_false_eq_true, Bool.false_eq_true, eq_self, Option.toList, List.cons_append, List.nil_append, ix_in, ix_cl, lt_in, lt_cl, lt_add, ix_one, vu_eq, vu_ne, arI_mk, arL_mk, arY_mZ, arY_mB, alen_mI, fld_sfl_ne, fld_sfl_same, Option.isSome_some, pok_i, b1z, b01, z10, b1o, Int32.zero_add, vu_vu, upd_eq, upd_ne, true_or, or_true, V1.r1, V1.r2, V1.r3, V1.r4, V1.r16, V1.r17, V1.r18, V1.r19, V1.r20, V1.r23, V1.r24, V1.r25, V1.r26, V1.r27, V1.r28, V1.r29, V1.r30, V1.c172, V1.c173, V1.c174, V1.c186, V1.c187, V1.c188, V1.n5, V1.n13, V1.n14, V1.i0, V1.i5, V1.i6, V1.i7, V1.i8, V1.i9, V1.i10, V1.i11, V1.i12, V1.i13, V1.i14, V1.i15, V1.i21, V1.i22, Q1.f6, Q1.f7, Q1.f8, Q1.f9, Q1.f10, Q1.f11, Q1.f12, Q1.f15, Q1.c175, Q1.c176, h23', hq4]
    rw [p189_18 (cno_MR V1.mr) (Nat.le_of_ble_eq_true rfl) (P1.wed hR h9 hq3), wdB_if]
    by_cases hwd : wdB fr R q = true
    · have hft : ft 3 c1.2.2.1 = 3 := by unfold ft; rw [h23]; decide
      simp (disch := first | omega | decide | assumption | exact Nat.le_of_ble_eq_true rfl) only [s189_21, s189_24, s189_25, ow_some, true_and, and_true, and_self, if_true, if_false, not_true, not_false_eq_true, Bool.false_eq_true, eq_self, Option.toList, List.cons_append, List.nil_append, ix_in, ix_cl, lt_in, lt_cl, lt_add, ix_one, vu_eq, vu_ne, arI_mk, arL_mk, arY_mZ, arY_mB, alen_mI, fld_sfl_ne, fld_sfl_same, Option.isSome_some, pok_i, b1z, b01, z10, b1o, Int32.zero_add, vu_vu, upd_eq, upd_ne, true_or, or_true, V1.r1, V1.r2, V1.r3, V1.r4, V1.r16, V1.r17, V1.r18, V1.r19, V1.r20, V1.r23, V1.r24, V1.r25, V1.r26, V1.r27, V1.r28, V1.r29, V1.r30, V1.c172, V1.c173, V1.c174, V1.c186, V1.c187, V1.c188, V1.n5, V1.n13, V1.n14, V1.i0, V1.i5, V1.i6, V1.i7, V1.i8, V1.i9, V1.i10, V1.i11, V1.i12, V1.i13, V1.i14, V1.i15, V1.i21, V1.i22, hwd]
      refine k189_26 (cno_MR V1.mr) (Nat.le_of_ble_eq_true rfl) (P1.fail (w := 3)) ?_
      rintro f2 n2 k2 v2 ⟨rfl, rfl, rfl, sm2, P2⟩
      rw [hft] at P2
      have ho : l_one c1 fr R none = some (3, c1.1) := by
        unfold l_one; rw [if_pos ⟨h23, Or.inr (by rw [hq5]; exact hwd)⟩]
      rw [ho] at hres
      rw [← hres]
      exact e29 3 _ _ f2 _ _ _ (by decide) (sm1.tr sm2) P2
    · simp (disch := first | omega | decide | assumption | exact Nat.le_of_ble_eq_true rfl) only [s189_21, ow_some, true_and, and_true, and_self, if_true, if_false, not_true, not_false_eq_true, Bool.false_eq_true, eq_self, Option.toList, List.cons_append, List.nil_append, ix_in, ix_cl, lt_in, lt_cl, lt_add, ix_one, vu_eq, vu_ne, arI_mk, arL_mk, arY_mZ, arY_mB, alen_mI, fld_sfl_ne, fld_sfl_same, Option.isSome_some, pok_i, b1z, b01, z10, b1o, Int32.zero_add, vu_vu, upd_eq, upd_ne, true_or, or_true, V1.r1, V1.r2, V1.r3, V1.r4, V1.r16, V1.r17, V1.r18, V1.r19, V1.r20, V1.r23, V1.r24, V1.r25, V1.r26, V1.r27, V1.r28, V1.r29, V1.r30, V1.c172, V1.c173, V1.c174, V1.c186, V1.c187, V1.c188, V1.n5, V1.n13, V1.n14, V1.i0, V1.i5, V1.i6, V1.i7, V1.i8, V1.i9, V1.i10, V1.i11, V1.i12, V1.i13, V1.i14, V1.i15, V1.i21, V1.i22, hwd]
      rw [Bool.not_eq_true] at hwd
      exact m29 _ _ (fun _ => by rw [hq5]; exact hwd)
  · simp (disch := first | omega | decide | assumption | exact Nat.le_of_ble_eq_true rfl) only [s189_10, ow_some, true_and, and_true, and_self, if_true, if_false, not_true, not_false_eq_true, Bool.false_eq_true, eq_self, Option.toList, List.cons_append, List.nil_append, ix_in, ix_cl, lt_in, lt_cl, lt_add, ix_one, vu_eq, vu_ne, arI_mk, arL_mk, arY_mZ, arY_mB, alen_mI, fld_sfl_ne, fld_sfl_same, Option.isSome_some, pok_i, b1z, b01, z10, b1o, Int32.zero_add, vu_vu, upd_eq, upd_ne, true_or, or_true, V1.r1, V1.r2, V1.r3, V1.r4, V1.r16, V1.r17, V1.r18, V1.r19, V1.r20, V1.r23, V1.r24, V1.r25, V1.r26, V1.r27, V1.r28, V1.r29, V1.r30, V1.c172, V1.c173, V1.c174, V1.c186, V1.c187, V1.c188, V1.n5, V1.n13, V1.n14, V1.i0, V1.i5, V1.i6, V1.i7, V1.i8, V1.i9, V1.i10, V1.i11, V1.i12, V1.i13, V1.i14, V1.i15, V1.i21, V1.i22, h23, and_false]
    exact m29 _ _ (fun z => absurd z h23)

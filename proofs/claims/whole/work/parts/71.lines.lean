/-! the reference reads lines -/
abbrev Lr : Type := (Cu × (Nat → Int32) × (Nat → Int32)) ⊕ (Int32 × Nat)
def PL (f : Nat → e_C) (s : m_T) (sz N K : Nat) (r : Lr) : t_Q := fun f' n' k' v => n' = N ∧ k' = K ∧ v = none ∧ SM f f' ∧ (∀ c fr ag, r = .inl (c, fr, ag) → ∃ wa rd, PC f' s fr ag sz c 0 wa rd) ∧ ∀ w p, r = .inr (w, p) → w ≠ 0 ∧ ∃ fr ag c rd, PC f' s fr ag sz c w (nI p) rd
theorem PL.ok {f f' : Nat → e_C} {s : m_T} {fr ag : Nat → Int32} {sz N K : Nat} {c : Cu} {wa rd : Int32} (sm : SM f f') (P : PC f' s fr ag sz c 0 wa rd) : PL f s sz N K (.inl (c, fr, ag)) f' N K none := ⟨rfl, rfl, rfl, sm, (fun c' fr' ag' h => by cases h; exact ⟨wa, rd, P⟩), (fun w p h => by cases h)⟩
theorem PL.er {f f' : Nat → e_C} {s : m_T} {fr ag : Nat → Int32} {sz N K p : Nat} {c : Cu} {w rd : Int32} (sm : SM f f') (hw : w ≠ 0) (P : PC f' s fr ag sz c w (nI p) rd) : PL f s sz N K (.inr (w, p)) f' N K none := ⟨rfl, rfl, rfl, sm, (fun c' fr' ag' h => by cases h), (fun w' p' h => by cases h; exact ⟨hw, fr, ag, c, rd, P⟩)⟩
/-- a number is there, from lo to hi -/
def tko (c : Cu) (lo hi : Int) : Bool := decide (c.2.2.1 = 23) && (decide (lo ≤ c.2.2.2.toInt) && decide (c.2.2.2.toInt ≤ hi))
theorem tko_iff {c : Cu} {lo hi : Int} : tko c lo hi = true ↔ (c.2.2.1 = 23 ∧ lo ≤ c.2.2.2.toInt ∧ c.2.2.2.toInt ≤ hi) := by
  unfold tko; simp only [Bool.and_eq_true, decide_eq_true_eq]
def tkw (c : Cu) : Int32 := if c.2.2.1 = 23 then 3 else ft 2 c.2.2.1
theorem tkw_ne {c : Cu} : tkw c ≠ 0 := by
  unfold tkw; split
  · decide
  · exact ft_ne (by decide)
def l_joint (tx : Nat → Int32) (sz S : Nat) (c : Cu) (fr ag : Nat → Int32) : Lr := if tko (nx tx sz c) 0 ((S : Int) - 2) then (if (nx tx sz (nx tx sz c)).2.2.1 = 2 then (if tko (nx tx sz (nx tx sz (nx tx sz c))) 0 999 then .inl (nx tx sz (nx tx sz (nx tx sz (nx tx sz c))), upd fr (17 + (nx tx sz c).2.2.2.toInt.toNat) (nx tx sz (nx tx sz (nx tx sz c))).2.2.2, ag) else .inr (tkw (nx tx sz (nx tx sz (nx tx sz c))), (nx tx sz (nx tx sz (nx tx sz c))).1)) else .inr (ft 2 (nx tx sz (nx tx sz c)).2.2.1, (nx tx sz (nx tx sz c)).1)) else .inr (tkw (nx tx sz c), (nx tx sz c).1)
theorem s_2 : ∀ S, S < 9 → 1 ≤ S → (nI S - 2).toInt = (S : Int) - 2 ∧ (nI S - 1).toInt = (S : Int) - 1 := by decide
theorem i999 : (999 : Int32).toInt = 999 ∧ (0 : Int32).toInt = 0 ∧ (99 : Int32).toInt = 99 ∧ (10 : Int32).toInt = 10 ∧ (9 : Int32).toInt = 9 ∧ (1 : Int32).toInt = 1 := by decide
theorem PC.joint {X : Nat × (Nat → Int32)} {d N K : Nat} {f : Nat → e_C} {s : m_T} {fr ag : Nat → Int32} {sz S : Nat} {c : Cu} {wa rd : Int32} {a1 a2 : Value} (P : PC f s fr ag sz c 0 wa rd) (hS : fr 1 = nI S) (h1 : 1 ≤ S) (h8 : S ≤ 8) : TT X (d + 8) 186 0 [.ref 171, a1, a2] [] f N K (PL f s sz N K (l_joint s.2.2.1 sz S c fr ag)) := by
  have V := P.V
  obtain ⟨s2, s1⟩ := s_2 S (by omega) h1
  simp (disch := first | omega | decide | assumption | exact Nat.le_of_ble_eq_true rfl) only [s186_0, ow_some, true_and, and_true, and_self, if_true, if_false, not_true, not_false_eq_true, Bool.false_eq_true, eq_self, Option.toList, List.cons_append, List.nil_append, ix_in, ix_cl, lt_in, lt_cl, lt_add, ix_one, vu_eq, vu_ne, arI_mk, arL_mk, arY_mZ, arY_mB, alen_mI, fld_sfl_ne, fld_sfl_same, Option.isSome_some, pok_i, b1z, b01, z10, b1o, Int32.zero_add, vu_vu, upd_eq, upd_ne, true_or, or_true, V.r1, V.r2, V.r3, V.r4, V.r16, V.r17, V.r18, V.r19, V.r20, V.r23, V.r24, V.r25, V.r26, V.r27, V.r28, V.r29, V.r30, V.c172, V.c173, V.c174, V.c186, V.c187, V.c188, V.n5, V.n13, V.n14, V.i0, V.i5, V.i6, V.i7, V.i8, V.i9, V.i10, V.i11, V.i12, V.i13, V.i14, V.i15, V.i21, V.i22]
  refine k186_1 (cno_MR V.mr) (Nat.le_of_ble_eq_true rfl) P.next ?_
  rintro f1 n1 k1 v1 ⟨rfl, rfl, rfl, sm1, P1⟩
  have V1 := P1.V
  have Q1 := P1.1
  unfold l_joint
  generalize nx s.2.2.1 sz c = c1 at P1 Q1 ⊢
  -- wrong behind the taken step
  have e31 : ∀ (w : Int32) (p : Nat) fr' (c' : Cu) f' rd' u1 u2, w ≠ 0 → SM f f' → PC f' s fr' ag sz c' w (nI p) rd' → TT X (d + 8) 186 31 [.ref 171, u1, u2] [] f' n1 k1 (PL f s sz n1 k1 (.inr (w, p))) := by
    intro w p fr' c' f' rd' u1 u2 hw sm P2
    have V2 := P2.V
    have Q2 := P2.1
    simp (disch := first | omega | decide | assumption | exact Nat.le_of_ble_eq_true rfl) only [s186_31, s186_32, s186_33, ow_some, true_and, and_true, and_self, if_true, if_false, not_true, not_false_eq_true, Bool.false_eq_true, eq_self, Option.toList, List.cons_append, List.nil_append, ix_in, ix_cl, lt_in, lt_cl, lt_add, ix_one, vu_eq, vu_ne, arI_mk, arL_mk, arY_mZ, arY_mB, alen_mI, fld_sfl_ne, fld_sfl_same, Option.isSome_some, pok_i, b1z, b01, z10, b1o, Int32.zero_add, vu_vu, upd_eq, upd_ne, true_or, or_true, V2.r1, V2.r2, V2.r3, V2.r4, V2.r16, V2.r17, V2.r18, V2.r19, V2.r20, V2.r23, V2.r24, V2.r25, V2.r26, V2.r27, V2.r28, V2.r29, V2.r30, V2.c172, V2.c173, V2.c174, V2.c186, V2.c187, V2.c188, V2.n5, V2.n13, V2.n14, V2.i0, V2.i5, V2.i6, V2.i7, V2.i8, V2.i9, V2.i10, V2.i11, V2.i12, V2.i13, V2.i14, V2.i15, V2.i21, V2.i22]
    rw [p186_36 (cno_MR V2.mr) (Nat.le_of_ble_eq_true rfl) (P2.takeE hw)]
    simp (disch := first | omega | decide | assumption | exact Nat.le_of_ble_eq_true rfl) only [s186_39, s186_40, s186_41, s186_44, s186_57, ow_some, true_and, and_true, and_self, if_true, if_false, not_true, not_false_eq_true, Bool.false_eq_true, eq_self, Option.toList, List.cons_append, List.nil_append, ix_in, ix_cl, lt_in, lt_cl, lt_add, ix_one, vu_eq, vu_ne, arI_mk, arL_mk, arY_mZ, arY_mB, alen_mI, fld_sfl_ne, fld_sfl_same, Option.isSome_some, pok_i, b1z, b01, z10, b1o, Int32.zero_add, vu_vu, upd_eq, upd_ne, true_or, or_true, V2.r1, V2.r2, V2.r3, V2.r4, V2.r16, V2.r17, V2.r18, V2.r19, V2.r20, V2.r23, V2.r24, V2.r25, V2.r26, V2.r27, V2.r28, V2.r29, V2.r30, V2.c172, V2.c173, V2.c174, V2.c186, V2.c187, V2.c188, V2.n5, V2.n13, V2.n14, V2.i0, V2.i5, V2.i6, V2.i7, V2.i8, V2.i9, V2.i10, V2.i11, V2.i12, V2.i13, V2.i14, V2.i15, V2.i21, V2.i22, Q2.f6, Q2.f7, Q2.f8, Q2.f9, Q2.f10, Q2.f11, Q2.f12, Q2.f15, Q2.c175, Q2.c176, hw]
    exact PL.er sm hw P2
  have e18 : ∀ (w : Int32) (p : Nat) fr' (c' : Cu) f' rd' u1 u2, w ≠ 0 → SM f f' → PC f' s fr' ag sz c' w (nI p) rd' → TT X (d + 8) 186 18 [.ref 171, u1, u2] [] f' n1 k1 (PL f s sz n1 k1 (.inr (w, p))) := by
    intro w p fr' c' f' rd' u1 u2 hw sm P2
    have V2 := P2.V
    simp (disch := first | omega | decide | assumption | exact Nat.le_of_ble_eq_true rfl) only [s186_18, s186_19, ow_some, true_and, and_true, and_self, if_true, if_false, not_true, not_false_eq_true, Bool.false_eq_true, eq_self, Option.toList, List.cons_append, List.nil_append, ix_in, ix_cl, lt_in, lt_cl, lt_add, ix_one, vu_eq, vu_ne, arI_mk, arL_mk, arY_mZ, arY_mB, alen_mI, fld_sfl_ne, fld_sfl_same, Option.isSome_some, pok_i, b1z, b01, z10, b1o, Int32.zero_add, vu_vu, upd_eq, upd_ne, true_or, or_true, V2.r1, V2.r2, V2.r3, V2.r4, V2.r16, V2.r17, V2.r18, V2.r19, V2.r20, V2.r23, V2.r24, V2.r25, V2.r26, V2.r27, V2.r28, V2.r29, V2.r30, V2.c172, V2.c173, V2.c174, V2.c186, V2.c187, V2.c188, V2.n5, V2.n13, V2.n14, V2.i0, V2.i5, V2.i6, V2.i7, V2.i8, V2.i9, V2.i10, V2.i11, V2.i12, V2.i13, V2.i14, V2.i15, V2.i21, V2.i22]
    rw [p186_20 (cno_MR V2.mr) (Nat.le_of_ble_eq_true rfl) (P2.eatN (fun z => hw z.1))]
    simp (disch := first | omega | decide | assumption | exact Nat.le_of_ble_eq_true rfl) only [s186_23, s186_26, s186_27, ow_some, true_and, and_true, and_self, if_true, if_false, not_true, not_false_eq_true, Bool.false_eq_true, eq_self, Option.toList, List.cons_append, List.nil_append, ix_in, ix_cl, lt_in, lt_cl, lt_add, ix_one, vu_eq, vu_ne, arI_mk, arL_mk, arY_mZ, arY_mB, alen_mI, fld_sfl_ne, fld_sfl_same, Option.isSome_some, pok_i, b1z, b01, z10, b1o, Int32.zero_add, vu_vu, upd_eq, upd_ne, true_or, or_true, V2.r1, V2.r2, V2.r3, V2.r4, V2.r16, V2.r17, V2.r18, V2.r19, V2.r20, V2.r23, V2.r24, V2.r25, V2.r26, V2.r27, V2.r28, V2.r29, V2.r30, V2.c172, V2.c173, V2.c174, V2.c186, V2.c187, V2.c188, V2.n5, V2.n13, V2.n14, V2.i0, V2.i5, V2.i6, V2.i7, V2.i8, V2.i9, V2.i10, V2.i11, V2.i12, V2.i13, V2.i14, V2.i15, V2.i21, V2.i22]
    rw [p186_28 (cno_MR V2.mr) (Nat.le_of_ble_eq_true rfl) (P2.failE hw)]
    simp only [Option.toList, List.nil_append]
    exact e31 w p fr' c' f' rd' u1 u2 hw sm P2
  simp (disch := first | omega | decide | assumption | exact Nat.le_of_ble_eq_true rfl) only [s186_4, s186_5, s186_6, s186_7, s186_10, s186_11, s186_12, s186_13, ow_some, true_and, and_true, and_self, if_true, if_false, not_true, not_false_eq_true, Bool.false_eq_true, eq_self, Option.toList, List.cons_append, List.nil_append, ix_in, ix_cl, lt_in, lt_cl, lt_add, ix_one, vu_eq, vu_ne, arI_mk, arL_mk, arY_mZ, arY_mB, alen_mI, fld_sfl_ne, fld_sfl_same, Option.isSome_some, pok_i, b1z, b01, z10, b1o, Int32.zero_add, vu_vu, upd_eq, upd_ne, true_or, or_true, V1.r1, V1.r2, V1.r3, V1.r4, V1.r16, V1.r17, V1.r18, V1.r19, V1.r20, V1.r23, V1.r24, V1.r25, V1.r26, V1.r27, V1.r28, V1.r29, V1.r30, V1.c172, V1.c173, V1.c174, V1.c186, V1.c187, V1.c188, V1.n5, V1.n13, V1.n14, V1.i0, V1.i5, V1.i6, V1.i7, V1.i8, V1.i9, V1.i10, V1.i11, V1.i12, V1.i13, V1.i14, V1.i15, V1.i21, V1.i22, Q1.f6, Q1.f7, Q1.f8, Q1.f9, Q1.f10, Q1.f11, Q1.f12, Q1.f15, Q1.c175, Q1.c176, hS]
  by_cases t1 : tko c1 0 ((S : Int) - 2) = true
  · rw [if_pos t1]
    rw [tko_iff] at t1
    refine k186_14 (cno_MR V1.mr) (Nat.le_of_ble_eq_true rfl) (P1.takeY t1.1 (by rw [s2, i999.2.1]; exact t1.2)) ?_
    rintro f2 n2 k2 v2 ⟨rfl, rfl, sm2, P2, rfl⟩
    have V2 := P2.V
    obtain ⟨q, hq, hq1, hq2⟩ := i9 (v := c1.2.2.2) (N := 8) t1.2.1 (by have := t1.2.2; omega) (by omega)
    rw [hq2, Int.toNat_natCast]
    generalize nx s.2.2.1 sz c1 = c2 at P2 ⊢
    simp (disch := first | omega | decide | assumption | exact Nat.le_of_ble_eq_true rfl) only [s186_17, s186_18, s186_19, ow_some, true_and, and_true, and_self, if_true, if_false, not_true, not_false_eq_true, Bool.false_eq_true, eq_self, Option.toList, List.cons_append, List.nil_append, ix_in, ix_cl, lt_in, lt_cl, lt_add, ix_one, vu_eq, vu_ne, arI_mk, arL_mk, arY_mZ, arY_mB, alen_mI, fld_sfl_ne, fld_sfl_same, Option.isSome_some, pok_i, b1z, b01, z10, b1o, Int32.zero_add, vu_vu, upd_eq, upd_ne, true_or, or_true, V2.r1, V2.r2, V2.r3, V2.r4, V2.r16, V2.r17, V2.r18, V2.r19, V2.r20, V2.r23, V2.r24, V2.r25, V2.r26, V2.r27, V2.r28, V2.r29, V2.r30, V2.c172, V2.c173, V2.c174, V2.c186, V2.c187, V2.c188, V2.n5, V2.n13, V2.n14, V2.i0, V2.i5, V2.i6, V2.i7, V2.i8, V2.i9, V2.i10, V2.i11, V2.i12, V2.i13, V2.i14, V2.i15, V2.i21, V2.i22, hq1]
    by_cases t2 : c2.2.2.1 = 2
    · rw [if_pos t2]
      refine k186_20 (cno_MR V2.mr) (Nat.le_of_ble_eq_true rfl) (P2.eatY t2) ?_
      rintro f3 n3 k3 v3 ⟨rfl, rfl, sm3, P3, rfl⟩
      have V3 := P3.V
      generalize nx s.2.2.1 sz c2 = c3 at P3 ⊢
      simp (disch := first | omega | decide | assumption | exact Nat.le_of_ble_eq_true rfl) only [s186_23, s186_31, s186_32, s186_33, ow_some, true_and, and_true, and_self, if_true, if_false, not_true, not_false_eq_true, Bool.false_eq_true, eq_self, Option.toList, List.cons_append, List.nil_append, ix_in, ix_cl, lt_in, lt_cl, lt_add, ix_one, vu_eq, vu_ne, arI_mk, arL_mk, arY_mZ, arY_mB, alen_mI, fld_sfl_ne, fld_sfl_same, Option.isSome_some, pok_i, b1z, b01, z10, b1o, Int32.zero_add, vu_vu, upd_eq, upd_ne, true_or, or_true, V3.r1, V3.r2, V3.r3, V3.r4, V3.r16, V3.r17, V3.r18, V3.r19, V3.r20, V3.r23, V3.r24, V3.r25, V3.r26, V3.r27, V3.r28, V3.r29, V3.r30, V3.c172, V3.c173, V3.c174, V3.c186, V3.c187, V3.c188, V3.n5, V3.n13, V3.n14, V3.i0, V3.i5, V3.i6, V3.i7, V3.i8, V3.i9, V3.i10, V3.i11, V3.i12, V3.i13, V3.i14, V3.i15, V3.i21, V3.i22]
      by_cases t3 : tko c3 0 999 = true
      · rw [if_pos t3]
        rw [tko_iff] at t3
        refine k186_36 (cno_MR V3.mr) (Nat.le_of_ble_eq_true rfl) (P3.takeY t3.1 (by rw [i999.1, i999.2.1]; exact t3.2)) ?_
        rintro f4 n4 k4 v4 ⟨rfl, rfl, sm4, P4, rfl⟩
        have V4 := P4.V
        have Q4 := P4.1
        simp (disch := first | omega | decide | assumption | exact Nat.le_of_ble_eq_true rfl) only [s186_39, s186_40, s186_41, s186_44, s186_47, s186_48, s186_51, s186_53, s186_54, s186_55, s186_56, s186_57, ow_some, true_and, and_true, and_self, if_true, if_false, not_true, not_false_eq_true, Bool.false_eq_true, eq_self, Option.toList, List.cons_append, List.nil_append, ix_in, ix_cl, lt_in, lt_cl, lt_add, ix_one, vu_eq, vu_ne, arI_mk, arL_mk, arY_mZ, arY_mB, alen_mI, fld_sfl_ne, fld_sfl_same, Option.isSome_some, pok_i, b1z, b01, z10, b1o, Int32.zero_add, vu_vu, upd_eq, upd_ne, true_or, or_true, V4.r1, V4.r2, V4.r3, V4.r4, V4.r16, V4.r17, V4.r18, V4.r19, V4.r20, V4.r23, V4.r24, V4.r25, V4.r26, V4.r27, V4.r28, V4.r29, V4.r30, V4.c172, V4.c173, V4.c174, V4.c186, V4.c187, V4.c188, V4.n5, V4.n13, V4.n14, V4.i0, V4.i5, V4.i6, V4.i7, V4.i8, V4.i9, V4.i10, V4.i11, V4.i12, V4.i13, V4.i14, V4.i15, V4.i21, V4.i22, Q4.f6, Q4.f7, Q4.f8, Q4.f9, Q4.f10, Q4.f11, Q4.f12, Q4.f15, Q4.c175, Q4.c176]
        exact PL.ok ((((sm1.tr sm2).tr sm3).tr sm4).tr (SM.up (by omega) (by omega))) ⟨Q4.fr', P4.2⟩
      · rw [if_neg t3]
        rw [tko_iff] at t3
        refine k186_36 (cno_MR V3.mr) (Nat.le_of_ble_eq_true rfl) (P3.takeN (by rw [i999.1, i999.2.1]; exact t3)) ?_
        rintro f4 n4 k4 v4 ⟨rfl, rfl, sm4, P4, rfl⟩
        have V4 := P4.V
        have Q4 := P4.1
        have hw : ¬ tkf c3 0 999 = 0 := tkw_ne
        simp (disch := first | omega | decide | assumption | exact Nat.le_of_ble_eq_true rfl) only [s186_39, s186_40, s186_41, s186_44, s186_57, ow_some, true_and, and_true, and_self, if_true, if_false, not_true, not_false_eq_true, Bool.false_eq_true, eq_self, Option.toList, List.cons_append, List.nil_append, ix_in, ix_cl, lt_in, lt_cl, lt_add, ix_one, vu_eq, vu_ne, arI_mk, arL_mk, arY_mZ, arY_mB, alen_mI, fld_sfl_ne, fld_sfl_same, Option.isSome_some, pok_i, b1z, b01, z10, b1o, Int32.zero_add, vu_vu, upd_eq, upd_ne, true_or, or_true, V4.r1, V4.r2, V4.r3, V4.r4, V4.r16, V4.r17, V4.r18, V4.r19, V4.r20, V4.r23, V4.r24, V4.r25, V4.r26, V4.r27, V4.r28, V4.r29, V4.r30, V4.c172, V4.c173, V4.c174, V4.c186, V4.c187, V4.c188, V4.n5, V4.n13, V4.n14, V4.i0, V4.i5, V4.i6, V4.i7, V4.i8, V4.i9, V4.i10, V4.i11, V4.i12, V4.i13, V4.i14, V4.i15, V4.i21, V4.i22, Q4.f6, Q4.f7, Q4.f8, Q4.f9, Q4.f10, Q4.f11, Q4.f12, Q4.f15, Q4.c175, Q4.c176, hw]
        exact PL.er (((sm1.tr sm2).tr sm3).tr sm4) tkw_ne P4
    · rw [if_neg t2]
      rw [p186_20 (cno_MR V2.mr) (Nat.le_of_ble_eq_true rfl) (P2.eatN (fun z => t2 z.2))]
      simp (disch := first | omega | decide | assumption | exact Nat.le_of_ble_eq_true rfl) only [s186_23, s186_26, s186_27, ow_some, true_and, and_true, and_self, if_true, if_false, not_true, not_false_eq_true, Bool.false_eq_true, eq_self, Option.toList, List.cons_append, List.nil_append, ix_in, ix_cl, lt_in, lt_cl, lt_add, ix_one, vu_eq, vu_ne, arI_mk, arL_mk, arY_mZ, arY_mB, alen_mI, fld_sfl_ne, fld_sfl_same, Option.isSome_some, pok_i, b1z, b01, z10, b1o, Int32.zero_add, vu_vu, upd_eq, upd_ne, true_or, or_true, V2.r1, V2.r2, V2.r3, V2.r4, V2.r16, V2.r17, V2.r18, V2.r19, V2.r20, V2.r23, V2.r24, V2.r25, V2.r26, V2.r27, V2.r28, V2.r29, V2.r30, V2.c172, V2.c173, V2.c174, V2.c186, V2.c187, V2.c188, V2.n5, V2.n13, V2.n14, V2.i0, V2.i5, V2.i6, V2.i7, V2.i8, V2.i9, V2.i10, V2.i11, V2.i12, V2.i13, V2.i14, V2.i15, V2.i21, V2.i22]
      refine k186_28 (cno_MR V2.mr) (Nat.le_of_ble_eq_true rfl) (P2.fail (w := 2)) ?_
      rintro f3 n3 k3 v3 ⟨rfl, rfl, rfl, sm3, P3⟩
      exact e31 _ _ _ _ f3 _ _ _ (ft_ne (by decide)) ((sm1.tr sm2).tr sm3) P3
  · rw [if_neg t1]
    rw [tko_iff] at t1
    refine k186_14 (cno_MR V1.mr) (Nat.le_of_ble_eq_true rfl) (P1.takeN (by rw [s2, i999.2.1]; exact t1)) ?_
    rintro f2 n2 k2 v2 ⟨rfl, rfl, sm2, P2, rfl⟩
    simp (disch := first | omega | decide | assumption | exact Nat.le_of_ble_eq_true rfl) only [s186_17, ow_some, true_and, and_true, and_self, if_true, if_false, not_true, not_false_eq_true, Bool.false_eq_true, eq_self, Option.toList, List.cons_append, List.nil_append, ix_in, ix_cl, lt_in, lt_cl, lt_add, ix_one, vu_eq, vu_ne, arI_mk, arL_mk, arY_mZ, arY_mB, alen_mI, fld_sfl_ne, fld_sfl_same, Option.isSome_some, pok_i, b1z, b01, z10, b1o, Int32.zero_add, vu_vu, upd_eq, upd_ne, true_or, or_true]
    exact e18 _ _ _ _ f2 _ _ _ tkw_ne (sm1.tr sm2) P2
theorem PC.wed {X : Nat × (Nat → Int32)} {d N K : Nat} {f : Nat → e_C} {s : m_T} {fr ag : Nat → Int32} {sz R q : Nat} {c : Cu} {wr wa rd : Int32} (P : PC f s fr ag sz c wr wa rd) (hR : fr 52 = nI R) (h9 : R ≤ 9) (hq : q < 1000) : PU X d 190 [.ref 171, .int (nI q)] f N K (some (.int (if q < R ∧ fr (43 + q) ≠ -1 then 1 else 0))) := by
  unfold PU
  have V := P.V
  have Q := P.1
  by_cases h1 : q < R
  · have hc : (R ≤ q) = False := eq_false (by omega)
    by_cases h2 : fr (43 + q) = -1
    · have e : (q < R ∧ fr (43 + q) ≠ -1) = False := eq_false (fun z => z.2 h2)
      simp (disch := first | omega | decide | assumption | exact Nat.le_of_ble_eq_true rfl) only [s190_0, s190_1, s190_2, s190_5, s190_7, s190_8, s190_11, s190_12, s190_15, s190_17, s190_18, s190_19, s190_20, s190_21, s190_24, s190_25, s190_28, s190_29, ow_some, true_and, and_true, and_self, if_true, if_false, not_true, not_false_eq_true, Bool.false_eq_true, eq_self, Option.toList, List.cons_append, List.nil_append, ix_in, ix_cl, lt_in, lt_cl, lt_add, ix_one, vu_eq, vu_ne, arI_mk, arL_mk, arY_mZ, arY_mB, alen_mI, fld_sfl_ne, fld_sfl_same, Option.isSome_some, pok_i, b1z, b01, z10, b1o, Int32.zero_add, vu_vu, upd_eq, upd_ne, true_or, or_true, V.r1, V.r2, V.r3, V.r4, V.r16, V.r17, V.r18, V.r19, V.r20, V.r23, V.r24, V.r25, V.r26, V.r27, V.r28, V.r29, V.r30, V.c172, V.c173, V.c174, V.c186, V.c187, V.c188, V.n5, V.n13, V.n14, V.i0, V.i5, V.i6, V.i7, V.i8, V.i9, V.i10, V.i11, V.i12, V.i13, V.i14, V.i15, V.i21, V.i22, Q.f6, Q.f7, Q.f8, Q.f9, Q.f10, Q.f11, Q.f12, Q.f15, Q.c175, Q.c176, hR, ix_le, hc, h2, e]
      simp
    · have e : (q < R ∧ fr (43 + q) ≠ -1) = True := eq_true ⟨h1, h2⟩
      simp (disch := first | omega | decide | assumption | exact Nat.le_of_ble_eq_true rfl) only [s190_0, s190_1, s190_2, s190_5, s190_7, s190_8, s190_11, s190_12, s190_15, s190_17, s190_18, s190_19, s190_20, s190_21, s190_24, s190_25, s190_28, s190_29, ow_some, true_and, and_true, and_self, if_true, if_false, not_true, not_false_eq_true, Bool.false_eq_true, eq_self, Option.toList, List.cons_append, List.nil_append, ix_in, ix_cl, lt_in, lt_cl, lt_add, ix_one, vu_eq, vu_ne, arI_mk, arL_mk, arY_mZ, arY_mB, alen_mI, fld_sfl_ne, fld_sfl_same, Option.isSome_some, pok_i, b1z, b01, z10, b1o, Int32.zero_add, vu_vu, upd_eq, upd_ne, true_or, or_true, V.r1, V.r2, V.r3, V.r4, V.r16, V.r17, V.r18, V.r19, V.r20, V.r23, V.r24, V.r25, V.r26, V.r27, V.r28, V.r29, V.r30, V.c172, V.c173, V.c174, V.c186, V.c187, V.c188, V.n5, V.n13, V.n14, V.i0, V.i5, V.i6, V.i7, V.i8, V.i9, V.i10, V.i11, V.i12, V.i13, V.i14, V.i15, V.i21, V.i22, Q.f6, Q.f7, Q.f8, Q.f9, Q.f10, Q.f11, Q.f12, Q.f15, Q.c175, Q.c176, hR, ix_le, hc, h2, e]
  · have hc : (R ≤ q) = True := eq_true (by omega)
    have e : (q < R ∧ fr (43 + q) ≠ -1) = False := eq_false (fun z => h1 z.1)
    simp (disch := first | omega | decide | assumption | exact Nat.le_of_ble_eq_true rfl) only [s190_0, s190_1, s190_2, s190_5, s190_7, s190_8, s190_11, s190_12, s190_15, s190_17, s190_18, s190_19, s190_20, s190_21, s190_24, s190_25, s190_28, s190_29, ow_some, true_and, and_true, and_self, if_true, if_false, not_true, not_false_eq_true, Bool.false_eq_true, eq_self, Option.toList, List.cons_append, List.nil_append, ix_in, ix_cl, lt_in, lt_cl, lt_add, ix_one, vu_eq, vu_ne, arI_mk, arL_mk, arY_mZ, arY_mB, alen_mI, fld_sfl_ne, fld_sfl_same, Option.isSome_some, pok_i, b1z, b01, z10, b1o, Int32.zero_add, vu_vu, upd_eq, upd_ne, true_or, or_true, V.r1, V.r2, V.r3, V.r4, V.r16, V.r17, V.r18, V.r19, V.r20, V.r23, V.r24, V.r25, V.r26, V.r27, V.r28, V.r29, V.r30, V.c172, V.c173, V.c174, V.c186, V.c187, V.c188, V.n5, V.n13, V.n14, V.i0, V.i5, V.i6, V.i7, V.i8, V.i9, V.i10, V.i11, V.i12, V.i13, V.i14, V.i15, V.i21, V.i22, Q.f6, Q.f7, Q.f8, Q.f9, Q.f10, Q.f11, Q.f12, Q.f15, Q.c175, Q.c176, hR, ix_le, hc, e]

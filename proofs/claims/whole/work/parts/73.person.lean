/-! the reference reads persons -/
/-- one flag: none, or what comes of it -/
def l_flag (tx : Nat → Int32) (sz p : Nat) (c : Cu) (fr ag : Nat → Int32) : Option Lr := if c.2.2.1 = 6 then some (if tko (nx tx sz c) 0 99 = true then .inl (nx tx sz (nx tx sz c), fr, upd ag p (nx tx sz c).2.2.2) else .inr (tkw (nx tx sz c), (nx tx sz c).1)) else if c.2.2.1 = 7 then some (if tko (nx tx sz c) 0 10 = true then .inl (nx tx sz (nx tx sz c), upd fr (25 + p) (nx tx sz c).2.2.2, ag) else .inr (tkw (nx tx sz c), (nx tx sz c).1)) else if c.2.2.1 = 8 then some (if tko (nx tx sz c) 0 999 = true then .inl (nx tx sz (nx tx sz c), upd fr (34 + p) (nx tx sz c).2.2.2, ag) else .inr (tkw (nx tx sz c), (nx tx sz c).1)) else none
/-- a flag is read: its answer too -/
def PF (f : Nat → e_C) (s : m_T) (fr ag : Nat → Int32) (c : Cu) (sz N K : Nat) (o : Option Lr) : t_Q := fun f' n' k' v => n' = N ∧ k' = K ∧ SM f f' ∧ (o = none → v = some (.int 0) ∧ ∃ wa rd, PC f' s fr ag sz c 0 wa rd) ∧ (∀ c' fr' ag', o = some (.inl (c', fr', ag')) → v = some (.int 1) ∧ ∃ wa rd, PC f' s fr' ag' sz c' 0 wa rd) ∧ ∀ w p, o = some (.inr (w, p)) → v = some (.int 0) ∧ w ≠ 0 ∧ ∃ fr ag c rd, PC f' s fr ag sz c w (nI p) rd
theorem PC.flag {X : Nat × (Nat → Int32)} {d N K : Nat} {f : Nat → e_C} {s : m_T} {fr ag : Nat → Int32} {sz p : Nat} {c : Cu} {wa rd : Int32} (P : PC f s fr ag sz c 0 wa rd) (hp : p < 9) : TT X (d + 8) 188 0 [.ref 171, .int (nI p)] [] f N K (PF f s fr ag c sz N K (l_flag s.2.2.1 sz p c fr ag)) := by
  have V := P.V
  obtain ⟨res, hres⟩ : ∃ res, l_flag s.2.2.1 sz p c fr ag = res := ⟨_, rfl⟩
  rw [hres]
  unfold l_flag at hres
  have okk : ∀ f' fr' ag' (c' : Cu) wa', SM f f' → PC f' s fr' ag' sz c' 0 wa' rd → res = some (.inl (c', fr', ag')) → TT X (d + 8) 188 84 [.ref 171, .int (nI p)] [] f' N K (PF f s fr ag c sz N K res) := by
    intro f' fr' ag' c' wa' sm P2 hr
    have V2 := P2.V
    have Q2 := P2.1
    rw [hr]
    simp (disch := first | omega | decide | assumption | exact Nat.le_of_ble_eq_true rfl) only [s188_84, s188_85, s188_88, s188_91, s188_92, s188_95, s188_96, ow_some, true_and, and_true, and_self, if_true, if_false, not_true, not_false_eq_true, Bool.false_eq_true, eq_self, Option.toList, List.cons_append, List.nil_append, ix_in, ix_cl, lt_in, lt_cl, lt_add, ix_one, vu_eq, vu_ne, arI_mk, arL_mk, arY_mZ, arY_mB, alen_mI, fld_sfl_ne, fld_sfl_same, Option.isSome_some, pok_i, b1z, b01, z10, b1o, Int32.zero_add, vu_vu, upd_eq, upd_ne, true_or, or_true, V2.r1, V2.r2, V2.r3, V2.r4, V2.r16, V2.r17, V2.r18, V2.r19, V2.r20, V2.r23, V2.r24, V2.r25, V2.r26, V2.r27, V2.r28, V2.r29, V2.r30, V2.c172, V2.c173, V2.c174, V2.c186, V2.c187, V2.c188, V2.n5, V2.n13, V2.n14, V2.i0, V2.i5, V2.i6, V2.i7, V2.i8, V2.i9, V2.i10, V2.i11, V2.i12, V2.i13, V2.i14, V2.i15, V2.i21, V2.i22, Q2.f6, Q2.f7, Q2.f8, Q2.f9, Q2.f10, Q2.f11, Q2.f12, Q2.f15, Q2.c175, Q2.c176]
    exact ⟨rfl, rfl, sm, (fun h => by cases h), (fun _ _ _ h => by cases h; exact ⟨rfl, _, _, P2⟩), (fun _ _ h => by cases h)⟩
  have erk : ∀ f' fr' ag' (c' : Cu) w p', SM f f' → w ≠ 0 → PC f' s fr' ag' sz c' w (nI p') rd → res = some (.inr (w, p')) → TT X (d + 8) 188 84 [.ref 171, .int (nI p)] [] f' N K (PF f s fr ag c sz N K res) := by
    intro f' fr' ag' c' w p' sm hw P2 hr
    have V2 := P2.V
    have Q2 := P2.1
    rw [hr]
    simp (disch := first | omega | decide | assumption | exact Nat.le_of_ble_eq_true rfl) only [s188_84, s188_85, s188_88, s188_95, s188_96, ow_some, true_and, and_true, and_self, if_true, if_false, not_true, not_false_eq_true, Bool.false_eq_true, eq_self, Option.toList, List.cons_append, List.nil_append, ix_in, ix_cl, lt_in, lt_cl, lt_add, ix_one, vu_eq, vu_ne, arI_mk, arL_mk, arY_mZ, arY_mB, alen_mI, fld_sfl_ne, fld_sfl_same, Option.isSome_some, pok_i, b1z, b01, z10, b1o, Int32.zero_add, vu_vu, upd_eq, upd_ne, true_or, or_true, V2.r1, V2.r2, V2.r3, V2.r4, V2.r16, V2.r17, V2.r18, V2.r19, V2.r20, V2.r23, V2.r24, V2.r25, V2.r26, V2.r27, V2.r28, V2.r29, V2.r30, V2.c172, V2.c173, V2.c174, V2.c186, V2.c187, V2.c188, V2.n5, V2.n13, V2.n14, V2.i0, V2.i5, V2.i6, V2.i7, V2.i8, V2.i9, V2.i10, V2.i11, V2.i12, V2.i13, V2.i14, V2.i15, V2.i21, V2.i22, Q2.f6, Q2.f7, Q2.f8, Q2.f9, Q2.f10, Q2.f11, Q2.f12, Q2.f15, Q2.c175, Q2.c176, hw]
    exact ⟨rfl, rfl, sm, (fun h => by cases h), (fun _ _ _ h => by cases h), (fun _ _ h => by cases h; exact ⟨rfl, hw, _, _, _, _, P2⟩)⟩
  simp (disch := first | omega | decide | assumption | exact Nat.le_of_ble_eq_true rfl) only [s188_0, s188_1, ow_some, true_and, and_true, and_self, if_true, if_false, not_true, not_false_eq_true, Bool.false_eq_true, eq_self, Option.toList, List.cons_append, List.nil_append, ix_in, ix_cl, lt_in, lt_cl, lt_add, ix_one, vu_eq, vu_ne, arI_mk, arL_mk, arY_mZ, arY_mB, alen_mI, fld_sfl_ne, fld_sfl_same, Option.isSome_some, pok_i, b1z, b01, z10, b1o, Int32.zero_add, vu_vu, upd_eq, upd_ne, true_or, or_true, V.r1, V.r2, V.r3, V.r4, V.r16, V.r17, V.r18, V.r19, V.r20, V.r23, V.r24, V.r25, V.r26, V.r27, V.r28, V.r29, V.r30, V.c172, V.c173, V.c174, V.c186, V.c187, V.c188, V.n5, V.n13, V.n14, V.i0, V.i5, V.i6, V.i7, V.i8, V.i9, V.i10, V.i11, V.i12, V.i13, V.i14, V.i15, V.i21, V.i22]
  by_cases h6 : c.2.2.1 = 6
  · rw [if_pos h6] at hres
    refine k188_3 (cno_MR V.mr) (Nat.le_of_ble_eq_true rfl) (P.eatY h6) ?_
    rintro f1 n1 k1 v1 ⟨rfl, rfl, sm1, P1, rfl⟩
    have V1 := P1.V
    generalize nx s.2.2.1 sz c = c1 at P1 hres
    simp (disch := first | omega | decide | assumption | exact Nat.le_of_ble_eq_true rfl) only [s188_6, s188_9, s188_10, s188_13, s188_14, s188_15, s188_16, ow_some, true_and, and_true, and_self, if_true, if_false, not_true, not_false_eq_true, Bool.false_eq_true, eq_self, Option.toList, List.cons_append, List.nil_append, ix_in, ix_cl, lt_in, lt_cl, lt_add, ix_one, vu_eq, vu_ne, arI_mk, arL_mk, arY_mZ, arY_mB, alen_mI, fld_sfl_ne, fld_sfl_same, Option.isSome_some, pok_i, b1z, b01, z10, b1o, Int32.zero_add, vu_vu, upd_eq, upd_ne, true_or, or_true, V1.r1, V1.r2, V1.r3, V1.r4, V1.r16, V1.r17, V1.r18, V1.r19, V1.r20, V1.r23, V1.r24, V1.r25, V1.r26, V1.r27, V1.r28, V1.r29, V1.r30, V1.c172, V1.c173, V1.c174, V1.c186, V1.c187, V1.c188, V1.n5, V1.n13, V1.n14, V1.i0, V1.i5, V1.i6, V1.i7, V1.i8, V1.i9, V1.i10, V1.i11, V1.i12, V1.i13, V1.i14, V1.i15, V1.i21, V1.i22]
    by_cases t : tko c1 0 99 = true
    · rw [if_pos t] at hres
      rw [tko_iff] at t
      refine k188_18 (cno_MR V1.mr) (Nat.le_of_ble_eq_true rfl) (P1.takeY t.1 (by rw [i999.2.2.1, i999.2.1]; exact t.2)) ?_
      rintro f2 n2 k2 v2 ⟨rfl, rfl, sm2, P2, rfl⟩
      have V2 := P2.V
      have Q2 := P2.1
      simp (disch := first | omega | decide | assumption | exact Nat.le_of_ble_eq_true rfl) only [s188_21, s188_22, ow_some, true_and, and_true, and_self, if_true, if_false, not_true, not_false_eq_true, Bool.false_eq_true, eq_self, Option.toList, List.cons_append, List.nil_append, ix_in, ix_cl, lt_in, lt_cl, lt_add, ix_one, vu_eq, vu_ne, arI_mk, arL_mk, arY_mZ, arY_mB, alen_mI, fld_sfl_ne, fld_sfl_same, Option.isSome_some, pok_i, b1z, b01, z10, b1o, Int32.zero_add, vu_vu, upd_eq, upd_ne, true_or, or_true, V2.r1, V2.r2, V2.r3, V2.r4, V2.r16, V2.r17, V2.r18, V2.r19, V2.r20, V2.r23, V2.r24, V2.r25, V2.r26, V2.r27, V2.r28, V2.r29, V2.r30, V2.c172, V2.c173, V2.c174, V2.c186, V2.c187, V2.c188, V2.n5, V2.n13, V2.n14, V2.i0, V2.i5, V2.i6, V2.i7, V2.i8, V2.i9, V2.i10, V2.i11, V2.i12, V2.i13, V2.i14, V2.i15, V2.i21, V2.i22, Q2.f6, Q2.f7, Q2.f8, Q2.f9, Q2.f10, Q2.f11, Q2.f12, Q2.f15, Q2.c175, Q2.c176]
      exact okk _ _ _ _ _ ((sm1.tr sm2).tr (SM.up (by omega) (by omega))) ⟨Q2.ag', P2.2⟩ hres.symm
    · rw [if_neg t] at hres
      rw [tko_iff] at t
      refine k188_18 (cno_MR V1.mr) (Nat.le_of_ble_eq_true rfl) (P1.takeN (by rw [i999.2.2.1, i999.2.1]; exact t)) ?_
      rintro f2 n2 k2 v2 ⟨rfl, rfl, sm2, P2, rfl⟩
      have V2 := P2.V
      have Q2 := P2.1
      simp (disch := first | omega | decide | assumption | exact Nat.le_of_ble_eq_true rfl) only [s188_21, s188_22, ow_some, true_and, and_true, and_self, if_true, if_false, not_true, not_false_eq_true, Bool.false_eq_true, eq_self, Option.toList, List.cons_append, List.nil_append, ix_in, ix_cl, lt_in, lt_cl, lt_add, ix_one, vu_eq, vu_ne, arI_mk, arL_mk, arY_mZ, arY_mB, alen_mI, fld_sfl_ne, fld_sfl_same, Option.isSome_some, pok_i, b1z, b01, z10, b1o, Int32.zero_add, vu_vu, upd_eq, upd_ne, true_or, or_true, V2.r1, V2.r2, V2.r3, V2.r4, V2.r16, V2.r17, V2.r18, V2.r19, V2.r20, V2.r23, V2.r24, V2.r25, V2.r26, V2.r27, V2.r28, V2.r29, V2.r30, V2.c172, V2.c173, V2.c174, V2.c186, V2.c187, V2.c188, V2.n5, V2.n13, V2.n14, V2.i0, V2.i5, V2.i6, V2.i7, V2.i8, V2.i9, V2.i10, V2.i11, V2.i12, V2.i13, V2.i14, V2.i15, V2.i21, V2.i22, Q2.f6, Q2.f7, Q2.f8, Q2.f9, Q2.f10, Q2.f11, Q2.f12, Q2.f15, Q2.c175, Q2.c176]
      exact erk _ _ _ _ _ _ ((sm1.tr sm2).tr (SM.up (by omega) (by omega))) tkw_ne ⟨Q2.ag', P2.2⟩ hres.symm
  · rw [if_neg h6] at hres
    rw [p188_3 (cno_MR V.mr) (Nat.le_of_ble_eq_true rfl) (P.eatN (fun z => h6 z.2))]
    simp (disch := first | omega | decide | assumption | exact Nat.le_of_ble_eq_true rfl) only [s188_6, s188_25, s188_26, ow_some, true_and, and_true, and_self, if_true, if_false, not_true, not_false_eq_true, Bool.false_eq_true, eq_self, Option.toList, List.cons_append, List.nil_append, ix_in, ix_cl, lt_in, lt_cl, lt_add, ix_one, vu_eq, vu_ne, arI_mk, arL_mk, arY_mZ, arY_mB, alen_mI, fld_sfl_ne, fld_sfl_same, Option.isSome_some, pok_i, b1z, b01, z10, b1o, Int32.zero_add, vu_vu, upd_eq, upd_ne, true_or, or_true, V.r1, V.r2, V.r3, V.r4, V.r16, V.r17, V.r18, V.r19, V.r20, V.r23, V.r24, V.r25, V.r26, V.r27, V.r28, V.r29, V.r30, V.c172, V.c173, V.c174, V.c186, V.c187, V.c188, V.n5, V.n13, V.n14, V.i0, V.i5, V.i6, V.i7, V.i8, V.i9, V.i10, V.i11, V.i12, V.i13, V.i14, V.i15, V.i21, V.i22]
    by_cases h7 : c.2.2.1 = 7
    · rw [if_pos h7] at hres
      refine k188_28 (cno_MR V.mr) (Nat.le_of_ble_eq_true rfl) (P.eatY h7) ?_
      rintro f1 n1 k1 v1 ⟨rfl, rfl, sm1, P1, rfl⟩
      have V1 := P1.V
      generalize nx s.2.2.1 sz c = c1 at P1 hres
      simp (disch := first | omega | decide | assumption | exact Nat.le_of_ble_eq_true rfl) only [s188_31, s188_34, s188_35, s188_38, s188_40, s188_41, s188_42, s188_43, s188_44, ow_some, true_and, and_true, and_self, if_true, if_false, not_true, not_false_eq_true, Bool.false_eq_true, eq_self, Option.toList, List.cons_append, List.nil_append, ix_in, ix_cl, lt_in, lt_cl, lt_add, ix_one, vu_eq, vu_ne, arI_mk, arL_mk, arY_mZ, arY_mB, alen_mI, fld_sfl_ne, fld_sfl_same, Option.isSome_some, pok_i, b1z, b01, z10, b1o, Int32.zero_add, vu_vu, upd_eq, upd_ne, true_or, or_true, V1.r1, V1.r2, V1.r3, V1.r4, V1.r16, V1.r17, V1.r18, V1.r19, V1.r20, V1.r23, V1.r24, V1.r25, V1.r26, V1.r27, V1.r28, V1.r29, V1.r30, V1.c172, V1.c173, V1.c174, V1.c186, V1.c187, V1.c188, V1.n5, V1.n13, V1.n14, V1.i0, V1.i5, V1.i6, V1.i7, V1.i8, V1.i9, V1.i10, V1.i11, V1.i12, V1.i13, V1.i14, V1.i15, V1.i21, V1.i22]
      by_cases t : tko c1 0 10 = true
      · rw [if_pos t] at hres
        rw [tko_iff] at t
        refine k188_46 (cno_MR V1.mr) (Nat.le_of_ble_eq_true rfl) (P1.takeY t.1 (by rw [i999.2.2.2.1, i999.2.1]; exact t.2)) ?_
        rintro f2 n2 k2 v2 ⟨rfl, rfl, sm2, P2, rfl⟩
        have V2 := P2.V
        have Q2 := P2.1
        simp (disch := first | omega | decide | assumption | exact Nat.le_of_ble_eq_true rfl) only [s188_49, s188_50, ow_some, true_and, and_true, and_self, if_true, if_false, not_true, not_false_eq_true, Bool.false_eq_true, eq_self, Option.toList, List.cons_append, List.nil_append, ix_in, ix_cl, lt_in, lt_cl, lt_add, ix_one, vu_eq, vu_ne, arI_mk, arL_mk, arY_mZ, arY_mB, alen_mI, fld_sfl_ne, fld_sfl_same, Option.isSome_some, pok_i, b1z, b01, z10, b1o, Int32.zero_add, vu_vu, upd_eq, upd_ne, true_or, or_true, V2.r1, V2.r2, V2.r3, V2.r4, V2.r16, V2.r17, V2.r18, V2.r19, V2.r20, V2.r23, V2.r24, V2.r25, V2.r26, V2.r27, V2.r28, V2.r29, V2.r30, V2.c172, V2.c173, V2.c174, V2.c186, V2.c187, V2.c188, V2.n5, V2.n13, V2.n14, V2.i0, V2.i5, V2.i6, V2.i7, V2.i8, V2.i9, V2.i10, V2.i11, V2.i12, V2.i13, V2.i14, V2.i15, V2.i21, V2.i22, Q2.f6, Q2.f7, Q2.f8, Q2.f9, Q2.f10, Q2.f11, Q2.f12, Q2.f15, Q2.c175, Q2.c176]
        exact okk _ _ _ _ _ ((sm1.tr sm2).tr (SM.up (by omega) (by omega))) ⟨Q2.fr', P2.2⟩ hres.symm
      · rw [if_neg t] at hres
        rw [tko_iff] at t
        refine k188_46 (cno_MR V1.mr) (Nat.le_of_ble_eq_true rfl) (P1.takeN (by rw [i999.2.2.2.1, i999.2.1]; exact t)) ?_
        rintro f2 n2 k2 v2 ⟨rfl, rfl, sm2, P2, rfl⟩
        have V2 := P2.V
        have Q2 := P2.1
        simp (disch := first | omega | decide | assumption | exact Nat.le_of_ble_eq_true rfl) only [s188_49, s188_50, ow_some, true_and, and_true, and_self, if_true, if_false, not_true, not_false_eq_true, Bool.false_eq_true, eq_self, Option.toList, List.cons_append, List.nil_append, ix_in, ix_cl, lt_in, lt_cl, lt_add, ix_one, vu_eq, vu_ne, arI_mk, arL_mk, arY_mZ, arY_mB, alen_mI, fld_sfl_ne, fld_sfl_same, Option.isSome_some, pok_i, b1z, b01, z10, b1o, Int32.zero_add, vu_vu, upd_eq, upd_ne, true_or, or_true, V2.r1, V2.r2, V2.r3, V2.r4, V2.r16, V2.r17, V2.r18, V2.r19, V2.r20, V2.r23, V2.r24, V2.r25, V2.r26, V2.r27, V2.r28, V2.r29, V2.r30, V2.c172, V2.c173, V2.c174, V2.c186, V2.c187, V2.c188, V2.n5, V2.n13, V2.n14, V2.i0, V2.i5, V2.i6, V2.i7, V2.i8, V2.i9, V2.i10, V2.i11, V2.i12, V2.i13, V2.i14, V2.i15, V2.i21, V2.i22, Q2.f6, Q2.f7, Q2.f8, Q2.f9, Q2.f10, Q2.f11, Q2.f12, Q2.f15, Q2.c175, Q2.c176]
        exact erk _ _ _ _ _ _ ((sm1.tr sm2).tr (SM.up (by omega) (by omega))) tkw_ne ⟨Q2.fr', P2.2⟩ hres.symm
    · rw [if_neg h7] at hres
      rw [p188_28 (cno_MR V.mr) (Nat.le_of_ble_eq_true rfl) (P.eatN (fun z => h7 z.2))]
      simp (disch := first | omega | decide | assumption | exact Nat.le_of_ble_eq_true rfl) only [s188_31, s188_53, s188_54, ow_some, true_and, and_true, and_self, if_true, if_false, not_true, not_false_eq_true, Bool.false_eq_true, eq_self, Option.toList, List.cons_append, List.nil_append, ix_in, ix_cl, lt_in, lt_cl, lt_add, ix_one, vu_eq, vu_ne, arI_mk, arL_mk, arY_mZ, arY_mB, alen_mI, fld_sfl_ne, fld_sfl_same, Option.isSome_some, pok_i, b1z, b01, z10, b1o, Int32.zero_add, vu_vu, upd_eq, upd_ne, true_or, or_true, V.r1, V.r2, V.r3, V.r4, V.r16, V.r17, V.r18, V.r19, V.r20, V.r23, V.r24, V.r25, V.r26, V.r27, V.r28, V.r29, V.r30, V.c172, V.c173, V.c174, V.c186, V.c187, V.c188, V.n5, V.n13, V.n14, V.i0, V.i5, V.i6, V.i7, V.i8, V.i9, V.i10, V.i11, V.i12, V.i13, V.i14, V.i15, V.i21, V.i22]
      by_cases h8 : c.2.2.1 = 8
      · rw [if_pos h8] at hres
        refine k188_56 (cno_MR V.mr) (Nat.le_of_ble_eq_true rfl) (P.eatY h8) ?_
        rintro f1 n1 k1 v1 ⟨rfl, rfl, sm1, P1, rfl⟩
        have V1 := P1.V
        generalize nx s.2.2.1 sz c = c1 at P1 hres
        simp (disch := first | omega | decide | assumption | exact Nat.le_of_ble_eq_true rfl) only [s188_59, s188_62, s188_63, s188_66, s188_68, s188_69, s188_70, s188_71, s188_72, ow_some, true_and, and_true, and_self, if_true, if_false, not_true, not_false_eq_true, Bool.false_eq_true, eq_self, Option.toList, List.cons_append, List.nil_append, ix_in, ix_cl, lt_in, lt_cl, lt_add, ix_one, vu_eq, vu_ne, arI_mk, arL_mk, arY_mZ, arY_mB, alen_mI, fld_sfl_ne, fld_sfl_same, Option.isSome_some, pok_i, b1z, b01, z10, b1o, Int32.zero_add, vu_vu, upd_eq, upd_ne, true_or, or_true, V1.r1, V1.r2, V1.r3, V1.r4, V1.r16, V1.r17, V1.r18, V1.r19, V1.r20, V1.r23, V1.r24, V1.r25, V1.r26, V1.r27, V1.r28, V1.r29, V1.r30, V1.c172, V1.c173, V1.c174, V1.c186, V1.c187, V1.c188, V1.n5, V1.n13, V1.n14, V1.i0, V1.i5, V1.i6, V1.i7, V1.i8, V1.i9, V1.i10, V1.i11, V1.i12, V1.i13, V1.i14, V1.i15, V1.i21, V1.i22]
        by_cases t : tko c1 0 999 = true
        · rw [if_pos t] at hres
          rw [tko_iff] at t
          refine k188_75 (cno_MR V1.mr) (Nat.le_of_ble_eq_true rfl) (P1.takeY t.1 (by rw [i999.1, i999.2.1]; exact t.2)) ?_
          rintro f2 n2 k2 v2 ⟨rfl, rfl, sm2, P2, rfl⟩
          have V2 := P2.V
          have Q2 := P2.1
          simp (disch := first | omega | decide | assumption | exact Nat.le_of_ble_eq_true rfl) only [s188_78, s188_79, ow_some, true_and, and_true, and_self, if_true, if_false, not_true, not_false_eq_true, Bool.false_eq_true, eq_self, Option.toList, List.cons_append, List.nil_append, ix_in, ix_cl, lt_in, lt_cl, lt_add, ix_one, vu_eq, vu_ne, arI_mk, arL_mk, arY_mZ, arY_mB, alen_mI, fld_sfl_ne, fld_sfl_same, Option.isSome_some, pok_i, b1z, b01, z10, b1o, Int32.zero_add, vu_vu, upd_eq, upd_ne, true_or, or_true, V2.r1, V2.r2, V2.r3, V2.r4, V2.r16, V2.r17, V2.r18, V2.r19, V2.r20, V2.r23, V2.r24, V2.r25, V2.r26, V2.r27, V2.r28, V2.r29, V2.r30, V2.c172, V2.c173, V2.c174, V2.c186, V2.c187, V2.c188, V2.n5, V2.n13, V2.n14, V2.i0, V2.i5, V2.i6, V2.i7, V2.i8, V2.i9, V2.i10, V2.i11, V2.i12, V2.i13, V2.i14, V2.i15, V2.i21, V2.i22, Q2.f6, Q2.f7, Q2.f8, Q2.f9, Q2.f10, Q2.f11, Q2.f12, Q2.f15, Q2.c175, Q2.c176]
          exact okk _ _ _ _ _ ((sm1.tr sm2).tr (SM.up (by omega) (by omega))) ⟨Q2.fr', P2.2⟩ hres.symm
        · rw [if_neg t] at hres
          rw [tko_iff] at t
          refine k188_75 (cno_MR V1.mr) (Nat.le_of_ble_eq_true rfl) (P1.takeN (by rw [i999.1, i999.2.1]; exact t)) ?_
          rintro f2 n2 k2 v2 ⟨rfl, rfl, sm2, P2, rfl⟩
          have V2 := P2.V
          have Q2 := P2.1
          simp (disch := first | omega | decide | assumption | exact Nat.le_of_ble_eq_true rfl) only [s188_78, s188_79, ow_some, true_and, and_true, and_self, if_true, if_false, not_true, not_false_eq_true, Bool.false_eq_true, eq_self, Option.toList, List.cons_append, List.nil_append, ix_in, ix_cl, lt_in, lt_cl, lt_add, ix_one, vu_eq, vu_ne, arI_mk, arL_mk, arY_mZ, arY_mB, alen_mI, fld_sfl_ne, fld_sfl_same, Option.isSome_some, pok_i, b1z, b01, z10, b1o, Int32.zero_add, vu_vu, upd_eq, upd_ne, true_or, or_true, V2.r1, V2.r2, V2.r3, V2.r4, V2.r16, V2.r17, V2.r18, V2.r19, V2.r20, V2.r23, V2.r24, V2.r25, V2.r26, V2.r27, V2.r28, V2.r29, V2.r30, V2.c172, V2.c173, V2.c174, V2.c186, V2.c187, V2.c188, V2.n5, V2.n13, V2.n14, V2.i0, V2.i5, V2.i6, V2.i7, V2.i8, V2.i9, V2.i10, V2.i11, V2.i12, V2.i13, V2.i14, V2.i15, V2.i21, V2.i22, Q2.f6, Q2.f7, Q2.f8, Q2.f9, Q2.f10, Q2.f11, Q2.f12, Q2.f15, Q2.c175, Q2.c176]
          exact erk _ _ _ _ _ _ ((sm1.tr sm2).tr (SM.up (by omega) (by omega))) tkw_ne ⟨Q2.fr', P2.2⟩ hres.symm
      · rw [if_neg h8] at hres
        rw [p188_56 (cno_MR V.mr) (Nat.le_of_ble_eq_true rfl) (P.eatN (fun z => h8 z.2))]
        simp (disch := first | omega | decide | assumption | exact Nat.le_of_ble_eq_true rfl) only [s188_59, s188_82, s188_83, ow_some, true_and, and_true, and_self, if_true, if_false, not_true, not_false_eq_true, Bool.false_eq_true, eq_self, Option.toList, List.cons_append, List.nil_append, ix_in, ix_cl, lt_in, lt_cl, lt_add, ix_one, vu_eq, vu_ne, arI_mk, arL_mk, arY_mZ, arY_mB, alen_mI, fld_sfl_ne, fld_sfl_same, Option.isSome_some, pok_i, b1z, b01, z10, b1o, Int32.zero_add, vu_vu, upd_eq, upd_ne, true_or, or_true, V.r1, V.r2, V.r3, V.r4, V.r16, V.r17, V.r18, V.r19, V.r20, V.r23, V.r24, V.r25, V.r26, V.r27, V.r28, V.r29, V.r30, V.c172, V.c173, V.c174, V.c186, V.c187, V.c188, V.n5, V.n13, V.n14, V.i0, V.i5, V.i6, V.i7, V.i8, V.i9, V.i10, V.i11, V.i12, V.i13, V.i14, V.i15, V.i21, V.i22]
        rw [← hres]
        exact ⟨rfl, rfl, SM.rf, (fun _ => ⟨rfl, _, _, P⟩), (fun _ _ _ h => by cases h), (fun _ _ h => by cases h)⟩
def l_flags (tx : Nat → Int32) (sz p : Nat) : Nat → Cu → (Nat → Int32) → (Nat → Int32) → Option Lr
  | 0, _, _, _ => none
  | k + 1, c, fr, ag => match l_flag tx sz p c fr ag with
    | none => some (.inl (c, fr, ag))
    | some (.inr e) => some (.inr e)
    | some (.inl q) => l_flags tx sz p k q.1 q.2.1 q.2.2
/-- flags one behind another; R stands at place 52 -/
theorem PC.flags {X : Nat × (Nat → Int32)} {d N K : Nat} {s : m_T} {sz p : Nat} (hp : p < 9) {Q : t_Q} : ∀ (k : Nat) (f : Nat → e_C) (c : Cu) (fr ag : Nat → Int32) (wa rd : Int32) (r : Lr), PC f s fr ag sz c 0 wa rd → l_flags s.2.2.1 sz p k c fr ag = some r → (∀ f' c' fr' ag' wa' rd', r = .inl (c', fr', ag') → SM f f' → PC f' s fr' ag' sz c' 0 wa' rd' → TT X (d + 9) 187 120 [.ref 171, .int (nI p)] [] f' N K Q) → (∀ f' c' fr' ag' w p' rd', r = .inr (w, p') → w ≠ 0 → SM f f' → PC f' s fr' ag' sz c' w (nI p') rd' → TT X (d + 9) 187 120 [.ref 171, .int (nI p)] [] f' N K Q) → TT X (d + 9) 187 102 [.ref 171, .int (nI p)] [] f N K Q := by
  intro k
  induction k with
  | zero => intro f c fr ag wa rd r P h; cases h
  | succ k ih =>
    intro f c fr ag wa rd r P h hok her
    have V := P.V
    have Q0 := P.1
    rw [l_flags] at h
    simp (disch := first | omega | decide | assumption | exact Nat.le_of_ble_eq_true rfl) only [s187_102, s187_103, s187_106, s187_109, s187_110, ow_some, true_and, and_true, and_self, if_true, if_false, not_true, not_false_eq_true, Bool.false_eq_true, eq_self, Option.toList, List.cons_append, List.nil_append, ix_in, ix_cl, lt_in, lt_cl, lt_add, ix_one, vu_eq, vu_ne, arI_mk, arL_mk, arY_mZ, arY_mB, alen_mI, fld_sfl_ne, fld_sfl_same, Option.isSome_some, pok_i, b1z, b01, z10, b1o, Int32.zero_add, vu_vu, upd_eq, upd_ne, true_or, or_true, V.r1, V.r2, V.r3, V.r4, V.r16, V.r17, V.r18, V.r19, V.r20, V.r23, V.r24, V.r25, V.r26, V.r27, V.r28, V.r29, V.r30, V.c172, V.c173, V.c174, V.c186, V.c187, V.c188, V.n5, V.n13, V.n14, V.i0, V.i5, V.i6, V.i7, V.i8, V.i9, V.i10, V.i11, V.i12, V.i13, V.i14, V.i15, V.i21, V.i22, Q0.f6, Q0.f7, Q0.f8, Q0.f9, Q0.f10, Q0.f11, Q0.f12, Q0.f15, Q0.c175, Q0.c176]
    refine k187_111 (cno_MR V.mr) (Nat.le_of_ble_eq_true rfl) (P.flag hp) ?_
    rintro f1 n1 k1 v1 ⟨rfl, rfl, sm1, hn, ho, he⟩
    cases hf : l_flag s.2.2.1 sz p c fr ag with
    | none =>
      obtain ⟨rfl, wa1, rd1, P1⟩ := hn hf
      rw [hf] at h
      cases h
      simp (disch := first | omega | decide | assumption | exact Nat.le_of_ble_eq_true rfl) only [s187_114, ow_some, true_and, and_true, and_self, if_true, if_false, not_true, not_false_eq_true, Bool.false_eq_true, eq_self, Option.toList, List.cons_append, List.nil_append, ix_in, ix_cl, lt_in, lt_cl, lt_add, ix_one, vu_eq, vu_ne, arI_mk, arL_mk, arY_mZ, arY_mB, alen_mI, fld_sfl_ne, fld_sfl_same, Option.isSome_some, pok_i, b1z, b01, z10, b1o, Int32.zero_add, vu_vu, upd_eq, upd_ne, true_or, or_true]
      exact hok f1 c fr ag wa1 rd1 rfl sm1 P1
    | some q =>
      rw [hf] at h
      rcases q with ⟨c1, fr1, ag1⟩ | ⟨w, p'⟩
      · obtain ⟨rfl, wa1, rd1, P1⟩ := ho _ _ _ hf
        simp only at h
        simp (disch := first | omega | decide | assumption | exact Nat.le_of_ble_eq_true rfl) only [s187_114, h187_117, ow_some, true_and, and_true, and_self, if_true, if_false, not_true, not_false_eq_true, Bool.false_eq_true, eq_self, Option.toList, List.cons_append, List.nil_append, ix_in, ix_cl, lt_in, lt_cl, lt_add, ix_one, vu_eq, vu_ne, arI_mk, arL_mk, arY_mZ, arY_mB, alen_mI, fld_sfl_ne, fld_sfl_same, Option.isSome_some, pok_i, b1z, b01, z10, b1o, Int32.zero_add, vu_vu, upd_eq, upd_ne, true_or, or_true]
        exact ih f1 c1 fr1 ag1 wa1 rd1 r P1 h (fun f' c' fr' ag' wa' rd' e sm => hok f' c' fr' ag' wa' rd' e (sm1.tr sm)) (fun f' c' fr' ag' w p' rd' e hw sm => her f' c' fr' ag' w p' rd' e hw (sm1.tr sm))
      · obtain ⟨rfl, hw, fr1, ag1, c1, rd1, P1⟩ := he _ _ hf
        cases h
        simp (disch := first | omega | decide | assumption | exact Nat.le_of_ble_eq_true rfl) only [s187_114, ow_some, true_and, and_true, and_self, if_true, if_false, not_true, not_false_eq_true, Bool.false_eq_true, eq_self, Option.toList, List.cons_append, List.nil_append, ix_in, ix_cl, lt_in, lt_cl, lt_add, ix_one, vu_eq, vu_ne, arI_mk, arL_mk, arY_mZ, arY_mB, alen_mI, fld_sfl_ne, fld_sfl_same, Option.isSome_some, pok_i, b1z, b01, z10, b1o, Int32.zero_add, vu_vu, upd_eq, upd_ne, true_or, or_true]
        exact her f1 c1 fr1 ag1 w p' rd1 rfl hw sm1 P1

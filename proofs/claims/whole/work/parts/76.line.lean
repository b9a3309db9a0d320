/-! the reference reads a line and its end -/
def l_num (tx : Nat → Int32) (sz i : Nat) (lo hi : Int) (c : Cu) (fr ag : Nat → Int32) : Lr := if tko (nx tx sz c) lo hi = true then .inl (nx tx sz (nx tx sz c), upd fr i (nx tx sz c).2.2.2, ag) else .inr (tkw (nx tx sz c), (nx tx sz c).1)
def l_line (tx : Nat → Int32) (sz S R k : Nat) (c : Cu) (fr ag : Nat → Int32) (r : Lr) : Prop := (c.2.2.1 = 1 ∧ r = l_joint tx sz S c fr ag) ∨ (c.2.2.1 = 3 ∧ l_person tx sz S R k c fr ag = some r) ∨ (c.2.2.1 = 9 ∧ r = l_couple tx sz R c fr ag) ∨ (c.2.2.1 = 10 ∧ r = l_num tx sz 2 1 9 c fr ag) ∨ (c.2.2.1 = 11 ∧ l_law' tx sz 0 k c fr ag r) ∨ (c.2.2.1 = 12 ∧ l_law' tx sz 1 k c fr ag r) ∨ (c.2.2.1 = 13 ∧ r = l_num tx sz 56 0 999 c fr ag) ∨ ((c.2.2.1 ≠ 1 ∧ c.2.2.1 ≠ 3 ∧ c.2.2.1 ≠ 9 ∧ c.2.2.1 ≠ 10 ∧ c.2.2.1 ≠ 11 ∧ c.2.2.1 ≠ 12 ∧ c.2.2.1 ≠ 13) ∧ r = fl' 2 c)
theorem PC.lineE {X : Nat × (Nat → Int32)} {d N K : Nat} {f : Nat → e_C} {s : m_T} {fr ag : Nat → Int32} {sz : Nat} {c : Cu} {wr wa rd : Int32} (P : PC f s fr ag sz c wr wa rd) (hw : ¬ wr = 0) : PU X d 185 [.ref 171] f N K none := by
  unfold PU
  have V := P.V
  have Q := P.1
  simp (disch := first | omega | decide | assumption | exact Nat.le_of_ble_eq_true rfl) only [s185_0, s185_1, s185_4, s185_7, ow_some, true_and, and_true, and_self, if_true, if_false, not_true, not_false_eq_true, Bool.false_eq_true, eq_self, Option.toList, List.cons_append, List.nil_append, ix_in, ix_cl, lt_in, lt_cl, lt_add, ix_one, vu_eq, vu_ne, arI_mk, arL_mk, arY_mZ, arY_mB, alen_mI, fld_sfl_ne, fld_sfl_same, Option.isSome_some, pok_i, b1z, b01, z10, b1o, Int32.zero_add, vu_vu, upd_eq, upd_ne, true_or, or_true, V.r1, V.r2, V.r3, V.r4, V.r16, V.r17, V.r18, V.r19, V.r20, V.r23, V.r24, V.r25, V.r26, V.r27, V.r28, V.r29, V.r30, V.c172, V.c173, V.c174, V.c186, V.c187, V.c188, V.n5, V.n13, V.n14, V.i0, V.i5, V.i6, V.i7, V.i8, V.i9, V.i10, V.i11, V.i12, V.i13, V.i14, V.i15, V.i21, V.i22, Q.f6, Q.f7, Q.f8, Q.f9, Q.f10, Q.f11, Q.f12, Q.f15, Q.c175, Q.c176, hw]
theorem PL.mono {X : Nat × (Nat → Int32)} {d mi pc N K : Nat} {lv st : List Value} {g f : Nat → e_C} {s : m_T} {sz : Nat} {r : Lr} (sm : SM f g) (h : TT X d mi pc lv st g N K (PL g s sz N K r)) : TT X d mi pc lv st g N K (PL f s sz N K r) := h.mono (fun _ _ _ _ z => ⟨z.1, z.2.1, z.2.2.1, sm.tr z.2.2.2.1, z.2.2.2.2⟩)
theorem PC.line {X : Nat × (Nat → Int32)} {d N K : Nat} {f : Nat → e_C} {s : m_T} {fr ag : Nat → Int32} {sz S R k n : Nat} {c : Cu} {wa rd : Int32} {r : Lr} (P : PC f s fr ag sz c 0 wa rd) (hS : fr 1 = nI S) (h1 : 1 ≤ S) (h8 : S ≤ 8) (hR : fr 52 = nI R) (h9 : R ≤ 9) (hcv : cv sz c) (hn : ncs fr n) (hle : n ≤ c.1) (hn1 : cnm (nx s.2.2.1 sz c)) (hn2 : cnm (nx s.2.2.1 sz (nx s.2.2.1 sz c))) (hr : l_line s.2.2.1 sz S R k c fr ag r) : TT X (d + 61) 185 0 [.ref 171] [] f N K (PL f s sz N K r) := by
  have V := P.V
  have Q := P.1
  have fin : ∀ f' n' k' v, PL f s sz N K r f' n' k' v → TT X (d + 61) 185 143 [.ref 171] (v.toList ++ []) f' n' k' (PL f s sz N K r) := by
    rintro f' n' k' v ⟨rfl, rfl, rfl, h⟩
    simp (disch := first | omega | decide | assumption | exact Nat.le_of_ble_eq_true rfl) only [s185_143, ow_some, true_and, and_true, and_self, if_true, if_false, not_true, not_false_eq_true, Bool.false_eq_true, eq_self, Option.toList, List.cons_append, List.nil_append, ix_in, ix_cl, lt_in, lt_cl, lt_add, ix_one, vu_eq, vu_ne, arI_mk, arL_mk, arY_mZ, arY_mB, alen_mI, fld_sfl_ne, fld_sfl_same, Option.isSome_some, pok_i, b1z, b01, z10, b1o, Int32.zero_add, vu_vu, upd_eq, upd_ne, true_or, or_true]
    exact ⟨rfl, rfl, rfl, h⟩
  have fing : ∀ f' n' k' v, PL f s sz N K r f' n' k' v → v = none ∧ TT X (d + 61) 185 143 [.ref 171] [] f' n' k' (PL f s sz N K r) := by
    rintro f' n' k' v ⟨rfl, rfl, rfl, h⟩
    refine ⟨rfl, ?_⟩
    simp (disch := first | omega | decide | assumption | exact Nat.le_of_ble_eq_true rfl) only [s185_143, ow_some, true_and, and_true, and_self, if_true, if_false, not_true, not_false_eq_true, Bool.false_eq_true, eq_self, Option.toList, List.cons_append, List.nil_append, ix_in, ix_cl, lt_in, lt_cl, lt_add, ix_one, vu_eq, vu_ne, arI_mk, arL_mk, arY_mZ, arY_mB, alen_mI, fld_sfl_ne, fld_sfl_same, Option.isSome_some, pok_i, b1z, b01, z10, b1o, Int32.zero_add, vu_vu, upd_eq, upd_ne, true_or, or_true]
    exact ⟨rfl, rfl, rfl, h⟩
  have kdn : ∀ k, (c.2.2.1 ≠ k) → (c.2.2.1 = k) = False := fun k h => eq_false h
  simp (disch := first | omega | decide | assumption | exact Nat.le_of_ble_eq_true rfl) only [s185_0, s185_1, s185_4, s185_7, s185_8, s185_9, ow_some, true_and, and_true, and_self, if_true, if_false, not_true, not_false_eq_true, Bool.false_eq_true, eq_self, Option.toList, List.cons_append, List.nil_append, ix_in, ix_cl, lt_in, lt_cl, lt_add, ix_one, vu_eq, vu_ne, arI_mk, arL_mk, arY_mZ, arY_mB, alen_mI, fld_sfl_ne, fld_sfl_same, Option.isSome_some, pok_i, b1z, b01, z10, b1o, Int32.zero_add, vu_vu, upd_eq, upd_ne, true_or, or_true, V.r1, V.r2, V.r3, V.r4, V.r16, V.r17, V.r18, V.r19, V.r20, V.r23, V.r24, V.r25, V.r26, V.r27, V.r28, V.r29, V.r30, V.c172, V.c173, V.c174, V.c186, V.c187, V.c188, V.n5, V.n13, V.n14, V.i0, V.i5, V.i6, V.i7, V.i8, V.i9, V.i10, V.i11, V.i12, V.i13, V.i14, V.i15, V.i21, V.i22, Q.f6, Q.f7, Q.f8, Q.f9, Q.f10, Q.f11, Q.f12, Q.f15, Q.c175, Q.c176]
  rw [p185_10 (cno_MR V.mr) (Nat.le_of_ble_eq_true rfl) P.is]
  by_cases d1 : c.2.2.1 = 1
  · have hr1 : r = l_joint s.2.2.1 sz S c fr ag := by
      rcases hr with ⟨_, h⟩ | ⟨h, _⟩ | ⟨h, _⟩ | ⟨h, _⟩ | ⟨h, _⟩ | ⟨h, _⟩ | ⟨h, _⟩ | ⟨h, _⟩
      · exact h
      all_goals first | (rw [d1] at h; exact absurd h (by decide)) | exact absurd d1 h.1
    have d1' : (c.2.2.1 = 1) = True := eq_true d1
    simp (disch := first | omega | decide | assumption | exact Nat.le_of_ble_eq_true rfl) only [s185_13, s185_16, ow_some, true_and, and_true, and_self, if_true, if_false, not_true, not_false_eq_true, Bool.false_eq_true, eq_self, Option.toList, List.cons_append, List.nil_append, ix_in, ix_cl, lt_in, lt_cl, lt_add, ix_one, vu_eq, vu_ne, arI_mk, arL_mk, arY_mZ, arY_mB, alen_mI, fld_sfl_ne, fld_sfl_same, Option.isSome_some, pok_i, b1z, b01, z10, b1o, Int32.zero_add, vu_vu, upd_eq, upd_ne, true_or, or_true, V.r1, V.r2, V.r3, V.r4, V.r16, V.r17, V.r18, V.r19, V.r20, V.r23, V.r24, V.r25, V.r26, V.r27, V.r28, V.r29, V.r30, V.c172, V.c173, V.c174, V.c186, V.c187, V.c188, V.n5, V.n13, V.n14, V.i0, V.i5, V.i6, V.i7, V.i8, V.i9, V.i10, V.i11, V.i12, V.i13, V.i14, V.i15, V.i21, V.i22, d1']
    refine k185_17 (cno_MR V.mr) (Nat.le_of_ble_eq_true rfl) (P.joint hS h1 h8) ?_
    intro f' n' k' v hpl
    rw [← hr1] at hpl
    obtain ⟨rfl, h⟩ := fing f' n' k' v hpl
    simp (disch := first | omega | decide | assumption | exact Nat.le_of_ble_eq_true rfl) only [s185_20, ow_some, true_and, and_true, and_self, if_true, if_false, not_true, not_false_eq_true, Bool.false_eq_true, eq_self, Option.toList, List.cons_append, List.nil_append, ix_in, ix_cl, lt_in, lt_cl, lt_add, ix_one, vu_eq, vu_ne, arI_mk, arL_mk, arY_mZ, arY_mB, alen_mI, fld_sfl_ne, fld_sfl_same, Option.isSome_some, pok_i, b1z, b01, z10, b1o, Int32.zero_add, vu_vu, upd_eq, upd_ne, true_or, or_true]
    exact h
  simp (disch := first | omega | decide | assumption | exact Nat.le_of_ble_eq_true rfl) only [s185_13, s185_23, s185_24, ow_some, true_and, and_true, and_self, if_true, if_false, not_true, not_false_eq_true, Bool.false_eq_true, eq_self, Option.toList, List.cons_append, List.nil_append, ix_in, ix_cl, lt_in, lt_cl, lt_add, ix_one, vu_eq, vu_ne, arI_mk, arL_mk, arY_mZ, arY_mB, alen_mI, fld_sfl_ne, fld_sfl_same, Option.isSome_some, pok_i, b1z, b01, z10, b1o, Int32.zero_add, vu_vu, upd_eq, upd_ne, true_or, or_true, V.r1, V.r2, V.r3, V.r4, V.r16, V.r17, V.r18, V.r19, V.r20, V.r23, V.r24, V.r25, V.r26, V.r27, V.r28, V.r29, V.r30, V.c172, V.c173, V.c174, V.c186, V.c187, V.c188, V.n5, V.n13, V.n14, V.i0, V.i5, V.i6, V.i7, V.i8, V.i9, V.i10, V.i11, V.i12, V.i13, V.i14, V.i15, V.i21, V.i22, d1, and_false]
  rw [p185_25 (cno_MR V.mr) (Nat.le_of_ble_eq_true rfl) P.is]
  by_cases d3 : c.2.2.1 = 3
  · have hr1 : l_person s.2.2.1 sz S R k c fr ag = some r := by
      rcases hr with ⟨h, _⟩ | ⟨_, h⟩ | ⟨h, _⟩ | ⟨h, _⟩ | ⟨h, _⟩ | ⟨h, _⟩ | ⟨h, _⟩ | ⟨h, _⟩
      · exact absurd h d1
      · exact h
      all_goals first | (rw [d3] at h; exact absurd h (by decide)) | exact absurd d3 h.2.1
    have d3' : (c.2.2.1 = 3) = True := eq_true d3
    simp (disch := first | omega | decide | assumption | exact Nat.le_of_ble_eq_true rfl) only [s185_28, s185_31, ow_some, true_and, and_true, and_self, if_true, if_false, not_true, not_false_eq_true, Bool.false_eq_true, eq_self, Option.toList, List.cons_append, List.nil_append, ix_in, ix_cl, lt_in, lt_cl, lt_add, ix_one, vu_eq, vu_ne, arI_mk, arL_mk, arY_mZ, arY_mB, alen_mI, fld_sfl_ne, fld_sfl_same, Option.isSome_some, pok_i, b1z, b01, z10, b1o, Int32.zero_add, vu_vu, upd_eq, upd_ne, true_or, or_true, V.r1, V.r2, V.r3, V.r4, V.r16, V.r17, V.r18, V.r19, V.r20, V.r23, V.r24, V.r25, V.r26, V.r27, V.r28, V.r29, V.r30, V.c172, V.c173, V.c174, V.c186, V.c187, V.c188, V.n5, V.n13, V.n14, V.i0, V.i5, V.i6, V.i7, V.i8, V.i9, V.i10, V.i11, V.i12, V.i13, V.i14, V.i15, V.i21, V.i22, d3']
    refine k185_32 (cno_MR V.mr) (Nat.le_of_ble_eq_true rfl) (P.person hS h1 h8 hR h9 hr1) ?_
    intro f' n' k' v hpl
    obtain ⟨rfl, h⟩ := fing f' n' k' v hpl
    simp (disch := first | omega | decide | assumption | exact Nat.le_of_ble_eq_true rfl) only [s185_35, ow_some, true_and, and_true, and_self, if_true, if_false, not_true, not_false_eq_true, Bool.false_eq_true, eq_self, Option.toList, List.cons_append, List.nil_append, ix_in, ix_cl, lt_in, lt_cl, lt_add, ix_one, vu_eq, vu_ne, arI_mk, arL_mk, arY_mZ, arY_mB, alen_mI, fld_sfl_ne, fld_sfl_same, Option.isSome_some, pok_i, b1z, b01, z10, b1o, Int32.zero_add, vu_vu, upd_eq, upd_ne, true_or, or_true]
    exact h
  simp (disch := first | omega | decide | assumption | exact Nat.le_of_ble_eq_true rfl) only [s185_28, s185_38, s185_39, ow_some, true_and, and_true, and_self, if_true, if_false, not_true, not_false_eq_true, Bool.false_eq_true, eq_self, Option.toList, List.cons_append, List.nil_append, ix_in, ix_cl, lt_in, lt_cl, lt_add, ix_one, vu_eq, vu_ne, arI_mk, arL_mk, arY_mZ, arY_mB, alen_mI, fld_sfl_ne, fld_sfl_same, Option.isSome_some, pok_i, b1z, b01, z10, b1o, Int32.zero_add, vu_vu, upd_eq, upd_ne, true_or, or_true, V.r1, V.r2, V.r3, V.r4, V.r16, V.r17, V.r18, V.r19, V.r20, V.r23, V.r24, V.r25, V.r26, V.r27, V.r28, V.r29, V.r30, V.c172, V.c173, V.c174, V.c186, V.c187, V.c188, V.n5, V.n13, V.n14, V.i0, V.i5, V.i6, V.i7, V.i8, V.i9, V.i10, V.i11, V.i12, V.i13, V.i14, V.i15, V.i21, V.i22, d3, and_false]
  rw [p185_41 (cno_MR V.mr) (Nat.le_of_ble_eq_true rfl) P.is]
  by_cases d9 : c.2.2.1 = 9
  · have hr1 : r = l_couple s.2.2.1 sz R c fr ag := by
      rcases hr with ⟨h, _⟩ | ⟨h, _⟩ | ⟨_, h⟩ | ⟨h, _⟩ | ⟨h, _⟩ | ⟨h, _⟩ | ⟨h, _⟩ | ⟨h, _⟩
      · exact absurd h d1
      · exact absurd h d3
      · exact h
      all_goals first | (rw [d9] at h; exact absurd h (by decide)) | exact absurd d9 h.2.2.1
    have d9' : (c.2.2.1 = 9) = True := eq_true d9
    simp (disch := first | omega | decide | assumption | exact Nat.le_of_ble_eq_true rfl) only [s185_44, s185_47, ow_some, true_and, and_true, and_self, if_true, if_false, not_true, not_false_eq_true, Bool.false_eq_true, eq_self, Option.toList, List.cons_append, List.nil_append, ix_in, ix_cl, lt_in, lt_cl, lt_add, ix_one, vu_eq, vu_ne, arI_mk, arL_mk, arY_mZ, arY_mB, alen_mI, fld_sfl_ne, fld_sfl_same, Option.isSome_some, pok_i, b1z, b01, z10, b1o, Int32.zero_add, vu_vu, upd_eq, upd_ne, true_or, or_true, V.r1, V.r2, V.r3, V.r4, V.r16, V.r17, V.r18, V.r19, V.r20, V.r23, V.r24, V.r25, V.r26, V.r27, V.r28, V.r29, V.r30, V.c172, V.c173, V.c174, V.c186, V.c187, V.c188, V.n5, V.n13, V.n14, V.i0, V.i5, V.i6, V.i7, V.i8, V.i9, V.i10, V.i11, V.i12, V.i13, V.i14, V.i15, V.i21, V.i22, d9']
    refine k185_48 (cno_MR V.mr) (Nat.le_of_ble_eq_true rfl) (P.couple hR h9 hn1 hn2) ?_
    intro f' n' k' v hpl
    rw [← hr1] at hpl
    obtain ⟨rfl, h⟩ := fing f' n' k' v hpl
    simp (disch := first | omega | decide | assumption | exact Nat.le_of_ble_eq_true rfl) only [s185_51, ow_some, true_and, and_true, and_self, if_true, if_false, not_true, not_false_eq_true, Bool.false_eq_true, eq_self, Option.toList, List.cons_append, List.nil_append, ix_in, ix_cl, lt_in, lt_cl, lt_add, ix_one, vu_eq, vu_ne, arI_mk, arL_mk, arY_mZ, arY_mB, alen_mI, fld_sfl_ne, fld_sfl_same, Option.isSome_some, pok_i, b1z, b01, z10, b1o, Int32.zero_add, vu_vu, upd_eq, upd_ne, true_or, or_true]
    exact h
  simp (disch := first | omega | decide | assumption | exact Nat.le_of_ble_eq_true rfl) only [s185_44, s185_54, s185_55, ow_some, true_and, and_true, and_self, if_true, if_false, not_true, not_false_eq_true, Bool.false_eq_true, eq_self, Option.toList, List.cons_append, List.nil_append, ix_in, ix_cl, lt_in, lt_cl, lt_add, ix_one, vu_eq, vu_ne, arI_mk, arL_mk, arY_mZ, arY_mB, alen_mI, fld_sfl_ne, fld_sfl_same, Option.isSome_some, pok_i, b1z, b01, z10, b1o, Int32.zero_add, vu_vu, upd_eq, upd_ne, true_or, or_true, V.r1, V.r2, V.r3, V.r4, V.r16, V.r17, V.r18, V.r19, V.r20, V.r23, V.r24, V.r25, V.r26, V.r27, V.r28, V.r29, V.r30, V.c172, V.c173, V.c174, V.c186, V.c187, V.c188, V.n5, V.n13, V.n14, V.i0, V.i5, V.i6, V.i7, V.i8, V.i9, V.i10, V.i11, V.i12, V.i13, V.i14, V.i15, V.i21, V.i22, d9, and_false]
  by_cases d10 : c.2.2.1 = 10
  · have hr1 : r = l_num s.2.2.1 sz 2 1 9 c fr ag := by
      rcases hr with ⟨h, _⟩ | ⟨h, _⟩ | ⟨h, _⟩ | ⟨_, h⟩ | ⟨h, _⟩ | ⟨h, _⟩ | ⟨h, _⟩ | ⟨h, _⟩
      · exact absurd h d1
      · exact absurd h d3
      · exact absurd h d9
      · exact h
      all_goals first | (rw [d10] at h; exact absurd h (by decide)) | exact absurd d10 h.2.2.2.1
    unfold l_num at hr1
    refine k185_57 (cno_MR V.mr) (Nat.le_of_ble_eq_true rfl) (P.eatY d10) ?_
    rintro f1 n1 k1 v1 ⟨rfl, rfl, sm1, P1, rfl⟩
    have V1 := P1.V
    generalize nx s.2.2.1 sz c = c1 at P1 hr1
    simp (disch := first | omega | decide | assumption | exact Nat.le_of_ble_eq_true rfl) only [s185_60, s185_63, s185_64, s185_67, s185_68, s185_69, s185_70, ow_some, true_and, and_true, and_self, if_true, if_false, not_true, not_false_eq_true, Bool.false_eq_true, eq_self, Option.toList, List.cons_append, List.nil_append, ix_in, ix_cl, lt_in, lt_cl, lt_add, ix_one, vu_eq, vu_ne, arI_mk, arL_mk, arY_mZ, arY_mB, alen_mI, fld_sfl_ne, fld_sfl_same, Option.isSome_some, pok_i, b1z, b01, z10, b1o, Int32.zero_add, vu_vu, upd_eq, upd_ne, true_or, or_true, V1.r1, V1.r2, V1.r3, V1.r4, V1.r16, V1.r17, V1.r18, V1.r19, V1.r20, V1.r23, V1.r24, V1.r25, V1.r26, V1.r27, V1.r28, V1.r29, V1.r30, V1.c172, V1.c173, V1.c174, V1.c186, V1.c187, V1.c188, V1.n5, V1.n13, V1.n14, V1.i0, V1.i5, V1.i6, V1.i7, V1.i8, V1.i9, V1.i10, V1.i11, V1.i12, V1.i13, V1.i14, V1.i15, V1.i21, V1.i22]
    by_cases t : tko c1 1 9 = true
    · rw [if_pos t] at hr1
      rw [tko_iff] at t
      refine k185_72 (cno_MR V1.mr) (Nat.le_of_ble_eq_true rfl) (P1.takeY t.1 (by rw [i999.2.2.2.2.1, i999.2.2.2.2.2]; exact t.2)) ?_
      rintro f2 n2 k2 v2 ⟨rfl, rfl, sm2, P2, rfl⟩
      have V2 := P2.V
      have Q2 := P2.1
      simp (disch := first | omega | decide | assumption | exact Nat.le_of_ble_eq_true rfl) only [s185_75, s185_76, s185_143, ow_some, true_and, and_true, and_self, if_true, if_false, not_true, not_false_eq_true, Bool.false_eq_true, eq_self, Option.toList, List.cons_append, List.nil_append, ix_in, ix_cl, lt_in, lt_cl, lt_add, ix_one, vu_eq, vu_ne, arI_mk, arL_mk, arY_mZ, arY_mB, alen_mI, fld_sfl_ne, fld_sfl_same, Option.isSome_some, pok_i, b1z, b01, z10, b1o, Int32.zero_add, vu_vu, upd_eq, upd_ne, true_or, or_true, V2.r1, V2.r2, V2.r3, V2.r4, V2.r16, V2.r17, V2.r18, V2.r19, V2.r20, V2.r23, V2.r24, V2.r25, V2.r26, V2.r27, V2.r28, V2.r29, V2.r30, V2.c172, V2.c173, V2.c174, V2.c186, V2.c187, V2.c188, V2.n5, V2.n13, V2.n14, V2.i0, V2.i5, V2.i6, V2.i7, V2.i8, V2.i9, V2.i10, V2.i11, V2.i12, V2.i13, V2.i14, V2.i15, V2.i21, V2.i22, Q2.f6, Q2.f7, Q2.f8, Q2.f9, Q2.f10, Q2.f11, Q2.f12, Q2.f15, Q2.c175, Q2.c176]
      rw [hr1]
      exact PL.ok ((sm1.tr sm2).tr (SM.up (by omega) (by omega))) ⟨Q2.fr', P2.2⟩
    · rw [if_neg t] at hr1
      rw [tko_iff] at t
      refine k185_72 (cno_MR V1.mr) (Nat.le_of_ble_eq_true rfl) (P1.takeN (by rw [i999.2.2.2.2.1, i999.2.2.2.2.2]; exact t)) ?_
      rintro f2 n2 k2 v2 ⟨rfl, rfl, sm2, P2, rfl⟩
      have V2 := P2.V
      have Q2 := P2.1
      simp (disch := first | omega | decide | assumption | exact Nat.le_of_ble_eq_true rfl) only [s185_75, s185_76, s185_143, ow_some, true_and, and_true, and_self, if_true, if_false, not_true, not_false_eq_true, Bool.false_eq_true, eq_self, Option.toList, List.cons_append, List.nil_append, ix_in, ix_cl, lt_in, lt_cl, lt_add, ix_one, vu_eq, vu_ne, arI_mk, arL_mk, arY_mZ, arY_mB, alen_mI, fld_sfl_ne, fld_sfl_same, Option.isSome_some, pok_i, b1z, b01, z10, b1o, Int32.zero_add, vu_vu, upd_eq, upd_ne, true_or, or_true, V2.r1, V2.r2, V2.r3, V2.r4, V2.r16, V2.r17, V2.r18, V2.r19, V2.r20, V2.r23, V2.r24, V2.r25, V2.r26, V2.r27, V2.r28, V2.r29, V2.r30, V2.c172, V2.c173, V2.c174, V2.c186, V2.c187, V2.c188, V2.n5, V2.n13, V2.n14, V2.i0, V2.i5, V2.i6, V2.i7, V2.i8, V2.i9, V2.i10, V2.i11, V2.i12, V2.i13, V2.i14, V2.i15, V2.i21, V2.i22, Q2.f6, Q2.f7, Q2.f8, Q2.f9, Q2.f10, Q2.f11, Q2.f12, Q2.f15, Q2.c175, Q2.c176]
      rw [hr1]
      exact PL.er ((sm1.tr sm2).tr (SM.up (by omega) (by omega))) tkw_ne ⟨Q2.fr', P2.2⟩
  rw [p185_57 (cno_MR V.mr) (Nat.le_of_ble_eq_true rfl) (P.eatN (fun z => d10 z.2))]
  simp (disch := first | omega | decide | assumption | exact Nat.le_of_ble_eq_true rfl) only [s185_60, s185_79, s185_80, ow_some, true_and, and_true, and_self, if_true, if_false, not_true, not_false_eq_true, Bool.false_eq_true, eq_self, Option.toList, List.cons_append, List.nil_append, ix_in, ix_cl, lt_in, lt_cl, lt_add, ix_one, vu_eq, vu_ne, arI_mk, arL_mk, arY_mZ, arY_mB, alen_mI, fld_sfl_ne, fld_sfl_same, Option.isSome_some, pok_i, b1z, b01, z10, b1o, Int32.zero_add, vu_vu, upd_eq, upd_ne, true_or, or_true, V.r1, V.r2, V.r3, V.r4, V.r16, V.r17, V.r18, V.r19, V.r20, V.r23, V.r24, V.r25, V.r26, V.r27, V.r28, V.r29, V.r30, V.c172, V.c173, V.c174, V.c186, V.c187, V.c188, V.n5, V.n13, V.n14, V.i0, V.i5, V.i6, V.i7, V.i8, V.i9, V.i10, V.i11, V.i12, V.i13, V.i14, V.i15, V.i21, V.i22]
  rw [p185_82 (cno_MR V.mr) (Nat.le_of_ble_eq_true rfl) P.is]
  by_cases d11 : c.2.2.1 = 11
  · have hr1 : l_law' s.2.2.1 sz 0 k c fr ag r := by
      rcases hr with ⟨h, _⟩ | ⟨h, _⟩ | ⟨h, _⟩ | ⟨h, _⟩ | ⟨_, h⟩ | ⟨h, _⟩ | ⟨h, _⟩ | ⟨h, _⟩
      · exact absurd h d1
      · exact absurd h d3
      · exact absurd h d9
      · exact absurd h d10
      · exact h
      all_goals first | (rw [d11] at h; exact absurd h (by decide)) | exact absurd d11 h.2.2.2.2.1
    have d11' : (c.2.2.1 = 11) = True := eq_true d11
    have e0 : c.2.2.1 - 11 = nI 0 := by rw [d11]; decide
    simp (disch := first | omega | decide | assumption | exact Nat.le_of_ble_eq_true rfl) only [s185_85, s185_97, s185_98, s185_99, s185_102, s185_104, ow_some, true_and, and_true, and_self, if_true, if_false, not_true, not_false_eq_true, Bool.false_eq_true, eq_self, Option.toList, List.cons_append, List.nil_append, ix_in, ix_cl, lt_in, lt_cl, lt_add, ix_one, vu_eq, vu_ne, arI_mk, arL_mk, arY_mZ, arY_mB, alen_mI, fld_sfl_ne, fld_sfl_same, Option.isSome_some, pok_i, b1z, b01, z10, b1o, Int32.zero_add, vu_vu, upd_eq, upd_ne, true_or, or_true, V.r1, V.r2, V.r3, V.r4, V.r16, V.r17, V.r18, V.r19, V.r20, V.r23, V.r24, V.r25, V.r26, V.r27, V.r28, V.r29, V.r30, V.c172, V.c173, V.c174, V.c186, V.c187, V.c188, V.n5, V.n13, V.n14, V.i0, V.i5, V.i6, V.i7, V.i8, V.i9, V.i10, V.i11, V.i12, V.i13, V.i14, V.i15, V.i21, V.i22, Q.f6, Q.f7, Q.f8, Q.f9, Q.f10, Q.f11, Q.f12, Q.f15, Q.c175, Q.c176, d11', e0]
    refine k185_105 (cno_MR V.mr) (Nat.le_of_ble_eq_true rfl) (P.law (law := 0) (by decide) hcv (by rw [d11]; decide) hn hle hr1) ?_
    intro f' n' k' v hpl
    obtain ⟨rfl, h⟩ := fing f' n' k' v hpl
    simp (disch := first | omega | decide | assumption | exact Nat.le_of_ble_eq_true rfl) only [s185_108, ow_some, true_and, and_true, and_self, if_true, if_false, not_true, not_false_eq_true, Bool.false_eq_true, eq_self, Option.toList, List.cons_append, List.nil_append, ix_in, ix_cl, lt_in, lt_cl, lt_add, ix_one, vu_eq, vu_ne, arI_mk, arL_mk, arY_mZ, arY_mB, alen_mI, fld_sfl_ne, fld_sfl_same, Option.isSome_some, pok_i, b1z, b01, z10, b1o, Int32.zero_add, vu_vu, upd_eq, upd_ne, true_or, or_true]
    exact h
  simp (disch := first | omega | decide | assumption | exact Nat.le_of_ble_eq_true rfl) only [s185_85, s185_88, s185_89, ow_some, true_and, and_true, and_self, if_true, if_false, not_true, not_false_eq_true, Bool.false_eq_true, eq_self, Option.toList, List.cons_append, List.nil_append, ix_in, ix_cl, lt_in, lt_cl, lt_add, ix_one, vu_eq, vu_ne, arI_mk, arL_mk, arY_mZ, arY_mB, alen_mI, fld_sfl_ne, fld_sfl_same, Option.isSome_some, pok_i, b1z, b01, z10, b1o, Int32.zero_add, vu_vu, upd_eq, upd_ne, true_or, or_true, V.r1, V.r2, V.r3, V.r4, V.r16, V.r17, V.r18, V.r19, V.r20, V.r23, V.r24, V.r25, V.r26, V.r27, V.r28, V.r29, V.r30, V.c172, V.c173, V.c174, V.c186, V.c187, V.c188, V.n5, V.n13, V.n14, V.i0, V.i5, V.i6, V.i7, V.i8, V.i9, V.i10, V.i11, V.i12, V.i13, V.i14, V.i15, V.i21, V.i22, d11, and_false]
  rw [p185_91 (cno_MR V.mr) (Nat.le_of_ble_eq_true rfl) P.is]
  by_cases d12 : c.2.2.1 = 12
  · have hr1 : l_law' s.2.2.1 sz 1 k c fr ag r := by
      rcases hr with ⟨h, _⟩ | ⟨h, _⟩ | ⟨h, _⟩ | ⟨h, _⟩ | ⟨h, _⟩ | ⟨_, h⟩ | ⟨h, _⟩ | ⟨h, _⟩
      · exact absurd h d1
      · exact absurd h d3
      · exact absurd h d9
      · exact absurd h d10
      · exact absurd h d11
      · exact h
      all_goals first | (rw [d12] at h; exact absurd h (by decide)) | exact absurd d12 h.2.2.2.2.2.1
    have d12' : (c.2.2.1 = 12) = True := eq_true d12
    have e0 : c.2.2.1 - 11 = nI 1 := by rw [d12]; decide
    simp (disch := first | omega | decide | assumption | exact Nat.le_of_ble_eq_true rfl) only [s185_94, s185_97, s185_98, s185_99, s185_102, s185_104, ow_some, true_and, and_true, and_self, if_true, if_false, not_true, not_false_eq_true, Bool.false_eq_true, eq_self, Option.toList, List.cons_append, List.nil_append, ix_in, ix_cl, lt_in, lt_cl, lt_add, ix_one, vu_eq, vu_ne, arI_mk, arL_mk, arY_mZ, arY_mB, alen_mI, fld_sfl_ne, fld_sfl_same, Option.isSome_some, pok_i, b1z, b01, z10, b1o, Int32.zero_add, vu_vu, upd_eq, upd_ne, true_or, or_true, V.r1, V.r2, V.r3, V.r4, V.r16, V.r17, V.r18, V.r19, V.r20, V.r23, V.r24, V.r25, V.r26, V.r27, V.r28, V.r29, V.r30, V.c172, V.c173, V.c174, V.c186, V.c187, V.c188, V.n5, V.n13, V.n14, V.i0, V.i5, V.i6, V.i7, V.i8, V.i9, V.i10, V.i11, V.i12, V.i13, V.i14, V.i15, V.i21, V.i22, Q.f6, Q.f7, Q.f8, Q.f9, Q.f10, Q.f11, Q.f12, Q.f15, Q.c175, Q.c176, d12', e0]
    refine k185_105 (cno_MR V.mr) (Nat.le_of_ble_eq_true rfl) (P.law (law := 1) (by decide) hcv (by rw [d12]; decide) hn hle hr1) ?_
    intro f' n' k' v hpl
    obtain ⟨rfl, h⟩ := fing f' n' k' v hpl
    simp (disch := first | omega | decide | assumption | exact Nat.le_of_ble_eq_true rfl) only [s185_108, ow_some, true_and, and_true, and_self, if_true, if_false, not_true, not_false_eq_true, Bool.false_eq_true, eq_self, Option.toList, List.cons_append, List.nil_append, ix_in, ix_cl, lt_in, lt_cl, lt_add, ix_one, vu_eq, vu_ne, arI_mk, arL_mk, arY_mZ, arY_mB, alen_mI, fld_sfl_ne, fld_sfl_same, Option.isSome_some, pok_i, b1z, b01, z10, b1o, Int32.zero_add, vu_vu, upd_eq, upd_ne, true_or, or_true]
    exact h
  simp (disch := first | omega | decide | assumption | exact Nat.le_of_ble_eq_true rfl) only [s185_94, s185_111, s185_112, ow_some, true_and, and_true, and_self, if_true, if_false, not_true, not_false_eq_true, Bool.false_eq_true, eq_self, Option.toList, List.cons_append, List.nil_append, ix_in, ix_cl, lt_in, lt_cl, lt_add, ix_one, vu_eq, vu_ne, arI_mk, arL_mk, arY_mZ, arY_mB, alen_mI, fld_sfl_ne, fld_sfl_same, Option.isSome_some, pok_i, b1z, b01, z10, b1o, Int32.zero_add, vu_vu, upd_eq, upd_ne, true_or, or_true, V.r1, V.r2, V.r3, V.r4, V.r16, V.r17, V.r18, V.r19, V.r20, V.r23, V.r24, V.r25, V.r26, V.r27, V.r28, V.r29, V.r30, V.c172, V.c173, V.c174, V.c186, V.c187, V.c188, V.n5, V.n13, V.n14, V.i0, V.i5, V.i6, V.i7, V.i8, V.i9, V.i10, V.i11, V.i12, V.i13, V.i14, V.i15, V.i21, V.i22, d12, and_false]
  by_cases d13 : c.2.2.1 = 13
  · have hr1 : r = l_num s.2.2.1 sz 56 0 999 c fr ag := by
      rcases hr with ⟨h, _⟩ | ⟨h, _⟩ | ⟨h, _⟩ | ⟨h, _⟩ | ⟨h, _⟩ | ⟨h, _⟩ | ⟨_, h⟩ | ⟨h, _⟩
      · exact absurd h d1
      · exact absurd h d3
      · exact absurd h d9
      · exact absurd h d10
      · exact absurd h d11
      · exact absurd h d12
      · exact h
      · exact absurd d13 h.2.2.2.2.2.2
    unfold l_num at hr1
    refine k185_114 (cno_MR V.mr) (Nat.le_of_ble_eq_true rfl) (P.eatY d13) ?_
    rintro f1 n1 k1 v1 ⟨rfl, rfl, sm1, P1, rfl⟩
    have V1 := P1.V
    generalize nx s.2.2.1 sz c = c1 at P1 hr1
    simp (disch := first | omega | decide | assumption | exact Nat.le_of_ble_eq_true rfl) only [s185_117, s185_120, s185_121, s185_124, s185_126, s185_127, s185_128, ow_some, true_and, and_true, and_self, if_true, if_false, not_true, not_false_eq_true, Bool.false_eq_true, eq_self, Option.toList, List.cons_append, List.nil_append, ix_in, ix_cl, lt_in, lt_cl, lt_add, ix_one, vu_eq, vu_ne, arI_mk, arL_mk, arY_mZ, arY_mB, alen_mI, fld_sfl_ne, fld_sfl_same, Option.isSome_some, pok_i, b1z, b01, z10, b1o, Int32.zero_add, vu_vu, upd_eq, upd_ne, true_or, or_true, V1.r1, V1.r2, V1.r3, V1.r4, V1.r16, V1.r17, V1.r18, V1.r19, V1.r20, V1.r23, V1.r24, V1.r25, V1.r26, V1.r27, V1.r28, V1.r29, V1.r30, V1.c172, V1.c173, V1.c174, V1.c186, V1.c187, V1.c188, V1.n5, V1.n13, V1.n14, V1.i0, V1.i5, V1.i6, V1.i7, V1.i8, V1.i9, V1.i10, V1.i11, V1.i12, V1.i13, V1.i14, V1.i15, V1.i21, V1.i22]
    by_cases t : tko c1 0 999 = true
    · rw [if_pos t] at hr1
      rw [tko_iff] at t
      refine k185_131 (cno_MR V1.mr) (Nat.le_of_ble_eq_true rfl) (P1.takeY t.1 (by rw [i999.1, i999.2.1]; exact t.2)) ?_
      rintro f2 n2 k2 v2 ⟨rfl, rfl, sm2, P2, rfl⟩
      have V2 := P2.V
      have Q2 := P2.1
      simp (disch := first | omega | decide | assumption | exact Nat.le_of_ble_eq_true rfl) only [s185_134, s185_135, s185_143, ow_some, true_and, and_true, and_self, if_true, if_false, not_true, not_false_eq_true, Bool.false_eq_true, eq_self, Option.toList, List.cons_append, List.nil_append, ix_in, ix_cl, lt_in, lt_cl, lt_add, ix_one, vu_eq, vu_ne, arI_mk, arL_mk, arY_mZ, arY_mB, alen_mI, fld_sfl_ne, fld_sfl_same, Option.isSome_some, pok_i, b1z, b01, z10, b1o, Int32.zero_add, vu_vu, upd_eq, upd_ne, true_or, or_true, V2.r1, V2.r2, V2.r3, V2.r4, V2.r16, V2.r17, V2.r18, V2.r19, V2.r20, V2.r23, V2.r24, V2.r25, V2.r26, V2.r27, V2.r28, V2.r29, V2.r30, V2.c172, V2.c173, V2.c174, V2.c186, V2.c187, V2.c188, V2.n5, V2.n13, V2.n14, V2.i0, V2.i5, V2.i6, V2.i7, V2.i8, V2.i9, V2.i10, V2.i11, V2.i12, V2.i13, V2.i14, V2.i15, V2.i21, V2.i22, Q2.f6, Q2.f7, Q2.f8, Q2.f9, Q2.f10, Q2.f11, Q2.f12, Q2.f15, Q2.c175, Q2.c176]
      rw [hr1]
      exact PL.ok ((sm1.tr sm2).tr (SM.up (by omega) (by omega))) ⟨Q2.fr', P2.2⟩
    · rw [if_neg t] at hr1
      rw [tko_iff] at t
      refine k185_131 (cno_MR V1.mr) (Nat.le_of_ble_eq_true rfl) (P1.takeN (by rw [i999.1, i999.2.1]; exact t)) ?_
      rintro f2 n2 k2 v2 ⟨rfl, rfl, sm2, P2, rfl⟩
      have V2 := P2.V
      have Q2 := P2.1
      simp (disch := first | omega | decide | assumption | exact Nat.le_of_ble_eq_true rfl) only [s185_134, s185_135, s185_143, ow_some, true_and, and_true, and_self, if_true, if_false, not_true, not_false_eq_true, Bool.false_eq_true, eq_self, Option.toList, List.cons_append, List.nil_append, ix_in, ix_cl, lt_in, lt_cl, lt_add, ix_one, vu_eq, vu_ne, arI_mk, arL_mk, arY_mZ, arY_mB, alen_mI, fld_sfl_ne, fld_sfl_same, Option.isSome_some, pok_i, b1z, b01, z10, b1o, Int32.zero_add, vu_vu, upd_eq, upd_ne, true_or, or_true, V2.r1, V2.r2, V2.r3, V2.r4, V2.r16, V2.r17, V2.r18, V2.r19, V2.r20, V2.r23, V2.r24, V2.r25, V2.r26, V2.r27, V2.r28, V2.r29, V2.r30, V2.c172, V2.c173, V2.c174, V2.c186, V2.c187, V2.c188, V2.n5, V2.n13, V2.n14, V2.i0, V2.i5, V2.i6, V2.i7, V2.i8, V2.i9, V2.i10, V2.i11, V2.i12, V2.i13, V2.i14, V2.i15, V2.i21, V2.i22, Q2.f6, Q2.f7, Q2.f8, Q2.f9, Q2.f10, Q2.f11, Q2.f12, Q2.f15, Q2.c175, Q2.c176]
      rw [hr1]
      exact PL.er ((sm1.tr sm2).tr (SM.up (by omega) (by omega))) tkw_ne ⟨Q2.fr', P2.2⟩
  rw [p185_114 (cno_MR V.mr) (Nat.le_of_ble_eq_true rfl) (P.eatN (fun z => d13 z.2))]
  simp (disch := first | omega | decide | assumption | exact Nat.le_of_ble_eq_true rfl) only [s185_117, s185_138, s185_139, ow_some, true_and, and_true, and_self, if_true, if_false, not_true, not_false_eq_true, Bool.false_eq_true, eq_self, Option.toList, List.cons_append, List.nil_append, ix_in, ix_cl, lt_in, lt_cl, lt_add, ix_one, vu_eq, vu_ne, arI_mk, arL_mk, arY_mZ, arY_mB, alen_mI, fld_sfl_ne, fld_sfl_same, Option.isSome_some, pok_i, b1z, b01, z10, b1o, Int32.zero_add, vu_vu, upd_eq, upd_ne, true_or, or_true, V.r1, V.r2, V.r3, V.r4, V.r16, V.r17, V.r18, V.r19, V.r20, V.r23, V.r24, V.r25, V.r26, V.r27, V.r28, V.r29, V.r30, V.c172, V.c173, V.c174, V.c186, V.c187, V.c188, V.n5, V.n13, V.n14, V.i0, V.i5, V.i6, V.i7, V.i8, V.i9, V.i10, V.i11, V.i12, V.i13, V.i14, V.i15, V.i21, V.i22]
  have hr1 : r = fl' 2 c := by
    rcases hr with ⟨h, _⟩ | ⟨h, _⟩ | ⟨h, _⟩ | ⟨h, _⟩ | ⟨h, _⟩ | ⟨h, _⟩ | ⟨h, _⟩ | ⟨_, h⟩
    · exact absurd h d1
    · exact absurd h d3
    · exact absurd h d9
    · exact absurd h d10
    · exact absurd h d11
    · exact absurd h d12
    · exact absurd h d13
    · exact h
  refine k185_140 (cno_MR V.mr) (Nat.le_of_ble_eq_true rfl) (P.fail (w := 2)) ?_
  rintro f1 n1 k1 v1 ⟨rfl, rfl, rfl, sm1, P1⟩
  simp (disch := first | omega | decide | assumption | exact Nat.le_of_ble_eq_true rfl) only [s185_143, ow_some, true_and, and_true, and_self, if_true, if_false, not_true, not_false_eq_true, Bool.false_eq_true, eq_self, Option.toList, List.cons_append, List.nil_append, ix_in, ix_cl, lt_in, lt_cl, lt_add, ix_one, vu_eq, vu_ne, arI_mk, arL_mk, arY_mZ, arY_mB, alen_mI, fld_sfl_ne, fld_sfl_same, Option.isSome_some, pok_i, b1z, b01, z10, b1o, Int32.zero_add, vu_vu, upd_eq, upd_ne, true_or, or_true]
  rw [hr1]
  exact PL.er sm1 (ft_ne (by decide)) P1
theorem PC.endY {X : Nat × (Nat → Int32)} {d N K : Nat} {f : Nat → e_C} {s : m_T} {fr ag : Nat → Int32} {sz : Nat} {c : Cu} {wa rd : Int32} (P : PC f s fr ag sz c 0 wa rd) : TT X (d + 8) 184 0 [.ref 171] [] f N K (PL f s sz N K (if c.2.2.1 = 30 then .inl (nx s.2.2.1 sz c, upd fr 0 (fr 0 + 1), ag) else fl' 2 c)) := by
  have V := P.V
  simp (disch := first | omega | decide | assumption | exact Nat.le_of_ble_eq_true rfl) only [s184_0, s184_1, ow_some, true_and, and_true, and_self, if_true, if_false, not_true, not_false_eq_true, Bool.false_eq_true, eq_self, Option.toList, List.cons_append, List.nil_append, ix_in, ix_cl, lt_in, lt_cl, lt_add, ix_one, vu_eq, vu_ne, arI_mk, arL_mk, arY_mZ, arY_mB, alen_mI, fld_sfl_ne, fld_sfl_same, Option.isSome_some, pok_i, b1z, b01, z10, b1o, Int32.zero_add, vu_vu, upd_eq, upd_ne, true_or, or_true, V.r1, V.r2, V.r3, V.r4, V.r16, V.r17, V.r18, V.r19, V.r20, V.r23, V.r24, V.r25, V.r26, V.r27, V.r28, V.r29, V.r30, V.c172, V.c173, V.c174, V.c186, V.c187, V.c188, V.n5, V.n13, V.n14, V.i0, V.i5, V.i6, V.i7, V.i8, V.i9, V.i10, V.i11, V.i12, V.i13, V.i14, V.i15, V.i21, V.i22]
  by_cases h : c.2.2.1 = 30
  · rw [if_pos h]
    refine k184_3 (cno_MR V.mr) (Nat.le_of_ble_eq_true rfl) (P.eatY h) ?_
    rintro f1 n1 k1 v1 ⟨rfl, rfl, sm1, P1, rfl⟩
    have V1 := P1.V
    have Q1 := P1.1
    simp (disch := first | omega | decide | assumption | exact Nat.le_of_ble_eq_true rfl) only [s184_6, s184_14, s184_15, s184_18, s184_19, s184_20, s184_21, s184_22, s184_23, s184_24, ow_some, true_and, and_true, and_self, if_true, if_false, not_true, not_false_eq_true, Bool.false_eq_true, eq_self, Option.toList, List.cons_append, List.nil_append, ix_in, ix_cl, lt_in, lt_cl, lt_add, ix_one, vu_eq, vu_ne, arI_mk, arL_mk, arY_mZ, arY_mB, alen_mI, fld_sfl_ne, fld_sfl_same, Option.isSome_some, pok_i, b1z, b01, z10, b1o, Int32.zero_add, vu_vu, upd_eq, upd_ne, true_or, or_true, V1.r1, V1.r2, V1.r3, V1.r4, V1.r16, V1.r17, V1.r18, V1.r19, V1.r20, V1.r23, V1.r24, V1.r25, V1.r26, V1.r27, V1.r28, V1.r29, V1.r30, V1.c172, V1.c173, V1.c174, V1.c186, V1.c187, V1.c188, V1.n5, V1.n13, V1.n14, V1.i0, V1.i5, V1.i6, V1.i7, V1.i8, V1.i9, V1.i10, V1.i11, V1.i12, V1.i13, V1.i14, V1.i15, V1.i21, V1.i22, Q1.f6, Q1.f7, Q1.f8, Q1.f9, Q1.f10, Q1.f11, Q1.f12, Q1.f15, Q1.c175, Q1.c176]
    exact PL.ok (sm1.tr (SM.up (by omega) (by omega))) ⟨Q1.fr', P1.2⟩
  · rw [if_neg h]
    rw [p184_3 (cno_MR V.mr) (Nat.le_of_ble_eq_true rfl) (P.eatN (fun z => h z.2))]
    simp (disch := first | omega | decide | assumption | exact Nat.le_of_ble_eq_true rfl) only [s184_6, s184_9, s184_10, ow_some, true_and, and_true, and_self, if_true, if_false, not_true, not_false_eq_true, Bool.false_eq_true, eq_self, Option.toList, List.cons_append, List.nil_append, ix_in, ix_cl, lt_in, lt_cl, lt_add, ix_one, vu_eq, vu_ne, arI_mk, arL_mk, arY_mZ, arY_mB, alen_mI, fld_sfl_ne, fld_sfl_same, Option.isSome_some, pok_i, b1z, b01, z10, b1o, Int32.zero_add, vu_vu, upd_eq, upd_ne, true_or, or_true, V.r1, V.r2, V.r3, V.r4, V.r16, V.r17, V.r18, V.r19, V.r20, V.r23, V.r24, V.r25, V.r26, V.r27, V.r28, V.r29, V.r30, V.c172, V.c173, V.c174, V.c186, V.c187, V.c188, V.n5, V.n13, V.n14, V.i0, V.i5, V.i6, V.i7, V.i8, V.i9, V.i10, V.i11, V.i12, V.i13, V.i14, V.i15, V.i21, V.i22]
    refine k184_11 (cno_MR V.mr) (Nat.le_of_ble_eq_true rfl) (P.fail (w := 2)) ?_
    rintro f1 n1 k1 v1 ⟨rfl, rfl, rfl, sm1, P1⟩
    have V1 := P1.V
    have Q1 := P1.1
    simp (disch := first | omega | decide | assumption | exact Nat.le_of_ble_eq_true rfl) only [s184_14, s184_15, s184_18, s184_19, s184_20, s184_21, s184_22, s184_23, s184_24, ow_some, true_and, and_true, and_self, if_true, if_false, not_true, not_false_eq_true, Bool.false_eq_true, eq_self, Option.toList, List.cons_append, List.nil_append, ix_in, ix_cl, lt_in, lt_cl, lt_add, ix_one, vu_eq, vu_ne, arI_mk, arL_mk, arY_mZ, arY_mB, alen_mI, fld_sfl_ne, fld_sfl_same, Option.isSome_some, pok_i, b1z, b01, z10, b1o, Int32.zero_add, vu_vu, upd_eq, upd_ne, true_or, or_true, V1.r1, V1.r2, V1.r3, V1.r4, V1.r16, V1.r17, V1.r18, V1.r19, V1.r20, V1.r23, V1.r24, V1.r25, V1.r26, V1.r27, V1.r28, V1.r29, V1.r30, V1.c172, V1.c173, V1.c174, V1.c186, V1.c187, V1.c188, V1.n5, V1.n13, V1.n14, V1.i0, V1.i5, V1.i6, V1.i7, V1.i8, V1.i9, V1.i10, V1.i11, V1.i12, V1.i13, V1.i14, V1.i15, V1.i21, V1.i22, Q1.f6, Q1.f7, Q1.f8, Q1.f9, Q1.f10, Q1.f11, Q1.f12, Q1.f15, Q1.c175, Q1.c176]
    exact PL.er (sm1.tr (SM.up (by omega) (by omega))) (ft_ne (by decide)) ⟨Q1.fr', P1.2⟩
theorem PC.endE {X : Nat × (Nat → Int32)} {d N K p : Nat} {f : Nat → e_C} {s : m_T} {fr ag : Nat → Int32} {sz : Nat} {c : Cu} {w rd : Int32} (P : PC f s fr ag sz c w (nI p) rd) (hw : ¬ w = 0) : TT X (d + 8) 184 0 [.ref 171] [] f N K (PL f s sz N K (.inr (w, p))) := by
  have V := P.V
  have Q := P.1
  simp (disch := first | omega | decide | assumption | exact Nat.le_of_ble_eq_true rfl) only [s184_0, s184_1, ow_some, true_and, and_true, and_self, if_true, if_false, not_true, not_false_eq_true, Bool.false_eq_true, eq_self, Option.toList, List.cons_append, List.nil_append, ix_in, ix_cl, lt_in, lt_cl, lt_add, ix_one, vu_eq, vu_ne, arI_mk, arL_mk, arY_mZ, arY_mB, alen_mI, fld_sfl_ne, fld_sfl_same, Option.isSome_some, pok_i, b1z, b01, z10, b1o, Int32.zero_add, vu_vu, upd_eq, upd_ne, true_or, or_true, V.r1, V.r2, V.r3, V.r4, V.r16, V.r17, V.r18, V.r19, V.r20, V.r23, V.r24, V.r25, V.r26, V.r27, V.r28, V.r29, V.r30, V.c172, V.c173, V.c174, V.c186, V.c187, V.c188, V.n5, V.n13, V.n14, V.i0, V.i5, V.i6, V.i7, V.i8, V.i9, V.i10, V.i11, V.i12, V.i13, V.i14, V.i15, V.i21, V.i22]
  rw [p184_3 (cno_MR V.mr) (Nat.le_of_ble_eq_true rfl) (P.eatN (fun z => hw z.1))]
  simp (disch := first | omega | decide | assumption | exact Nat.le_of_ble_eq_true rfl) only [s184_6, s184_9, s184_10, ow_some, true_and, and_true, and_self, if_true, if_false, not_true, not_false_eq_true, Bool.false_eq_true, eq_self, Option.toList, List.cons_append, List.nil_append, ix_in, ix_cl, lt_in, lt_cl, lt_add, ix_one, vu_eq, vu_ne, arI_mk, arL_mk, arY_mZ, arY_mB, alen_mI, fld_sfl_ne, fld_sfl_same, Option.isSome_some, pok_i, b1z, b01, z10, b1o, Int32.zero_add, vu_vu, upd_eq, upd_ne, true_or, or_true, V.r1, V.r2, V.r3, V.r4, V.r16, V.r17, V.r18, V.r19, V.r20, V.r23, V.r24, V.r25, V.r26, V.r27, V.r28, V.r29, V.r30, V.c172, V.c173, V.c174, V.c186, V.c187, V.c188, V.n5, V.n13, V.n14, V.i0, V.i5, V.i6, V.i7, V.i8, V.i9, V.i10, V.i11, V.i12, V.i13, V.i14, V.i15, V.i21, V.i22]
  rw [p184_11 (cno_MR V.mr) (Nat.le_of_ble_eq_true rfl) (P.failE hw)]
  simp (disch := first | omega | decide | assumption | exact Nat.le_of_ble_eq_true rfl) only [s184_14, s184_15, s184_18, s184_19, s184_20, s184_21, s184_22, s184_23, s184_24, ow_some, true_and, and_true, and_self, if_true, if_false, not_true, not_false_eq_true, Bool.false_eq_true, eq_self, Option.toList, List.cons_append, List.nil_append, ix_in, ix_cl, lt_in, lt_cl, lt_add, ix_one, vu_eq, vu_ne, arI_mk, arL_mk, arY_mZ, arY_mB, alen_mI, fld_sfl_ne, fld_sfl_same, Option.isSome_some, pok_i, b1z, b01, z10, b1o, Int32.zero_add, vu_vu, upd_eq, upd_ne, true_or, or_true, V.r1, V.r2, V.r3, V.r4, V.r16, V.r17, V.r18, V.r19, V.r20, V.r23, V.r24, V.r25, V.r26, V.r27, V.r28, V.r29, V.r30, V.c172, V.c173, V.c174, V.c186, V.c187, V.c188, V.n5, V.n13, V.n14, V.i0, V.i5, V.i6, V.i7, V.i8, V.i9, V.i10, V.i11, V.i12, V.i13, V.i14, V.i15, V.i21, V.i22, Q.f6, Q.f7, Q.f8, Q.f9, Q.f10, Q.f11, Q.f12, Q.f15, Q.c175, Q.c176]
  exact PL.er (SM.up (by omega) (by omega)) hw ⟨Q.fr', P.2⟩

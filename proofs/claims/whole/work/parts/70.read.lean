/-! the reference reads laws -/
def PO (f : Nat → e_C) (s : m_T) (ag : Nat → Int32) (sz : Nat) (rd : Int32) (N K : Nat) (r : Rr) : t_Q := fun f' n' k' v => n' = N ∧ k' = K ∧ v = none ∧ SM f f' ∧ (∀ c fr, r = .inl (c, fr) → ∃ wa, PC f' s fr ag sz c 0 wa rd) ∧ ∀ w p, r = .inr (w, p) → w ≠ 0 ∧ ∃ fr c, PC f' s fr ag sz c w (nI p) rd
theorem PO.ok {f f' : Nat → e_C} {s : m_T} {fr ag : Nat → Int32} {sz N K : Nat} {c : Cu} {wa rd : Int32} (sm : SM f f') (P : PC f' s fr ag sz c 0 wa rd) : PO f s ag sz rd N K (.inl (c, fr)) f' N K none := ⟨rfl, rfl, rfl, sm, (fun c' fr' h => by cases h; exact ⟨wa, P⟩), (fun w p h => by cases h)⟩
theorem PO.er {f f' : Nat → e_C} {s : m_T} {fr ag : Nat → Int32} {sz N K p : Nat} {c : Cu} {w rd : Int32} (sm : SM f f') (hw : w ≠ 0) (P : PC f' s fr ag sz c w (nI p) rd) : PO f s ag sz rd N K (.inr (w, p)) f' N K none := ⟨rfl, rfl, rfl, sm, (fun c' fr' h => by cases h), (fun w' p' h => by cases h; exact ⟨hw, fr, c, P⟩)⟩
theorem PO.sm {f g : Nat → e_C} {s : m_T} {ag : Nat → Int32} {sz N K : Nat} {rd : Int32} {r : Rr} {f' : Nat → e_C} {n' k' : Nat} {v : Option Value} (sm : SM f g) (h : PO g s ag sz rd N K r f' n' k' v) : PO f s ag sz rd N K r f' n' k' v := ⟨h.1, h.2.1, h.2.2.1, sm.tr h.2.2.2.1, h.2.2.2.2⟩
def rk (m : Nat) : Nat := if m = 0 then 1 else if m ≤ 2 then 2 else if m ≤ 4 then 3 else if m = 5 then 4 else if m ≤ 7 then 5 else 6
def tm (X : Nat × (Nat → Int32)) (D m d : Nat) (a2 : Value) (f : Nat → e_C) (N K : Nat) (Q : t_Q) : Prop := if m = 0 then TT X D 194 0 [.ref 171, .int (nI d)] [] f N K Q else if m = 1 then TT X D 193 0 [.ref 171, .int (nI d)] [] f N K Q else if m = 2 then TT X D 193 5 [.ref 171, .int (nI d)] [] f N K Q else if m = 3 then TT X D 192 0 [.ref 171, .int (nI d), a2] [] f N K Q else if m = 4 then TT X D 192 5 [.ref 171, .int (nI d), a2] [] f N K Q else if m = 5 then TT X D 200 0 [.ref 171, .int (nI d), a2] [] f N K Q else if m = 6 then TT X D 199 0 [.ref 171, .int (nI d)] [] f N K Q else if m = 7 then TT X D 199 5 [.ref 171, .int (nI d)] [] f N K Q else if m = 8 then TT X D 198 0 [.ref 171, .int (nI d)] [] f N K Q else TT X D 198 5 [.ref 171, .int (nI d)] [] f N K Q
/-- what a row of the reader does -/
def rd_P (X : Nat × (Nat → Int32)) (tx : Nat → Int32) (sz : Nat) (rd : Int32) (m d : Nat) (c : Cu) (fr : Nat → Int32) (r : Rr) : Prop := ∀ (D N K : Nat) (f : Nat → e_C) (s : m_T) (ag : Nat → Int32) (wa : Int32) (n : Nat) (a2 : Value), s.2.2.1 = tx → 10 + 6 * (6 - d) + rk m ≤ D → d ≤ 6 → PC f s fr ag sz c 0 wa rd → cv sz c → ncs fr n → n ≤ c.1 → tm X D m d a2 f N K (PO f s ag sz rd N K r)
theorem ft_nz {w kd : Int32} (h : w ≠ 0) : ¬ ft w kd = 0 := ft_ne h
/-- one row, then what is behind it -/
theorem rd_sq {tx : Nat → Int32} {sz : Nat} {rd : Int32} {k m d : Nat} {c : Cu} {fr : Nat → Int32} {r : Rr} {Kt : Cu → (Nat → Int32) → Prop} (hrs : sq (Rs tx sz rd k m d c fr) Kt r) {N K : Nat} {f : Nat → e_C} {s : m_T} {ag : Nat → Int32} {n : Nat} (hcv : cv sz c) (hz : sz ≤ 900) (hn : ncs fr n) (hle : n ≤ c.1) {Q : t_Q}
    (hok : ∀ c1 fr1 n1 f1 wa1, Kt c1 fr1 → SM f f1 → PC f1 s fr1 ag sz c1 0 wa1 rd → cv sz c1 → ncs fr1 n1 → n1 + c.1 ≤ c1.1 + n → Q f1 N K none)
    (her : ∀ w p fr1 c1 f1, r = .inr (w, p) → w ≠ 0 → SM f f1 → PC f1 s fr1 ag sz c1 w (nI p) rd → Q f1 N K none) : ∃ r1, Rs tx sz rd k m d c fr r1 ∧ ∀ f1 n1 k1 v1, PO f s ag sz rd N K r1 f1 n1 k1 v1 → n1 = N ∧ k1 = K ∧ v1 = none ∧ Q f1 n1 k1 v1 := by
  rcases hrs with ⟨c1, fr1, h1, h2⟩ | ⟨⟨w, p⟩, h1, h2⟩
  · refine ⟨_, h1, ?_⟩
    rintro f1 n1 k1 v1 ⟨rfl, rfl, rfl, sm, ho, -⟩
    obtain ⟨i1, n2, i2, i3⟩ := rs_n _ _ _ _ _ _ h1 n hcv hz hn hle _ _ rfl
    obtain ⟨wa, P⟩ := ho _ _ rfl
    exact ⟨rfl, rfl, rfl, hok c1 fr1 n2 f1 wa h2 sm P i1 i2 i3⟩
  · refine ⟨_, h1, ?_⟩
    rintro f1 n1 k1 v1 ⟨rfl, rfl, rfl, sm, -, he⟩
    obtain ⟨hw, fr1, c1, P⟩ := he _ _ rfl
    exact ⟨rfl, rfl, rfl, her w p fr1 c1 f1 h2 hw sm P⟩
theorem rd_tt {X : Nat × (Nat → Int32)} {tx : Nat → Int32} {sz : Nat} {rd : Int32} : ∀ (k m d : Nat) (c : Cu) (fr : Nat → Int32) (r : Rr), Rs tx sz rd k m d c fr r → rd_P X tx sz rd m d c fr r := by
  intro k
  induction k with
  | zero => intro m d c fr r h; exact h.elim
  | succ k ih =>
    intro m d c fr r h D N K f s ag wa n a2 htx hD hd P hcv hn hle
    subst htx
    have hz := P.2.2
    obtain ⟨D, rfl⟩ : ∃ D', D = D' + 10 := ⟨D - 10, by omega⟩
    have V := P.V
    have Q := P.1
    have hc9 := hcv.1.2
    rw [Rs] at h
    by_cases m0 : m = 0
    · rw [if_pos m0] at h
      subst m0
      show TT X (D + 10) 194 0 [.ref 171, .int (nI d)] [] f N K _
      simp (disch := first | omega | decide | assumption | exact Nat.le_of_ble_eq_true rfl) only [s194_0, s194_1, ow_some, true_and, and_true, and_self, if_true, if_false, not_true, not_false_eq_true, Bool.false_eq_true, eq_self, Option.toList, List.cons_append, List.nil_append, ix_in, ix_cl, lt_in, lt_cl, lt_add, ix_one, vu_eq, vu_ne, arI_mk, arL_mk, arY_mZ, arY_mB, alen_mI, fld_sfl_ne, fld_sfl_same, Option.isSome_some, pok_i, b1z, b01, z10, b1o, Int32.zero_add, vu_vu, upd_eq, upd_ne, true_or, or_true, V.r1, V.r2, V.r3, V.r4, V.r16, V.r17, V.r18, V.r19, V.r20, V.r23, V.r24, V.r25, V.r26, V.r27, V.r28, V.r29, V.r30, V.c172, V.c173, V.c174, V.c186, V.c187, V.c188, V.n5, V.n13, V.n14, V.i0, V.i5, V.i6, V.i7, V.i8, V.i9, V.i10, V.i11, V.i12, V.i13, V.i14, V.i15, V.i21, V.i22, Q.f6, Q.f7, Q.f8, Q.f9, Q.f10, Q.f11, Q.f12, Q.f15, Q.c175, Q.c176]
      rw [p194_3 (cno_MR V.mr) (Nat.le_of_ble_eq_true rfl) P.is]
      have hrk : rk 0 = 1 := rfl
      have hrk3 : rk 3 = 3 := rfl
      rcases h with ⟨hk, he⟩ | ⟨hk, hw, he⟩ | ⟨hk, hd6, he⟩ | ⟨hk, hd6, hs⟩ | ⟨h1, h2, h3, he⟩
      · have hk' : (c.2.2.1 = 23) = True := eq_true hk
        have g2 := cv_lt hcv (by rw [hk]; decide) hz
        simp (disch := first | omega | decide | assumption | exact Nat.le_of_ble_eq_true rfl) only [s194_6, s194_9, s194_10, s194_11, ow_some, true_and, and_true, and_self, if_true, if_false, not_true, not_false_eq_true, Bool.false_eq_true, eq_self, Option.toList, List.cons_append, List.nil_append, ix_in, ix_cl, lt_in, lt_cl, lt_add, ix_one, vu_eq, vu_ne, arI_mk, arL_mk, arY_mZ, arY_mB, alen_mI, fld_sfl_ne, fld_sfl_same, Option.isSome_some, pok_i, b1z, b01, z10, b1o, Int32.zero_add, vu_vu, upd_eq, upd_ne, true_or, or_true, V.r1, V.r2, V.r3, V.r4, V.r16, V.r17, V.r18, V.r19, V.r20, V.r23, V.r24, V.r25, V.r26, V.r27, V.r28, V.r29, V.r30, V.c172, V.c173, V.c174, V.c186, V.c187, V.c188, V.n5, V.n13, V.n14, V.i0, V.i5, V.i6, V.i7, V.i8, V.i9, V.i10, V.i11, V.i12, V.i13, V.i14, V.i15, V.i21, V.i22, Q.f6, Q.f7, Q.f8, Q.f9, Q.f10, Q.f11, Q.f12, Q.f15, Q.c175, Q.c176, hk']
        refine k194_14 (cno_MR V.mr) (Nat.le_of_ble_eq_true rfl) (P.codes hn (by omega)) ?_
        rintro f1 n1 k1 v1 ⟨rfl, rfl, rfl, sm1, P1⟩
        have V1 := P1.V
        simp (disch := first | omega | decide | assumption | exact Nat.le_of_ble_eq_true rfl) only [s194_17, ow_some, true_and, and_true, and_self, if_true, if_false, not_true, not_false_eq_true, Bool.false_eq_true, eq_self, Option.toList, List.cons_append, List.nil_append, ix_in, ix_cl, lt_in, lt_cl, lt_add, ix_one, vu_eq, vu_ne, arI_mk, arL_mk, arY_mZ, arY_mB, alen_mI, fld_sfl_ne, fld_sfl_same, Option.isSome_some, pok_i, b1z, b01, z10, b1o, Int32.zero_add, vu_vu, upd_eq, upd_ne, true_or, or_true, V1.r1, V1.r2, V1.r3, V1.r4, V1.r16, V1.r17, V1.r18, V1.r19, V1.r20, V1.r23, V1.r24, V1.r25, V1.r26, V1.r27, V1.r28, V1.r29, V1.r30, V1.c172, V1.c173, V1.c174, V1.c186, V1.c187, V1.c188, V1.n5, V1.n13, V1.n14, V1.i0, V1.i5, V1.i6, V1.i7, V1.i8, V1.i9, V1.i10, V1.i11, V1.i12, V1.i13, V1.i14, V1.i15, V1.i21, V1.i22]
        refine k194_18 (cno_MR V1.mr) (Nat.le_of_ble_eq_true rfl) P1.next ?_
        rintro f2 n2 k2 v2 ⟨rfl, rfl, rfl, sm2, P2⟩
        simp (disch := first | omega | decide | assumption | exact Nat.le_of_ble_eq_true rfl) only [s194_21, s194_113, ow_some, true_and, and_true, and_self, if_true, if_false, not_true, not_false_eq_true, Bool.false_eq_true, eq_self, Option.toList, List.cons_append, List.nil_append, ix_in, ix_cl, lt_in, lt_cl, lt_add, ix_one, vu_eq, vu_ne, arI_mk, arL_mk, arY_mZ, arY_mB, alen_mI, fld_sfl_ne, fld_sfl_same, Option.isSome_some, pok_i, b1z, b01, z10, b1o, Int32.zero_add, vu_vu, upd_eq, upd_ne, true_or, or_true]
        rw [he]
        exact PO.ok (sm1.tr sm2) P2
      · have g2 := cv_lt hcv (wrd_ne hw) hz
        simp (disch := first | omega | decide | assumption | exact Nat.le_of_ble_eq_true rfl) only [s194_6, s194_24, s194_25, s194_28, s194_31, s194_32, s194_33, ow_some, true_and, and_true, and_self, if_true, if_false, not_true, not_false_eq_true, Bool.false_eq_true, eq_self, Option.toList, List.cons_append, List.nil_append, ix_in, ix_cl, lt_in, lt_cl, lt_add, ix_one, vu_eq, vu_ne, arI_mk, arL_mk, arY_mZ, arY_mB, alen_mI, fld_sfl_ne, fld_sfl_same, Option.isSome_some, pok_i, b1z, b01, z10, b1o, Int32.zero_add, vu_vu, upd_eq, upd_ne, true_or, or_true, V.r1, V.r2, V.r3, V.r4, V.r16, V.r17, V.r18, V.r19, V.r20, V.r23, V.r24, V.r25, V.r26, V.r27, V.r28, V.r29, V.r30, V.c172, V.c173, V.c174, V.c186, V.c187, V.c188, V.n5, V.n13, V.n14, V.i0, V.i5, V.i6, V.i7, V.i8, V.i9, V.i10, V.i11, V.i12, V.i13, V.i14, V.i15, V.i21, V.i22, Q.f6, Q.f7, Q.f8, Q.f9, Q.f10, Q.f11, Q.f12, Q.f15, Q.c175, Q.c176, hk, and_false]
        rw [p194_36 (cno_MR V.mr) (Nat.le_of_ble_eq_true rfl) P.word]
        simp (disch := first | omega | decide | assumption | exact Nat.le_of_ble_eq_true rfl) only [s194_39, s194_40, s194_43, s194_44, s194_47, s194_48, s194_49, ow_some, true_and, and_true, and_self, if_true, if_false, not_true, not_false_eq_true, Bool.false_eq_true, eq_self, Option.toList, List.cons_append, List.nil_append, ix_in, ix_cl, lt_in, lt_cl, lt_add, ix_one, vu_eq, vu_ne, arI_mk, arL_mk, arY_mZ, arY_mB, alen_mI, fld_sfl_ne, fld_sfl_same, Option.isSome_some, pok_i, b1z, b01, z10, b1o, Int32.zero_add, vu_vu, upd_eq, upd_ne, true_or, or_true, V.r1, V.r2, V.r3, V.r4, V.r16, V.r17, V.r18, V.r19, V.r20, V.r23, V.r24, V.r25, V.r26, V.r27, V.r28, V.r29, V.r30, V.c172, V.c173, V.c174, V.c186, V.c187, V.c188, V.n5, V.n13, V.n14, V.i0, V.i5, V.i6, V.i7, V.i8, V.i9, V.i10, V.i11, V.i12, V.i13, V.i14, V.i15, V.i21, V.i22, Q.f6, Q.f7, Q.f8, Q.f9, Q.f10, Q.f11, Q.f12, Q.f15, Q.c175, Q.c176, hw]
        rw [p194_52 (cno_MR V.mr) (Nat.le_of_ble_eq_true rfl) P.word]
        simp (disch := first | omega | decide | assumption | exact Nat.le_of_ble_eq_true rfl) only [s194_55, ow_some, true_and, and_true, and_self, if_true, if_false, not_true, not_false_eq_true, Bool.false_eq_true, eq_self, Option.toList, List.cons_append, List.nil_append, ix_in, ix_cl, lt_in, lt_cl, lt_add, ix_one, vu_eq, vu_ne, arI_mk, arL_mk, arY_mZ, arY_mB, alen_mI, fld_sfl_ne, fld_sfl_same, Option.isSome_some, pok_i, b1z, b01, z10, b1o, Int32.zero_add, vu_vu, upd_eq, upd_ne, true_or, or_true, V.r1, V.r2, V.r3, V.r4, V.r16, V.r17, V.r18, V.r19, V.r20, V.r23, V.r24, V.r25, V.r26, V.r27, V.r28, V.r29, V.r30, V.c172, V.c173, V.c174, V.c186, V.c187, V.c188, V.n5, V.n13, V.n14, V.i0, V.i5, V.i6, V.i7, V.i8, V.i9, V.i10, V.i11, V.i12, V.i13, V.i14, V.i15, V.i21, V.i22, Q.f6, Q.f7, Q.f8, Q.f9, Q.f10, Q.f11, Q.f12, Q.f15, Q.c175, Q.c176]
        refine k194_56 (cno_MR V.mr) (Nat.le_of_ble_eq_true rfl) (P.codes hn (by omega)) ?_
        rintro f1 n1 k1 v1 ⟨rfl, rfl, rfl, sm1, P1⟩
        have V1 := P1.V
        simp (disch := first | omega | decide | assumption | exact Nat.le_of_ble_eq_true rfl) only [s194_59, ow_some, true_and, and_true, and_self, if_true, if_false, not_true, not_false_eq_true, Bool.false_eq_true, eq_self, Option.toList, List.cons_append, List.nil_append, ix_in, ix_cl, lt_in, lt_cl, lt_add, ix_one, vu_eq, vu_ne, arI_mk, arL_mk, arY_mZ, arY_mB, alen_mI, fld_sfl_ne, fld_sfl_same, Option.isSome_some, pok_i, b1z, b01, z10, b1o, Int32.zero_add, vu_vu, upd_eq, upd_ne, true_or, or_true, V1.r1, V1.r2, V1.r3, V1.r4, V1.r16, V1.r17, V1.r18, V1.r19, V1.r20, V1.r23, V1.r24, V1.r25, V1.r26, V1.r27, V1.r28, V1.r29, V1.r30, V1.c172, V1.c173, V1.c174, V1.c186, V1.c187, V1.c188, V1.n5, V1.n13, V1.n14, V1.i0, V1.i5, V1.i6, V1.i7, V1.i8, V1.i9, V1.i10, V1.i11, V1.i12, V1.i13, V1.i14, V1.i15, V1.i21, V1.i22]
        refine k194_60 (cno_MR V1.mr) (Nat.le_of_ble_eq_true rfl) P1.next ?_
        rintro f2 n2 k2 v2 ⟨rfl, rfl, rfl, sm2, P2⟩
        simp (disch := first | omega | decide | assumption | exact Nat.le_of_ble_eq_true rfl) only [s194_63, s194_113, ow_some, true_and, and_true, and_self, if_true, if_false, not_true, not_false_eq_true, Bool.false_eq_true, eq_self, Option.toList, List.cons_append, List.nil_append, ix_in, ix_cl, lt_in, lt_cl, lt_add, ix_one, vu_eq, vu_ne, arI_mk, arL_mk, arY_mZ, arY_mB, alen_mI, fld_sfl_ne, fld_sfl_same, Option.isSome_some, pok_i, b1z, b01, z10, b1o, Int32.zero_add, vu_vu, upd_eq, upd_ne, true_or, or_true]
        rw [he]
        exact PO.ok (sm1.tr sm2) P2
      · have hk2 : (c.2.2.1 = 23) = False := eq_false (by rw [hk]; decide)
        have hw2 : wrd rd c.2.2.1 = -1 := by rw [hk]; have : (35 : Int32).toInt = 35 := by decide
                                             unfold wrd; rw [this]; rfl
        have hk' : (c.2.2.1 = 35) = True := eq_true hk
        subst hd6
        simp (disch := first | omega | decide | assumption | exact Nat.le_of_ble_eq_true rfl) only [s194_6, s194_24, s194_25, s194_28, s194_31, s194_32, s194_33, ow_some, true_and, and_true, and_self, if_true, if_false, not_true, not_false_eq_true, Bool.false_eq_true, eq_self, Option.toList, List.cons_append, List.nil_append, ix_in, ix_cl, lt_in, lt_cl, lt_add, ix_one, vu_eq, vu_ne, arI_mk, arL_mk, arY_mZ, arY_mB, alen_mI, fld_sfl_ne, fld_sfl_same, Option.isSome_some, pok_i, b1z, b01, z10, b1o, Int32.zero_add, vu_vu, upd_eq, upd_ne, true_or, or_true, V.r1, V.r2, V.r3, V.r4, V.r16, V.r17, V.r18, V.r19, V.r20, V.r23, V.r24, V.r25, V.r26, V.r27, V.r28, V.r29, V.r30, V.c172, V.c173, V.c174, V.c186, V.c187, V.c188, V.n5, V.n13, V.n14, V.i0, V.i5, V.i6, V.i7, V.i8, V.i9, V.i10, V.i11, V.i12, V.i13, V.i14, V.i15, V.i21, V.i22, Q.f6, Q.f7, Q.f8, Q.f9, Q.f10, Q.f11, Q.f12, Q.f15, Q.c175, Q.c176, hk2, and_false]
        rw [p194_36 (cno_MR V.mr) (Nat.le_of_ble_eq_true rfl) P.word]
        simp (disch := first | omega | decide | assumption | exact Nat.le_of_ble_eq_true rfl) only [s194_39, s194_40, s194_43, s194_44, s194_47, s194_48, s194_49, s194_55, s194_59, s194_63, s194_66, s194_67, ow_some, true_and, and_true, and_self, if_true, if_false, not_true, not_false_eq_true, Bool.false_eq_true, eq_self, Option.toList, List.cons_append, List.nil_append, ix_in, ix_cl, lt_in, lt_cl, lt_add, ix_one, vu_eq, vu_ne, arI_mk, arL_mk, arY_mZ, arY_mB, alen_mI, fld_sfl_ne, fld_sfl_same, Option.isSome_some, pok_i, b1z, b01, z10, b1o, Int32.zero_add, vu_vu, upd_eq, upd_ne, true_or, or_true, V.r1, V.r2, V.r3, V.r4, V.r16, V.r17, V.r18, V.r19, V.r20, V.r23, V.r24, V.r25, V.r26, V.r27, V.r28, V.r29, V.r30, V.c172, V.c173, V.c174, V.c186, V.c187, V.c188, V.n5, V.n13, V.n14, V.i0, V.i5, V.i6, V.i7, V.i8, V.i9, V.i10, V.i11, V.i12, V.i13, V.i14, V.i15, V.i21, V.i22, Q.f6, Q.f7, Q.f8, Q.f9, Q.f10, Q.f11, Q.f12, Q.f15, Q.c175, Q.c176, hw2]
        rw [p194_69 (cno_MR V.mr) (Nat.le_of_ble_eq_true rfl) P.is]
        simp (disch := first | omega | decide | assumption | exact Nat.le_of_ble_eq_true rfl) only [s194_72, s194_75, s194_76, ow_some, true_and, and_true, and_self, if_true, if_false, not_true, not_false_eq_true, Bool.false_eq_true, eq_self, Option.toList, List.cons_append, List.nil_append, ix_in, ix_cl, lt_in, lt_cl, lt_add, ix_one, vu_eq, vu_ne, arI_mk, arL_mk, arY_mZ, arY_mB, alen_mI, fld_sfl_ne, fld_sfl_same, Option.isSome_some, pok_i, b1z, b01, z10, b1o, Int32.zero_add, vu_vu, upd_eq, upd_ne, true_or, or_true, V.r1, V.r2, V.r3, V.r4, V.r16, V.r17, V.r18, V.r19, V.r20, V.r23, V.r24, V.r25, V.r26, V.r27, V.r28, V.r29, V.r30, V.c172, V.c173, V.c174, V.c186, V.c187, V.c188, V.n5, V.n13, V.n14, V.i0, V.i5, V.i6, V.i7, V.i8, V.i9, V.i10, V.i11, V.i12, V.i13, V.i14, V.i15, V.i21, V.i22, Q.f6, Q.f7, Q.f8, Q.f9, Q.f10, Q.f11, Q.f12, Q.f15, Q.c175, Q.c176, hk']
        refine k194_77 (cno_MR V.mr) (Nat.le_of_ble_eq_true rfl) P.inN ?_
        rintro f1 n1 k1 v1 ⟨rfl, rfl, sm1, P1, rfl⟩
        simp (disch := first | omega | decide | assumption | exact Nat.le_of_ble_eq_true rfl) only [s194_80, s194_83, ow_some, true_and, and_true, and_self, if_true, if_false, not_true, not_false_eq_true, Bool.false_eq_true, eq_self, Option.toList, List.cons_append, List.nil_append, ix_in, ix_cl, lt_in, lt_cl, lt_add, ix_one, vu_eq, vu_ne, arI_mk, arL_mk, arY_mZ, arY_mB, alen_mI, fld_sfl_ne, fld_sfl_same, Option.isSome_some, pok_i, b1z, b01, z10, b1o, Int32.zero_add, vu_vu, upd_eq, upd_ne, true_or, or_true]
        rw [he]
        exact PO.er sm1 (ft_ne (by decide)) P1
      · have hk2 : (c.2.2.1 = 23) = False := eq_false (by rw [hk]; decide)
        have hw2 : wrd rd c.2.2.1 = -1 := by rw [hk]; have : (35 : Int32).toInt = 35 := by decide
                                             unfold wrd; rw [this]; rfl
        have hk' : (c.2.2.1 = 35) = True := eq_true hk
        have g1 := cv_go (tx := s.2.2.1) hcv (by rw [hk]; decide)
        simp (disch := first | omega | decide | assumption | exact Nat.le_of_ble_eq_true rfl) only [s194_6, s194_24, s194_25, s194_28, s194_31, s194_32, s194_33, ow_some, true_and, and_true, and_self, if_true, if_false, not_true, not_false_eq_true, Bool.false_eq_true, eq_self, Option.toList, List.cons_append, List.nil_append, ix_in, ix_cl, lt_in, lt_cl, lt_add, ix_one, vu_eq, vu_ne, arI_mk, arL_mk, arY_mZ, arY_mB, alen_mI, fld_sfl_ne, fld_sfl_same, Option.isSome_some, pok_i, b1z, b01, z10, b1o, Int32.zero_add, vu_vu, upd_eq, upd_ne, true_or, or_true, V.r1, V.r2, V.r3, V.r4, V.r16, V.r17, V.r18, V.r19, V.r20, V.r23, V.r24, V.r25, V.r26, V.r27, V.r28, V.r29, V.r30, V.c172, V.c173, V.c174, V.c186, V.c187, V.c188, V.n5, V.n13, V.n14, V.i0, V.i5, V.i6, V.i7, V.i8, V.i9, V.i10, V.i11, V.i12, V.i13, V.i14, V.i15, V.i21, V.i22, Q.f6, Q.f7, Q.f8, Q.f9, Q.f10, Q.f11, Q.f12, Q.f15, Q.c175, Q.c176, hk2, and_false]
        rw [p194_36 (cno_MR V.mr) (Nat.le_of_ble_eq_true rfl) P.word]
        simp (disch := first | omega | decide | assumption | exact Nat.le_of_ble_eq_true rfl) only [s194_39, s194_40, s194_43, s194_44, s194_47, s194_48, s194_49, s194_55, s194_59, s194_63, s194_66, s194_67, ow_some, true_and, and_true, and_self, if_true, if_false, not_true, not_false_eq_true, Bool.false_eq_true, eq_self, Option.toList, List.cons_append, List.nil_append, ix_in, ix_cl, lt_in, lt_cl, lt_add, ix_one, vu_eq, vu_ne, arI_mk, arL_mk, arY_mZ, arY_mB, alen_mI, fld_sfl_ne, fld_sfl_same, Option.isSome_some, pok_i, b1z, b01, z10, b1o, Int32.zero_add, vu_vu, upd_eq, upd_ne, true_or, or_true, V.r1, V.r2, V.r3, V.r4, V.r16, V.r17, V.r18, V.r19, V.r20, V.r23, V.r24, V.r25, V.r26, V.r27, V.r28, V.r29, V.r30, V.c172, V.c173, V.c174, V.c186, V.c187, V.c188, V.n5, V.n13, V.n14, V.i0, V.i5, V.i6, V.i7, V.i8, V.i9, V.i10, V.i11, V.i12, V.i13, V.i14, V.i15, V.i21, V.i22, Q.f6, Q.f7, Q.f8, Q.f9, Q.f10, Q.f11, Q.f12, Q.f15, Q.c175, Q.c176, hw2]
        rw [p194_69 (cno_MR V.mr) (Nat.le_of_ble_eq_true rfl) P.is]
        simp (disch := first | omega | decide | assumption | exact Nat.le_of_ble_eq_true rfl) only [s194_72, s194_75, s194_76, ow_some, true_and, and_true, and_self, if_true, if_false, not_true, not_false_eq_true, Bool.false_eq_true, eq_self, Option.toList, List.cons_append, List.nil_append, ix_in, ix_cl, lt_in, lt_cl, lt_add, ix_one, vu_eq, vu_ne, arI_mk, arL_mk, arY_mZ, arY_mB, alen_mI, fld_sfl_ne, fld_sfl_same, Option.isSome_some, pok_i, b1z, b01, z10, b1o, Int32.zero_add, vu_vu, upd_eq, upd_ne, true_or, or_true, V.r1, V.r2, V.r3, V.r4, V.r16, V.r17, V.r18, V.r19, V.r20, V.r23, V.r24, V.r25, V.r26, V.r27, V.r28, V.r29, V.r30, V.c172, V.c173, V.c174, V.c186, V.c187, V.c188, V.n5, V.n13, V.n14, V.i0, V.i5, V.i6, V.i7, V.i8, V.i9, V.i10, V.i11, V.i12, V.i13, V.i14, V.i15, V.i21, V.i22, Q.f6, Q.f7, Q.f8, Q.f9, Q.f10, Q.f11, Q.f12, Q.f15, Q.c175, Q.c176, hk']
        refine k194_77 (cno_MR V.mr) (Nat.le_of_ble_eq_true rfl) (P.inY hd6) ?_
        rintro f1 n1 k1 v1 ⟨rfl, rfl, sm1, P1, rfl⟩
        have V1 := P1.V
        simp (disch := first | omega | decide | assumption | exact Nat.le_of_ble_eq_true rfl) only [s194_80, s194_83, s194_84, s194_85, s194_86, s194_87, ow_some, true_and, and_true, and_self, if_true, if_false, not_true, not_false_eq_true, Bool.false_eq_true, eq_self, Option.toList, List.cons_append, List.nil_append, ix_in, ix_cl, lt_in, lt_cl, lt_add, ix_one, vu_eq, vu_ne, arI_mk, arL_mk, arY_mZ, arY_mB, alen_mI, fld_sfl_ne, fld_sfl_same, Option.isSome_some, pok_i, b1z, b01, z10, b1o, Int32.zero_add, vu_vu, upd_eq, upd_ne, true_or, or_true, V1.r1, V1.r2, V1.r3, V1.r4, V1.r16, V1.r17, V1.r18, V1.r19, V1.r20, V1.r23, V1.r24, V1.r25, V1.r26, V1.r27, V1.r28, V1.r29, V1.r30, V1.c172, V1.c173, V1.c174, V1.c186, V1.c187, V1.c188, V1.n5, V1.n13, V1.n14, V1.i0, V1.i5, V1.i6, V1.i7, V1.i8, V1.i9, V1.i10, V1.i11, V1.i12, V1.i13, V1.i14, V1.i15, V1.i21, V1.i22]
        obtain ⟨r1, hr1, hnx⟩ := rd_sq (N := n1) (K := k1) (f := f1) (s := s) (ag := ag) (Q := fun f' n' k' v => TT X (D + 10) 194 91 [.ref 171, .int (nI d)] [] f' n' k' (PO f s ag sz rd n1 k1 r)) hs g1.1 hz hn (by omega)
          (by
            intro c1 fr1 n2 f2 wa1 hKt sm2 P2 i1 i2 i3
            have V2 := P2.V
            simp (disch := first | omega | decide | assumption | exact Nat.le_of_ble_eq_true rfl) only [s194_91, s194_92, ow_some, true_and, and_true, and_self, if_true, if_false, not_true, not_false_eq_true, Bool.false_eq_true, eq_self, Option.toList, List.cons_append, List.nil_append, ix_in, ix_cl, lt_in, lt_cl, lt_add, ix_one, vu_eq, vu_ne, arI_mk, arL_mk, arY_mZ, arY_mB, alen_mI, fld_sfl_ne, fld_sfl_same, Option.isSome_some, pok_i, b1z, b01, z10, b1o, Int32.zero_add, vu_vu, upd_eq, upd_ne, true_or, or_true, V2.r1, V2.r2, V2.r3, V2.r4, V2.r16, V2.r17, V2.r18, V2.r19, V2.r20, V2.r23, V2.r24, V2.r25, V2.r26, V2.r27, V2.r28, V2.r29, V2.r30, V2.c172, V2.c173, V2.c174, V2.c186, V2.c187, V2.c188, V2.n5, V2.n13, V2.n14, V2.i0, V2.i5, V2.i6, V2.i7, V2.i8, V2.i9, V2.i10, V2.i11, V2.i12, V2.i13, V2.i14, V2.i15, V2.i21, V2.i22]
            rcases hKt with ⟨h36, he⟩ | ⟨h36, he⟩
            · refine k194_94 (cno_MR V2.mr) (Nat.le_of_ble_eq_true rfl) (P2.eatY h36) ?_
              rintro f3 n3 k3 v3 ⟨rfl, rfl, sm3, P3, rfl⟩
              simp (disch := first | omega | decide | assumption | exact Nat.le_of_ble_eq_true rfl) only [s194_97, s194_113, ow_some, true_and, and_true, and_self, if_true, if_false, not_true, not_false_eq_true, Bool.false_eq_true, eq_self, Option.toList, List.cons_append, List.nil_append, ix_in, ix_cl, lt_in, lt_cl, lt_add, ix_one, vu_eq, vu_ne, arI_mk, arL_mk, arY_mZ, arY_mB, alen_mI, fld_sfl_ne, fld_sfl_same, Option.isSome_some, pok_i, b1z, b01, z10, b1o, Int32.zero_add, vu_vu, upd_eq, upd_ne, true_or, or_true]
              rw [he]
              exact PO.ok ((sm1.tr sm2).tr sm3) P3
            · rw [p194_94 (cno_MR V2.mr) (Nat.le_of_ble_eq_true rfl) (P2.eatN (fun z => h36 z.2))]
              simp (disch := first | omega | decide | assumption | exact Nat.le_of_ble_eq_true rfl) only [s194_97, s194_100, s194_101, ow_some, true_and, and_true, and_self, if_true, if_false, not_true, not_false_eq_true, Bool.false_eq_true, eq_self, Option.toList, List.cons_append, List.nil_append, ix_in, ix_cl, lt_in, lt_cl, lt_add, ix_one, vu_eq, vu_ne, arI_mk, arL_mk, arY_mZ, arY_mB, alen_mI, fld_sfl_ne, fld_sfl_same, Option.isSome_some, pok_i, b1z, b01, z10, b1o, Int32.zero_add, vu_vu, upd_eq, upd_ne, true_or, or_true, V2.r1, V2.r2, V2.r3, V2.r4, V2.r16, V2.r17, V2.r18, V2.r19, V2.r20, V2.r23, V2.r24, V2.r25, V2.r26, V2.r27, V2.r28, V2.r29, V2.r30, V2.c172, V2.c173, V2.c174, V2.c186, V2.c187, V2.c188, V2.n5, V2.n13, V2.n14, V2.i0, V2.i5, V2.i6, V2.i7, V2.i8, V2.i9, V2.i10, V2.i11, V2.i12, V2.i13, V2.i14, V2.i15, V2.i21, V2.i22]
              refine k194_102 (cno_MR V2.mr) (Nat.le_of_ble_eq_true rfl) (P2.fail (w := 2)) ?_
              rintro f3 n3 k3 v3 ⟨rfl, rfl, rfl, sm3, P3⟩
              simp (disch := first | omega | decide | assumption | exact Nat.le_of_ble_eq_true rfl) only [s194_105, s194_113, ow_some, true_and, and_true, and_self, if_true, if_false, not_true, not_false_eq_true, Bool.false_eq_true, eq_self, Option.toList, List.cons_append, List.nil_append, ix_in, ix_cl, lt_in, lt_cl, lt_add, ix_one, vu_eq, vu_ne, arI_mk, arL_mk, arY_mZ, arY_mB, alen_mI, fld_sfl_ne, fld_sfl_same, Option.isSome_some, pok_i, b1z, b01, z10, b1o, Int32.zero_add, vu_vu, upd_eq, upd_ne, true_or, or_true]
              rw [he]
              exact PO.er ((sm1.tr sm2).tr sm3) (ft_ne (by decide)) P3)
          (by
            intro w p fr1 c1 f2 he hw sm2 P2
            have V2 := P2.V
            simp (disch := first | omega | decide | assumption | exact Nat.le_of_ble_eq_true rfl) only [s194_91, s194_92, ow_some, true_and, and_true, and_self, if_true, if_false, not_true, not_false_eq_true, Bool.false_eq_true, eq_self, Option.toList, List.cons_append, List.nil_append, ix_in, ix_cl, lt_in, lt_cl, lt_add, ix_one, vu_eq, vu_ne, arI_mk, arL_mk, arY_mZ, arY_mB, alen_mI, fld_sfl_ne, fld_sfl_same, Option.isSome_some, pok_i, b1z, b01, z10, b1o, Int32.zero_add, vu_vu, upd_eq, upd_ne, true_or, or_true, V2.r1, V2.r2, V2.r3, V2.r4, V2.r16, V2.r17, V2.r18, V2.r19, V2.r20, V2.r23, V2.r24, V2.r25, V2.r26, V2.r27, V2.r28, V2.r29, V2.r30, V2.c172, V2.c173, V2.c174, V2.c186, V2.c187, V2.c188, V2.n5, V2.n13, V2.n14, V2.i0, V2.i5, V2.i6, V2.i7, V2.i8, V2.i9, V2.i10, V2.i11, V2.i12, V2.i13, V2.i14, V2.i15, V2.i21, V2.i22]
            rw [p194_94 (cno_MR V2.mr) (Nat.le_of_ble_eq_true rfl) (P2.eatN (fun z => hw z.1))]
            simp (disch := first | omega | decide | assumption | exact Nat.le_of_ble_eq_true rfl) only [s194_97, s194_100, s194_101, ow_some, true_and, and_true, and_self, if_true, if_false, not_true, not_false_eq_true, Bool.false_eq_true, eq_self, Option.toList, List.cons_append, List.nil_append, ix_in, ix_cl, lt_in, lt_cl, lt_add, ix_one, vu_eq, vu_ne, arI_mk, arL_mk, arY_mZ, arY_mB, alen_mI, fld_sfl_ne, fld_sfl_same, Option.isSome_some, pok_i, b1z, b01, z10, b1o, Int32.zero_add, vu_vu, upd_eq, upd_ne, true_or, or_true, V2.r1, V2.r2, V2.r3, V2.r4, V2.r16, V2.r17, V2.r18, V2.r19, V2.r20, V2.r23, V2.r24, V2.r25, V2.r26, V2.r27, V2.r28, V2.r29, V2.r30, V2.c172, V2.c173, V2.c174, V2.c186, V2.c187, V2.c188, V2.n5, V2.n13, V2.n14, V2.i0, V2.i5, V2.i6, V2.i7, V2.i8, V2.i9, V2.i10, V2.i11, V2.i12, V2.i13, V2.i14, V2.i15, V2.i21, V2.i22]
            rw [p194_102 (cno_MR V2.mr) (Nat.le_of_ble_eq_true rfl) (P2.failE hw)]
            simp (disch := first | omega | decide | assumption | exact Nat.le_of_ble_eq_true rfl) only [s194_105, s194_113, ow_some, true_and, and_true, and_self, if_true, if_false, not_true, not_false_eq_true, Bool.false_eq_true, eq_self, Option.toList, List.cons_append, List.nil_append, ix_in, ix_cl, lt_in, lt_cl, lt_add, ix_one, vu_eq, vu_ne, arI_mk, arL_mk, arY_mZ, arY_mB, alen_mI, fld_sfl_ne, fld_sfl_same, Option.isSome_some, pok_i, b1z, b01, z10, b1o, Int32.zero_add, vu_vu, upd_eq, upd_ne, true_or, or_true]
            rw [he]
            exact PO.er (sm1.tr sm2) hw P2)
        have sub := ih _ _ _ _ _ hr1 (D + 9) n1 k1 f1 s ag wa n (.float 0) rfl (by omega) (by omega) P1 g1.1 hn (by omega)
        refine k194_88 (cno_MR V1.mr) (Nat.le_of_ble_eq_true rfl) sub ?_
        intro f2 n2 k2 v2 hpo
        obtain ⟨-, -, hv, hq⟩ := hnx f2 n2 k2 v2 hpo
        subst hv
        exact hq
      · simp (disch := first | omega | decide | assumption | exact Nat.le_of_ble_eq_true rfl) only [s194_6, s194_24, s194_25, s194_28, s194_31, s194_32, s194_33, ow_some, true_and, and_true, and_self, if_true, if_false, not_true, not_false_eq_true, Bool.false_eq_true, eq_self, Option.toList, List.cons_append, List.nil_append, ix_in, ix_cl, lt_in, lt_cl, lt_add, ix_one, vu_eq, vu_ne, arI_mk, arL_mk, arY_mZ, arY_mB, alen_mI, fld_sfl_ne, fld_sfl_same, Option.isSome_some, pok_i, b1z, b01, z10, b1o, Int32.zero_add, vu_vu, upd_eq, upd_ne, true_or, or_true, V.r1, V.r2, V.r3, V.r4, V.r16, V.r17, V.r18, V.r19, V.r20, V.r23, V.r24, V.r25, V.r26, V.r27, V.r28, V.r29, V.r30, V.c172, V.c173, V.c174, V.c186, V.c187, V.c188, V.n5, V.n13, V.n14, V.i0, V.i5, V.i6, V.i7, V.i8, V.i9, V.i10, V.i11, V.i12, V.i13, V.i14, V.i15, V.i21, V.i22, Q.f6, Q.f7, Q.f8, Q.f9, Q.f10, Q.f11, Q.f12, Q.f15, Q.c175, Q.c176, h1, and_false]
        rw [p194_36 (cno_MR V.mr) (Nat.le_of_ble_eq_true rfl) P.word]
        simp (disch := first | omega | decide | assumption | exact Nat.le_of_ble_eq_true rfl) only [s194_39, s194_40, s194_43, s194_44, s194_47, s194_48, s194_49, s194_55, s194_59, s194_63, s194_66, s194_67, ow_some, true_and, and_true, and_self, if_true, if_false, not_true, not_false_eq_true, Bool.false_eq_true, eq_self, Option.toList, List.cons_append, List.nil_append, ix_in, ix_cl, lt_in, lt_cl, lt_add, ix_one, vu_eq, vu_ne, arI_mk, arL_mk, arY_mZ, arY_mB, alen_mI, fld_sfl_ne, fld_sfl_same, Option.isSome_some, pok_i, b1z, b01, z10, b1o, Int32.zero_add, vu_vu, upd_eq, upd_ne, true_or, or_true, V.r1, V.r2, V.r3, V.r4, V.r16, V.r17, V.r18, V.r19, V.r20, V.r23, V.r24, V.r25, V.r26, V.r27, V.r28, V.r29, V.r30, V.c172, V.c173, V.c174, V.c186, V.c187, V.c188, V.n5, V.n13, V.n14, V.i0, V.i5, V.i6, V.i7, V.i8, V.i9, V.i10, V.i11, V.i12, V.i13, V.i14, V.i15, V.i21, V.i22, Q.f6, Q.f7, Q.f8, Q.f9, Q.f10, Q.f11, Q.f12, Q.f15, Q.c175, Q.c176, h2]
        rw [p194_69 (cno_MR V.mr) (Nat.le_of_ble_eq_true rfl) P.is]
        simp (disch := first | omega | decide | assumption | exact Nat.le_of_ble_eq_true rfl) only [s194_72, s194_108, s194_109, ow_some, true_and, and_true, and_self, if_true, if_false, not_true, not_false_eq_true, Bool.false_eq_true, eq_self, Option.toList, List.cons_append, List.nil_append, ix_in, ix_cl, lt_in, lt_cl, lt_add, ix_one, vu_eq, vu_ne, arI_mk, arL_mk, arY_mZ, arY_mB, alen_mI, fld_sfl_ne, fld_sfl_same, Option.isSome_some, pok_i, b1z, b01, z10, b1o, Int32.zero_add, vu_vu, upd_eq, upd_ne, true_or, or_true, V.r1, V.r2, V.r3, V.r4, V.r16, V.r17, V.r18, V.r19, V.r20, V.r23, V.r24, V.r25, V.r26, V.r27, V.r28, V.r29, V.r30, V.c172, V.c173, V.c174, V.c186, V.c187, V.c188, V.n5, V.n13, V.n14, V.i0, V.i5, V.i6, V.i7, V.i8, V.i9, V.i10, V.i11, V.i12, V.i13, V.i14, V.i15, V.i21, V.i22, Q.f6, Q.f7, Q.f8, Q.f9, Q.f10, Q.f11, Q.f12, Q.f15, Q.c175, Q.c176, h3, and_false]
        refine k194_110 (cno_MR V.mr) (Nat.le_of_ble_eq_true rfl) (P.fail (w := 2)) ?_
        rintro f1 n1 k1 v1 ⟨rfl, rfl, rfl, sm1, P1⟩
        simp (disch := first | omega | decide | assumption | exact Nat.le_of_ble_eq_true rfl) only [s194_113, ow_some, true_and, and_true, and_self, if_true, if_false, not_true, not_false_eq_true, Bool.false_eq_true, eq_self, Option.toList, List.cons_append, List.nil_append, ix_in, ix_cl, lt_in, lt_cl, lt_add, ix_one, vu_eq, vu_ne, arI_mk, arL_mk, arY_mZ, arY_mB, alen_mI, fld_sfl_ne, fld_sfl_same, Option.isSome_some, pok_i, b1z, b01, z10, b1o, Int32.zero_add, vu_vu, upd_eq, upd_ne, true_or, or_true]
        rw [he]
        exact PO.er sm1 (ft_ne (by decide)) P1
    · rw [if_neg m0] at h
      by_cases m5 : m = 5
      · rw [if_pos m5] at h
        subst m5
        have hrk : rk 5 = 4 := rfl
        have hrk3 : rk 3 = 3 := rfl
        have hrk8 : rk 8 = 6 := rfl
        show TT X (D + 10) 200 0 [.ref 171, .int (nI d), a2] [] f N K _
        simp (disch := first | omega | decide | assumption | exact Nat.le_of_ble_eq_true rfl) only [s200_0, s200_1, ow_some, true_and, and_true, and_self, if_true, if_false, not_true, not_false_eq_true, Bool.false_eq_true, eq_self, Option.toList, List.cons_append, List.nil_append, ix_in, ix_cl, lt_in, lt_cl, lt_add, ix_one, vu_eq, vu_ne, arI_mk, arL_mk, arY_mZ, arY_mB, alen_mI, fld_sfl_ne, fld_sfl_same, Option.isSome_some, pok_i, b1z, b01, z10, b1o, Int32.zero_add, vu_vu, upd_eq, upd_ne, true_or, or_true, V.r1, V.r2, V.r3, V.r4, V.r16, V.r17, V.r18, V.r19, V.r20, V.r23, V.r24, V.r25, V.r26, V.r27, V.r28, V.r29, V.r30, V.c172, V.c173, V.c174, V.c186, V.c187, V.c188, V.n5, V.n13, V.n14, V.i0, V.i5, V.i6, V.i7, V.i8, V.i9, V.i10, V.i11, V.i12, V.i13, V.i14, V.i15, V.i21, V.i22]
        rw [p200_3 (cno_MR V.mr) (Nat.le_of_ble_eq_true rfl) P.is]
        rcases h with ⟨hk, hd6, he⟩ | ⟨hk, hd6, hs⟩ | ⟨hk, hd6, hs⟩ | ⟨hk1, hk2, hs⟩
        · subst hd6
          rcases hk with hk | hk
          · have hk' : (c.2.2.1 = 20) = True := eq_true hk
            simp (disch := first | omega | decide | assumption | exact Nat.le_of_ble_eq_true rfl) only [s200_6, s200_9, s200_10, ow_some, true_and, and_true, and_self, if_true, if_false, not_true, not_false_eq_true, Bool.false_eq_true, eq_self, Option.toList, List.cons_append, List.nil_append, ix_in, ix_cl, lt_in, lt_cl, lt_add, ix_one, vu_eq, vu_ne, arI_mk, arL_mk, arY_mZ, arY_mB, alen_mI, fld_sfl_ne, fld_sfl_same, Option.isSome_some, pok_i, b1z, b01, z10, b1o, Int32.zero_add, vu_vu, upd_eq, upd_ne, true_or, or_true, V.r1, V.r2, V.r3, V.r4, V.r16, V.r17, V.r18, V.r19, V.r20, V.r23, V.r24, V.r25, V.r26, V.r27, V.r28, V.r29, V.r30, V.c172, V.c173, V.c174, V.c186, V.c187, V.c188, V.n5, V.n13, V.n14, V.i0, V.i5, V.i6, V.i7, V.i8, V.i9, V.i10, V.i11, V.i12, V.i13, V.i14, V.i15, V.i21, V.i22, hk']
            refine k200_11 (cno_MR V.mr) (Nat.le_of_ble_eq_true rfl) P.inN ?_
            rintro f1 n1 k1 v1 ⟨rfl, rfl, sm1, P1, rfl⟩
            simp (disch := first | omega | decide | assumption | exact Nat.le_of_ble_eq_true rfl) only [s200_14, s200_17, ow_some, true_and, and_true, and_self, if_true, if_false, not_true, not_false_eq_true, Bool.false_eq_true, eq_self, Option.toList, List.cons_append, List.nil_append, ix_in, ix_cl, lt_in, lt_cl, lt_add, ix_one, vu_eq, vu_ne, arI_mk, arL_mk, arY_mZ, arY_mB, alen_mI, fld_sfl_ne, fld_sfl_same, Option.isSome_some, pok_i, b1z, b01, z10, b1o, Int32.zero_add, vu_vu, upd_eq, upd_ne, true_or, or_true]
            rw [he]
            exact PO.er sm1 (ft_ne (by decide)) P1
          · have hk0 : (c.2.2.1 = 20) = False := eq_false (by rw [hk]; decide)
            have hk' : (c.2.2.1 = 37) = True := eq_true hk
            simp (disch := first | omega | decide | assumption | exact Nat.le_of_ble_eq_true rfl) only [s200_6, s200_33, s200_34, ow_some, true_and, and_true, and_self, if_true, if_false, not_true, not_false_eq_true, Bool.false_eq_true, eq_self, Option.toList, List.cons_append, List.nil_append, ix_in, ix_cl, lt_in, lt_cl, lt_add, ix_one, vu_eq, vu_ne, arI_mk, arL_mk, arY_mZ, arY_mB, alen_mI, fld_sfl_ne, fld_sfl_same, Option.isSome_some, pok_i, b1z, b01, z10, b1o, Int32.zero_add, vu_vu, upd_eq, upd_ne, true_or, or_true, V.r1, V.r2, V.r3, V.r4, V.r16, V.r17, V.r18, V.r19, V.r20, V.r23, V.r24, V.r25, V.r26, V.r27, V.r28, V.r29, V.r30, V.c172, V.c173, V.c174, V.c186, V.c187, V.c188, V.n5, V.n13, V.n14, V.i0, V.i5, V.i6, V.i7, V.i8, V.i9, V.i10, V.i11, V.i12, V.i13, V.i14, V.i15, V.i21, V.i22, hk0, and_false]
            rw [p200_36 (cno_MR V.mr) (Nat.le_of_ble_eq_true rfl) P.is]
            simp (disch := first | omega | decide | assumption | exact Nat.le_of_ble_eq_true rfl) only [s200_39, s200_42, s200_43, ow_some, true_and, and_true, and_self, if_true, if_false, not_true, not_false_eq_true, Bool.false_eq_true, eq_self, Option.toList, List.cons_append, List.nil_append, ix_in, ix_cl, lt_in, lt_cl, lt_add, ix_one, vu_eq, vu_ne, arI_mk, arL_mk, arY_mZ, arY_mB, alen_mI, fld_sfl_ne, fld_sfl_same, Option.isSome_some, pok_i, b1z, b01, z10, b1o, Int32.zero_add, vu_vu, upd_eq, upd_ne, true_or, or_true, V.r1, V.r2, V.r3, V.r4, V.r16, V.r17, V.r18, V.r19, V.r20, V.r23, V.r24, V.r25, V.r26, V.r27, V.r28, V.r29, V.r30, V.c172, V.c173, V.c174, V.c186, V.c187, V.c188, V.n5, V.n13, V.n14, V.i0, V.i5, V.i6, V.i7, V.i8, V.i9, V.i10, V.i11, V.i12, V.i13, V.i14, V.i15, V.i21, V.i22, hk']
            refine k200_44 (cno_MR V.mr) (Nat.le_of_ble_eq_true rfl) P.inN ?_
            rintro f1 n1 k1 v1 ⟨rfl, rfl, sm1, P1, rfl⟩
            simp (disch := first | omega | decide | assumption | exact Nat.le_of_ble_eq_true rfl) only [s200_47, s200_50, ow_some, true_and, and_true, and_self, if_true, if_false, not_true, not_false_eq_true, Bool.false_eq_true, eq_self, Option.toList, List.cons_append, List.nil_append, ix_in, ix_cl, lt_in, lt_cl, lt_add, ix_one, vu_eq, vu_ne, arI_mk, arL_mk, arY_mZ, arY_mB, alen_mI, fld_sfl_ne, fld_sfl_same, Option.isSome_some, pok_i, b1z, b01, z10, b1o, Int32.zero_add, vu_vu, upd_eq, upd_ne, true_or, or_true]
            rw [he]
            exact PO.er sm1 (ft_ne (by decide)) P1
        · have hk' : (c.2.2.1 = 20) = True := eq_true hk
          have g1 := cv_go (tx := s.2.2.1) hcv (by rw [hk]; decide)
          simp (disch := first | omega | decide | assumption | exact Nat.le_of_ble_eq_true rfl) only [s200_6, s200_9, s200_10, ow_some, true_and, and_true, and_self, if_true, if_false, not_true, not_false_eq_true, Bool.false_eq_true, eq_self, Option.toList, List.cons_append, List.nil_append, ix_in, ix_cl, lt_in, lt_cl, lt_add, ix_one, vu_eq, vu_ne, arI_mk, arL_mk, arY_mZ, arY_mB, alen_mI, fld_sfl_ne, fld_sfl_same, Option.isSome_some, pok_i, b1z, b01, z10, b1o, Int32.zero_add, vu_vu, upd_eq, upd_ne, true_or, or_true, V.r1, V.r2, V.r3, V.r4, V.r16, V.r17, V.r18, V.r19, V.r20, V.r23, V.r24, V.r25, V.r26, V.r27, V.r28, V.r29, V.r30, V.c172, V.c173, V.c174, V.c186, V.c187, V.c188, V.n5, V.n13, V.n14, V.i0, V.i5, V.i6, V.i7, V.i8, V.i9, V.i10, V.i11, V.i12, V.i13, V.i14, V.i15, V.i21, V.i22, hk']
          refine k200_11 (cno_MR V.mr) (Nat.le_of_ble_eq_true rfl) (P.inY hd6) ?_
          rintro f1 n1 k1 v1 ⟨rfl, rfl, sm1, P1, rfl⟩
          have V1 := P1.V
          simp (disch := first | omega | decide | assumption | exact Nat.le_of_ble_eq_true rfl) only [s200_14, s200_17, s200_18, s200_19, s200_20, s200_21, ow_some, true_and, and_true, and_self, if_true, if_false, not_true, not_false_eq_true, Bool.false_eq_true, eq_self, Option.toList, List.cons_append, List.nil_append, ix_in, ix_cl, lt_in, lt_cl, lt_add, ix_one, vu_eq, vu_ne, arI_mk, arL_mk, arY_mZ, arY_mB, alen_mI, fld_sfl_ne, fld_sfl_same, Option.isSome_some, pok_i, b1z, b01, z10, b1o, Int32.zero_add, vu_vu, upd_eq, upd_ne, true_or, or_true, V1.r1, V1.r2, V1.r3, V1.r4, V1.r16, V1.r17, V1.r18, V1.r19, V1.r20, V1.r23, V1.r24, V1.r25, V1.r26, V1.r27, V1.r28, V1.r29, V1.r30, V1.c172, V1.c173, V1.c174, V1.c186, V1.c187, V1.c188, V1.n5, V1.n13, V1.n14, V1.i0, V1.i5, V1.i6, V1.i7, V1.i8, V1.i9, V1.i10, V1.i11, V1.i12, V1.i13, V1.i14, V1.i15, V1.i21, V1.i22]
          obtain ⟨r1, hr1, hnx⟩ := rd_sq (N := n1) (K := k1) (f := f1) (s := s) (ag := ag) (Q := fun f' n' k' v => TT X (D + 10) 200 25 [.ref 171, .int (nI d), a2] [] f' n' k' (PO f s ag sz rd n1 k1 r)) hs g1.1 hz hn (by omega)
            (by
              intro c1 fr1 n2 f2 wa1 hKt sm2 P2 i1 i2 i3
              have V2 := P2.V
              have hlt : n2 < 900 := by have := i1.1.2; omega
              simp (disch := first | omega | decide | assumption | exact Nat.le_of_ble_eq_true rfl) only [s200_25, s200_26, ow_some, true_and, and_true, and_self, if_true, if_false, not_true, not_false_eq_true, Bool.false_eq_true, eq_self, Option.toList, List.cons_append, List.nil_append, ix_in, ix_cl, lt_in, lt_cl, lt_add, ix_one, vu_eq, vu_ne, arI_mk, arL_mk, arY_mZ, arY_mB, alen_mI, fld_sfl_ne, fld_sfl_same, Option.isSome_some, pok_i, b1z, b01, z10, b1o, Int32.zero_add, vu_vu, upd_eq, upd_ne, true_or, or_true, V2.r1, V2.r2, V2.r3, V2.r4, V2.r16, V2.r17, V2.r18, V2.r19, V2.r20, V2.r23, V2.r24, V2.r25, V2.r26, V2.r27, V2.r28, V2.r29, V2.r30, V2.c172, V2.c173, V2.c174, V2.c186, V2.c187, V2.c188, V2.n5, V2.n13, V2.n14, V2.i0, V2.i5, V2.i6, V2.i7, V2.i8, V2.i9, V2.i10, V2.i11, V2.i12, V2.i13, V2.i14, V2.i15, V2.i21, V2.i22]
              refine k200_29 (cno_MR V2.mr) (Nat.le_of_ble_eq_true rfl) (P2.codes i2 hlt) ?_
              rintro f3 n3 k3 v3 ⟨rfl, rfl, rfl, sm3, P3⟩
              simp (disch := first | omega | decide | assumption | exact Nat.le_of_ble_eq_true rfl) only [s200_32, ow_some, true_and, and_true, and_self, if_true, if_false, not_true, not_false_eq_true, Bool.false_eq_true, eq_self, Option.toList, List.cons_append, List.nil_append, ix_in, ix_cl, lt_in, lt_cl, lt_add, ix_one, vu_eq, vu_ne, arI_mk, arL_mk, arY_mZ, arY_mB, alen_mI, fld_sfl_ne, fld_sfl_same, Option.isSome_some, pok_i, b1z, b01, z10, b1o, Int32.zero_add, vu_vu, upd_eq, upd_ne, true_or, or_true]
              rw [hKt]
              exact PO.ok ((sm1.tr sm2).tr sm3) P3)
            (by
              intro w p fr1 c1 f2 he hw sm2 P2
              have V2 := P2.V
              simp (disch := first | omega | decide | assumption | exact Nat.le_of_ble_eq_true rfl) only [s200_25, s200_26, ow_some, true_and, and_true, and_self, if_true, if_false, not_true, not_false_eq_true, Bool.false_eq_true, eq_self, Option.toList, List.cons_append, List.nil_append, ix_in, ix_cl, lt_in, lt_cl, lt_add, ix_one, vu_eq, vu_ne, arI_mk, arL_mk, arY_mZ, arY_mB, alen_mI, fld_sfl_ne, fld_sfl_same, Option.isSome_some, pok_i, b1z, b01, z10, b1o, Int32.zero_add, vu_vu, upd_eq, upd_ne, true_or, or_true, V2.r1, V2.r2, V2.r3, V2.r4, V2.r16, V2.r17, V2.r18, V2.r19, V2.r20, V2.r23, V2.r24, V2.r25, V2.r26, V2.r27, V2.r28, V2.r29, V2.r30, V2.c172, V2.c173, V2.c174, V2.c186, V2.c187, V2.c188, V2.n5, V2.n13, V2.n14, V2.i0, V2.i5, V2.i6, V2.i7, V2.i8, V2.i9, V2.i10, V2.i11, V2.i12, V2.i13, V2.i14, V2.i15, V2.i21, V2.i22]
              rw [p200_29 (cno_MR V2.mr) (Nat.le_of_ble_eq_true rfl) (P2.codesE hw)]
              simp (disch := first | omega | decide | assumption | exact Nat.le_of_ble_eq_true rfl) only [s200_32, ow_some, true_and, and_true, and_self, if_true, if_false, not_true, not_false_eq_true, Bool.false_eq_true, eq_self, Option.toList, List.cons_append, List.nil_append, ix_in, ix_cl, lt_in, lt_cl, lt_add, ix_one, vu_eq, vu_ne, arI_mk, arL_mk, arY_mZ, arY_mB, alen_mI, fld_sfl_ne, fld_sfl_same, Option.isSome_some, pok_i, b1z, b01, z10, b1o, Int32.zero_add, vu_vu, upd_eq, upd_ne, true_or, or_true]
              rw [he]
              exact PO.er (sm1.tr sm2) hw P2)
          have sub := ih _ _ _ _ _ hr1 (D + 9) n1 k1 f1 s ag wa n (.float 0) rfl (by omega) (by omega) P1 g1.1 hn (by omega)
          refine k200_22 (cno_MR V1.mr) (Nat.le_of_ble_eq_true rfl) sub ?_
          intro f2 n2 k2 v2 hpo
          obtain ⟨-, -, hv, hq⟩ := hnx f2 n2 k2 v2 hpo
          subst hv
          exact hq
        · have hk0 : (c.2.2.1 = 20) = False := eq_false (by rw [hk]; decide)
          have hk' : (c.2.2.1 = 37) = True := eq_true hk
          have g1 := cv_go (tx := s.2.2.1) hcv (by rw [hk]; decide)
          simp (disch := first | omega | decide | assumption | exact Nat.le_of_ble_eq_true rfl) only [s200_6, s200_33, s200_34, ow_some, true_and, and_true, and_self, if_true, if_false, not_true, not_false_eq_true, Bool.false_eq_true, eq_self, Option.toList, List.cons_append, List.nil_append, ix_in, ix_cl, lt_in, lt_cl, lt_add, ix_one, vu_eq, vu_ne, arI_mk, arL_mk, arY_mZ, arY_mB, alen_mI, fld_sfl_ne, fld_sfl_same, Option.isSome_some, pok_i, b1z, b01, z10, b1o, Int32.zero_add, vu_vu, upd_eq, upd_ne, true_or, or_true, V.r1, V.r2, V.r3, V.r4, V.r16, V.r17, V.r18, V.r19, V.r20, V.r23, V.r24, V.r25, V.r26, V.r27, V.r28, V.r29, V.r30, V.c172, V.c173, V.c174, V.c186, V.c187, V.c188, V.n5, V.n13, V.n14, V.i0, V.i5, V.i6, V.i7, V.i8, V.i9, V.i10, V.i11, V.i12, V.i13, V.i14, V.i15, V.i21, V.i22, hk0, and_false]
          rw [p200_36 (cno_MR V.mr) (Nat.le_of_ble_eq_true rfl) P.is]
          simp (disch := first | omega | decide | assumption | exact Nat.le_of_ble_eq_true rfl) only [s200_39, s200_42, s200_43, ow_some, true_and, and_true, and_self, if_true, if_false, not_true, not_false_eq_true, Bool.false_eq_true, eq_self, Option.toList, List.cons_append, List.nil_append, ix_in, ix_cl, lt_in, lt_cl, lt_add, ix_one, vu_eq, vu_ne, arI_mk, arL_mk, arY_mZ, arY_mB, alen_mI, fld_sfl_ne, fld_sfl_same, Option.isSome_some, pok_i, b1z, b01, z10, b1o, Int32.zero_add, vu_vu, upd_eq, upd_ne, true_or, or_true, V.r1, V.r2, V.r3, V.r4, V.r16, V.r17, V.r18, V.r19, V.r20, V.r23, V.r24, V.r25, V.r26, V.r27, V.r28, V.r29, V.r30, V.c172, V.c173, V.c174, V.c186, V.c187, V.c188, V.n5, V.n13, V.n14, V.i0, V.i5, V.i6, V.i7, V.i8, V.i9, V.i10, V.i11, V.i12, V.i13, V.i14, V.i15, V.i21, V.i22, hk']
          refine k200_44 (cno_MR V.mr) (Nat.le_of_ble_eq_true rfl) (P.inY hd6) ?_
          rintro f1 n1 k1 v1 ⟨rfl, rfl, sm1, P1, rfl⟩
          have V1 := P1.V
          simp (disch := first | omega | decide | assumption | exact Nat.le_of_ble_eq_true rfl) only [s200_47, s200_50, s200_51, s200_52, s200_53, s200_54, ow_some, true_and, and_true, and_self, if_true, if_false, not_true, not_false_eq_true, Bool.false_eq_true, eq_self, Option.toList, List.cons_append, List.nil_append, ix_in, ix_cl, lt_in, lt_cl, lt_add, ix_one, vu_eq, vu_ne, arI_mk, arL_mk, arY_mZ, arY_mB, alen_mI, fld_sfl_ne, fld_sfl_same, Option.isSome_some, pok_i, b1z, b01, z10, b1o, Int32.zero_add, vu_vu, upd_eq, upd_ne, true_or, or_true, V1.r1, V1.r2, V1.r3, V1.r4, V1.r16, V1.r17, V1.r18, V1.r19, V1.r20, V1.r23, V1.r24, V1.r25, V1.r26, V1.r27, V1.r28, V1.r29, V1.r30, V1.c172, V1.c173, V1.c174, V1.c186, V1.c187, V1.c188, V1.n5, V1.n13, V1.n14, V1.i0, V1.i5, V1.i6, V1.i7, V1.i8, V1.i9, V1.i10, V1.i11, V1.i12, V1.i13, V1.i14, V1.i15, V1.i21, V1.i22]
          obtain ⟨r1, hr1, hnx⟩ := rd_sq (N := n1) (K := k1) (f := f1) (s := s) (ag := ag) (Q := fun f' n' k' v => TT X (D + 10) 200 58 [.ref 171, .int (nI d), a2] [] f' n' k' (PO f s ag sz rd n1 k1 r)) hs g1.1 hz hn (by omega)
            (by
              intro c1 fr1 n2 f2 wa1 hKt sm2 P2 i1 i2 i3
              have V2 := P2.V
              simp (disch := first | omega | decide | assumption | exact Nat.le_of_ble_eq_true rfl) only [s200_58, s200_59, ow_some, true_and, and_true, and_self, if_true, if_false, not_true, not_false_eq_true, Bool.false_eq_true, eq_self, Option.toList, List.cons_append, List.nil_append, ix_in, ix_cl, lt_in, lt_cl, lt_add, ix_one, vu_eq, vu_ne, arI_mk, arL_mk, arY_mZ, arY_mB, alen_mI, fld_sfl_ne, fld_sfl_same, Option.isSome_some, pok_i, b1z, b01, z10, b1o, Int32.zero_add, vu_vu, upd_eq, upd_ne, true_or, or_true, V2.r1, V2.r2, V2.r3, V2.r4, V2.r16, V2.r17, V2.r18, V2.r19, V2.r20, V2.r23, V2.r24, V2.r25, V2.r26, V2.r27, V2.r28, V2.r29, V2.r30, V2.c172, V2.c173, V2.c174, V2.c186, V2.c187, V2.c188, V2.n5, V2.n13, V2.n14, V2.i0, V2.i5, V2.i6, V2.i7, V2.i8, V2.i9, V2.i10, V2.i11, V2.i12, V2.i13, V2.i14, V2.i15, V2.i21, V2.i22]
              rcases hKt with ⟨h38, he⟩ | ⟨h38, he⟩
              · refine k200_61 (cno_MR V2.mr) (Nat.le_of_ble_eq_true rfl) (P2.eatY h38) ?_
                rintro f3 n3 k3 v3 ⟨rfl, rfl, sm3, P3, rfl⟩
                simp (disch := first | omega | decide | assumption | exact Nat.le_of_ble_eq_true rfl) only [s200_64, s200_72, ow_some, true_and, and_true, and_self, if_true, if_false, not_true, not_false_eq_true, Bool.false_eq_true, eq_self, Option.toList, List.cons_append, List.nil_append, ix_in, ix_cl, lt_in, lt_cl, lt_add, ix_one, vu_eq, vu_ne, arI_mk, arL_mk, arY_mZ, arY_mB, alen_mI, fld_sfl_ne, fld_sfl_same, Option.isSome_some, pok_i, b1z, b01, z10, b1o, Int32.zero_add, vu_vu, upd_eq, upd_ne, true_or, or_true]
                rw [he]
                exact PO.ok ((sm1.tr sm2).tr sm3) P3
              · rw [p200_61 (cno_MR V2.mr) (Nat.le_of_ble_eq_true rfl) (P2.eatN (fun z => h38 z.2))]
                simp (disch := first | omega | decide | assumption | exact Nat.le_of_ble_eq_true rfl) only [s200_64, s200_67, s200_68, ow_some, true_and, and_true, and_self, if_true, if_false, not_true, not_false_eq_true, Bool.false_eq_true, eq_self, Option.toList, List.cons_append, List.nil_append, ix_in, ix_cl, lt_in, lt_cl, lt_add, ix_one, vu_eq, vu_ne, arI_mk, arL_mk, arY_mZ, arY_mB, alen_mI, fld_sfl_ne, fld_sfl_same, Option.isSome_some, pok_i, b1z, b01, z10, b1o, Int32.zero_add, vu_vu, upd_eq, upd_ne, true_or, or_true, V2.r1, V2.r2, V2.r3, V2.r4, V2.r16, V2.r17, V2.r18, V2.r19, V2.r20, V2.r23, V2.r24, V2.r25, V2.r26, V2.r27, V2.r28, V2.r29, V2.r30, V2.c172, V2.c173, V2.c174, V2.c186, V2.c187, V2.c188, V2.n5, V2.n13, V2.n14, V2.i0, V2.i5, V2.i6, V2.i7, V2.i8, V2.i9, V2.i10, V2.i11, V2.i12, V2.i13, V2.i14, V2.i15, V2.i21, V2.i22]
                refine k200_69 (cno_MR V2.mr) (Nat.le_of_ble_eq_true rfl) (P2.fail (w := 2)) ?_
                rintro f3 n3 k3 v3 ⟨rfl, rfl, rfl, sm3, P3⟩
                simp (disch := first | omega | decide | assumption | exact Nat.le_of_ble_eq_true rfl) only [s200_72, ow_some, true_and, and_true, and_self, if_true, if_false, not_true, not_false_eq_true, Bool.false_eq_true, eq_self, Option.toList, List.cons_append, List.nil_append, ix_in, ix_cl, lt_in, lt_cl, lt_add, ix_one, vu_eq, vu_ne, arI_mk, arL_mk, arY_mZ, arY_mB, alen_mI, fld_sfl_ne, fld_sfl_same, Option.isSome_some, pok_i, b1z, b01, z10, b1o, Int32.zero_add, vu_vu, upd_eq, upd_ne, true_or, or_true]
                rw [he]
                exact PO.er ((sm1.tr sm2).tr sm3) (ft_ne (by decide)) P3)
            (by
              intro w p fr1 c1 f2 he hw sm2 P2
              have V2 := P2.V
              simp (disch := first | omega | decide | assumption | exact Nat.le_of_ble_eq_true rfl) only [s200_58, s200_59, ow_some, true_and, and_true, and_self, if_true, if_false, not_true, not_false_eq_true, Bool.false_eq_true, eq_self, Option.toList, List.cons_append, List.nil_append, ix_in, ix_cl, lt_in, lt_cl, lt_add, ix_one, vu_eq, vu_ne, arI_mk, arL_mk, arY_mZ, arY_mB, alen_mI, fld_sfl_ne, fld_sfl_same, Option.isSome_some, pok_i, b1z, b01, z10, b1o, Int32.zero_add, vu_vu, upd_eq, upd_ne, true_or, or_true, V2.r1, V2.r2, V2.r3, V2.r4, V2.r16, V2.r17, V2.r18, V2.r19, V2.r20, V2.r23, V2.r24, V2.r25, V2.r26, V2.r27, V2.r28, V2.r29, V2.r30, V2.c172, V2.c173, V2.c174, V2.c186, V2.c187, V2.c188, V2.n5, V2.n13, V2.n14, V2.i0, V2.i5, V2.i6, V2.i7, V2.i8, V2.i9, V2.i10, V2.i11, V2.i12, V2.i13, V2.i14, V2.i15, V2.i21, V2.i22]
              rw [p200_61 (cno_MR V2.mr) (Nat.le_of_ble_eq_true rfl) (P2.eatN (fun z => hw z.1))]
              simp (disch := first | omega | decide | assumption | exact Nat.le_of_ble_eq_true rfl) only [s200_64, s200_67, s200_68, ow_some, true_and, and_true, and_self, if_true, if_false, not_true, not_false_eq_true, Bool.false_eq_true, eq_self, Option.toList, List.cons_append, List.nil_append, ix_in, ix_cl, lt_in, lt_cl, lt_add, ix_one, vu_eq, vu_ne, arI_mk, arL_mk, arY_mZ, arY_mB, alen_mI, fld_sfl_ne, fld_sfl_same, Option.isSome_some, pok_i, b1z, b01, z10, b1o, Int32.zero_add, vu_vu, upd_eq, upd_ne, true_or, or_true, V2.r1, V2.r2, V2.r3, V2.r4, V2.r16, V2.r17, V2.r18, V2.r19, V2.r20, V2.r23, V2.r24, V2.r25, V2.r26, V2.r27, V2.r28, V2.r29, V2.r30, V2.c172, V2.c173, V2.c174, V2.c186, V2.c187, V2.c188, V2.n5, V2.n13, V2.n14, V2.i0, V2.i5, V2.i6, V2.i7, V2.i8, V2.i9, V2.i10, V2.i11, V2.i12, V2.i13, V2.i14, V2.i15, V2.i21, V2.i22]
              rw [p200_69 (cno_MR V2.mr) (Nat.le_of_ble_eq_true rfl) (P2.failE hw)]
              simp (disch := first | omega | decide | assumption | exact Nat.le_of_ble_eq_true rfl) only [s200_72, ow_some, true_and, and_true, and_self, if_true, if_false, not_true, not_false_eq_true, Bool.false_eq_true, eq_self, Option.toList, List.cons_append, List.nil_append, ix_in, ix_cl, lt_in, lt_cl, lt_add, ix_one, vu_eq, vu_ne, arI_mk, arL_mk, arY_mZ, arY_mB, alen_mI, fld_sfl_ne, fld_sfl_same, Option.isSome_some, pok_i, b1z, b01, z10, b1o, Int32.zero_add, vu_vu, upd_eq, upd_ne, true_or, or_true]
              rw [he]
              exact PO.er (sm1.tr sm2) hw P2)
          have sub := ih _ _ _ _ _ hr1 (D + 9) n1 k1 f1 s ag wa n (.float 0) rfl (by omega) (by omega) P1 g1.1 hn (by omega)
          refine k200_55 (cno_MR V1.mr) (Nat.le_of_ble_eq_true rfl) sub ?_
          intro f2 n2 k2 v2 hpo
          obtain ⟨-, -, hv, hq⟩ := hnx f2 n2 k2 v2 hpo
          subst hv
          exact hq
        · simp (disch := first | omega | decide | assumption | exact Nat.le_of_ble_eq_true rfl) only [s200_6, s200_33, s200_34, ow_some, true_and, and_true, and_self, if_true, if_false, not_true, not_false_eq_true, Bool.false_eq_true, eq_self, Option.toList, List.cons_append, List.nil_append, ix_in, ix_cl, lt_in, lt_cl, lt_add, ix_one, vu_eq, vu_ne, arI_mk, arL_mk, arY_mZ, arY_mB, alen_mI, fld_sfl_ne, fld_sfl_same, Option.isSome_some, pok_i, b1z, b01, z10, b1o, Int32.zero_add, vu_vu, upd_eq, upd_ne, true_or, or_true, V.r1, V.r2, V.r3, V.r4, V.r16, V.r17, V.r18, V.r19, V.r20, V.r23, V.r24, V.r25, V.r26, V.r27, V.r28, V.r29, V.r30, V.c172, V.c173, V.c174, V.c186, V.c187, V.c188, V.n5, V.n13, V.n14, V.i0, V.i5, V.i6, V.i7, V.i8, V.i9, V.i10, V.i11, V.i12, V.i13, V.i14, V.i15, V.i21, V.i22, hk1, and_false]
          rw [p200_36 (cno_MR V.mr) (Nat.le_of_ble_eq_true rfl) P.is]
          simp (disch := first | omega | decide | assumption | exact Nat.le_of_ble_eq_true rfl) only [s200_39, s200_73, s200_74, ow_some, true_and, and_true, and_self, if_true, if_false, not_true, not_false_eq_true, Bool.false_eq_true, eq_self, Option.toList, List.cons_append, List.nil_append, ix_in, ix_cl, lt_in, lt_cl, lt_add, ix_one, vu_eq, vu_ne, arI_mk, arL_mk, arY_mZ, arY_mB, alen_mI, fld_sfl_ne, fld_sfl_same, Option.isSome_some, pok_i, b1z, b01, z10, b1o, Int32.zero_add, vu_vu, upd_eq, upd_ne, true_or, or_true, V.r1, V.r2, V.r3, V.r4, V.r16, V.r17, V.r18, V.r19, V.r20, V.r23, V.r24, V.r25, V.r26, V.r27, V.r28, V.r29, V.r30, V.c172, V.c173, V.c174, V.c186, V.c187, V.c188, V.n5, V.n13, V.n14, V.i0, V.i5, V.i6, V.i7, V.i8, V.i9, V.i10, V.i11, V.i12, V.i13, V.i14, V.i15, V.i21, V.i22, hk2, and_false]
          -- behind the first sum, in a wrong state
          have wrong : ∀ (w : Int32) (p : Nat) fr1 (c1 : Cu) f2, r = .inr (w, p) → w ≠ 0 → SM f f2 → PC f2 s fr1 ag sz c1 w (nI p) rd → ∀ u, TT X (D + 10) 200 151 [.ref 171, .int (nI d), .int u] [] f2 N K (PO f s ag sz rd N K r) := by
            intro w p fr1 c1 f2 he hw sm2 P2 u
            have V2 := P2.V
            simp (disch := first | omega | decide | assumption | exact Nat.le_of_ble_eq_true rfl) only [s200_151, s200_152, ow_some, true_and, and_true, and_self, if_true, if_false, not_true, not_false_eq_true, Bool.false_eq_true, eq_self, Option.toList, List.cons_append, List.nil_append, ix_in, ix_cl, lt_in, lt_cl, lt_add, ix_one, vu_eq, vu_ne, arI_mk, arL_mk, arY_mZ, arY_mB, alen_mI, fld_sfl_ne, fld_sfl_same, Option.isSome_some, pok_i, b1z, b01, z10, b1o, Int32.zero_add, vu_vu, upd_eq, upd_ne, true_or, or_true, V2.r1, V2.r2, V2.r3, V2.r4, V2.r16, V2.r17, V2.r18, V2.r19, V2.r20, V2.r23, V2.r24, V2.r25, V2.r26, V2.r27, V2.r28, V2.r29, V2.r30, V2.c172, V2.c173, V2.c174, V2.c186, V2.c187, V2.c188, V2.n5, V2.n13, V2.n14, V2.i0, V2.i5, V2.i6, V2.i7, V2.i8, V2.i9, V2.i10, V2.i11, V2.i12, V2.i13, V2.i14, V2.i15, V2.i21, V2.i22]
            rw [p200_153 (cno_MR V2.mr) (Nat.le_of_ble_eq_true rfl) (P2.sumE hw)]
            simp (disch := first | omega | decide | assumption | exact Nat.le_of_ble_eq_true rfl) only [s200_156, s200_157, ow_some, true_and, and_true, and_self, if_true, if_false, not_true, not_false_eq_true, Bool.false_eq_true, eq_self, Option.toList, List.cons_append, List.nil_append, ix_in, ix_cl, lt_in, lt_cl, lt_add, ix_one, vu_eq, vu_ne, arI_mk, arL_mk, arY_mZ, arY_mB, alen_mI, fld_sfl_ne, fld_sfl_same, Option.isSome_some, pok_i, b1z, b01, z10, b1o, Int32.zero_add, vu_vu, upd_eq, upd_ne, true_or, or_true, V2.r1, V2.r2, V2.r3, V2.r4, V2.r16, V2.r17, V2.r18, V2.r19, V2.r20, V2.r23, V2.r24, V2.r25, V2.r26, V2.r27, V2.r28, V2.r29, V2.r30, V2.c172, V2.c173, V2.c174, V2.c186, V2.c187, V2.c188, V2.n5, V2.n13, V2.n14, V2.i0, V2.i5, V2.i6, V2.i7, V2.i8, V2.i9, V2.i10, V2.i11, V2.i12, V2.i13, V2.i14, V2.i15, V2.i21, V2.i22]
            rw [p200_158 (cno_MR V2.mr) (Nat.le_of_ble_eq_true rfl) (P2.codesE hw)]
            simp (disch := first | omega | decide | assumption | exact Nat.le_of_ble_eq_true rfl) only [s200_161, ow_some, true_and, and_true, and_self, if_true, if_false, not_true, not_false_eq_true, Bool.false_eq_true, eq_self, Option.toList, List.cons_append, List.nil_append, ix_in, ix_cl, lt_in, lt_cl, lt_add, ix_one, vu_eq, vu_ne, arI_mk, arL_mk, arY_mZ, arY_mB, alen_mI, fld_sfl_ne, fld_sfl_same, Option.isSome_some, pok_i, b1z, b01, z10, b1o, Int32.zero_add, vu_vu, upd_eq, upd_ne, true_or, or_true]
            rw [he]
            exact PO.er sm2 hw P2
          obtain ⟨r1, hr1, hnx⟩ := rd_sq (N := N) (K := K) (f := f) (s := s) (ag := ag) (Q := fun f' n' k' v => TT X (D + 10) 200 78 [.ref 171, .int (nI d), a2] [] f' n' k' (PO f s ag sz rd N K r)) hs hcv hz hn hle
            (by
              intro c1 fr1 n2 f2 wa1 hKt sm2 P2 i1 i2 i3
              have V2 := P2.V
              -- the code, then whether there is a sign
              have code : ∀ a2, (∀ u, u = cmc c1.2.2.1 → TT X (D + 10) 200 112 [.ref 171, .int (nI d), .int u] [] f2 N K (PO f s ag sz rd N K r)) → TT X (D + 10) 200 78 [.ref 171, .int (nI d), a2] [] f2 N K (PO f s ag sz rd N K r) := by
                intro a2 hu
                simp (disch := first | omega | decide | assumption | exact Nat.le_of_ble_eq_true rfl) only [s200_78, s200_79, ow_some, true_and, and_true, and_self, if_true, if_false, not_true, not_false_eq_true, Bool.false_eq_true, eq_self, Option.toList, List.cons_append, List.nil_append, ix_in, ix_cl, lt_in, lt_cl, lt_add, ix_one, vu_eq, vu_ne, arI_mk, arL_mk, arY_mZ, arY_mB, alen_mI, fld_sfl_ne, fld_sfl_same, Option.isSome_some, pok_i, b1z, b01, z10, b1o, Int32.zero_add, vu_vu, upd_eq, upd_ne, true_or, or_true, V2.r1, V2.r2, V2.r3, V2.r4, V2.r16, V2.r17, V2.r18, V2.r19, V2.r20, V2.r23, V2.r24, V2.r25, V2.r26, V2.r27, V2.r28, V2.r29, V2.r30, V2.c172, V2.c173, V2.c174, V2.c186, V2.c187, V2.c188, V2.n5, V2.n13, V2.n14, V2.i0, V2.i5, V2.i6, V2.i7, V2.i8, V2.i9, V2.i10, V2.i11, V2.i12, V2.i13, V2.i14, V2.i15, V2.i21, V2.i22]
                rw [p200_81 (cno_MR V2.mr) (Nat.le_of_ble_eq_true rfl) P2.is]
                by_cases h39 : c1.2.2.1 = 39
                · have h39' : (c1.2.2.1 = 39) = True := eq_true h39
                  simp (disch := first | omega | decide | assumption | exact Nat.le_of_ble_eq_true rfl) only [s200_84, s200_87, s200_90, s200_111, ow_some, true_and, and_true, and_self, if_true, if_false, not_true, not_false_eq_true, Bool.false_eq_true, eq_self, Option.toList, List.cons_append, List.nil_append, ix_in, ix_cl, lt_in, lt_cl, lt_add, ix_one, vu_eq, vu_ne, arI_mk, arL_mk, arY_mZ, arY_mB, alen_mI, fld_sfl_ne, fld_sfl_same, Option.isSome_some, pok_i, b1z, b01, z10, b1o, Int32.zero_add, vu_vu, upd_eq, upd_ne, true_or, or_true, V2.r1, V2.r2, V2.r3, V2.r4, V2.r16, V2.r17, V2.r18, V2.r19, V2.r20, V2.r23, V2.r24, V2.r25, V2.r26, V2.r27, V2.r28, V2.r29, V2.r30, V2.c172, V2.c173, V2.c174, V2.c186, V2.c187, V2.c188, V2.n5, V2.n13, V2.n14, V2.i0, V2.i5, V2.i6, V2.i7, V2.i8, V2.i9, V2.i10, V2.i11, V2.i12, V2.i13, V2.i14, V2.i15, V2.i21, V2.i22, h39']
                  exact hu _ (by unfold cmc; rw [if_pos h39])
                · simp (disch := first | omega | decide | assumption | exact Nat.le_of_ble_eq_true rfl) only [s200_84, s200_93, s200_94, ow_some, true_and, and_true, and_self, if_true, if_false, not_true, not_false_eq_true, Bool.false_eq_true, eq_self, Option.toList, List.cons_append, List.nil_append, ix_in, ix_cl, lt_in, lt_cl, lt_add, ix_one, vu_eq, vu_ne, arI_mk, arL_mk, arY_mZ, arY_mB, alen_mI, fld_sfl_ne, fld_sfl_same, Option.isSome_some, pok_i, b1z, b01, z10, b1o, Int32.zero_add, vu_vu, upd_eq, upd_ne, true_or, or_true, V2.r1, V2.r2, V2.r3, V2.r4, V2.r16, V2.r17, V2.r18, V2.r19, V2.r20, V2.r23, V2.r24, V2.r25, V2.r26, V2.r27, V2.r28, V2.r29, V2.r30, V2.c172, V2.c173, V2.c174, V2.c186, V2.c187, V2.c188, V2.n5, V2.n13, V2.n14, V2.i0, V2.i5, V2.i6, V2.i7, V2.i8, V2.i9, V2.i10, V2.i11, V2.i12, V2.i13, V2.i14, V2.i15, V2.i21, V2.i22, h39, and_false]
                  rw [p200_96 (cno_MR V2.mr) (Nat.le_of_ble_eq_true rfl) P2.is]
                  by_cases h40 : c1.2.2.1 = 40
                  · have h40' : (c1.2.2.1 = 40) = True := eq_true h40
                    simp (disch := first | omega | decide | assumption | exact Nat.le_of_ble_eq_true rfl) only [s200_99, s200_102, s200_105, s200_111, ow_some, true_and, and_true, and_self, if_true, if_false, not_true, not_false_eq_true, Bool.false_eq_true, eq_self, Option.toList, List.cons_append, List.nil_append, ix_in, ix_cl, lt_in, lt_cl, lt_add, ix_one, vu_eq, vu_ne, arI_mk, arL_mk, arY_mZ, arY_mB, alen_mI, fld_sfl_ne, fld_sfl_same, Option.isSome_some, pok_i, b1z, b01, z10, b1o, Int32.zero_add, vu_vu, upd_eq, upd_ne, true_or, or_true, V2.r1, V2.r2, V2.r3, V2.r4, V2.r16, V2.r17, V2.r18, V2.r19, V2.r20, V2.r23, V2.r24, V2.r25, V2.r26, V2.r27, V2.r28, V2.r29, V2.r30, V2.c172, V2.c173, V2.c174, V2.c186, V2.c187, V2.c188, V2.n5, V2.n13, V2.n14, V2.i0, V2.i5, V2.i6, V2.i7, V2.i8, V2.i9, V2.i10, V2.i11, V2.i12, V2.i13, V2.i14, V2.i15, V2.i21, V2.i22, h40']
                    exact hu _ (by unfold cmc; rw [if_neg h39, if_pos h40])
                  · simp (disch := first | omega | decide | assumption | exact Nat.le_of_ble_eq_true rfl) only [s200_99, s200_108, s200_111, ow_some, true_and, and_true, and_self, if_true, if_false, not_true, not_false_eq_true, Bool.false_eq_true, eq_self, Option.toList, List.cons_append, List.nil_append, ix_in, ix_cl, lt_in, lt_cl, lt_add, ix_one, vu_eq, vu_ne, arI_mk, arL_mk, arY_mZ, arY_mB, alen_mI, fld_sfl_ne, fld_sfl_same, Option.isSome_some, pok_i, b1z, b01, z10, b1o, Int32.zero_add, vu_vu, upd_eq, upd_ne, true_or, or_true, V2.r1, V2.r2, V2.r3, V2.r4, V2.r16, V2.r17, V2.r18, V2.r19, V2.r20, V2.r23, V2.r24, V2.r25, V2.r26, V2.r27, V2.r28, V2.r29, V2.r30, V2.c172, V2.c173, V2.c174, V2.c186, V2.c187, V2.c188, V2.n5, V2.n13, V2.n14, V2.i0, V2.i5, V2.i6, V2.i7, V2.i8, V2.i9, V2.i10, V2.i11, V2.i12, V2.i13, V2.i14, V2.i15, V2.i21, V2.i22, h40, and_false]
                    exact hu _ (by unfold cmc; rw [if_neg h39, if_neg h40])
              apply code
              intro u hu
              simp (disch := first | omega | decide | assumption | exact Nat.le_of_ble_eq_true rfl) only [s200_112, s200_113, ow_some, true_and, and_true, and_self, if_true, if_false, not_true, not_false_eq_true, Bool.false_eq_true, eq_self, Option.toList, List.cons_append, List.nil_append, ix_in, ix_cl, lt_in, lt_cl, lt_add, ix_one, vu_eq, vu_ne, arI_mk, arL_mk, arY_mZ, arY_mB, alen_mI, fld_sfl_ne, fld_sfl_same, Option.isSome_some, pok_i, b1z, b01, z10, b1o, Int32.zero_add, vu_vu, upd_eq, upd_ne, true_or, or_true, V2.r1, V2.r2, V2.r3, V2.r4, V2.r16, V2.r17, V2.r18, V2.r19, V2.r20, V2.r23, V2.r24, V2.r25, V2.r26, V2.r27, V2.r28, V2.r29, V2.r30, V2.c172, V2.c173, V2.c174, V2.c186, V2.c187, V2.c188, V2.n5, V2.n13, V2.n14, V2.i0, V2.i5, V2.i6, V2.i7, V2.i8, V2.i9, V2.i10, V2.i11, V2.i12, V2.i13, V2.i14, V2.i15, V2.i21, V2.i22]
              rw [p200_115 (cno_MR V2.mr) (Nat.le_of_ble_eq_true rfl) P2.is]
              rcases hKt with ⟨h3, hs2⟩ | ⟨⟨h39, h40, h41⟩, he⟩
              · have g1 := cv_go (tx := s.2.2.1) i1 (by rcases h3 with z | z | z <;> (rw [z]; decide))
                have main : TT X (D + 10) 200 139 [.ref 171, .int (nI d), .int u] [] f2 N K (PO f s ag sz rd N K r) := by
                  simp (disch := first | omega | decide | assumption | exact Nat.le_of_ble_eq_true rfl) only [s200_139, ow_some, true_and, and_true, and_self, if_true, if_false, not_true, not_false_eq_true, Bool.false_eq_true, eq_self, Option.toList, List.cons_append, List.nil_append, ix_in, ix_cl, lt_in, lt_cl, lt_add, ix_one, vu_eq, vu_ne, arI_mk, arL_mk, arY_mZ, arY_mB, alen_mI, fld_sfl_ne, fld_sfl_same, Option.isSome_some, pok_i, b1z, b01, z10, b1o, Int32.zero_add, vu_vu, upd_eq, upd_ne, true_or, or_true, V2.r1, V2.r2, V2.r3, V2.r4, V2.r16, V2.r17, V2.r18, V2.r19, V2.r20, V2.r23, V2.r24, V2.r25, V2.r26, V2.r27, V2.r28, V2.r29, V2.r30, V2.c172, V2.c173, V2.c174, V2.c186, V2.c187, V2.c188, V2.n5, V2.n13, V2.n14, V2.i0, V2.i5, V2.i6, V2.i7, V2.i8, V2.i9, V2.i10, V2.i11, V2.i12, V2.i13, V2.i14, V2.i15, V2.i21, V2.i22]
                  refine k200_140 (cno_MR V2.mr) (Nat.le_of_ble_eq_true rfl) P2.next ?_
                  rintro f3 n3 k3 v3 ⟨rfl, rfl, rfl, sm3, P3⟩
                  have V3 := P3.V
                  simp (disch := first | omega | decide | assumption | exact Nat.le_of_ble_eq_true rfl) only [s200_143, s200_151, s200_152, ow_some, true_and, and_true, and_self, if_true, if_false, not_true, not_false_eq_true, Bool.false_eq_true, eq_self, Option.toList, List.cons_append, List.nil_append, ix_in, ix_cl, lt_in, lt_cl, lt_add, ix_one, vu_eq, vu_ne, arI_mk, arL_mk, arY_mZ, arY_mB, alen_mI, fld_sfl_ne, fld_sfl_same, Option.isSome_some, pok_i, b1z, b01, z10, b1o, Int32.zero_add, vu_vu, upd_eq, upd_ne, true_or, or_true, V3.r1, V3.r2, V3.r3, V3.r4, V3.r16, V3.r17, V3.r18, V3.r19, V3.r20, V3.r23, V3.r24, V3.r25, V3.r26, V3.r27, V3.r28, V3.r29, V3.r30, V3.c172, V3.c173, V3.c174, V3.c186, V3.c187, V3.c188, V3.n5, V3.n13, V3.n14, V3.i0, V3.i5, V3.i6, V3.i7, V3.i8, V3.i9, V3.i10, V3.i11, V3.i12, V3.i13, V3.i14, V3.i15, V3.i21, V3.i22]
                  obtain ⟨r2, hr2, hnx2⟩ := rd_sq (N := n3) (K := k3) (f := f3) (s := s) (ag := ag) (Q := fun f' n' k' v => TT X (D + 10) 200 156 [.ref 171, .int (nI d), .int u] [] f' n' k' (PO f s ag sz rd n3 k3 r)) hs2 g1.1 hz i2 (by omega)
                    (by
                      intro c2 fr2 n4 f4 wa2 hKt2 sm4 P4 j1 j2 j3
                      have V4 := P4.V
                      have hlt : n4 < 900 := by have := j1.1.2; omega
                      simp (disch := first | omega | decide | assumption | exact Nat.le_of_ble_eq_true rfl) only [s200_156, s200_157, ow_some, true_and, and_true, and_self, if_true, if_false, not_true, not_false_eq_true, Bool.false_eq_true, eq_self, Option.toList, List.cons_append, List.nil_append, ix_in, ix_cl, lt_in, lt_cl, lt_add, ix_one, vu_eq, vu_ne, arI_mk, arL_mk, arY_mZ, arY_mB, alen_mI, fld_sfl_ne, fld_sfl_same, Option.isSome_some, pok_i, b1z, b01, z10, b1o, Int32.zero_add, vu_vu, upd_eq, upd_ne, true_or, or_true, V4.r1, V4.r2, V4.r3, V4.r4, V4.r16, V4.r17, V4.r18, V4.r19, V4.r20, V4.r23, V4.r24, V4.r25, V4.r26, V4.r27, V4.r28, V4.r29, V4.r30, V4.c172, V4.c173, V4.c174, V4.c186, V4.c187, V4.c188, V4.n5, V4.n13, V4.n14, V4.i0, V4.i5, V4.i6, V4.i7, V4.i8, V4.i9, V4.i10, V4.i11, V4.i12, V4.i13, V4.i14, V4.i15, V4.i21, V4.i22]
                      refine k200_158 (cno_MR V4.mr) (Nat.le_of_ble_eq_true rfl) (P4.codes j2 hlt) ?_
                      rintro f5 n5 k5 v5 ⟨rfl, rfl, rfl, sm5, P5⟩
                      simp (disch := first | omega | decide | assumption | exact Nat.le_of_ble_eq_true rfl) only [s200_161, ow_some, true_and, and_true, and_self, if_true, if_false, not_true, not_false_eq_true, Bool.false_eq_true, eq_self, Option.toList, List.cons_append, List.nil_append, ix_in, ix_cl, lt_in, lt_cl, lt_add, ix_one, vu_eq, vu_ne, arI_mk, arL_mk, arY_mZ, arY_mB, alen_mI, fld_sfl_ne, fld_sfl_same, Option.isSome_some, pok_i, b1z, b01, z10, b1o, Int32.zero_add, vu_vu, upd_eq, upd_ne, true_or, or_true]
                      rw [hKt2, ← hu]
                      exact PO.ok (((sm2.tr sm3).tr sm4).tr sm5) P5)
                    (by
                      intro w p fr2 c2 f4 he hw sm4 P4
                      have V4 := P4.V
                      simp (disch := first | omega | decide | assumption | exact Nat.le_of_ble_eq_true rfl) only [s200_156, s200_157, ow_some, true_and, and_true, and_self, if_true, if_false, not_true, not_false_eq_true, Bool.false_eq_true, eq_self, Option.toList, List.cons_append, List.nil_append, ix_in, ix_cl, lt_in, lt_cl, lt_add, ix_one, vu_eq, vu_ne, arI_mk, arL_mk, arY_mZ, arY_mB, alen_mI, fld_sfl_ne, fld_sfl_same, Option.isSome_some, pok_i, b1z, b01, z10, b1o, Int32.zero_add, vu_vu, upd_eq, upd_ne, true_or, or_true, V4.r1, V4.r2, V4.r3, V4.r4, V4.r16, V4.r17, V4.r18, V4.r19, V4.r20, V4.r23, V4.r24, V4.r25, V4.r26, V4.r27, V4.r28, V4.r29, V4.r30, V4.c172, V4.c173, V4.c174, V4.c186, V4.c187, V4.c188, V4.n5, V4.n13, V4.n14, V4.i0, V4.i5, V4.i6, V4.i7, V4.i8, V4.i9, V4.i10, V4.i11, V4.i12, V4.i13, V4.i14, V4.i15, V4.i21, V4.i22]
                      rw [p200_158 (cno_MR V4.mr) (Nat.le_of_ble_eq_true rfl) (P4.codesE hw)]
                      simp (disch := first | omega | decide | assumption | exact Nat.le_of_ble_eq_true rfl) only [s200_161, ow_some, true_and, and_true, and_self, if_true, if_false, not_true, not_false_eq_true, Bool.false_eq_true, eq_self, Option.toList, List.cons_append, List.nil_append, ix_in, ix_cl, lt_in, lt_cl, lt_add, ix_one, vu_eq, vu_ne, arI_mk, arL_mk, arY_mZ, arY_mB, alen_mI, fld_sfl_ne, fld_sfl_same, Option.isSome_some, pok_i, b1z, b01, z10, b1o, Int32.zero_add, vu_vu, upd_eq, upd_ne, true_or, or_true]
                      rw [he]
                      exact PO.er ((sm2.tr sm3).tr sm4) hw P4)
                  have sub := ih _ _ _ _ _ hr2 (D + 9) n3 k3 f3 s ag wa1 n2 (.float 0) rfl (by omega) hd P3 g1.1 i2 (by omega)
                  refine k200_153 (cno_MR V3.mr) (Nat.le_of_ble_eq_true rfl) sub ?_
                  intro f6 n6 k6 v6 hpo
                  obtain ⟨-, -, hv, hq⟩ := hnx2 f6 n6 k6 v6 hpo
                  subst hv
                  exact hq
                rcases h3 with h3 | h3 | h3
                · have h3' : (c1.2.2.1 = 39) = True := eq_true h3
                  simp (disch := first | omega | decide | assumption | exact Nat.le_of_ble_eq_true rfl) only [s200_118, ow_some, true_and, and_true, and_self, if_true, if_false, not_true, not_false_eq_true, Bool.false_eq_true, eq_self, Option.toList, List.cons_append, List.nil_append, ix_in, ix_cl, lt_in, lt_cl, lt_add, ix_one, vu_eq, vu_ne, arI_mk, arL_mk, arY_mZ, arY_mB, alen_mI, fld_sfl_ne, fld_sfl_same, Option.isSome_some, pok_i, b1z, b01, z10, b1o, Int32.zero_add, vu_vu, upd_eq, upd_ne, true_or, or_true, V2.r1, V2.r2, V2.r3, V2.r4, V2.r16, V2.r17, V2.r18, V2.r19, V2.r20, V2.r23, V2.r24, V2.r25, V2.r26, V2.r27, V2.r28, V2.r29, V2.r30, V2.c172, V2.c173, V2.c174, V2.c186, V2.c187, V2.c188, V2.n5, V2.n13, V2.n14, V2.i0, V2.i5, V2.i6, V2.i7, V2.i8, V2.i9, V2.i10, V2.i11, V2.i12, V2.i13, V2.i14, V2.i15, V2.i21, V2.i22, h3']
                  exact main
                · have h30 : (c1.2.2.1 = 39) = False := eq_false (by rw [h3]; decide)
                  have h3' : (c1.2.2.1 = 40) = True := eq_true h3
                  simp (disch := first | omega | decide | assumption | exact Nat.le_of_ble_eq_true rfl) only [s200_118, s200_121, s200_122, ow_some, true_and, and_true, and_self, if_true, if_false, not_true, not_false_eq_true, Bool.false_eq_true, eq_self, Option.toList, List.cons_append, List.nil_append, ix_in, ix_cl, lt_in, lt_cl, lt_add, ix_one, vu_eq, vu_ne, arI_mk, arL_mk, arY_mZ, arY_mB, alen_mI, fld_sfl_ne, fld_sfl_same, Option.isSome_some, pok_i, b1z, b01, z10, b1o, Int32.zero_add, vu_vu, upd_eq, upd_ne, true_or, or_true, V2.r1, V2.r2, V2.r3, V2.r4, V2.r16, V2.r17, V2.r18, V2.r19, V2.r20, V2.r23, V2.r24, V2.r25, V2.r26, V2.r27, V2.r28, V2.r29, V2.r30, V2.c172, V2.c173, V2.c174, V2.c186, V2.c187, V2.c188, V2.n5, V2.n13, V2.n14, V2.i0, V2.i5, V2.i6, V2.i7, V2.i8, V2.i9, V2.i10, V2.i11, V2.i12, V2.i13, V2.i14, V2.i15, V2.i21, V2.i22, h30, and_false]
                  rw [p200_124 (cno_MR V2.mr) (Nat.le_of_ble_eq_true rfl) P2.is]
                  simp (disch := first | omega | decide | assumption | exact Nat.le_of_ble_eq_true rfl) only [s200_127, ow_some, true_and, and_true, and_self, if_true, if_false, not_true, not_false_eq_true, Bool.false_eq_true, eq_self, Option.toList, List.cons_append, List.nil_append, ix_in, ix_cl, lt_in, lt_cl, lt_add, ix_one, vu_eq, vu_ne, arI_mk, arL_mk, arY_mZ, arY_mB, alen_mI, fld_sfl_ne, fld_sfl_same, Option.isSome_some, pok_i, b1z, b01, z10, b1o, Int32.zero_add, vu_vu, upd_eq, upd_ne, true_or, or_true, V2.r1, V2.r2, V2.r3, V2.r4, V2.r16, V2.r17, V2.r18, V2.r19, V2.r20, V2.r23, V2.r24, V2.r25, V2.r26, V2.r27, V2.r28, V2.r29, V2.r30, V2.c172, V2.c173, V2.c174, V2.c186, V2.c187, V2.c188, V2.n5, V2.n13, V2.n14, V2.i0, V2.i5, V2.i6, V2.i7, V2.i8, V2.i9, V2.i10, V2.i11, V2.i12, V2.i13, V2.i14, V2.i15, V2.i21, V2.i22, h3']
                  exact main
                · have h30 : (c1.2.2.1 = 39) = False := eq_false (by rw [h3]; decide)
                  have h31 : (c1.2.2.1 = 40) = False := eq_false (by rw [h3]; decide)
                  have h3' : (c1.2.2.1 = 41) = True := eq_true h3
                  simp (disch := first | omega | decide | assumption | exact Nat.le_of_ble_eq_true rfl) only [s200_118, s200_121, s200_122, ow_some, true_and, and_true, and_self, if_true, if_false, not_true, not_false_eq_true, Bool.false_eq_true, eq_self, Option.toList, List.cons_append, List.nil_append, ix_in, ix_cl, lt_in, lt_cl, lt_add, ix_one, vu_eq, vu_ne, arI_mk, arL_mk, arY_mZ, arY_mB, alen_mI, fld_sfl_ne, fld_sfl_same, Option.isSome_some, pok_i, b1z, b01, z10, b1o, Int32.zero_add, vu_vu, upd_eq, upd_ne, true_or, or_true, V2.r1, V2.r2, V2.r3, V2.r4, V2.r16, V2.r17, V2.r18, V2.r19, V2.r20, V2.r23, V2.r24, V2.r25, V2.r26, V2.r27, V2.r28, V2.r29, V2.r30, V2.c172, V2.c173, V2.c174, V2.c186, V2.c187, V2.c188, V2.n5, V2.n13, V2.n14, V2.i0, V2.i5, V2.i6, V2.i7, V2.i8, V2.i9, V2.i10, V2.i11, V2.i12, V2.i13, V2.i14, V2.i15, V2.i21, V2.i22, h30, and_false]
                  rw [p200_124 (cno_MR V2.mr) (Nat.le_of_ble_eq_true rfl) P2.is]
                  simp (disch := first | omega | decide | assumption | exact Nat.le_of_ble_eq_true rfl) only [s200_127, s200_130, s200_131, ow_some, true_and, and_true, and_self, if_true, if_false, not_true, not_false_eq_true, Bool.false_eq_true, eq_self, Option.toList, List.cons_append, List.nil_append, ix_in, ix_cl, lt_in, lt_cl, lt_add, ix_one, vu_eq, vu_ne, arI_mk, arL_mk, arY_mZ, arY_mB, alen_mI, fld_sfl_ne, fld_sfl_same, Option.isSome_some, pok_i, b1z, b01, z10, b1o, Int32.zero_add, vu_vu, upd_eq, upd_ne, true_or, or_true, V2.r1, V2.r2, V2.r3, V2.r4, V2.r16, V2.r17, V2.r18, V2.r19, V2.r20, V2.r23, V2.r24, V2.r25, V2.r26, V2.r27, V2.r28, V2.r29, V2.r30, V2.c172, V2.c173, V2.c174, V2.c186, V2.c187, V2.c188, V2.n5, V2.n13, V2.n14, V2.i0, V2.i5, V2.i6, V2.i7, V2.i8, V2.i9, V2.i10, V2.i11, V2.i12, V2.i13, V2.i14, V2.i15, V2.i21, V2.i22, h31, and_false]
                  rw [p200_133 (cno_MR V2.mr) (Nat.le_of_ble_eq_true rfl) P2.is]
                  simp (disch := first | omega | decide | assumption | exact Nat.le_of_ble_eq_true rfl) only [s200_136, ow_some, true_and, and_true, and_self, if_true, if_false, not_true, not_false_eq_true, Bool.false_eq_true, eq_self, Option.toList, List.cons_append, List.nil_append, ix_in, ix_cl, lt_in, lt_cl, lt_add, ix_one, vu_eq, vu_ne, arI_mk, arL_mk, arY_mZ, arY_mB, alen_mI, fld_sfl_ne, fld_sfl_same, Option.isSome_some, pok_i, b1z, b01, z10, b1o, Int32.zero_add, vu_vu, upd_eq, upd_ne, true_or, or_true, V2.r1, V2.r2, V2.r3, V2.r4, V2.r16, V2.r17, V2.r18, V2.r19, V2.r20, V2.r23, V2.r24, V2.r25, V2.r26, V2.r27, V2.r28, V2.r29, V2.r30, V2.c172, V2.c173, V2.c174, V2.c186, V2.c187, V2.c188, V2.n5, V2.n13, V2.n14, V2.i0, V2.i5, V2.i6, V2.i7, V2.i8, V2.i9, V2.i10, V2.i11, V2.i12, V2.i13, V2.i14, V2.i15, V2.i21, V2.i22, h3']
                  exact main
              · simp (disch := first | omega | decide | assumption | exact Nat.le_of_ble_eq_true rfl) only [s200_118, s200_121, s200_122, ow_some, true_and, and_true, and_self, if_true, if_false, not_true, not_false_eq_true, Bool.false_eq_true, eq_self, Option.toList, List.cons_append, List.nil_append, ix_in, ix_cl, lt_in, lt_cl, lt_add, ix_one, vu_eq, vu_ne, arI_mk, arL_mk, arY_mZ, arY_mB, alen_mI, fld_sfl_ne, fld_sfl_same, Option.isSome_some, pok_i, b1z, b01, z10, b1o, Int32.zero_add, vu_vu, upd_eq, upd_ne, true_or, or_true, V2.r1, V2.r2, V2.r3, V2.r4, V2.r16, V2.r17, V2.r18, V2.r19, V2.r20, V2.r23, V2.r24, V2.r25, V2.r26, V2.r27, V2.r28, V2.r29, V2.r30, V2.c172, V2.c173, V2.c174, V2.c186, V2.c187, V2.c188, V2.n5, V2.n13, V2.n14, V2.i0, V2.i5, V2.i6, V2.i7, V2.i8, V2.i9, V2.i10, V2.i11, V2.i12, V2.i13, V2.i14, V2.i15, V2.i21, V2.i22, h39, and_false]
                rw [p200_124 (cno_MR V2.mr) (Nat.le_of_ble_eq_true rfl) P2.is]
                simp (disch := first | omega | decide | assumption | exact Nat.le_of_ble_eq_true rfl) only [s200_127, s200_130, s200_131, ow_some, true_and, and_true, and_self, if_true, if_false, not_true, not_false_eq_true, Bool.false_eq_true, eq_self, Option.toList, List.cons_append, List.nil_append, ix_in, ix_cl, lt_in, lt_cl, lt_add, ix_one, vu_eq, vu_ne, arI_mk, arL_mk, arY_mZ, arY_mB, alen_mI, fld_sfl_ne, fld_sfl_same, Option.isSome_some, pok_i, b1z, b01, z10, b1o, Int32.zero_add, vu_vu, upd_eq, upd_ne, true_or, or_true, V2.r1, V2.r2, V2.r3, V2.r4, V2.r16, V2.r17, V2.r18, V2.r19, V2.r20, V2.r23, V2.r24, V2.r25, V2.r26, V2.r27, V2.r28, V2.r29, V2.r30, V2.c172, V2.c173, V2.c174, V2.c186, V2.c187, V2.c188, V2.n5, V2.n13, V2.n14, V2.i0, V2.i5, V2.i6, V2.i7, V2.i8, V2.i9, V2.i10, V2.i11, V2.i12, V2.i13, V2.i14, V2.i15, V2.i21, V2.i22, h40, and_false]
                rw [p200_133 (cno_MR V2.mr) (Nat.le_of_ble_eq_true rfl) P2.is]
                simp (disch := first | omega | decide | assumption | exact Nat.le_of_ble_eq_true rfl) only [s200_136, s200_146, s200_147, ow_some, true_and, and_true, and_self, if_true, if_false, not_true, not_false_eq_true, Bool.false_eq_true, eq_self, Option.toList, List.cons_append, List.nil_append, ix_in, ix_cl, lt_in, lt_cl, lt_add, ix_one, vu_eq, vu_ne, arI_mk, arL_mk, arY_mZ, arY_mB, alen_mI, fld_sfl_ne, fld_sfl_same, Option.isSome_some, pok_i, b1z, b01, z10, b1o, Int32.zero_add, vu_vu, upd_eq, upd_ne, true_or, or_true, V2.r1, V2.r2, V2.r3, V2.r4, V2.r16, V2.r17, V2.r18, V2.r19, V2.r20, V2.r23, V2.r24, V2.r25, V2.r26, V2.r27, V2.r28, V2.r29, V2.r30, V2.c172, V2.c173, V2.c174, V2.c186, V2.c187, V2.c188, V2.n5, V2.n13, V2.n14, V2.i0, V2.i5, V2.i6, V2.i7, V2.i8, V2.i9, V2.i10, V2.i11, V2.i12, V2.i13, V2.i14, V2.i15, V2.i21, V2.i22, h41, and_false]
                refine k200_148 (cno_MR V2.mr) (Nat.le_of_ble_eq_true rfl) (P2.fail (w := 2)) ?_
                rintro f3 n3 k3 v3 ⟨rfl, rfl, rfl, sm3, P3⟩
                exact wrong _ _ _ _ f3 he (ft_ne (by decide)) (sm2.tr sm3) P3 u)
            (by
              intro w p fr1 c1 f2 he hw sm2 P2
              have V2 := P2.V
              simp (disch := first | omega | decide | assumption | exact Nat.le_of_ble_eq_true rfl) only [s200_78, s200_79, ow_some, true_and, and_true, and_self, if_true, if_false, not_true, not_false_eq_true, Bool.false_eq_true, eq_self, Option.toList, List.cons_append, List.nil_append, ix_in, ix_cl, lt_in, lt_cl, lt_add, ix_one, vu_eq, vu_ne, arI_mk, arL_mk, arY_mZ, arY_mB, alen_mI, fld_sfl_ne, fld_sfl_same, Option.isSome_some, pok_i, b1z, b01, z10, b1o, Int32.zero_add, vu_vu, upd_eq, upd_ne, true_or, or_true, V2.r1, V2.r2, V2.r3, V2.r4, V2.r16, V2.r17, V2.r18, V2.r19, V2.r20, V2.r23, V2.r24, V2.r25, V2.r26, V2.r27, V2.r28, V2.r29, V2.r30, V2.c172, V2.c173, V2.c174, V2.c186, V2.c187, V2.c188, V2.n5, V2.n13, V2.n14, V2.i0, V2.i5, V2.i6, V2.i7, V2.i8, V2.i9, V2.i10, V2.i11, V2.i12, V2.i13, V2.i14, V2.i15, V2.i21, V2.i22]
              rw [p200_81 (cno_MR V2.mr) (Nat.le_of_ble_eq_true rfl) P2.is]
              simp (disch := first | omega | decide | assumption | exact Nat.le_of_ble_eq_true rfl) only [s200_84, s200_93, s200_94, ow_some, true_and, and_true, and_self, if_true, if_false, not_true, not_false_eq_true, Bool.false_eq_true, eq_self, Option.toList, List.cons_append, List.nil_append, ix_in, ix_cl, lt_in, lt_cl, lt_add, ix_one, vu_eq, vu_ne, arI_mk, arL_mk, arY_mZ, arY_mB, alen_mI, fld_sfl_ne, fld_sfl_same, Option.isSome_some, pok_i, b1z, b01, z10, b1o, Int32.zero_add, vu_vu, upd_eq, upd_ne, true_or, or_true, V2.r1, V2.r2, V2.r3, V2.r4, V2.r16, V2.r17, V2.r18, V2.r19, V2.r20, V2.r23, V2.r24, V2.r25, V2.r26, V2.r27, V2.r28, V2.r29, V2.r30, V2.c172, V2.c173, V2.c174, V2.c186, V2.c187, V2.c188, V2.n5, V2.n13, V2.n14, V2.i0, V2.i5, V2.i6, V2.i7, V2.i8, V2.i9, V2.i10, V2.i11, V2.i12, V2.i13, V2.i14, V2.i15, V2.i21, V2.i22, hw, false_and]
              rw [p200_96 (cno_MR V2.mr) (Nat.le_of_ble_eq_true rfl) P2.is]
              simp (disch := first | omega | decide | assumption | exact Nat.le_of_ble_eq_true rfl) only [s200_99, s200_108, s200_111, s200_112, s200_113, ow_some, true_and, and_true, and_self, if_true, if_false, not_true, not_false_eq_true, Bool.false_eq_true, eq_self, Option.toList, List.cons_append, List.nil_append, ix_in, ix_cl, lt_in, lt_cl, lt_add, ix_one, vu_eq, vu_ne, arI_mk, arL_mk, arY_mZ, arY_mB, alen_mI, fld_sfl_ne, fld_sfl_same, Option.isSome_some, pok_i, b1z, b01, z10, b1o, Int32.zero_add, vu_vu, upd_eq, upd_ne, true_or, or_true, V2.r1, V2.r2, V2.r3, V2.r4, V2.r16, V2.r17, V2.r18, V2.r19, V2.r20, V2.r23, V2.r24, V2.r25, V2.r26, V2.r27, V2.r28, V2.r29, V2.r30, V2.c172, V2.c173, V2.c174, V2.c186, V2.c187, V2.c188, V2.n5, V2.n13, V2.n14, V2.i0, V2.i5, V2.i6, V2.i7, V2.i8, V2.i9, V2.i10, V2.i11, V2.i12, V2.i13, V2.i14, V2.i15, V2.i21, V2.i22, hw, false_and]
              rw [p200_115 (cno_MR V2.mr) (Nat.le_of_ble_eq_true rfl) P2.is]
              simp (disch := first | omega | decide | assumption | exact Nat.le_of_ble_eq_true rfl) only [s200_118, s200_121, s200_122, ow_some, true_and, and_true, and_self, if_true, if_false, not_true, not_false_eq_true, Bool.false_eq_true, eq_self, Option.toList, List.cons_append, List.nil_append, ix_in, ix_cl, lt_in, lt_cl, lt_add, ix_one, vu_eq, vu_ne, arI_mk, arL_mk, arY_mZ, arY_mB, alen_mI, fld_sfl_ne, fld_sfl_same, Option.isSome_some, pok_i, b1z, b01, z10, b1o, Int32.zero_add, vu_vu, upd_eq, upd_ne, true_or, or_true, V2.r1, V2.r2, V2.r3, V2.r4, V2.r16, V2.r17, V2.r18, V2.r19, V2.r20, V2.r23, V2.r24, V2.r25, V2.r26, V2.r27, V2.r28, V2.r29, V2.r30, V2.c172, V2.c173, V2.c174, V2.c186, V2.c187, V2.c188, V2.n5, V2.n13, V2.n14, V2.i0, V2.i5, V2.i6, V2.i7, V2.i8, V2.i9, V2.i10, V2.i11, V2.i12, V2.i13, V2.i14, V2.i15, V2.i21, V2.i22, hw, false_and]
              rw [p200_124 (cno_MR V2.mr) (Nat.le_of_ble_eq_true rfl) P2.is]
              simp (disch := first | omega | decide | assumption | exact Nat.le_of_ble_eq_true rfl) only [s200_127, s200_130, s200_131, ow_some, true_and, and_true, and_self, if_true, if_false, not_true, not_false_eq_true, Bool.false_eq_true, eq_self, Option.toList, List.cons_append, List.nil_append, ix_in, ix_cl, lt_in, lt_cl, lt_add, ix_one, vu_eq, vu_ne, arI_mk, arL_mk, arY_mZ, arY_mB, alen_mI, fld_sfl_ne, fld_sfl_same, Option.isSome_some, pok_i, b1z, b01, z10, b1o, Int32.zero_add, vu_vu, upd_eq, upd_ne, true_or, or_true, V2.r1, V2.r2, V2.r3, V2.r4, V2.r16, V2.r17, V2.r18, V2.r19, V2.r20, V2.r23, V2.r24, V2.r25, V2.r26, V2.r27, V2.r28, V2.r29, V2.r30, V2.c172, V2.c173, V2.c174, V2.c186, V2.c187, V2.c188, V2.n5, V2.n13, V2.n14, V2.i0, V2.i5, V2.i6, V2.i7, V2.i8, V2.i9, V2.i10, V2.i11, V2.i12, V2.i13, V2.i14, V2.i15, V2.i21, V2.i22, hw, false_and]
              rw [p200_133 (cno_MR V2.mr) (Nat.le_of_ble_eq_true rfl) P2.is]
              simp (disch := first | omega | decide | assumption | exact Nat.le_of_ble_eq_true rfl) only [s200_136, s200_146, s200_147, ow_some, true_and, and_true, and_self, if_true, if_false, not_true, not_false_eq_true, Bool.false_eq_true, eq_self, Option.toList, List.cons_append, List.nil_append, ix_in, ix_cl, lt_in, lt_cl, lt_add, ix_one, vu_eq, vu_ne, arI_mk, arL_mk, arY_mZ, arY_mB, alen_mI, fld_sfl_ne, fld_sfl_same, Option.isSome_some, pok_i, b1z, b01, z10, b1o, Int32.zero_add, vu_vu, upd_eq, upd_ne, true_or, or_true, V2.r1, V2.r2, V2.r3, V2.r4, V2.r16, V2.r17, V2.r18, V2.r19, V2.r20, V2.r23, V2.r24, V2.r25, V2.r26, V2.r27, V2.r28, V2.r29, V2.r30, V2.c172, V2.c173, V2.c174, V2.c186, V2.c187, V2.c188, V2.n5, V2.n13, V2.n14, V2.i0, V2.i5, V2.i6, V2.i7, V2.i8, V2.i9, V2.i10, V2.i11, V2.i12, V2.i13, V2.i14, V2.i15, V2.i21, V2.i22, hw, false_and]
              rw [p200_148 (cno_MR V2.mr) (Nat.le_of_ble_eq_true rfl) (P2.failE hw)]
              exact wrong w p _ _ f2 he hw sm2 P2 _)
          have sub := ih _ _ _ _ _ hr1 (D + 9) N K f s ag wa n (.float 0) rfl (by omega) hd P hcv hn hle
          refine k200_75 (cno_MR V.mr) (Nat.le_of_ble_eq_true rfl) sub ?_
          intro f2 n2 k2 v2 hpo
          obtain ⟨-, -, hv, hq⟩ := hnx f2 n2 k2 v2 hpo
          subst hv
          exact hq
      · rw [if_neg m5] at h
        by_cases mcc : m = 1 ∨ m = 3 ∨ m = 6 ∨ m = 8
        · rw [if_pos mcc] at h
          rcases mcc with mc | mc | mc | mc
          · subst mc
            have hsb : sb 1 = 0 := rfl
            rw [hsb] at h
            show TT X (D + 10) 193 0 [.ref 171, .int (nI d)] [] f N K _
            simp (disch := first | omega | decide | assumption | exact Nat.le_of_ble_eq_true rfl) only [s193_0, s193_1, ow_some, true_and, and_true, and_self, if_true, if_false, not_true, not_false_eq_true, Bool.false_eq_true, eq_self, Option.toList, List.cons_append, List.nil_append, ix_in, ix_cl, lt_in, lt_cl, lt_add, ix_one, vu_eq, vu_ne, arI_mk, arL_mk, arY_mZ, arY_mB, alen_mI, fld_sfl_ne, fld_sfl_same, Option.isSome_some, pok_i, b1z, b01, z10, b1o, Int32.zero_add, vu_vu, upd_eq, upd_ne, true_or, or_true, V.r1, V.r2, V.r3, V.r4, V.r16, V.r17, V.r18, V.r19, V.r20, V.r23, V.r24, V.r25, V.r26, V.r27, V.r28, V.r29, V.r30, V.c172, V.c173, V.c174, V.c186, V.c187, V.c188, V.n5, V.n13, V.n14, V.i0, V.i5, V.i6, V.i7, V.i8, V.i9, V.i10, V.i11, V.i12, V.i13, V.i14, V.i15, V.i21, V.i22]
            obtain ⟨r1, hr1, hnx⟩ := rd_sq (N := N) (K := K) (f := f) (s := s) (ag := ag) (Q := fun f' n' k' v => TT X (D + 10) 193 5 [.ref 171, .int (nI d)] [] f' n' k' (PO f s ag sz rd N K r)) h hcv hz hn hle
              (by
                intro c1 fr1 n2 f2 wa1 hKt sm2 P2 i1 i2 i3
                have t := ih 2 d c1 fr1 r hKt (D + 10) N K f2 s ag wa1 n2 (.float 0) rfl (by have : rk 2 = rk 1 := rfl; omega) hd P2 i1 i2 (by omega)
                exact (show TT X (D + 10) 193 5 [.ref 171, .int (nI d)] [] f2 N K _ from t).mono (fun _ _ _ _ h => PO.sm sm2 h))
              (by
                intro w p fr1 c1 f2 he hw sm2 P2
                rw [P2.tlE hw, he]
                exact PO.er sm2 hw P2)
            have hrr : rk 0 + 1 ≤ rk 1 := by decide
            have sub := ih _ _ _ _ _ hr1 (D + 9) N K f s ag wa n (.float 0) rfl (by omega) hd P hcv hn hle
            refine k193_2 (cno_MR V.mr) (Nat.le_of_ble_eq_true rfl) sub ?_
            intro f2 n2 k2 v2 hpo
            obtain ⟨-, -, hv, hq⟩ := hnx f2 n2 k2 v2 hpo
            subst hv
            exact hq
          · subst mc
            have hsb : sb 3 = 1 := rfl
            rw [hsb] at h
            show TT X (D + 10) 192 0 [.ref 171, .int (nI d), a2] [] f N K _
            simp (disch := first | omega | decide | assumption | exact Nat.le_of_ble_eq_true rfl) only [s192_0, s192_1, ow_some, true_and, and_true, and_self, if_true, if_false, not_true, not_false_eq_true, Bool.false_eq_true, eq_self, Option.toList, List.cons_append, List.nil_append, ix_in, ix_cl, lt_in, lt_cl, lt_add, ix_one, vu_eq, vu_ne, arI_mk, arL_mk, arY_mZ, arY_mB, alen_mI, fld_sfl_ne, fld_sfl_same, Option.isSome_some, pok_i, b1z, b01, z10, b1o, Int32.zero_add, vu_vu, upd_eq, upd_ne, true_or, or_true, V.r1, V.r2, V.r3, V.r4, V.r16, V.r17, V.r18, V.r19, V.r20, V.r23, V.r24, V.r25, V.r26, V.r27, V.r28, V.r29, V.r30, V.c172, V.c173, V.c174, V.c186, V.c187, V.c188, V.n5, V.n13, V.n14, V.i0, V.i5, V.i6, V.i7, V.i8, V.i9, V.i10, V.i11, V.i12, V.i13, V.i14, V.i15, V.i21, V.i22]
            obtain ⟨r1, hr1, hnx⟩ := rd_sq (N := N) (K := K) (f := f) (s := s) (ag := ag) (Q := fun f' n' k' v => TT X (D + 10) 192 5 [.ref 171, .int (nI d), a2] [] f' n' k' (PO f s ag sz rd N K r)) h hcv hz hn hle
              (by
                intro c1 fr1 n2 f2 wa1 hKt sm2 P2 i1 i2 i3
                have t := ih 4 d c1 fr1 r hKt (D + 10) N K f2 s ag wa1 n2 a2 rfl (by have : rk 4 = rk 3 := rfl; omega) hd P2 i1 i2 (by omega)
                exact (show TT X (D + 10) 192 5 [.ref 171, .int (nI d), a2] [] f2 N K _ from t).mono (fun _ _ _ _ h => PO.sm sm2 h))
              (by
                intro w p fr1 c1 f2 he hw sm2 P2
                rw [P2.slE hw, he]
                exact PO.er sm2 hw P2)
            have hrr : rk 1 + 1 ≤ rk 3 := by decide
            have sub := ih _ _ _ _ _ hr1 (D + 9) N K f s ag wa n (.float 0) rfl (by omega) hd P hcv hn hle
            refine k192_2 (cno_MR V.mr) (Nat.le_of_ble_eq_true rfl) sub ?_
            intro f2 n2 k2 v2 hpo
            obtain ⟨-, -, hv, hq⟩ := hnx f2 n2 k2 v2 hpo
            subst hv
            exact hq
          · subst mc
            have hsb : sb 6 = 5 := rfl
            rw [hsb] at h
            show TT X (D + 10) 199 0 [.ref 171, .int (nI d)] [] f N K _
            simp (disch := first | omega | decide | assumption | exact Nat.le_of_ble_eq_true rfl) only [s199_0, s199_1, ow_some, true_and, and_true, and_self, if_true, if_false, not_true, not_false_eq_true, Bool.false_eq_true, eq_self, Option.toList, List.cons_append, List.nil_append, ix_in, ix_cl, lt_in, lt_cl, lt_add, ix_one, vu_eq, vu_ne, arI_mk, arL_mk, arY_mZ, arY_mB, alen_mI, fld_sfl_ne, fld_sfl_same, Option.isSome_some, pok_i, b1z, b01, z10, b1o, Int32.zero_add, vu_vu, upd_eq, upd_ne, true_or, or_true, V.r1, V.r2, V.r3, V.r4, V.r16, V.r17, V.r18, V.r19, V.r20, V.r23, V.r24, V.r25, V.r26, V.r27, V.r28, V.r29, V.r30, V.c172, V.c173, V.c174, V.c186, V.c187, V.c188, V.n5, V.n13, V.n14, V.i0, V.i5, V.i6, V.i7, V.i8, V.i9, V.i10, V.i11, V.i12, V.i13, V.i14, V.i15, V.i21, V.i22]
            obtain ⟨r1, hr1, hnx⟩ := rd_sq (N := N) (K := K) (f := f) (s := s) (ag := ag) (Q := fun f' n' k' v => TT X (D + 10) 199 5 [.ref 171, .int (nI d)] [] f' n' k' (PO f s ag sz rd N K r)) h hcv hz hn hle
              (by
                intro c1 fr1 n2 f2 wa1 hKt sm2 P2 i1 i2 i3
                have t := ih 7 d c1 fr1 r hKt (D + 10) N K f2 s ag wa1 n2 (.float 0) rfl (by have : rk 7 = rk 6 := rfl; omega) hd P2 i1 i2 (by omega)
                exact (show TT X (D + 10) 199 5 [.ref 171, .int (nI d)] [] f2 N K _ from t).mono (fun _ _ _ _ h => PO.sm sm2 h))
              (by
                intro w p fr1 c1 f2 he hw sm2 P2
                rw [P2.blE hw, he]
                exact PO.er sm2 hw P2)
            have hrr : rk 5 + 1 ≤ rk 6 := by decide
            have sub := ih _ _ _ _ _ hr1 (D + 9) N K f s ag wa n (.float 0) rfl (by omega) hd P hcv hn hle
            refine k199_2 (cno_MR V.mr) (Nat.le_of_ble_eq_true rfl) sub ?_
            intro f2 n2 k2 v2 hpo
            obtain ⟨-, -, hv, hq⟩ := hnx f2 n2 k2 v2 hpo
            subst hv
            exact hq
          · subst mc
            have hsb : sb 8 = 6 := rfl
            rw [hsb] at h
            show TT X (D + 10) 198 0 [.ref 171, .int (nI d)] [] f N K _
            simp (disch := first | omega | decide | assumption | exact Nat.le_of_ble_eq_true rfl) only [s198_0, s198_1, ow_some, true_and, and_true, and_self, if_true, if_false, not_true, not_false_eq_true, Bool.false_eq_true, eq_self, Option.toList, List.cons_append, List.nil_append, ix_in, ix_cl, lt_in, lt_cl, lt_add, ix_one, vu_eq, vu_ne, arI_mk, arL_mk, arY_mZ, arY_mB, alen_mI, fld_sfl_ne, fld_sfl_same, Option.isSome_some, pok_i, b1z, b01, z10, b1o, Int32.zero_add, vu_vu, upd_eq, upd_ne, true_or, or_true, V.r1, V.r2, V.r3, V.r4, V.r16, V.r17, V.r18, V.r19, V.r20, V.r23, V.r24, V.r25, V.r26, V.r27, V.r28, V.r29, V.r30, V.c172, V.c173, V.c174, V.c186, V.c187, V.c188, V.n5, V.n13, V.n14, V.i0, V.i5, V.i6, V.i7, V.i8, V.i9, V.i10, V.i11, V.i12, V.i13, V.i14, V.i15, V.i21, V.i22]
            obtain ⟨r1, hr1, hnx⟩ := rd_sq (N := N) (K := K) (f := f) (s := s) (ag := ag) (Q := fun f' n' k' v => TT X (D + 10) 198 5 [.ref 171, .int (nI d)] [] f' n' k' (PO f s ag sz rd N K r)) h hcv hz hn hle
              (by
                intro c1 fr1 n2 f2 wa1 hKt sm2 P2 i1 i2 i3
                have t := ih 9 d c1 fr1 r hKt (D + 10) N K f2 s ag wa1 n2 (.float 0) rfl (by have : rk 9 = rk 8 := rfl; omega) hd P2 i1 i2 (by omega)
                exact (show TT X (D + 10) 198 5 [.ref 171, .int (nI d)] [] f2 N K _ from t).mono (fun _ _ _ _ h => PO.sm sm2 h))
              (by
                intro w p fr1 c1 f2 he hw sm2 P2
                rw [P2.olE hw, he]
                exact PO.er sm2 hw P2)
            have hrr : rk 6 + 1 ≤ rk 8 := by decide
            have sub := ih _ _ _ _ _ hr1 (D + 9) N K f s ag wa n (.float 0) rfl (by omega) hd P hcv hn hle
            refine k198_2 (cno_MR V.mr) (Nat.le_of_ble_eq_true rfl) sub ?_
            intro f2 n2 k2 v2 hpo
            obtain ⟨-, -, hv, hq⟩ := hnx f2 n2 k2 v2 hpo
            subst hv
            exact hq
        · rw [if_neg mcc] at h
          by_cases m9 : m ≤ 9
          · rw [if_pos m9] at h
            rcases (show m = 2 ∨ m = 4 ∨ m = 7 ∨ m = 9 by omega) with ml | ml | ml | ml
            · subst ml
              have hsb : sb 2 = 0 := rfl
              show TT X (D + 10) 193 5 [.ref 171, .int (nI d)] [] f N K _
              simp (disch := first | omega | decide | assumption | exact Nat.le_of_ble_eq_true rfl) only [s193_5, s193_6, ow_some, true_and, and_true, and_self, if_true, if_false, not_true, not_false_eq_true, Bool.false_eq_true, eq_self, Option.toList, List.cons_append, List.nil_append, ix_in, ix_cl, lt_in, lt_cl, lt_add, ix_one, vu_eq, vu_ne, arI_mk, arL_mk, arY_mZ, arY_mB, alen_mI, fld_sfl_ne, fld_sfl_same, Option.isSome_some, pok_i, b1z, b01, z10, b1o, Int32.zero_add, vu_vu, upd_eq, upd_ne, true_or, or_true, V.r1, V.r2, V.r3, V.r4, V.r16, V.r17, V.r18, V.r19, V.r20, V.r23, V.r24, V.r25, V.r26, V.r27, V.r28, V.r29, V.r30, V.c172, V.c173, V.c174, V.c186, V.c187, V.c188, V.n5, V.n13, V.n14, V.i0, V.i5, V.i6, V.i7, V.i8, V.i9, V.i10, V.i11, V.i12, V.i13, V.i14, V.i15, V.i21, V.i22]
              rcases h with ⟨ho, he⟩ | ⟨x, ho, hs⟩
              · have hk : ¬ c.2.2.1 = 34 := fun z => by rw [z] at ho; exact absurd ho (by decide)
                rw [p193_8 (cno_MR V.mr) (Nat.le_of_ble_eq_true rfl) (P.eatN (fun z => hk z.2))]
                simp (disch := first | omega | decide | assumption | exact Nat.le_of_ble_eq_true rfl) only [s193_11, s193_29, ow_some, true_and, and_true, and_self, if_true, if_false, not_true, not_false_eq_true, Bool.false_eq_true, eq_self, Option.toList, List.cons_append, List.nil_append, ix_in, ix_cl, lt_in, lt_cl, lt_add, ix_one, vu_eq, vu_ne, arI_mk, arL_mk, arY_mZ, arY_mB, alen_mI, fld_sfl_ne, fld_sfl_same, Option.isSome_some, pok_i, b1z, b01, z10, b1o, Int32.zero_add, vu_vu, upd_eq, upd_ne, true_or, or_true, V.r1, V.r2, V.r3, V.r4, V.r16, V.r17, V.r18, V.r19, V.r20, V.r23, V.r24, V.r25, V.r26, V.r27, V.r28, V.r29, V.r30, V.c172, V.c173, V.c174, V.c186, V.c187, V.c188, V.n5, V.n13, V.n14, V.i0, V.i5, V.i6, V.i7, V.i8, V.i9, V.i10, V.i11, V.i12, V.i13, V.i14, V.i15, V.i21, V.i22]
                rw [he]
                exact PO.ok SM.rf P
              · have hk : c.2.2.1 = 34 := by
                  by_cases z : c.2.2.1 = 34
                  · exact z
                  · unfold opc at ho; simp [z] at ho
                have hx : x = 3002 := by rw [hk] at ho; exact (Option.some.inj (ho.symm.trans (show opc 2 34 = some 3002 by decide)))
                subst hx
                rw [hsb] at hs
                have g1 := cv_go (tx := s.2.2.1) hcv (by rw [hk]; decide)
                refine k193_8 (cno_MR V.mr) (Nat.le_of_ble_eq_true rfl) (P.eatY hk) ?_
                rintro f1 n1 k1 v1 ⟨rfl, rfl, sm1, P1, rfl⟩
                have V1 := P1.V
                simp (disch := first | omega | decide | assumption | exact Nat.le_of_ble_eq_true rfl) only [s193_11, s193_14, s193_15, ow_some, true_and, and_true, and_self, if_true, if_false, not_true, not_false_eq_true, Bool.false_eq_true, eq_self, Option.toList, List.cons_append, List.nil_append, ix_in, ix_cl, lt_in, lt_cl, lt_add, ix_one, vu_eq, vu_ne, arI_mk, arL_mk, arY_mZ, arY_mB, alen_mI, fld_sfl_ne, fld_sfl_same, Option.isSome_some, pok_i, b1z, b01, z10, b1o, Int32.zero_add, vu_vu, upd_eq, upd_ne, true_or, or_true, V1.r1, V1.r2, V1.r3, V1.r4, V1.r16, V1.r17, V1.r18, V1.r19, V1.r20, V1.r23, V1.r24, V1.r25, V1.r26, V1.r27, V1.r28, V1.r29, V1.r30, V1.c172, V1.c173, V1.c174, V1.c186, V1.c187, V1.c188, V1.n5, V1.n13, V1.n14, V1.i0, V1.i5, V1.i6, V1.i7, V1.i8, V1.i9, V1.i10, V1.i11, V1.i12, V1.i13, V1.i14, V1.i15, V1.i21, V1.i22]
                obtain ⟨r1, hr1, hnx⟩ := rd_sq (N := n1) (K := k1) (f := f1) (s := s) (ag := ag) (Q := fun f' n' k' v => TT X (D + 10) 193 19 [.ref 171, .int (nI d)] [] f' n' k' (PO f s ag sz rd n1 k1 r)) hs g1.1 hz hn (by omega)
                  (by
                    intro c1 fr1 n2 f2 wa1 hKt sm2 P2 i1 i2 i3
                    have V2 := P2.V
                    have hlt : n2 < 900 := by have := i1.1.2; omega
                    simp (disch := first | omega | decide | assumption | exact Nat.le_of_ble_eq_true rfl) only [s193_19, s193_20, ow_some, true_and, and_true, and_self, if_true, if_false, not_true, not_false_eq_true, Bool.false_eq_true, eq_self, Option.toList, List.cons_append, List.nil_append, ix_in, ix_cl, lt_in, lt_cl, lt_add, ix_one, vu_eq, vu_ne, arI_mk, arL_mk, arY_mZ, arY_mB, alen_mI, fld_sfl_ne, fld_sfl_same, Option.isSome_some, pok_i, b1z, b01, z10, b1o, Int32.zero_add, vu_vu, upd_eq, upd_ne, true_or, or_true, V2.r1, V2.r2, V2.r3, V2.r4, V2.r16, V2.r17, V2.r18, V2.r19, V2.r20, V2.r23, V2.r24, V2.r25, V2.r26, V2.r27, V2.r28, V2.r29, V2.r30, V2.c172, V2.c173, V2.c174, V2.c186, V2.c187, V2.c188, V2.n5, V2.n13, V2.n14, V2.i0, V2.i5, V2.i6, V2.i7, V2.i8, V2.i9, V2.i10, V2.i11, V2.i12, V2.i13, V2.i14, V2.i15, V2.i21, V2.i22]
                    refine k193_23 (cno_MR V2.mr) (Nat.le_of_ble_eq_true rfl) (P2.codes i2 hlt) ?_
                    rintro f3 n3 k3 v3 ⟨rfl, rfl, rfl, sm3, P3⟩
                    have V3 := P3.V
                    simp (disch := first | omega | decide | assumption | exact Nat.le_of_ble_eq_true rfl) only [h193_26, ow_some, true_and, and_true, and_self, if_true, if_false, not_true, not_false_eq_true, Bool.false_eq_true, eq_self, Option.toList, List.cons_append, List.nil_append, ix_in, ix_cl, lt_in, lt_cl, lt_add, ix_one, vu_eq, vu_ne, arI_mk, arL_mk, arY_mZ, arY_mB, alen_mI, fld_sfl_ne, fld_sfl_same, Option.isSome_some, pok_i, b1z, b01, z10, b1o, Int32.zero_add, vu_vu, upd_eq, upd_ne, true_or, or_true, V3.r1, V3.r2, V3.r3, V3.r4, V3.r16, V3.r17, V3.r18, V3.r19, V3.r20, V3.r23, V3.r24, V3.r25, V3.r26, V3.r27, V3.r28, V3.r29, V3.r30, V3.c172, V3.c173, V3.c174, V3.c186, V3.c187, V3.c188, V3.n5, V3.n13, V3.n14, V3.i0, V3.i5, V3.i6, V3.i7, V3.i8, V3.i9, V3.i10, V3.i11, V3.i12, V3.i13, V3.i14, V3.i15, V3.i21, V3.i22]
                    have t := ih 2 d c1 _ r hKt (D + 10) n3 k3 f3 s ag wa1 (n2 + 1) (.float 0) rfl hD hd P3 i1 (i2.em hlt) (by omega)
                    exact (show TT X (D + 10) 193 5 [.ref 171, .int (nI d)] [] f3 n3 k3 _ from t).mono (fun _ _ _ _ h => PO.sm ((sm1.tr sm2).tr sm3) h))
                  (by
                    intro w p fr1 c1 f2 he hw sm2 P2
                    have V2 := P2.V
                    simp (disch := first | omega | decide | assumption | exact Nat.le_of_ble_eq_true rfl) only [s193_19, s193_20, ow_some, true_and, and_true, and_self, if_true, if_false, not_true, not_false_eq_true, Bool.false_eq_true, eq_self, Option.toList, List.cons_append, List.nil_append, ix_in, ix_cl, lt_in, lt_cl, lt_add, ix_one, vu_eq, vu_ne, arI_mk, arL_mk, arY_mZ, arY_mB, alen_mI, fld_sfl_ne, fld_sfl_same, Option.isSome_some, pok_i, b1z, b01, z10, b1o, Int32.zero_add, vu_vu, upd_eq, upd_ne, true_or, or_true, V2.r1, V2.r2, V2.r3, V2.r4, V2.r16, V2.r17, V2.r18, V2.r19, V2.r20, V2.r23, V2.r24, V2.r25, V2.r26, V2.r27, V2.r28, V2.r29, V2.r30, V2.c172, V2.c173, V2.c174, V2.c186, V2.c187, V2.c188, V2.n5, V2.n13, V2.n14, V2.i0, V2.i5, V2.i6, V2.i7, V2.i8, V2.i9, V2.i10, V2.i11, V2.i12, V2.i13, V2.i14, V2.i15, V2.i21, V2.i22]
                    rw [p193_23 (cno_MR V2.mr) (Nat.le_of_ble_eq_true rfl) (P2.codesE hw)]
                    simp (disch := first | omega | decide | assumption | exact Nat.le_of_ble_eq_true rfl) only [h193_26, ow_some, true_and, and_true, and_self, if_true, if_false, not_true, not_false_eq_true, Bool.false_eq_true, eq_self, Option.toList, List.cons_append, List.nil_append, ix_in, ix_cl, lt_in, lt_cl, lt_add, ix_one, vu_eq, vu_ne, arI_mk, arL_mk, arY_mZ, arY_mB, alen_mI, fld_sfl_ne, fld_sfl_same, Option.isSome_some, pok_i, b1z, b01, z10, b1o, Int32.zero_add, vu_vu, upd_eq, upd_ne, true_or, or_true, V2.r1, V2.r2, V2.r3, V2.r4, V2.r16, V2.r17, V2.r18, V2.r19, V2.r20, V2.r23, V2.r24, V2.r25, V2.r26, V2.r27, V2.r28, V2.r29, V2.r30, V2.c172, V2.c173, V2.c174, V2.c186, V2.c187, V2.c188, V2.n5, V2.n13, V2.n14, V2.i0, V2.i5, V2.i6, V2.i7, V2.i8, V2.i9, V2.i10, V2.i11, V2.i12, V2.i13, V2.i14, V2.i15, V2.i21, V2.i22]
                    show TT X (D + 10) 193 5 [.ref 171, .int (nI d)] [] f2 n1 k1 _
                    rw [P2.tlE hw, he]
                    exact PO.er (sm1.tr sm2) hw P2)
                have hrr : rk 0 + 1 ≤ rk 2 := by decide
                have sub := ih _ _ _ _ _ hr1 (D + 9) n1 k1 f1 s ag wa n (.float 0) rfl (by omega) hd P1 g1.1 hn (by omega)
                refine k193_16 (cno_MR V1.mr) (Nat.le_of_ble_eq_true rfl) sub ?_
                intro f2 n2 k2 v2 hpo
                obtain ⟨-, -, hv, hq⟩ := hnx f2 n2 k2 v2 hpo
                subst hv
                exact hq
            · subst ml
              have hsb : sb 4 = 1 := rfl
              show TT X (D + 10) 192 5 [.ref 171, .int (nI d), a2] [] f N K _
              simp (disch := first | omega | decide | assumption | exact Nat.le_of_ble_eq_true rfl) only [s192_5, s192_6, ow_some, true_and, and_true, and_self, if_true, if_false, not_true, not_false_eq_true, Bool.false_eq_true, eq_self, Option.toList, List.cons_append, List.nil_append, ix_in, ix_cl, lt_in, lt_cl, lt_add, ix_one, vu_eq, vu_ne, arI_mk, arL_mk, arY_mZ, arY_mB, alen_mI, fld_sfl_ne, fld_sfl_same, Option.isSome_some, pok_i, b1z, b01, z10, b1o, Int32.zero_add, vu_vu, upd_eq, upd_ne, true_or, or_true, V.r1, V.r2, V.r3, V.r4, V.r16, V.r17, V.r18, V.r19, V.r20, V.r23, V.r24, V.r25, V.r26, V.r27, V.r28, V.r29, V.r30, V.c172, V.c173, V.c174, V.c186, V.c187, V.c188, V.n5, V.n13, V.n14, V.i0, V.i5, V.i6, V.i7, V.i8, V.i9, V.i10, V.i11, V.i12, V.i13, V.i14, V.i15, V.i21, V.i22]
              rw [p192_8 (cno_MR V.mr) (Nat.le_of_ble_eq_true rfl) P.is]
              rcases h with ⟨ho, he⟩ | ⟨x, ho, hs⟩
              · have hk : ¬ c.2.2.1 = 32 := fun z => by rw [z] at ho; exact absurd ho (by decide)
                have hk2 : ¬ c.2.2.1 = 33 := fun z => by rw [z] at ho; exact absurd ho (by decide)
                simp (disch := first | omega | decide | assumption | exact Nat.le_of_ble_eq_true rfl) only [s192_11, s192_14, s192_15, ow_some, true_and, and_true, and_self, if_true, if_false, not_true, not_false_eq_true, Bool.false_eq_true, eq_self, Option.toList, List.cons_append, List.nil_append, ix_in, ix_cl, lt_in, lt_cl, lt_add, ix_one, vu_eq, vu_ne, arI_mk, arL_mk, arY_mZ, arY_mB, alen_mI, fld_sfl_ne, fld_sfl_same, Option.isSome_some, pok_i, b1z, b01, z10, b1o, Int32.zero_add, vu_vu, upd_eq, upd_ne, true_or, or_true, V.r1, V.r2, V.r3, V.r4, V.r16, V.r17, V.r18, V.r19, V.r20, V.r23, V.r24, V.r25, V.r26, V.r27, V.r28, V.r29, V.r30, V.c172, V.c173, V.c174, V.c186, V.c187, V.c188, V.n5, V.n13, V.n14, V.i0, V.i5, V.i6, V.i7, V.i8, V.i9, V.i10, V.i11, V.i12, V.i13, V.i14, V.i15, V.i21, V.i22, hk, and_false]
                rw [p192_17 (cno_MR V.mr) (Nat.le_of_ble_eq_true rfl) P.is]
                simp (disch := first | omega | decide | assumption | exact Nat.le_of_ble_eq_true rfl) only [s192_20, s192_59, ow_some, true_and, and_true, and_self, if_true, if_false, not_true, not_false_eq_true, Bool.false_eq_true, eq_self, Option.toList, List.cons_append, List.nil_append, ix_in, ix_cl, lt_in, lt_cl, lt_add, ix_one, vu_eq, vu_ne, arI_mk, arL_mk, arY_mZ, arY_mB, alen_mI, fld_sfl_ne, fld_sfl_same, Option.isSome_some, pok_i, b1z, b01, z10, b1o, Int32.zero_add, vu_vu, upd_eq, upd_ne, true_or, or_true, V.r1, V.r2, V.r3, V.r4, V.r16, V.r17, V.r18, V.r19, V.r20, V.r23, V.r24, V.r25, V.r26, V.r27, V.r28, V.r29, V.r30, V.c172, V.c173, V.c174, V.c186, V.c187, V.c188, V.n5, V.n13, V.n14, V.i0, V.i5, V.i6, V.i7, V.i8, V.i9, V.i10, V.i11, V.i12, V.i13, V.i14, V.i15, V.i21, V.i22, hk2, and_false]
                rw [he]
                exact PO.ok SM.rf P
              · have hk : c.2.2.1 = 32 ∨ c.2.2.1 = 33 := by
                  by_cases z : c.2.2.1 = 32
                  · exact Or.inl z
                  · by_cases z2 : c.2.2.1 = 33
                    · exact Or.inr z2
                    · unfold opc at ho; simp [z, z2] at ho
                rw [hsb] at hs
                have g1 := cv_go (tx := s.2.2.1) hcv (by rcases hk with z | z <;> (rw [z]; decide))
                have main : TT X (D + 10) 192 41 [.ref 171, .int (nI d), a2] [.int x] f N K (PO f s ag sz rd N K r) := by
                  simp (disch := first | omega | decide | assumption | exact Nat.le_of_ble_eq_true rfl) only [s192_41, s192_42, ow_some, true_and, and_true, and_self, if_true, if_false, not_true, not_false_eq_true, Bool.false_eq_true, eq_self, Option.toList, List.cons_append, List.nil_append, ix_in, ix_cl, lt_in, lt_cl, lt_add, ix_one, vu_eq, vu_ne, arI_mk, arL_mk, arY_mZ, arY_mB, alen_mI, fld_sfl_ne, fld_sfl_same, Option.isSome_some, pok_i, b1z, b01, z10, b1o, Int32.zero_add, vu_vu, upd_eq, upd_ne, true_or, or_true, V.r1, V.r2, V.r3, V.r4, V.r16, V.r17, V.r18, V.r19, V.r20, V.r23, V.r24, V.r25, V.r26, V.r27, V.r28, V.r29, V.r30, V.c172, V.c173, V.c174, V.c186, V.c187, V.c188, V.n5, V.n13, V.n14, V.i0, V.i5, V.i6, V.i7, V.i8, V.i9, V.i10, V.i11, V.i12, V.i13, V.i14, V.i15, V.i21, V.i22]
                  refine k192_43 (cno_MR V.mr) (Nat.le_of_ble_eq_true rfl) P.next ?_
                  rintro f1 n1 k1 v1 ⟨rfl, rfl, rfl, sm1, P1⟩
                  have V1 := P1.V
                  simp (disch := first | omega | decide | assumption | exact Nat.le_of_ble_eq_true rfl) only [s192_46, s192_47, ow_some, true_and, and_true, and_self, if_true, if_false, not_true, not_false_eq_true, Bool.false_eq_true, eq_self, Option.toList, List.cons_append, List.nil_append, ix_in, ix_cl, lt_in, lt_cl, lt_add, ix_one, vu_eq, vu_ne, arI_mk, arL_mk, arY_mZ, arY_mB, alen_mI, fld_sfl_ne, fld_sfl_same, Option.isSome_some, pok_i, b1z, b01, z10, b1o, Int32.zero_add, vu_vu, upd_eq, upd_ne, true_or, or_true, V1.r1, V1.r2, V1.r3, V1.r4, V1.r16, V1.r17, V1.r18, V1.r19, V1.r20, V1.r23, V1.r24, V1.r25, V1.r26, V1.r27, V1.r28, V1.r29, V1.r30, V1.c172, V1.c173, V1.c174, V1.c186, V1.c187, V1.c188, V1.n5, V1.n13, V1.n14, V1.i0, V1.i5, V1.i6, V1.i7, V1.i8, V1.i9, V1.i10, V1.i11, V1.i12, V1.i13, V1.i14, V1.i15, V1.i21, V1.i22]
                  obtain ⟨r1, hr1, hnx⟩ := rd_sq (N := n1) (K := k1) (f := f1) (s := s) (ag := ag) (Q := fun f' n' k' v => TT X (D + 10) 192 51 [.ref 171, .int (nI d), .int x] [] f' n' k' (PO f s ag sz rd n1 k1 r)) hs g1.1 hz hn (by omega)
                    (by
                      intro c1 fr1 n2 f2 wa1 hKt sm2 P2 i1 i2 i3
                      have V2 := P2.V
                      have hlt : n2 < 900 := by have := i1.1.2; omega
                      simp (disch := first | omega | decide | assumption | exact Nat.le_of_ble_eq_true rfl) only [s192_51, s192_52, ow_some, true_and, and_true, and_self, if_true, if_false, not_true, not_false_eq_true, Bool.false_eq_true, eq_self, Option.toList, List.cons_append, List.nil_append, ix_in, ix_cl, lt_in, lt_cl, lt_add, ix_one, vu_eq, vu_ne, arI_mk, arL_mk, arY_mZ, arY_mB, alen_mI, fld_sfl_ne, fld_sfl_same, Option.isSome_some, pok_i, b1z, b01, z10, b1o, Int32.zero_add, vu_vu, upd_eq, upd_ne, true_or, or_true, V2.r1, V2.r2, V2.r3, V2.r4, V2.r16, V2.r17, V2.r18, V2.r19, V2.r20, V2.r23, V2.r24, V2.r25, V2.r26, V2.r27, V2.r28, V2.r29, V2.r30, V2.c172, V2.c173, V2.c174, V2.c186, V2.c187, V2.c188, V2.n5, V2.n13, V2.n14, V2.i0, V2.i5, V2.i6, V2.i7, V2.i8, V2.i9, V2.i10, V2.i11, V2.i12, V2.i13, V2.i14, V2.i15, V2.i21, V2.i22]
                      refine k192_53 (cno_MR V2.mr) (Nat.le_of_ble_eq_true rfl) (P2.codes i2 hlt) ?_
                      rintro f3 n3 k3 v3 ⟨rfl, rfl, rfl, sm3, P3⟩
                      have V3 := P3.V
                      simp (disch := first | omega | decide | assumption | exact Nat.le_of_ble_eq_true rfl) only [h192_56, ow_some, true_and, and_true, and_self, if_true, if_false, not_true, not_false_eq_true, Bool.false_eq_true, eq_self, Option.toList, List.cons_append, List.nil_append, ix_in, ix_cl, lt_in, lt_cl, lt_add, ix_one, vu_eq, vu_ne, arI_mk, arL_mk, arY_mZ, arY_mB, alen_mI, fld_sfl_ne, fld_sfl_same, Option.isSome_some, pok_i, b1z, b01, z10, b1o, Int32.zero_add, vu_vu, upd_eq, upd_ne, true_or, or_true, V3.r1, V3.r2, V3.r3, V3.r4, V3.r16, V3.r17, V3.r18, V3.r19, V3.r20, V3.r23, V3.r24, V3.r25, V3.r26, V3.r27, V3.r28, V3.r29, V3.r30, V3.c172, V3.c173, V3.c174, V3.c186, V3.c187, V3.c188, V3.n5, V3.n13, V3.n14, V3.i0, V3.i5, V3.i6, V3.i7, V3.i8, V3.i9, V3.i10, V3.i11, V3.i12, V3.i13, V3.i14, V3.i15, V3.i21, V3.i22]
                      have t := ih 4 d c1 _ r hKt (D + 10) n3 k3 f3 s ag wa1 (n2 + 1) (.int x) rfl hD hd P3 i1 (i2.em hlt) (by omega)
                      exact (show TT X (D + 10) 192 5 [.ref 171, .int (nI d), .int x] [] f3 n3 k3 _ from t).mono (fun _ _ _ _ h => PO.sm ((sm1.tr sm2).tr sm3) h))
                    (by
                      intro w p fr1 c1 f2 he hw sm2 P2
                      have V2 := P2.V
                      simp (disch := first | omega | decide | assumption | exact Nat.le_of_ble_eq_true rfl) only [s192_51, s192_52, ow_some, true_and, and_true, and_self, if_true, if_false, not_true, not_false_eq_true, Bool.false_eq_true, eq_self, Option.toList, List.cons_append, List.nil_append, ix_in, ix_cl, lt_in, lt_cl, lt_add, ix_one, vu_eq, vu_ne, arI_mk, arL_mk, arY_mZ, arY_mB, alen_mI, fld_sfl_ne, fld_sfl_same, Option.isSome_some, pok_i, b1z, b01, z10, b1o, Int32.zero_add, vu_vu, upd_eq, upd_ne, true_or, or_true, V2.r1, V2.r2, V2.r3, V2.r4, V2.r16, V2.r17, V2.r18, V2.r19, V2.r20, V2.r23, V2.r24, V2.r25, V2.r26, V2.r27, V2.r28, V2.r29, V2.r30, V2.c172, V2.c173, V2.c174, V2.c186, V2.c187, V2.c188, V2.n5, V2.n13, V2.n14, V2.i0, V2.i5, V2.i6, V2.i7, V2.i8, V2.i9, V2.i10, V2.i11, V2.i12, V2.i13, V2.i14, V2.i15, V2.i21, V2.i22]
                      rw [p192_53 (cno_MR V2.mr) (Nat.le_of_ble_eq_true rfl) (P2.codesE hw)]
                      simp (disch := first | omega | decide | assumption | exact Nat.le_of_ble_eq_true rfl) only [h192_56, ow_some, true_and, and_true, and_self, if_true, if_false, not_true, not_false_eq_true, Bool.false_eq_true, eq_self, Option.toList, List.cons_append, List.nil_append, ix_in, ix_cl, lt_in, lt_cl, lt_add, ix_one, vu_eq, vu_ne, arI_mk, arL_mk, arY_mZ, arY_mB, alen_mI, fld_sfl_ne, fld_sfl_same, Option.isSome_some, pok_i, b1z, b01, z10, b1o, Int32.zero_add, vu_vu, upd_eq, upd_ne, true_or, or_true, V2.r1, V2.r2, V2.r3, V2.r4, V2.r16, V2.r17, V2.r18, V2.r19, V2.r20, V2.r23, V2.r24, V2.r25, V2.r26, V2.r27, V2.r28, V2.r29, V2.r30, V2.c172, V2.c173, V2.c174, V2.c186, V2.c187, V2.c188, V2.n5, V2.n13, V2.n14, V2.i0, V2.i5, V2.i6, V2.i7, V2.i8, V2.i9, V2.i10, V2.i11, V2.i12, V2.i13, V2.i14, V2.i15, V2.i21, V2.i22]
                      show TT X (D + 10) 192 5 [.ref 171, .int (nI d), .int x] [] f2 n1 k1 _
                      rw [P2.slE hw, he]
                      exact PO.er (sm1.tr sm2) hw P2)
                  have hrr : rk 1 + 1 ≤ rk 4 := by decide
                  have sub := ih _ _ _ _ _ hr1 (D + 9) n1 k1 f1 s ag wa n (.float 0) rfl (by omega) hd P1 g1.1 hn (by omega)
                  refine k192_48 (cno_MR V1.mr) (Nat.le_of_ble_eq_true rfl) sub ?_
                  intro f2 n2 k2 v2 hpo
                  obtain ⟨-, -, hv, hq⟩ := hnx f2 n2 k2 v2 hpo
                  subst hv
                  exact hq
                rcases hk with hk | hk
                · have hx : x = 3000 := by rw [hk] at ho; exact (Option.some.inj (ho.symm.trans (show opc 4 32 = some 3000 by decide)))
                  rw [hx] at main
                  have hk' : (c.2.2.1 = 32) = True := eq_true hk
                  simp (disch := first | omega | decide | assumption | exact Nat.le_of_ble_eq_true rfl) only [s192_11, s192_23, s192_24, s192_27, s192_29, s192_32, s192_35, ow_some, true_and, and_true, and_self, if_true, if_false, not_true, not_false_eq_true, Bool.false_eq_true, eq_self, Option.toList, List.cons_append, List.nil_append, ix_in, ix_cl, lt_in, lt_cl, lt_add, ix_one, vu_eq, vu_ne, arI_mk, arL_mk, arY_mZ, arY_mB, alen_mI, fld_sfl_ne, fld_sfl_same, Option.isSome_some, pok_i, b1z, b01, z10, b1o, Int32.zero_add, vu_vu, upd_eq, upd_ne, true_or, or_true, V.r1, V.r2, V.r3, V.r4, V.r16, V.r17, V.r18, V.r19, V.r20, V.r23, V.r24, V.r25, V.r26, V.r27, V.r28, V.r29, V.r30, V.c172, V.c173, V.c174, V.c186, V.c187, V.c188, V.n5, V.n13, V.n14, V.i0, V.i5, V.i6, V.i7, V.i8, V.i9, V.i10, V.i11, V.i12, V.i13, V.i14, V.i15, V.i21, V.i22, Q.f6, Q.f7, Q.f8, Q.f9, Q.f10, Q.f11, Q.f12, Q.f15, Q.c175, Q.c176, hk']
                  exact main
                · have hx : x = 3001 := by rw [hk] at ho; exact (Option.some.inj (ho.symm.trans (show opc 4 33 = some 3001 by decide)))
                  rw [hx] at main
                  have hk1 : (c.2.2.1 = 32) = False := eq_false (by rw [hk]; decide)
                  have hk' : (c.2.2.1 = 33) = True := eq_true hk
                  simp (disch := first | omega | decide | assumption | exact Nat.le_of_ble_eq_true rfl) only [s192_11, s192_14, s192_15, ow_some, true_and, and_true, and_self, if_true, if_false, not_true, not_false_eq_true, Bool.false_eq_true, eq_self, Option.toList, List.cons_append, List.nil_append, ix_in, ix_cl, lt_in, lt_cl, lt_add, ix_one, vu_eq, vu_ne, arI_mk, arL_mk, arY_mZ, arY_mB, alen_mI, fld_sfl_ne, fld_sfl_same, Option.isSome_some, pok_i, b1z, b01, z10, b1o, Int32.zero_add, vu_vu, upd_eq, upd_ne, true_or, or_true, V.r1, V.r2, V.r3, V.r4, V.r16, V.r17, V.r18, V.r19, V.r20, V.r23, V.r24, V.r25, V.r26, V.r27, V.r28, V.r29, V.r30, V.c172, V.c173, V.c174, V.c186, V.c187, V.c188, V.n5, V.n13, V.n14, V.i0, V.i5, V.i6, V.i7, V.i8, V.i9, V.i10, V.i11, V.i12, V.i13, V.i14, V.i15, V.i21, V.i22, Q.f6, Q.f7, Q.f8, Q.f9, Q.f10, Q.f11, Q.f12, Q.f15, Q.c175, Q.c176, hk1, and_false]
                  rw [p192_17 (cno_MR V.mr) (Nat.le_of_ble_eq_true rfl) P.is]
                  simp (disch := first | omega | decide | assumption | exact Nat.le_of_ble_eq_true rfl) only [s192_20, s192_23, s192_24, s192_27, s192_29, s192_32, s192_35, s192_38, ow_some, true_and, and_true, and_self, if_true, if_false, not_true, not_false_eq_true, Bool.false_eq_true, eq_self, Option.toList, List.cons_append, List.nil_append, ix_in, ix_cl, lt_in, lt_cl, lt_add, ix_one, vu_eq, vu_ne, arI_mk, arL_mk, arY_mZ, arY_mB, alen_mI, fld_sfl_ne, fld_sfl_same, Option.isSome_some, pok_i, b1z, b01, z10, b1o, Int32.zero_add, vu_vu, upd_eq, upd_ne, true_or, or_true, V.r1, V.r2, V.r3, V.r4, V.r16, V.r17, V.r18, V.r19, V.r20, V.r23, V.r24, V.r25, V.r26, V.r27, V.r28, V.r29, V.r30, V.c172, V.c173, V.c174, V.c186, V.c187, V.c188, V.n5, V.n13, V.n14, V.i0, V.i5, V.i6, V.i7, V.i8, V.i9, V.i10, V.i11, V.i12, V.i13, V.i14, V.i15, V.i21, V.i22, Q.f6, Q.f7, Q.f8, Q.f9, Q.f10, Q.f11, Q.f12, Q.f15, Q.c175, Q.c176, hk', hk1]
                  exact main
            · subst ml
              have hsb : sb 7 = 5 := rfl
              show TT X (D + 10) 199 5 [.ref 171, .int (nI d)] [] f N K _
              simp (disch := first | omega | decide | assumption | exact Nat.le_of_ble_eq_true rfl) only [s199_5, s199_6, ow_some, true_and, and_true, and_self, if_true, if_false, not_true, not_false_eq_true, Bool.false_eq_true, eq_self, Option.toList, List.cons_append, List.nil_append, ix_in, ix_cl, lt_in, lt_cl, lt_add, ix_one, vu_eq, vu_ne, arI_mk, arL_mk, arY_mZ, arY_mB, alen_mI, fld_sfl_ne, fld_sfl_same, Option.isSome_some, pok_i, b1z, b01, z10, b1o, Int32.zero_add, vu_vu, upd_eq, upd_ne, true_or, or_true, V.r1, V.r2, V.r3, V.r4, V.r16, V.r17, V.r18, V.r19, V.r20, V.r23, V.r24, V.r25, V.r26, V.r27, V.r28, V.r29, V.r30, V.c172, V.c173, V.c174, V.c186, V.c187, V.c188, V.n5, V.n13, V.n14, V.i0, V.i5, V.i6, V.i7, V.i8, V.i9, V.i10, V.i11, V.i12, V.i13, V.i14, V.i15, V.i21, V.i22]
              rcases h with ⟨ho, he⟩ | ⟨x, ho, hs⟩
              · have hk : ¬ c.2.2.1 = 18 := fun z => by rw [z] at ho; exact absurd ho (by decide)
                rw [p199_8 (cno_MR V.mr) (Nat.le_of_ble_eq_true rfl) (P.eatN (fun z => hk z.2))]
                simp (disch := first | omega | decide | assumption | exact Nat.le_of_ble_eq_true rfl) only [s199_11, s199_29, ow_some, true_and, and_true, and_self, if_true, if_false, not_true, not_false_eq_true, Bool.false_eq_true, eq_self, Option.toList, List.cons_append, List.nil_append, ix_in, ix_cl, lt_in, lt_cl, lt_add, ix_one, vu_eq, vu_ne, arI_mk, arL_mk, arY_mZ, arY_mB, alen_mI, fld_sfl_ne, fld_sfl_same, Option.isSome_some, pok_i, b1z, b01, z10, b1o, Int32.zero_add, vu_vu, upd_eq, upd_ne, true_or, or_true, V.r1, V.r2, V.r3, V.r4, V.r16, V.r17, V.r18, V.r19, V.r20, V.r23, V.r24, V.r25, V.r26, V.r27, V.r28, V.r29, V.r30, V.c172, V.c173, V.c174, V.c186, V.c187, V.c188, V.n5, V.n13, V.n14, V.i0, V.i5, V.i6, V.i7, V.i8, V.i9, V.i10, V.i11, V.i12, V.i13, V.i14, V.i15, V.i21, V.i22]
                rw [he]
                exact PO.ok SM.rf P
              · have hk : c.2.2.1 = 18 := by
                  by_cases z : c.2.2.1 = 18
                  · exact z
                  · unfold opc at ho; simp [z] at ho
                have hx : x = 3007 := by rw [hk] at ho; exact (Option.some.inj (ho.symm.trans (show opc 7 18 = some 3007 by decide)))
                subst hx
                rw [hsb] at hs
                have g1 := cv_go (tx := s.2.2.1) hcv (by rw [hk]; decide)
                refine k199_8 (cno_MR V.mr) (Nat.le_of_ble_eq_true rfl) (P.eatY hk) ?_
                rintro f1 n1 k1 v1 ⟨rfl, rfl, sm1, P1, rfl⟩
                have V1 := P1.V
                simp (disch := first | omega | decide | assumption | exact Nat.le_of_ble_eq_true rfl) only [s199_11, s199_14, s199_15, ow_some, true_and, and_true, and_self, if_true, if_false, not_true, not_false_eq_true, Bool.false_eq_true, eq_self, Option.toList, List.cons_append, List.nil_append, ix_in, ix_cl, lt_in, lt_cl, lt_add, ix_one, vu_eq, vu_ne, arI_mk, arL_mk, arY_mZ, arY_mB, alen_mI, fld_sfl_ne, fld_sfl_same, Option.isSome_some, pok_i, b1z, b01, z10, b1o, Int32.zero_add, vu_vu, upd_eq, upd_ne, true_or, or_true, V1.r1, V1.r2, V1.r3, V1.r4, V1.r16, V1.r17, V1.r18, V1.r19, V1.r20, V1.r23, V1.r24, V1.r25, V1.r26, V1.r27, V1.r28, V1.r29, V1.r30, V1.c172, V1.c173, V1.c174, V1.c186, V1.c187, V1.c188, V1.n5, V1.n13, V1.n14, V1.i0, V1.i5, V1.i6, V1.i7, V1.i8, V1.i9, V1.i10, V1.i11, V1.i12, V1.i13, V1.i14, V1.i15, V1.i21, V1.i22]
                obtain ⟨r1, hr1, hnx⟩ := rd_sq (N := n1) (K := k1) (f := f1) (s := s) (ag := ag) (Q := fun f' n' k' v => TT X (D + 10) 199 19 [.ref 171, .int (nI d)] [] f' n' k' (PO f s ag sz rd n1 k1 r)) hs g1.1 hz hn (by omega)
                  (by
                    intro c1 fr1 n2 f2 wa1 hKt sm2 P2 i1 i2 i3
                    have V2 := P2.V
                    have hlt : n2 < 900 := by have := i1.1.2; omega
                    simp (disch := first | omega | decide | assumption | exact Nat.le_of_ble_eq_true rfl) only [s199_19, s199_20, ow_some, true_and, and_true, and_self, if_true, if_false, not_true, not_false_eq_true, Bool.false_eq_true, eq_self, Option.toList, List.cons_append, List.nil_append, ix_in, ix_cl, lt_in, lt_cl, lt_add, ix_one, vu_eq, vu_ne, arI_mk, arL_mk, arY_mZ, arY_mB, alen_mI, fld_sfl_ne, fld_sfl_same, Option.isSome_some, pok_i, b1z, b01, z10, b1o, Int32.zero_add, vu_vu, upd_eq, upd_ne, true_or, or_true, V2.r1, V2.r2, V2.r3, V2.r4, V2.r16, V2.r17, V2.r18, V2.r19, V2.r20, V2.r23, V2.r24, V2.r25, V2.r26, V2.r27, V2.r28, V2.r29, V2.r30, V2.c172, V2.c173, V2.c174, V2.c186, V2.c187, V2.c188, V2.n5, V2.n13, V2.n14, V2.i0, V2.i5, V2.i6, V2.i7, V2.i8, V2.i9, V2.i10, V2.i11, V2.i12, V2.i13, V2.i14, V2.i15, V2.i21, V2.i22]
                    refine k199_23 (cno_MR V2.mr) (Nat.le_of_ble_eq_true rfl) (P2.codes i2 hlt) ?_
                    rintro f3 n3 k3 v3 ⟨rfl, rfl, rfl, sm3, P3⟩
                    have V3 := P3.V
                    simp (disch := first | omega | decide | assumption | exact Nat.le_of_ble_eq_true rfl) only [h199_26, ow_some, true_and, and_true, and_self, if_true, if_false, not_true, not_false_eq_true, Bool.false_eq_true, eq_self, Option.toList, List.cons_append, List.nil_append, ix_in, ix_cl, lt_in, lt_cl, lt_add, ix_one, vu_eq, vu_ne, arI_mk, arL_mk, arY_mZ, arY_mB, alen_mI, fld_sfl_ne, fld_sfl_same, Option.isSome_some, pok_i, b1z, b01, z10, b1o, Int32.zero_add, vu_vu, upd_eq, upd_ne, true_or, or_true, V3.r1, V3.r2, V3.r3, V3.r4, V3.r16, V3.r17, V3.r18, V3.r19, V3.r20, V3.r23, V3.r24, V3.r25, V3.r26, V3.r27, V3.r28, V3.r29, V3.r30, V3.c172, V3.c173, V3.c174, V3.c186, V3.c187, V3.c188, V3.n5, V3.n13, V3.n14, V3.i0, V3.i5, V3.i6, V3.i7, V3.i8, V3.i9, V3.i10, V3.i11, V3.i12, V3.i13, V3.i14, V3.i15, V3.i21, V3.i22]
                    have t := ih 7 d c1 _ r hKt (D + 10) n3 k3 f3 s ag wa1 (n2 + 1) (.float 0) rfl hD hd P3 i1 (i2.em hlt) (by omega)
                    exact (show TT X (D + 10) 199 5 [.ref 171, .int (nI d)] [] f3 n3 k3 _ from t).mono (fun _ _ _ _ h => PO.sm ((sm1.tr sm2).tr sm3) h))
                  (by
                    intro w p fr1 c1 f2 he hw sm2 P2
                    have V2 := P2.V
                    simp (disch := first | omega | decide | assumption | exact Nat.le_of_ble_eq_true rfl) only [s199_19, s199_20, ow_some, true_and, and_true, and_self, if_true, if_false, not_true, not_false_eq_true, Bool.false_eq_true, eq_self, Option.toList, List.cons_append, List.nil_append, ix_in, ix_cl, lt_in, lt_cl, lt_add, ix_one, vu_eq, vu_ne, arI_mk, arL_mk, arY_mZ, arY_mB, alen_mI, fld_sfl_ne, fld_sfl_same, Option.isSome_some, pok_i, b1z, b01, z10, b1o, Int32.zero_add, vu_vu, upd_eq, upd_ne, true_or, or_true, V2.r1, V2.r2, V2.r3, V2.r4, V2.r16, V2.r17, V2.r18, V2.r19, V2.r20, V2.r23, V2.r24, V2.r25, V2.r26, V2.r27, V2.r28, V2.r29, V2.r30, V2.c172, V2.c173, V2.c174, V2.c186, V2.c187, V2.c188, V2.n5, V2.n13, V2.n14, V2.i0, V2.i5, V2.i6, V2.i7, V2.i8, V2.i9, V2.i10, V2.i11, V2.i12, V2.i13, V2.i14, V2.i15, V2.i21, V2.i22]
                    rw [p199_23 (cno_MR V2.mr) (Nat.le_of_ble_eq_true rfl) (P2.codesE hw)]
                    simp (disch := first | omega | decide | assumption | exact Nat.le_of_ble_eq_true rfl) only [h199_26, ow_some, true_and, and_true, and_self, if_true, if_false, not_true, not_false_eq_true, Bool.false_eq_true, eq_self, Option.toList, List.cons_append, List.nil_append, ix_in, ix_cl, lt_in, lt_cl, lt_add, ix_one, vu_eq, vu_ne, arI_mk, arL_mk, arY_mZ, arY_mB, alen_mI, fld_sfl_ne, fld_sfl_same, Option.isSome_some, pok_i, b1z, b01, z10, b1o, Int32.zero_add, vu_vu, upd_eq, upd_ne, true_or, or_true, V2.r1, V2.r2, V2.r3, V2.r4, V2.r16, V2.r17, V2.r18, V2.r19, V2.r20, V2.r23, V2.r24, V2.r25, V2.r26, V2.r27, V2.r28, V2.r29, V2.r30, V2.c172, V2.c173, V2.c174, V2.c186, V2.c187, V2.c188, V2.n5, V2.n13, V2.n14, V2.i0, V2.i5, V2.i6, V2.i7, V2.i8, V2.i9, V2.i10, V2.i11, V2.i12, V2.i13, V2.i14, V2.i15, V2.i21, V2.i22]
                    show TT X (D + 10) 199 5 [.ref 171, .int (nI d)] [] f2 n1 k1 _
                    rw [P2.blE hw, he]
                    exact PO.er (sm1.tr sm2) hw P2)
                have hrr : rk 5 + 1 ≤ rk 7 := by decide
                have sub := ih _ _ _ _ _ hr1 (D + 9) n1 k1 f1 s ag wa n (.float 0) rfl (by omega) hd P1 g1.1 hn (by omega)
                refine k199_16 (cno_MR V1.mr) (Nat.le_of_ble_eq_true rfl) sub ?_
                intro f2 n2 k2 v2 hpo
                obtain ⟨-, -, hv, hq⟩ := hnx f2 n2 k2 v2 hpo
                subst hv
                exact hq
            · subst ml
              have hsb : sb 9 = 6 := rfl
              show TT X (D + 10) 198 5 [.ref 171, .int (nI d)] [] f N K _
              simp (disch := first | omega | decide | assumption | exact Nat.le_of_ble_eq_true rfl) only [s198_5, s198_6, ow_some, true_and, and_true, and_self, if_true, if_false, not_true, not_false_eq_true, Bool.false_eq_true, eq_self, Option.toList, List.cons_append, List.nil_append, ix_in, ix_cl, lt_in, lt_cl, lt_add, ix_one, vu_eq, vu_ne, arI_mk, arL_mk, arY_mZ, arY_mB, alen_mI, fld_sfl_ne, fld_sfl_same, Option.isSome_some, pok_i, b1z, b01, z10, b1o, Int32.zero_add, vu_vu, upd_eq, upd_ne, true_or, or_true, V.r1, V.r2, V.r3, V.r4, V.r16, V.r17, V.r18, V.r19, V.r20, V.r23, V.r24, V.r25, V.r26, V.r27, V.r28, V.r29, V.r30, V.c172, V.c173, V.c174, V.c186, V.c187, V.c188, V.n5, V.n13, V.n14, V.i0, V.i5, V.i6, V.i7, V.i8, V.i9, V.i10, V.i11, V.i12, V.i13, V.i14, V.i15, V.i21, V.i22]
              rcases h with ⟨ho, he⟩ | ⟨x, ho, hs⟩
              · have hk : ¬ c.2.2.1 = 19 := fun z => by rw [z] at ho; exact absurd ho (by decide)
                rw [p198_8 (cno_MR V.mr) (Nat.le_of_ble_eq_true rfl) (P.eatN (fun z => hk z.2))]
                simp (disch := first | omega | decide | assumption | exact Nat.le_of_ble_eq_true rfl) only [s198_11, s198_29, ow_some, true_and, and_true, and_self, if_true, if_false, not_true, not_false_eq_true, Bool.false_eq_true, eq_self, Option.toList, List.cons_append, List.nil_append, ix_in, ix_cl, lt_in, lt_cl, lt_add, ix_one, vu_eq, vu_ne, arI_mk, arL_mk, arY_mZ, arY_mB, alen_mI, fld_sfl_ne, fld_sfl_same, Option.isSome_some, pok_i, b1z, b01, z10, b1o, Int32.zero_add, vu_vu, upd_eq, upd_ne, true_or, or_true, V.r1, V.r2, V.r3, V.r4, V.r16, V.r17, V.r18, V.r19, V.r20, V.r23, V.r24, V.r25, V.r26, V.r27, V.r28, V.r29, V.r30, V.c172, V.c173, V.c174, V.c186, V.c187, V.c188, V.n5, V.n13, V.n14, V.i0, V.i5, V.i6, V.i7, V.i8, V.i9, V.i10, V.i11, V.i12, V.i13, V.i14, V.i15, V.i21, V.i22]
                rw [he]
                exact PO.ok SM.rf P
              · have hk : c.2.2.1 = 19 := by
                  by_cases z : c.2.2.1 = 19
                  · exact z
                  · unfold opc at ho; simp [z] at ho
                have hx : x = 3008 := by rw [hk] at ho; exact (Option.some.inj (ho.symm.trans (show opc 9 19 = some 3008 by decide)))
                subst hx
                rw [hsb] at hs
                have g1 := cv_go (tx := s.2.2.1) hcv (by rw [hk]; decide)
                refine k198_8 (cno_MR V.mr) (Nat.le_of_ble_eq_true rfl) (P.eatY hk) ?_
                rintro f1 n1 k1 v1 ⟨rfl, rfl, sm1, P1, rfl⟩
                have V1 := P1.V
                simp (disch := first | omega | decide | assumption | exact Nat.le_of_ble_eq_true rfl) only [s198_11, s198_14, s198_15, ow_some, true_and, and_true, and_self, if_true, if_false, not_true, not_false_eq_true, Bool.false_eq_true, eq_self, Option.toList, List.cons_append, List.nil_append, ix_in, ix_cl, lt_in, lt_cl, lt_add, ix_one, vu_eq, vu_ne, arI_mk, arL_mk, arY_mZ, arY_mB, alen_mI, fld_sfl_ne, fld_sfl_same, Option.isSome_some, pok_i, b1z, b01, z10, b1o, Int32.zero_add, vu_vu, upd_eq, upd_ne, true_or, or_true, V1.r1, V1.r2, V1.r3, V1.r4, V1.r16, V1.r17, V1.r18, V1.r19, V1.r20, V1.r23, V1.r24, V1.r25, V1.r26, V1.r27, V1.r28, V1.r29, V1.r30, V1.c172, V1.c173, V1.c174, V1.c186, V1.c187, V1.c188, V1.n5, V1.n13, V1.n14, V1.i0, V1.i5, V1.i6, V1.i7, V1.i8, V1.i9, V1.i10, V1.i11, V1.i12, V1.i13, V1.i14, V1.i15, V1.i21, V1.i22]
                obtain ⟨r1, hr1, hnx⟩ := rd_sq (N := n1) (K := k1) (f := f1) (s := s) (ag := ag) (Q := fun f' n' k' v => TT X (D + 10) 198 19 [.ref 171, .int (nI d)] [] f' n' k' (PO f s ag sz rd n1 k1 r)) hs g1.1 hz hn (by omega)
                  (by
                    intro c1 fr1 n2 f2 wa1 hKt sm2 P2 i1 i2 i3
                    have V2 := P2.V
                    have hlt : n2 < 900 := by have := i1.1.2; omega
                    simp (disch := first | omega | decide | assumption | exact Nat.le_of_ble_eq_true rfl) only [s198_19, s198_20, ow_some, true_and, and_true, and_self, if_true, if_false, not_true, not_false_eq_true, Bool.false_eq_true, eq_self, Option.toList, List.cons_append, List.nil_append, ix_in, ix_cl, lt_in, lt_cl, lt_add, ix_one, vu_eq, vu_ne, arI_mk, arL_mk, arY_mZ, arY_mB, alen_mI, fld_sfl_ne, fld_sfl_same, Option.isSome_some, pok_i, b1z, b01, z10, b1o, Int32.zero_add, vu_vu, upd_eq, upd_ne, true_or, or_true, V2.r1, V2.r2, V2.r3, V2.r4, V2.r16, V2.r17, V2.r18, V2.r19, V2.r20, V2.r23, V2.r24, V2.r25, V2.r26, V2.r27, V2.r28, V2.r29, V2.r30, V2.c172, V2.c173, V2.c174, V2.c186, V2.c187, V2.c188, V2.n5, V2.n13, V2.n14, V2.i0, V2.i5, V2.i6, V2.i7, V2.i8, V2.i9, V2.i10, V2.i11, V2.i12, V2.i13, V2.i14, V2.i15, V2.i21, V2.i22]
                    refine k198_23 (cno_MR V2.mr) (Nat.le_of_ble_eq_true rfl) (P2.codes i2 hlt) ?_
                    rintro f3 n3 k3 v3 ⟨rfl, rfl, rfl, sm3, P3⟩
                    have V3 := P3.V
                    simp (disch := first | omega | decide | assumption | exact Nat.le_of_ble_eq_true rfl) only [h198_26, ow_some, true_and, and_true, and_self, if_true, if_false, not_true, not_false_eq_true, Bool.false_eq_true, eq_self, Option.toList, List.cons_append, List.nil_append, ix_in, ix_cl, lt_in, lt_cl, lt_add, ix_one, vu_eq, vu_ne, arI_mk, arL_mk, arY_mZ, arY_mB, alen_mI, fld_sfl_ne, fld_sfl_same, Option.isSome_some, pok_i, b1z, b01, z10, b1o, Int32.zero_add, vu_vu, upd_eq, upd_ne, true_or, or_true, V3.r1, V3.r2, V3.r3, V3.r4, V3.r16, V3.r17, V3.r18, V3.r19, V3.r20, V3.r23, V3.r24, V3.r25, V3.r26, V3.r27, V3.r28, V3.r29, V3.r30, V3.c172, V3.c173, V3.c174, V3.c186, V3.c187, V3.c188, V3.n5, V3.n13, V3.n14, V3.i0, V3.i5, V3.i6, V3.i7, V3.i8, V3.i9, V3.i10, V3.i11, V3.i12, V3.i13, V3.i14, V3.i15, V3.i21, V3.i22]
                    have t := ih 9 d c1 _ r hKt (D + 10) n3 k3 f3 s ag wa1 (n2 + 1) (.float 0) rfl hD hd P3 i1 (i2.em hlt) (by omega)
                    exact (show TT X (D + 10) 198 5 [.ref 171, .int (nI d)] [] f3 n3 k3 _ from t).mono (fun _ _ _ _ h => PO.sm ((sm1.tr sm2).tr sm3) h))
                  (by
                    intro w p fr1 c1 f2 he hw sm2 P2
                    have V2 := P2.V
                    simp (disch := first | omega | decide | assumption | exact Nat.le_of_ble_eq_true rfl) only [s198_19, s198_20, ow_some, true_and, and_true, and_self, if_true, if_false, not_true, not_false_eq_true, Bool.false_eq_true, eq_self, Option.toList, List.cons_append, List.nil_append, ix_in, ix_cl, lt_in, lt_cl, lt_add, ix_one, vu_eq, vu_ne, arI_mk, arL_mk, arY_mZ, arY_mB, alen_mI, fld_sfl_ne, fld_sfl_same, Option.isSome_some, pok_i, b1z, b01, z10, b1o, Int32.zero_add, vu_vu, upd_eq, upd_ne, true_or, or_true, V2.r1, V2.r2, V2.r3, V2.r4, V2.r16, V2.r17, V2.r18, V2.r19, V2.r20, V2.r23, V2.r24, V2.r25, V2.r26, V2.r27, V2.r28, V2.r29, V2.r30, V2.c172, V2.c173, V2.c174, V2.c186, V2.c187, V2.c188, V2.n5, V2.n13, V2.n14, V2.i0, V2.i5, V2.i6, V2.i7, V2.i8, V2.i9, V2.i10, V2.i11, V2.i12, V2.i13, V2.i14, V2.i15, V2.i21, V2.i22]
                    rw [p198_23 (cno_MR V2.mr) (Nat.le_of_ble_eq_true rfl) (P2.codesE hw)]
                    simp (disch := first | omega | decide | assumption | exact Nat.le_of_ble_eq_true rfl) only [h198_26, ow_some, true_and, and_true, and_self, if_true, if_false, not_true, not_false_eq_true, Bool.false_eq_true, eq_self, Option.toList, List.cons_append, List.nil_append, ix_in, ix_cl, lt_in, lt_cl, lt_add, ix_one, vu_eq, vu_ne, arI_mk, arL_mk, arY_mZ, arY_mB, alen_mI, fld_sfl_ne, fld_sfl_same, Option.isSome_some, pok_i, b1z, b01, z10, b1o, Int32.zero_add, vu_vu, upd_eq, upd_ne, true_or, or_true, V2.r1, V2.r2, V2.r3, V2.r4, V2.r16, V2.r17, V2.r18, V2.r19, V2.r20, V2.r23, V2.r24, V2.r25, V2.r26, V2.r27, V2.r28, V2.r29, V2.r30, V2.c172, V2.c173, V2.c174, V2.c186, V2.c187, V2.c188, V2.n5, V2.n13, V2.n14, V2.i0, V2.i5, V2.i6, V2.i7, V2.i8, V2.i9, V2.i10, V2.i11, V2.i12, V2.i13, V2.i14, V2.i15, V2.i21, V2.i22]
                    show TT X (D + 10) 198 5 [.ref 171, .int (nI d)] [] f2 n1 k1 _
                    rw [P2.olE hw, he]
                    exact PO.er (sm1.tr sm2) hw P2)
                have hrr : rk 6 + 1 ≤ rk 9 := by decide
                have sub := ih _ _ _ _ _ hr1 (D + 9) n1 k1 f1 s ag wa n (.float 0) rfl (by omega) hd P1 g1.1 hn (by omega)
                refine k198_16 (cno_MR V1.mr) (Nat.le_of_ble_eq_true rfl) sub ?_
                intro f2 n2 k2 v2 hpo
                obtain ⟨-, -, hv, hq⟩ := hnx f2 n2 k2 v2 hpo
                subst hv
                exact hq
          · rw [if_neg m9] at h; exact h.elim

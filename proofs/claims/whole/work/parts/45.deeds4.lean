/-! the reference: deeds told -/
def m_move (all : Nat → Int32) (S P T p k : Nat) : Nat → Int32 := m_fall (upd all (57 + p) (nI k)) S P T
def m_prop (all : Nat → Int32) (S P T k : Nat) : Nat → Int32 := m_fall (upd all (84 + k) (all (84 + k) + 1)) S P T
def m_day (all : Nat → Int32) (S P T : Nat) : Nat → Int32 := m_fall (upd (upd all 56 (all 56 + 1)) 55 0) S P T
theorem AL.step {all : Nat → Int32} {S P p k : Nat} (A : AL all S P) (hp : p < 9) (hk : k < S) : AL (upd all (57 + p) (nI k)) S P := by
  obtain ⟨A1, A2, A3, A4, A5, A6, A7, A8⟩ := A
  refine ⟨by rw [upd_ne (by omega)]; exact A1, A2, A3, by rw [upd_ne (by omega)]; exact A4, A5, fun q hq => ?_, fun q hq => ?_, fun l hl => ?_⟩
  · by_cases h : q = p
    · subst h; exact ⟨k, hk, upd_eq⟩
    · rw [upd_ne (by omega)]; exact A6 q hq
  · rw [upd_ne (by omega)]; exact A7 q hq
  · rw [upd_ne (by omega)]
    rcases A8 l hl with h0 | ⟨h1, F, Mn, h2, h3, h4, h5⟩
    · exact Or.inl h0
    · refine Or.inr ⟨h1, F, Mn, by rw [upd_ne (by omega)]; exact h2, by rw [upd_ne (by omega)]; exact h3, h4, ?_⟩
      exact m_vd_cong _ _ _ (fun i _ hi => (upd_ne (by omega)).symm) h5
theorem AL.fall {all : Nat → Int32} {S P T S' P' : Nat} (A : AL all S P) : AL (m_fall all S' P' T) S P := by
  unfold m_fall
  split
  · exact A
  · exact A.up (by unfold al_i; omega)
theorem fall_ne {all : Nat → Int32} {S P T a : Nat} (h : a ≠ 54) : m_fall all S P T a = all a := by
  unfold m_fall
  split
  · rfl
  · exact upd_ne h
theorem sp_moves {X : Nat × (Nat → Int32)} {d N K : Nat} {f : Nat → e_C} {s : m_T} {S P T p k : Nat} (V : MV f s) (A : AL s.1 S P) (hT : s.1 53 = nI T) (hT2 : T < 512) (hp : p < 9) (hk : k < S) : TT X (d + 7) 234 0 [.ref 171, .int (nI p), .int (nI k)] [] f N K (MP N K f (m_move s.1 S P T p k, s.2) none) := by
  simp (disch := first | omega | decide | assumption | exact Nat.le_of_ble_eq_true rfl) only [s234_0, s234_1, s234_4, s234_6, s234_7, s234_8, s234_9, s234_10, s234_14, ow_some, true_and, and_true, and_self, if_true, if_false, not_true, not_false_eq_true, Bool.false_eq_true, eq_self, Option.toList, List.cons_append, List.nil_append, ix_in, ix_cl, lt_in, lt_cl, lt_add, ix_one, vu_eq, vu_ne, arI_mk, arL_mk, arY_mZ, arY_mB, alen_mI, fld_sfl_ne, fld_sfl_same, Option.isSome_some, pok_i, b1z, b01, z10, b1o, Int32.zero_add, vu_vu, upd_eq, upd_ne, V.r1, V.r2, V.r3, V.r4, V.r16, V.r17, V.r18, V.r19, V.r20, V.r23, V.r24, V.r25, V.r26, V.r27, V.r28, V.r29, V.r30, V.c172, V.c173, V.c174, V.c186, V.c187, V.c188, V.n5, V.n13, V.n14, V.i0, V.i5, V.i6, V.i7, V.i8, V.i9, V.i10, V.i11, V.i12, V.i13, V.i14, V.i15, V.i21, V.i22]
  have V1 := (V.all (all' := upd s.1 (57 + p) (nI k)))
  refine k234_11 (cno_MR V1.mr) (Nat.le_of_ble_eq_true rfl) (sp_falls V1 (A.step hp hk) (by show upd _ _ _ _ = _; rw [upd_ne (by omega)]; exact hT) hT2) ?_
  rintro f' n' k' v ⟨rfl, rfl, rfl, sm, V2⟩
  simp (disch := first | omega | decide | assumption | exact Nat.le_of_ble_eq_true rfl) only [s234_0, s234_1, s234_4, s234_6, s234_7, s234_8, s234_9, s234_10, s234_14, ow_some, true_and, and_true, and_self, if_true, if_false, not_true, not_false_eq_true, Bool.false_eq_true, eq_self, Option.toList, List.cons_append, List.nil_append, ix_in, ix_cl, lt_in, lt_cl, lt_add, ix_one, vu_eq, vu_ne, arI_mk, arL_mk, arY_mZ, arY_mB, alen_mI, fld_sfl_ne, fld_sfl_same, Option.isSome_some, pok_i, b1z, b01, z10, b1o, Int32.zero_add, vu_vu, upd_eq, upd_ne, V2.r1, V2.r2, V2.r3, V2.r4, V2.r16, V2.r17, V2.r18, V2.r19, V2.r20, V2.r23, V2.r24, V2.r25, V2.r26, V2.r27, V2.r28, V2.r29, V2.r30, V2.c172, V2.c173, V2.c174, V2.c186, V2.c187, V2.c188, V2.n5, V2.n13, V2.n14, V2.i0, V2.i5, V2.i6, V2.i7, V2.i8, V2.i9, V2.i10, V2.i11, V2.i12, V2.i13, V2.i14, V2.i15, V2.i21, V2.i22]
  exact ⟨rfl, rfl, (SM.up (by omega) (by omega)).tr sm, V2, rfl⟩
theorem sp_propsUp {X : Nat × (Nat → Int32)} {d N K : Nat} {f : Nat → e_C} {s : m_T} {S P T k : Nat} (V : MV f s) (A : AL s.1 S P) (hT : s.1 53 = nI T) (hT2 : T < 512) (hk : k < S) : TT X (d + 7) 238 0 [.ref 171, .int (nI k)] [] f N K (MP N K f (m_prop s.1 S P T k, s.2) none) := by
  have hS := A.2.2.1
  simp (disch := first | omega | decide | assumption | exact Nat.le_of_ble_eq_true rfl) only [s238_0, s238_1, s238_4, s238_6, s238_7, s238_8, s238_9, s238_10, s238_11, s238_12, s238_13, s238_17, ow_some, true_and, and_true, and_self, if_true, if_false, not_true, not_false_eq_true, Bool.false_eq_true, eq_self, Option.toList, List.cons_append, List.nil_append, ix_in, ix_cl, lt_in, lt_cl, lt_add, ix_one, vu_eq, vu_ne, arI_mk, arL_mk, arY_mZ, arY_mB, alen_mI, fld_sfl_ne, fld_sfl_same, Option.isSome_some, pok_i, b1z, b01, z10, b1o, Int32.zero_add, vu_vu, upd_eq, upd_ne, V.r1, V.r2, V.r3, V.r4, V.r16, V.r17, V.r18, V.r19, V.r20, V.r23, V.r24, V.r25, V.r26, V.r27, V.r28, V.r29, V.r30, V.c172, V.c173, V.c174, V.c186, V.c187, V.c188, V.n5, V.n13, V.n14, V.i0, V.i5, V.i6, V.i7, V.i8, V.i9, V.i10, V.i11, V.i12, V.i13, V.i14, V.i15, V.i21, V.i22]
  have V1 := (V.all (all' := upd s.1 (84 + k) (s.1 (84 + k) + 1)))
  refine k238_14 (cno_MR V1.mr) (Nat.le_of_ble_eq_true rfl) (sp_falls V1 (A.up (by unfold al_i; omega)) (by show upd _ _ _ _ = _; rw [upd_ne (by omega)]; exact hT) hT2) ?_
  rintro f' n' k' v ⟨rfl, rfl, rfl, sm, V2⟩
  simp (disch := first | omega | decide | assumption | exact Nat.le_of_ble_eq_true rfl) only [s238_0, s238_1, s238_4, s238_6, s238_7, s238_8, s238_9, s238_10, s238_11, s238_12, s238_13, s238_17, ow_some, true_and, and_true, and_self, if_true, if_false, not_true, not_false_eq_true, Bool.false_eq_true, eq_self, Option.toList, List.cons_append, List.nil_append, ix_in, ix_cl, lt_in, lt_cl, lt_add, ix_one, vu_eq, vu_ne, arI_mk, arL_mk, arY_mZ, arY_mB, alen_mI, fld_sfl_ne, fld_sfl_same, Option.isSome_some, pok_i, b1z, b01, z10, b1o, Int32.zero_add, vu_vu, upd_eq, upd_ne, V2.r1, V2.r2, V2.r3, V2.r4, V2.r16, V2.r17, V2.r18, V2.r19, V2.r20, V2.r23, V2.r24, V2.r25, V2.r26, V2.r27, V2.r28, V2.r29, V2.r30, V2.c172, V2.c173, V2.c174, V2.c186, V2.c187, V2.c188, V2.n5, V2.n13, V2.n14, V2.i0, V2.i5, V2.i6, V2.i7, V2.i8, V2.i9, V2.i10, V2.i11, V2.i12, V2.i13, V2.i14, V2.i15, V2.i21, V2.i22]
  exact ⟨rfl, rfl, (SM.up (by omega) (by omega)).tr sm, V2, rfl⟩
theorem sp_goesDay {X : Nat × (Nat → Int32)} {d N K : Nat} {f : Nat → e_C} {s : m_T} {S P T : Nat} (V : MV f s) (A : AL s.1 S P) (hT : s.1 53 = nI T) (hT2 : T < 512) : TT X (d + 7) 240 0 [.ref 171] [] f N K (MP N K f (m_day s.1 S P T, s.2) none) := by
  simp (disch := first | omega | decide | assumption | exact Nat.le_of_ble_eq_true rfl) only [s240_0, s240_1, s240_4, s240_6, s240_7, s240_8, s240_9, s240_10, s240_11, s240_12, s240_15, s240_17, s240_18, s240_19, s240_23, ow_some, true_and, and_true, and_self, if_true, if_false, not_true, not_false_eq_true, Bool.false_eq_true, eq_self, Option.toList, List.cons_append, List.nil_append, ix_in, ix_cl, lt_in, lt_cl, lt_add, ix_one, vu_eq, vu_ne, arI_mk, arL_mk, arY_mZ, arY_mB, alen_mI, fld_sfl_ne, fld_sfl_same, Option.isSome_some, pok_i, b1z, b01, z10, b1o, Int32.zero_add, vu_vu, upd_eq, upd_ne, V.r1, V.r2, V.r3, V.r4, V.r16, V.r17, V.r18, V.r19, V.r20, V.r23, V.r24, V.r25, V.r26, V.r27, V.r28, V.r29, V.r30, V.c172, V.c173, V.c174, V.c186, V.c187, V.c188, V.n5, V.n13, V.n14, V.i0, V.i5, V.i6, V.i7, V.i8, V.i9, V.i10, V.i11, V.i12, V.i13, V.i14, V.i15, V.i21, V.i22]
  have V1 := (V.all (all' := upd (upd s.1 56 (s.1 56 + 1)) 55 0))
  refine k240_20 (cno_MR V1.mr) (Nat.le_of_ble_eq_true rfl) (sp_falls V1 ((A.up (by unfold al_i; omega)).up (by unfold al_i; omega)) (by simpa [upd] using hT) hT2) ?_
  rintro f' n' k' v ⟨rfl, rfl, rfl, sm, V2⟩
  simp (disch := first | omega | decide | assumption | exact Nat.le_of_ble_eq_true rfl) only [s240_0, s240_1, s240_4, s240_6, s240_7, s240_8, s240_9, s240_10, s240_11, s240_12, s240_15, s240_17, s240_18, s240_19, s240_23, ow_some, true_and, and_true, and_self, if_true, if_false, not_true, not_false_eq_true, Bool.false_eq_true, eq_self, Option.toList, List.cons_append, List.nil_append, ix_in, ix_cl, lt_in, lt_cl, lt_add, ix_one, vu_eq, vu_ne, arI_mk, arL_mk, arY_mZ, arY_mB, alen_mI, fld_sfl_ne, fld_sfl_same, Option.isSome_some, pok_i, b1z, b01, z10, b1o, Int32.zero_add, vu_vu, upd_eq, upd_ne, V2.r1, V2.r2, V2.r3, V2.r4, V2.r16, V2.r17, V2.r18, V2.r19, V2.r20, V2.r23, V2.r24, V2.r25, V2.r26, V2.r27, V2.r28, V2.r29, V2.r30, V2.c172, V2.c173, V2.c174, V2.c186, V2.c187, V2.c188, V2.n5, V2.n13, V2.n14, V2.i0, V2.i5, V2.i6, V2.i7, V2.i8, V2.i9, V2.i10, V2.i11, V2.i12, V2.i13, V2.i14, V2.i15, V2.i21, V2.i22]
  exact ⟨rfl, rfl, (SM.up (by omega) (by omega)).tr sm, V2, rfl⟩
/-- one comes -/
def m_come (all : Nat → Int32) (P T : Nat) (k b : Int32) : Nat → Int32 := upd (upd (upd (upd (upd all 52 (nI (P + 1))) 53 (nI (T ||| 2 ^ P))) (57 + P) k) (66 + P) b) (75 + P) (all 56)
theorem sp_comes {X : Nat × (Nat → Int32)} {d N K : Nat} {f : Nat → e_C} {s : m_T} {S P T : Nat} {k b : Int32} {a3 : Value} (V : MV f s) (A : AL s.1 S P) (hT : s.1 53 = nI T) (hT2 : T < 512) (hP : P < 9) : TT X d 231 0 [.ref 171, .int k, .int b, a3] [] f N K (MP N K f (m_come s.1 P T k b, s.2) (some (.int (nI P)))) := by
  have A4 := A.2.2.2.1
  have hb := (bit_set T hT2 P hP).1
  simp (disch := first | omega | decide | assumption | exact Nat.le_of_ble_eq_true rfl) only [s231_0, s231_1, s231_4, s231_6, s231_7, s231_8, s231_9, s231_12, s231_14, s231_15, s231_16, s231_17, s231_18, s231_19, s231_20, s231_23, s231_25, s231_26, s231_27, s231_28, s231_29, s231_30, s231_31, s231_32, s231_33, s231_36, s231_38, s231_39, s231_40, s231_41, s231_42, s231_43, s231_46, s231_48, s231_49, s231_50, s231_51, s231_52, s231_53, s231_56, s231_58, s231_59, s231_60, s231_61, s231_64, s231_66, s231_67, s231_68, s231_69, ow_some, true_and, and_true, and_self, if_true, if_false, not_true, not_false_eq_true, Bool.false_eq_true, eq_self, Option.toList, List.cons_append, List.nil_append, ix_in, ix_cl, lt_in, lt_cl, lt_add, ix_one, vu_eq, vu_ne, arI_mk, arL_mk, arY_mZ, arY_mB, alen_mI, fld_sfl_ne, fld_sfl_same, Option.isSome_some, pok_i, b1z, b01, z10, b1o, Int32.zero_add, vu_vu, upd_eq, upd_ne, V.r1, V.r2, V.r3, V.r4, V.r16, V.r17, V.r18, V.r19, V.r20, V.r23, V.r24, V.r25, V.r26, V.r27, V.r28, V.r29, V.r30, V.c172, V.c173, V.c174, V.c186, V.c187, V.c188, V.n5, V.n13, V.n14, V.i0, V.i5, V.i6, V.i7, V.i8, V.i9, V.i10, V.i11, V.i12, V.i13, V.i14, V.i15, V.i21, V.i22, A4, hT, hb]
  exact ⟨rfl, rfl, SM.up (by omega) (by omega), V.all, rfl⟩
theorem AL.come {all : Nat → Int32} {S P T k : Nat} {b : Int32} (A : AL all S P) (hP : P < 9) (hk : k < S) : AL (m_come all P T (nI k) b) S (P + 1) := by
  obtain ⟨A1, A2, A3, A4, A5, A6, A7, A8⟩ := A
  have h : ∀ i, al_i i → i ≠ 52 → i ≠ 57 + P → m_come all P T (nI k) b i = all i := by
    intro i hi h1 h2
    unfold al_i at hi
    unfold m_come
    rw [upd_ne (by omega), upd_ne (by omega), upd_ne (by omega), upd_ne (by omega), upd_ne (by omega)]
  unfold al_i at h
  refine ⟨by rw [h 1 (by omega) (by omega) (by omega)]; exact A1, A2, A3, ?_, by omega, fun q hq => ?_, fun q hq => ?_, fun l hl => ?_⟩
  · unfold m_come
    rw [upd_ne (by omega), upd_ne (by omega), upd_ne (by omega), upd_ne (by omega), upd_eq]
  · by_cases hqp : q = P
    · subst hqp
      refine ⟨k, hk, ?_⟩
      unfold m_come
      rw [upd_ne (by omega), upd_ne (by omega), upd_eq]
    · rw [h (57 + q) (by omega) (by omega) (by omega)]; exact A6 q (by omega)
  · rw [h (43 + q) (by omega) (by omega) (by omega)]; exact A7 q hq
  · rw [h (3 + l) (by omega) (by omega) (by omega)]
    rcases A8 l hl with h0 | ⟨h1, F, Mn, h2, h3, h4, h5⟩
    · exact Or.inl h0
    · refine Or.inr ⟨h1, F, Mn, by rw [h (5 + l) (by omega) (by omega) (by omega)]; exact h2, by rw [h (7 + l) (by omega) (by omega) (by omega)]; exact h3, h4, ?_⟩
      exact m_vd_cong _ _ _ (fun i _ hi => (h (494 + F + i) (by omega) (by omega) (by omega)).symm) h5
/-- why a deed can't be -/
def w_not (all : Nat → Int32) (S P T : Nat) (v : Int) : Int32 := if v = -1 then (if all 54 = 1 then 2 else 0) else if 0 ≤ v ∧ v ≤ 9 then w_see all P T v else if 100 ≤ v ∧ v ≤ 199 then w_move all S P T ((v - 100) / 10) (v % 10) else if 200 ≤ v ∧ v ≤ 209 then w_prop all S (v - 200) else 1
theorem n_m1 {v : Int64} : (lg_cmp v (-1) = 0) = (v.toInt = -1) := by
  apply propext
  rw [lg_cmp_eq]
  exact ⟨fun h => by rw [h]; rfl, fun h => Int64.toInt_inj.mp (by rw [h]; rfl)⟩
theorem n_dv : ∀ m, m < 200 → 100 ≤ m → (((nI m).toInt64 - 100) / 10).toInt = ((m : Int) - 100) / 10 ∧ ((nI m).toInt64 - (nI m).toInt64 / 10 * 10).toInt = (m : Int) % 10 := by decide +kernel
theorem n_pr : ∀ m, m < 210 → 200 ≤ m → ((nI m).toInt64 - 200).toInt = (m : Int) - 200 := by decide +kernel
theorem sp_whyNot {X : Nat × (Nat → Int32)} {d N K : Nat} {f : Nat → e_C} {s : m_T} {S P T : Nat} {v : Int64} {y : UInt64} (V : MV f s) (A : AL s.1 S P) (hT : s.1 53 = nI T) (hT2 : T < 512) : TT X (d + 4) 245 0 [.ref 171, .long v, .double y] [] f N K (MP N K f s (some (.int (w_not s.1 S P T v.toInt)))) := by
  unfold w_not
  have e : ∀ a b : Int64, (a ≤ v ∧ v ≤ b) = (a.toInt ≤ v.toInt ∧ v.toInt ≤ b.toInt) := fun a b => by rw [Int64.le_iff_toInt_le, Int64.le_iff_toInt_le]
  have i0 : (0 : Int64).toInt = 0 := by decide
  have i9 : (9 : Int64).toInt = 9 := by decide
  have i100 : (100 : Int64).toInt = 100 := by decide
  have i199 : (199 : Int64).toInt = 199 := by decide
  have i200 : (200 : Int64).toInt = 200 := by decide
  have i209 : (209 : Int64).toInt = 209 := by decide
  have t10 : ((10 : Int64) = 0) = False := eq_false (by decide)
  simp (disch := first | omega | decide | assumption | exact Nat.le_of_ble_eq_true rfl) only [s245_0, s245_1, s245_4, s245_5, ow_some, true_and, and_true, and_self, if_true, if_false, not_true, not_false_eq_true, Bool.false_eq_true, eq_self, Option.toList, List.cons_append, List.nil_append, ix_in, ix_cl, lt_in, lt_cl, lt_add, ix_one, vu_eq, vu_ne, arI_mk, arL_mk, arY_mZ, arY_mB, alen_mI, fld_sfl_ne, fld_sfl_same, Option.isSome_some, pok_i, b1z, b01, z10, b1o, Int32.zero_add, vu_vu, upd_eq, upd_ne, V.r1, V.r2, V.r3, V.r4, V.r16, V.r17, V.r18, V.r19, V.r20, V.r23, V.r24, V.r25, V.r26, V.r27, V.r28, V.r29, V.r30, V.c172, V.c173, V.c174, V.c186, V.c187, V.c188, V.n5, V.n13, V.n14, V.i0, V.i5, V.i6, V.i7, V.i8, V.i9, V.i10, V.i11, V.i12, V.i13, V.i14, V.i15, V.i21, V.i22, n_m1]
  by_cases h1 : v.toInt = -1
  · simp only [h1, not_true, if_false, if_true]
    simp (disch := first | omega | decide | assumption | exact Nat.le_of_ble_eq_true rfl) only [s245_0, s245_1, s245_4, s245_5, s245_8, s245_9, s245_12, s245_14, s245_15, s245_16, s245_19, s245_20, s245_23, s245_24, s245_25, s245_26, s245_27, s245_33, s245_36, s245_37, s245_41, s245_42, s245_43, s245_46, s245_52, s245_55, s245_56, s245_57, s245_60, s245_61, s245_64, s245_65, s245_66, s245_69, s245_73, s245_74, s245_75, s245_78, s245_84, s245_87, s245_88, s245_89, s245_92, s245_96, s245_99, s245_100, ow_some, true_and, and_true, and_self, if_true, if_false, not_true, not_false_eq_true, Bool.false_eq_true, eq_self, Option.toList, List.cons_append, List.nil_append, ix_in, ix_cl, lt_in, lt_cl, lt_add, ix_one, vu_eq, vu_ne, arI_mk, arL_mk, arY_mZ, arY_mB, alen_mI, fld_sfl_ne, fld_sfl_same, Option.isSome_some, pok_i, b1z, b01, z10, b1o, Int32.zero_add, vu_vu, upd_eq, upd_ne, V.r1, V.r2, V.r3, V.r4, V.r16, V.r17, V.r18, V.r19, V.r20, V.r23, V.r24, V.r25, V.r26, V.r27, V.r28, V.r29, V.r30, V.c172, V.c173, V.c174, V.c186, V.c187, V.c188, V.n5, V.n13, V.n14, V.i0, V.i5, V.i6, V.i7, V.i8, V.i9, V.i10, V.i11, V.i12, V.i13, V.i14, V.i15, V.i21, V.i22]
    by_cases h54 : s.1 54 = 1
    · simp only [h54, not_true, if_false, if_true]
      exact ⟨rfl, rfl, SM.rf, V, rfl⟩
    · simp only [h54, not_false_eq_true, if_false, if_true]
      exact ⟨rfl, rfl, SM.rf, V, rfl⟩
  · simp only [h1, not_false_eq_true, if_true, if_false]
    simp (disch := first | omega | decide | assumption | exact Nat.le_of_ble_eq_true rfl) only [s245_25, s245_26, s245_27, ow_some, true_and, and_true, and_self, if_true, if_false, not_true, not_false_eq_true, Bool.false_eq_true, eq_self, Option.toList, List.cons_append, List.nil_append, ix_in, ix_cl, lt_in, lt_cl, lt_add, ix_one, vu_eq, vu_ne, arI_mk, arL_mk, arY_mZ, arY_mB, alen_mI, fld_sfl_ne, fld_sfl_same, Option.isSome_some, pok_i, b1z, b01, z10, b1o, Int32.zero_add, vu_vu, upd_eq, upd_ne, V.r1, V.r2, V.r3, V.r4, V.r16, V.r17, V.r18, V.r19, V.r20, V.r23, V.r24, V.r25, V.r26, V.r27, V.r28, V.r29, V.r30, V.c172, V.c173, V.c174, V.c186, V.c187, V.c188, V.n5, V.n13, V.n14, V.i0, V.i5, V.i6, V.i7, V.i8, V.i9, V.i10, V.i11, V.i12, V.i13, V.i14, V.i15, V.i21, V.i22]
    rw [p245_30 (Nat.le_of_ble_eq_true rfl) sp_within]
    simp only [e, i0, i9]
    by_cases h2 : 0 ≤ v.toInt ∧ v.toInt ≤ 9
    · simp only [h2, if_true, and_self]
      simp (disch := first | omega | decide | assumption | exact Nat.le_of_ble_eq_true rfl) only [s245_33, s245_36, s245_37, ow_some, true_and, and_true, and_self, if_true, if_false, not_true, not_false_eq_true, Bool.false_eq_true, eq_self, Option.toList, List.cons_append, List.nil_append, ix_in, ix_cl, lt_in, lt_cl, lt_add, ix_one, vu_eq, vu_ne, arI_mk, arL_mk, arY_mZ, arY_mB, alen_mI, fld_sfl_ne, fld_sfl_same, Option.isSome_some, pok_i, b1z, b01, z10, b1o, Int32.zero_add, vu_vu, upd_eq, upd_ne, V.r1, V.r2, V.r3, V.r4, V.r16, V.r17, V.r18, V.r19, V.r20, V.r23, V.r24, V.r25, V.r26, V.r27, V.r28, V.r29, V.r30, V.c172, V.c173, V.c174, V.c186, V.c187, V.c188, V.n5, V.n13, V.n14, V.i0, V.i5, V.i6, V.i7, V.i8, V.i9, V.i10, V.i11, V.i12, V.i13, V.i14, V.i15, V.i21, V.i22]
      refine k245_38 (cno_MR V.mr) (Nat.le_of_ble_eq_true rfl) (sp_whySee V A hT hT2) ?_
      rintro f' n' k' w ⟨rfl, rfl, sm, V1, rfl⟩
      simp (disch := first | omega | decide | assumption | exact Nat.le_of_ble_eq_true rfl) only [s245_41, ow_some, true_and, and_true, and_self, if_true, if_false, not_true, not_false_eq_true, Bool.false_eq_true, eq_self, Option.toList, List.cons_append, List.nil_append, ix_in, ix_cl, lt_in, lt_cl, lt_add, ix_one, vu_eq, vu_ne, arI_mk, arL_mk, arY_mZ, arY_mB, alen_mI, fld_sfl_ne, fld_sfl_same, Option.isSome_some, pok_i, b1z, b01, z10, b1o, Int32.zero_add, vu_vu, upd_eq, upd_ne, V1.r1, V1.r2, V1.r3, V1.r4, V1.r16, V1.r17, V1.r18, V1.r19, V1.r20, V1.r23, V1.r24, V1.r25, V1.r26, V1.r27, V1.r28, V1.r29, V1.r30, V1.c172, V1.c173, V1.c174, V1.c186, V1.c187, V1.c188, V1.n5, V1.n13, V1.n14, V1.i0, V1.i5, V1.i6, V1.i7, V1.i8, V1.i9, V1.i10, V1.i11, V1.i12, V1.i13, V1.i14, V1.i15, V1.i21, V1.i22]
      exact ⟨rfl, rfl, sm, V1, rfl⟩
    · simp only [h2, if_false]
      simp (disch := first | omega | decide | assumption | exact Nat.le_of_ble_eq_true rfl) only [s245_33, s245_36, s245_37, s245_41, s245_42, s245_43, s245_46, ow_some, true_and, and_true, and_self, if_true, if_false, not_true, not_false_eq_true, Bool.false_eq_true, eq_self, Option.toList, List.cons_append, List.nil_append, ix_in, ix_cl, lt_in, lt_cl, lt_add, ix_one, vu_eq, vu_ne, arI_mk, arL_mk, arY_mZ, arY_mB, alen_mI, fld_sfl_ne, fld_sfl_same, Option.isSome_some, pok_i, b1z, b01, z10, b1o, Int32.zero_add, vu_vu, upd_eq, upd_ne, V.r1, V.r2, V.r3, V.r4, V.r16, V.r17, V.r18, V.r19, V.r20, V.r23, V.r24, V.r25, V.r26, V.r27, V.r28, V.r29, V.r30, V.c172, V.c173, V.c174, V.c186, V.c187, V.c188, V.n5, V.n13, V.n14, V.i0, V.i5, V.i6, V.i7, V.i8, V.i9, V.i10, V.i11, V.i12, V.i13, V.i14, V.i15, V.i21, V.i22]
      rw [p245_49 (Nat.le_of_ble_eq_true rfl) sp_within]
      simp only [e, i100, i199]
      by_cases h3 : 100 ≤ v.toInt ∧ v.toInt ≤ 199
      · obtain ⟨m, hm, rfl, hv⟩ := l9 (v := v) (N := 200) (by omega) (by omega) (by omega)
        have h3' : 100 ≤ (m : Int) ∧ (m : Int) ≤ 199 := by omega
        obtain ⟨q1, q2⟩ := n_dv m hm (by omega)
        simp only [hv, h3', if_true, and_self]
        simp (disch := first | omega | decide | assumption | exact Nat.le_of_ble_eq_true rfl) only [s245_52, s245_55, s245_56, s245_57, s245_60, s245_61, s245_64, s245_65, s245_66, s245_69, ow_some, true_and, and_true, and_self, if_true, if_false, not_true, not_false_eq_true, Bool.false_eq_true, eq_self, Option.toList, List.cons_append, List.nil_append, ix_in, ix_cl, lt_in, lt_cl, lt_add, ix_one, vu_eq, vu_ne, arI_mk, arL_mk, arY_mZ, arY_mB, alen_mI, fld_sfl_ne, fld_sfl_same, Option.isSome_some, pok_i, b1z, b01, z10, b1o, Int32.zero_add, vu_vu, upd_eq, upd_ne, V.r1, V.r2, V.r3, V.r4, V.r16, V.r17, V.r18, V.r19, V.r20, V.r23, V.r24, V.r25, V.r26, V.r27, V.r28, V.r29, V.r30, V.c172, V.c173, V.c174, V.c186, V.c187, V.c188, V.n5, V.n13, V.n14, V.i0, V.i5, V.i6, V.i7, V.i8, V.i9, V.i10, V.i11, V.i12, V.i13, V.i14, V.i15, V.i21, V.i22, t10, ne_eq]
        rw [p245_70 (cno_MR V.mr) (Nat.le_of_ble_eq_true rfl) (sp_whyMove V A hT hT2)]
        simp (disch := first | omega | decide | assumption | exact Nat.le_of_ble_eq_true rfl) only [s245_73, ow_some, true_and, and_true, and_self, if_true, if_false, not_true, not_false_eq_true, Bool.false_eq_true, eq_self, Option.toList, List.cons_append, List.nil_append, ix_in, ix_cl, lt_in, lt_cl, lt_add, ix_one, vu_eq, vu_ne, arI_mk, arL_mk, arY_mZ, arY_mB, alen_mI, fld_sfl_ne, fld_sfl_same, Option.isSome_some, pok_i, b1z, b01, z10, b1o, Int32.zero_add, vu_vu, upd_eq, upd_ne, V.r1, V.r2, V.r3, V.r4, V.r16, V.r17, V.r18, V.r19, V.r20, V.r23, V.r24, V.r25, V.r26, V.r27, V.r28, V.r29, V.r30, V.c172, V.c173, V.c174, V.c186, V.c187, V.c188, V.n5, V.n13, V.n14, V.i0, V.i5, V.i6, V.i7, V.i8, V.i9, V.i10, V.i11, V.i12, V.i13, V.i14, V.i15, V.i21, V.i22]
        rw [q1, q2]
        exact ⟨rfl, rfl, SM.rf, V, rfl⟩
      · simp only [h3, if_false]
        simp (disch := first | omega | decide | assumption | exact Nat.le_of_ble_eq_true rfl) only [s245_52, s245_74, s245_75, s245_78, ow_some, true_and, and_true, and_self, if_true, if_false, not_true, not_false_eq_true, Bool.false_eq_true, eq_self, Option.toList, List.cons_append, List.nil_append, ix_in, ix_cl, lt_in, lt_cl, lt_add, ix_one, vu_eq, vu_ne, arI_mk, arL_mk, arY_mZ, arY_mB, alen_mI, fld_sfl_ne, fld_sfl_same, Option.isSome_some, pok_i, b1z, b01, z10, b1o, Int32.zero_add, vu_vu, upd_eq, upd_ne, V.r1, V.r2, V.r3, V.r4, V.r16, V.r17, V.r18, V.r19, V.r20, V.r23, V.r24, V.r25, V.r26, V.r27, V.r28, V.r29, V.r30, V.c172, V.c173, V.c174, V.c186, V.c187, V.c188, V.n5, V.n13, V.n14, V.i0, V.i5, V.i6, V.i7, V.i8, V.i9, V.i10, V.i11, V.i12, V.i13, V.i14, V.i15, V.i21, V.i22]
        rw [p245_81 (Nat.le_of_ble_eq_true rfl) sp_within]
        simp only [e, i200, i209]
        by_cases h4 : 200 ≤ v.toInt ∧ v.toInt ≤ 209
        · obtain ⟨m, hm, rfl, hv⟩ := l9 (v := v) (N := 210) (by omega) (by omega) (by omega)
          have h4' : 200 ≤ (m : Int) ∧ (m : Int) ≤ 209 := by omega
          have q1 := n_pr m hm (by omega)
          simp only [hv, h4', if_true, and_self]
          simp (disch := first | omega | decide | assumption | exact Nat.le_of_ble_eq_true rfl) only [s245_84, s245_87, s245_88, s245_89, s245_92, ow_some, true_and, and_true, and_self, if_true, if_false, not_true, not_false_eq_true, Bool.false_eq_true, eq_self, Option.toList, List.cons_append, List.nil_append, ix_in, ix_cl, lt_in, lt_cl, lt_add, ix_one, vu_eq, vu_ne, arI_mk, arL_mk, arY_mZ, arY_mB, alen_mI, fld_sfl_ne, fld_sfl_same, Option.isSome_some, pok_i, b1z, b01, z10, b1o, Int32.zero_add, vu_vu, upd_eq, upd_ne, V.r1, V.r2, V.r3, V.r4, V.r16, V.r17, V.r18, V.r19, V.r20, V.r23, V.r24, V.r25, V.r26, V.r27, V.r28, V.r29, V.r30, V.c172, V.c173, V.c174, V.c186, V.c187, V.c188, V.n5, V.n13, V.n14, V.i0, V.i5, V.i6, V.i7, V.i8, V.i9, V.i10, V.i11, V.i12, V.i13, V.i14, V.i15, V.i21, V.i22]
          rw [p245_93 (cno_MR V.mr) (Nat.le_of_ble_eq_true rfl) (sp_whyProp V A)]
          simp (disch := first | omega | decide | assumption | exact Nat.le_of_ble_eq_true rfl) only [s245_96, s245_99, s245_100, ow_some, true_and, and_true, and_self, if_true, if_false, not_true, not_false_eq_true, Bool.false_eq_true, eq_self, Option.toList, List.cons_append, List.nil_append, ix_in, ix_cl, lt_in, lt_cl, lt_add, ix_one, vu_eq, vu_ne, arI_mk, arL_mk, arY_mZ, arY_mB, alen_mI, fld_sfl_ne, fld_sfl_same, Option.isSome_some, pok_i, b1z, b01, z10, b1o, Int32.zero_add, vu_vu, upd_eq, upd_ne, V.r1, V.r2, V.r3, V.r4, V.r16, V.r17, V.r18, V.r19, V.r20, V.r23, V.r24, V.r25, V.r26, V.r27, V.r28, V.r29, V.r30, V.c172, V.c173, V.c174, V.c186, V.c187, V.c188, V.n5, V.n13, V.n14, V.i0, V.i5, V.i6, V.i7, V.i8, V.i9, V.i10, V.i11, V.i12, V.i13, V.i14, V.i15, V.i21, V.i22]
          rw [q1]
          exact ⟨rfl, rfl, SM.rf, V, rfl⟩
        · simp only [h4, if_false]
          simp (disch := first | omega | decide | assumption | exact Nat.le_of_ble_eq_true rfl) only [s245_84, s245_99, s245_100, ow_some, true_and, and_true, and_self, if_true, if_false, not_true, not_false_eq_true, Bool.false_eq_true, eq_self, Option.toList, List.cons_append, List.nil_append, ix_in, ix_cl, lt_in, lt_cl, lt_add, ix_one, vu_eq, vu_ne, arI_mk, arL_mk, arY_mZ, arY_mB, alen_mI, fld_sfl_ne, fld_sfl_same, Option.isSome_some, pok_i, b1z, b01, z10, b1o, Int32.zero_add, vu_vu, upd_eq, upd_ne, V.r1, V.r2, V.r3, V.r4, V.r16, V.r17, V.r18, V.r19, V.r20, V.r23, V.r24, V.r25, V.r26, V.r27, V.r28, V.r29, V.r30, V.c172, V.c173, V.c174, V.c186, V.c187, V.c188, V.n5, V.n13, V.n14, V.i0, V.i5, V.i6, V.i7, V.i8, V.i9, V.i10, V.i11, V.i12, V.i13, V.i14, V.i15, V.i21, V.i22]
          exact ⟨rfl, rfl, SM.rf, V, rfl⟩

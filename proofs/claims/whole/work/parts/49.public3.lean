/-! the reference: years -/
def d_n (x : Int32) : Int × Int32 := if d_v x % 5 = 0 then (-1, d_x x) else if d_v x % 5 = 4 then (((200 + d_v (d_x x) % 8 : Nat) : Int), d_x (d_x x)) else if d_v x % 5 < 3 then (((d_v (d_x x) % 9 : Nat) : Int), d_x (d_x x)) else (((100 + 10 * (d_v (d_x x) % 9) + d_v (d_x (d_x x)) % 8 : Nat) : Int), d_x (d_x (d_x x)))
theorem sp_drawn {X : Nat × (Nat → Int32)} {d N K : Nat} {f : Nat → e_C} {s : m_T} {x : Int32} {a1 a2 : Value} (V : MV f s) (hx : fld (f 171) 12 22 = some (.int x)) : TT X (d + 1) 250 0 [.ref 171, a1, a2] [] f N K (fun f' n' k' v => n' = N ∧ k' = K ∧ SM f f' ∧ MV f' s ∧ (∃ y, v = some (.int y) ∧ y.toInt = (d_n x).1) ∧ fld (f' 171) 12 22 = some (.int (d_n x).2)) := by
  have hlt : d_v x % 5 < 5 := Nat.mod_lt _ (by decide)
  simp (disch := first | omega | decide | assumption | exact Nat.le_of_ble_eq_true rfl) only [s250_0, s250_1, ow_some, true_and, and_true, and_self, if_true, if_false, not_true, not_false_eq_true, Bool.false_eq_true, eq_self, Option.toList, List.cons_append, List.nil_append, ix_in, ix_cl, lt_in, lt_cl, lt_add, ix_one, vu_eq, vu_ne, arI_mk, arL_mk, arY_mZ, arY_mB, alen_mI, fld_sfl_ne, fld_sfl_same, Option.isSome_some, pok_i, b1z, b01, z10, b1o, Int32.zero_add, vu_vu, upd_eq, upd_ne, V.r1, V.r2, V.r3, V.r4, V.r16, V.r17, V.r18, V.r19, V.r20, V.r23, V.r24, V.r25, V.r26, V.r27, V.r28, V.r29, V.r30, V.c172, V.c173, V.c174, V.c186, V.c187, V.c188, V.n5, V.n13, V.n14, V.i0, V.i5, V.i6, V.i7, V.i8, V.i9, V.i10, V.i11, V.i12, V.i13, V.i14, V.i15, V.i21, V.i22]
  refine k250_2 (cno_MR V.mr) (Nat.le_of_ble_eq_true rfl) (sp_draw (b := 5) V hx (by decide) (by decide)) ?_
  rintro f1 n1 k1 v1 ⟨rfl, rfl, sm1, V1, rfl, hx1, sx1⟩
  have e0 : (nI (d_v x % 5) = 0) = (d_v x % 5 = 0) := tl_eq (c := 0) (by decide) (by omega)
  have e4 : (nI (d_v x % 5) = 4) = (d_v x % 5 = 4) := tl_eq (c := 4) (by decide) (by omega)
  have e3 : (3 ≤ nI (d_v x % 5)) = (3 ≤ d_v x % 5) := lt_le (by decide) (by omega)
  unfold d_n
  by_cases h0 : d_v x % 5 = 0
  · rw [if_pos h0]
    simp (disch := first | omega | decide | assumption | exact Nat.le_of_ble_eq_true rfl) only [s250_5, s250_6, s250_7, s250_10, s250_11, ow_some, true_and, and_true, and_self, if_true, if_false, not_true, not_false_eq_true, Bool.false_eq_true, eq_self, Option.toList, List.cons_append, List.nil_append, ix_in, ix_cl, lt_in, lt_cl, lt_add, ix_one, vu_eq, vu_ne, arI_mk, arL_mk, arY_mZ, arY_mB, alen_mI, fld_sfl_ne, fld_sfl_same, Option.isSome_some, pok_i, b1z, b01, z10, b1o, Int32.zero_add, vu_vu, upd_eq, upd_ne, V1.r1, V1.r2, V1.r3, V1.r4, V1.r16, V1.r17, V1.r18, V1.r19, V1.r20, V1.r23, V1.r24, V1.r25, V1.r26, V1.r27, V1.r28, V1.r29, V1.r30, V1.c172, V1.c173, V1.c174, V1.c186, V1.c187, V1.c188, V1.n5, V1.n13, V1.n14, V1.i0, V1.i5, V1.i6, V1.i7, V1.i8, V1.i9, V1.i10, V1.i11, V1.i12, V1.i13, V1.i14, V1.i15, V1.i21, V1.i22, e0, h0]
    exact ⟨sm1, V1, ⟨_, rfl, by decide⟩, hx1⟩
  · rw [if_neg h0]
    by_cases h4 : d_v x % 5 = 4
    · rw [if_pos h4]
      simp (disch := first | omega | decide | assumption | exact Nat.le_of_ble_eq_true rfl) only [s250_5, s250_6, s250_7, s250_10, s250_11, s250_12, s250_13, s250_14, s250_17, s250_20, s250_21, ow_some, true_and, and_true, and_self, if_true, if_false, not_true, not_false_eq_true, Bool.false_eq_true, eq_self, Option.toList, List.cons_append, List.nil_append, ix_in, ix_cl, lt_in, lt_cl, lt_add, ix_one, vu_eq, vu_ne, arI_mk, arL_mk, arY_mZ, arY_mB, alen_mI, fld_sfl_ne, fld_sfl_same, Option.isSome_some, pok_i, b1z, b01, z10, b1o, Int32.zero_add, vu_vu, upd_eq, upd_ne, V1.r1, V1.r2, V1.r3, V1.r4, V1.r16, V1.r17, V1.r18, V1.r19, V1.r20, V1.r23, V1.r24, V1.r25, V1.r26, V1.r27, V1.r28, V1.r29, V1.r30, V1.c172, V1.c173, V1.c174, V1.c186, V1.c187, V1.c188, V1.n5, V1.n13, V1.n14, V1.i0, V1.i5, V1.i6, V1.i7, V1.i8, V1.i9, V1.i10, V1.i11, V1.i12, V1.i13, V1.i14, V1.i15, V1.i21, V1.i22, e0, h0, e4, h4]
      refine k250_23 (cno_MR V1.mr) (Nat.le_of_ble_eq_true rfl) (sp_draw (b := 8) V1 hx1 (by decide) (by decide)) ?_
      rintro f2 n2 k2 v2 ⟨rfl, rfl, sm2, V2, rfl, hx2, sx2⟩
      have h8 : d_v (d_x x) % 8 < 8 := Nat.mod_lt _ (by decide)
      simp (disch := first | omega | decide | assumption | exact Nat.le_of_ble_eq_true rfl) only [s250_26, s250_27, ow_some, true_and, and_true, and_self, if_true, if_false, not_true, not_false_eq_true, Bool.false_eq_true, eq_self, Option.toList, List.cons_append, List.nil_append, ix_in, ix_cl, lt_in, lt_cl, lt_add, ix_one, vu_eq, vu_ne, arI_mk, arL_mk, arY_mZ, arY_mB, alen_mI, fld_sfl_ne, fld_sfl_same, Option.isSome_some, pok_i, b1z, b01, z10, b1o, Int32.zero_add, vu_vu, upd_eq, upd_ne, V2.r1, V2.r2, V2.r3, V2.r4, V2.r16, V2.r17, V2.r18, V2.r19, V2.r20, V2.r23, V2.r24, V2.r25, V2.r26, V2.r27, V2.r28, V2.r29, V2.r30, V2.c172, V2.c173, V2.c174, V2.c186, V2.c187, V2.c188, V2.n5, V2.n13, V2.n14, V2.i0, V2.i5, V2.i6, V2.i7, V2.i8, V2.i9, V2.i10, V2.i11, V2.i12, V2.i13, V2.i14, V2.i15, V2.i21, V2.i22]
      exact ⟨sm1.tr sm2, V2, ⟨_, rfl, nI_toInt (by omega)⟩, hx2⟩
    · rw [if_neg h4]
      simp (disch := first | omega | decide | assumption | exact Nat.le_of_ble_eq_true rfl) only [s250_5, s250_6, s250_7, s250_10, s250_11, s250_12, s250_13, s250_14, s250_17, s250_20, s250_21, s250_26, s250_27, s250_28, s250_29, ow_some, true_and, and_true, and_self, if_true, if_false, not_true, not_false_eq_true, Bool.false_eq_true, eq_self, Option.toList, List.cons_append, List.nil_append, ix_in, ix_cl, lt_in, lt_cl, lt_add, ix_one, vu_eq, vu_ne, arI_mk, arL_mk, arY_mZ, arY_mB, alen_mI, fld_sfl_ne, fld_sfl_same, Option.isSome_some, pok_i, b1z, b01, z10, b1o, Int32.zero_add, vu_vu, upd_eq, upd_ne, V1.r1, V1.r2, V1.r3, V1.r4, V1.r16, V1.r17, V1.r18, V1.r19, V1.r20, V1.r23, V1.r24, V1.r25, V1.r26, V1.r27, V1.r28, V1.r29, V1.r30, V1.c172, V1.c173, V1.c174, V1.c186, V1.c187, V1.c188, V1.n5, V1.n13, V1.n14, V1.i0, V1.i5, V1.i6, V1.i7, V1.i8, V1.i9, V1.i10, V1.i11, V1.i12, V1.i13, V1.i14, V1.i15, V1.i21, V1.i22, e0, h0, e4, h4]
      refine k250_31 (cno_MR V1.mr) (Nat.le_of_ble_eq_true rfl) (sp_draw (b := 9) V1 hx1 (by decide) (by decide)) ?_
      rintro f2 n2 k2 v2 ⟨rfl, rfl, sm2, V2, rfl, hx2, sx2⟩
      have h9 : d_v (d_x x) % 9 < 9 := Nat.mod_lt _ (by decide)
      by_cases h3 : d_v x % 5 < 3
      · rw [if_pos h3]
        have c3 : (3 ≤ d_v x % 5) = False := eq_false (by omega)
        simp (disch := first | omega | decide | assumption | exact Nat.le_of_ble_eq_true rfl) only [s250_34, s250_35, s250_36, s250_37, s250_40, s250_41, s250_44, s250_46, s250_48, s250_49, s250_50, s250_51, s250_52, s250_57, s250_58, ow_some, true_and, and_true, and_self, if_true, if_false, not_true, not_false_eq_true, Bool.false_eq_true, eq_self, Option.toList, List.cons_append, List.nil_append, ix_in, ix_cl, lt_in, lt_cl, lt_add, ix_one, vu_eq, vu_ne, arI_mk, arL_mk, arY_mZ, arY_mB, alen_mI, fld_sfl_ne, fld_sfl_same, Option.isSome_some, pok_i, b1z, b01, z10, b1o, Int32.zero_add, vu_vu, upd_eq, upd_ne, V2.r1, V2.r2, V2.r3, V2.r4, V2.r16, V2.r17, V2.r18, V2.r19, V2.r20, V2.r23, V2.r24, V2.r25, V2.r26, V2.r27, V2.r28, V2.r29, V2.r30, V2.c172, V2.c173, V2.c174, V2.c186, V2.c187, V2.c188, V2.n5, V2.n13, V2.n14, V2.i0, V2.i5, V2.i6, V2.i7, V2.i8, V2.i9, V2.i10, V2.i11, V2.i12, V2.i13, V2.i14, V2.i15, V2.i21, V2.i22, e3, c3]
        exact ⟨sm1.tr sm2, V2, ⟨_, rfl, nI_toInt (by omega)⟩, hx2⟩
      · rw [if_neg h3]
        have c3 : (3 ≤ d_v x % 5) = True := eq_true (by omega)
        have e10 : (10 : Int32) * nI (d_v (d_x x) % 9) = nI (10 * (d_v (d_x x) % 9)) := by rw [lit_nI 10, pk_mul]
        simp (disch := first | omega | decide | assumption | exact Nat.le_of_ble_eq_true rfl) only [s250_34, s250_35, s250_36, s250_37, s250_40, s250_41, s250_44, s250_46, s250_48, s250_49, s250_50, s250_51, s250_52, ow_some, true_and, and_true, and_self, if_true, if_false, not_true, not_false_eq_true, Bool.false_eq_true, eq_self, Option.toList, List.cons_append, List.nil_append, ix_in, ix_cl, lt_in, lt_cl, lt_add, ix_one, vu_eq, vu_ne, arI_mk, arL_mk, arY_mZ, arY_mB, alen_mI, fld_sfl_ne, fld_sfl_same, Option.isSome_some, pok_i, b1z, b01, z10, b1o, Int32.zero_add, vu_vu, upd_eq, upd_ne, V2.r1, V2.r2, V2.r3, V2.r4, V2.r16, V2.r17, V2.r18, V2.r19, V2.r20, V2.r23, V2.r24, V2.r25, V2.r26, V2.r27, V2.r28, V2.r29, V2.r30, V2.c172, V2.c173, V2.c174, V2.c186, V2.c187, V2.c188, V2.n5, V2.n13, V2.n14, V2.i0, V2.i5, V2.i6, V2.i7, V2.i8, V2.i9, V2.i10, V2.i11, V2.i12, V2.i13, V2.i14, V2.i15, V2.i21, V2.i22, e3, c3, e10]
        refine k250_54 (cno_MR V2.mr) (Nat.le_of_ble_eq_true rfl) (sp_draw (b := 8) V2 hx2 (by decide) (by decide)) ?_
        rintro f3 n3 k3 v3 ⟨rfl, rfl, sm3, V3, rfl, hx3, sx3⟩
        have h8 : d_v (d_x (d_x x)) % 8 < 8 := Nat.mod_lt _ (by decide)
        simp (disch := first | omega | decide | assumption | exact Nat.le_of_ble_eq_true rfl) only [s250_57, s250_58, ow_some, true_and, and_true, and_self, if_true, if_false, not_true, not_false_eq_true, Bool.false_eq_true, eq_self, Option.toList, List.cons_append, List.nil_append, ix_in, ix_cl, lt_in, lt_cl, lt_add, ix_one, vu_eq, vu_ne, arI_mk, arL_mk, arY_mZ, arY_mB, alen_mI, fld_sfl_ne, fld_sfl_same, Option.isSome_some, pok_i, b1z, b01, z10, b1o, Int32.zero_add, vu_vu, upd_eq, upd_ne, V3.r1, V3.r2, V3.r3, V3.r4, V3.r16, V3.r17, V3.r18, V3.r19, V3.r20, V3.r23, V3.r24, V3.r25, V3.r26, V3.r27, V3.r28, V3.r29, V3.r30, V3.c172, V3.c173, V3.c174, V3.c186, V3.c187, V3.c188, V3.n5, V3.n13, V3.n14, V3.i0, V3.i5, V3.i6, V3.i7, V3.i8, V3.i9, V3.i10, V3.i11, V3.i12, V3.i13, V3.i14, V3.i15, V3.i21, V3.i22, nI_add]
        exact ⟨(sm1.tr sm2).tr sm3, V3, ⟨_, rfl, nI_toInt (by omega)⟩, hx3⟩
def m_year (S P : Nat) : Nat → Int32 → Nat → (Nat → Int32) → Nat × (Nat → Int32)
  | 0, _, k, all => (k, all)
  | m + 1, x, k, all => if w_not all S P (nT all) (d_n x).1 = 0 then m_year S P m (d_n x).2 (k + 1) (m_does all S P (d_n x).1) else m_year S P m (d_n x).2 k all
theorem year_hi {S P a : Nat} (hS : S ≤ 8) (hP : P ≤ 9) (ha : a < 52 ∨ 92 ≤ a) : ∀ (m : Nat) (x : Int32) (k : Nat) (all : Nat → Int32), (m_year S P m x k all).2 a = all a := by
  intro m
  induction m with
  | zero => intro x k all; rfl
  | succ m ih =>
    intro x k all
    unfold m_year
    split
    · next h => rw [ih, does_hi hS hP h ha]
    · rw [ih]
theorem year_WF {S P : Nat} : ∀ (m : Nat) (x : Int32) (k : Nat) (all : Nat → Int32), WF all S P → WF (m_year S P m x k all).2 S P := by
  intro m
  induction m with
  | zero => intro x k all W; exact W
  | succ m ih =>
    intro x k all W
    unfold m_year
    split
    · next h => exact ih _ _ _ (W.does h)
    · exact ih _ _ _ W
def o_year (all : Nat → Int32) (S P D : Nat) (x n : Int32) : (Nat → Int32) × Int32 := if 1 ≤ n.toInt ∧ n.toInt ≤ 40 then (if (m_year S P n.toInt.toNat x 0 all).1 = 0 then ((m_year S P n.toInt.toNat x 0 all).2, 0) else (m_note (m_year S P n.toInt.toNat x 0 all).2 (m_kept all) D, nI (m_year S P n.toInt.toNat x 0 all).1)) else (all, -3)
theorem sp_year {X : Nat × (Nat → Int32)} {d N K : Nat} {f : Nat → e_C} {s : m_T} {S P : Nat} (V : MV f s) (W : WF s.1 S P) {D : Nat} (hD : s.1 92 = nI D) (hD2 : D ≤ 10) (hN : 189 ≤ N) {x n : Int32} {a3 a4 a5 : Value} : TT X (d + 9) 249 0 [.ref 171, .int x, .int n, a3, a4, a5] [] f N K (MZ N K f (o_year s.1 S P D x n) s.2) := by
  simp only [s249_0, s249_1, s249_2, V.i0, pok_i, true_and]
  have sm0 : SM f (va_up f 171 (sfl (f 171) 0 (.int 0))) := SM.up (by omega) (by omega)
  have V0 := V.num (j := 0) (x := 0) (by decide)
  generalize va_up f 171 (sfl (f 171) 0 (.int 0)) = f0 at sm0 V0 ⊢
  simp (disch := first | omega | decide | assumption | exact Nat.le_of_ble_eq_true rfl) only [s249_5, s249_6, s249_7, s249_8, ow_some, true_and, and_true, and_self, if_true, if_false, not_true, not_false_eq_true, Bool.false_eq_true, eq_self, Option.toList, List.cons_append, List.nil_append, ix_in, ix_cl, lt_in, lt_cl, lt_add, ix_one, vu_eq, vu_ne, arI_mk, arL_mk, arY_mZ, arY_mB, alen_mI, fld_sfl_ne, fld_sfl_same, Option.isSome_some, pok_i, b1z, b01, z10, b1o, Int32.zero_add, vu_vu, upd_eq, upd_ne, V0.r1, V0.r2, V0.r3, V0.r4, V0.r16, V0.r17, V0.r18, V0.r19, V0.r20, V0.r23, V0.r24, V0.r25, V0.r26, V0.r27, V0.r28, V0.r29, V0.r30, V0.c172, V0.c173, V0.c174, V0.c186, V0.c187, V0.c188, V0.n5, V0.n13, V0.n14, V0.i0, V0.i5, V0.i6, V0.i7, V0.i8, V0.i9, V0.i10, V0.i11, V0.i12, V0.i13, V0.i14, V0.i15, V0.i21, V0.i22]
  rw [p249_11 (Nat.le_of_ble_eq_true rfl) sp_within]
  unfold o_year
  have e : (1 ≤ n.toInt64 ∧ n.toInt64 ≤ 40) = (1 ≤ n.toInt ∧ n.toInt ≤ 40) := wth (a := 1) (b := 40) (by decide) (by decide)
  simp only [e]
  by_cases h1 : 1 ≤ n.toInt ∧ n.toInt ≤ 40
  · obtain ⟨M, hM, rfl, hv⟩ := i9 (v := n) (N := 41) (by omega) (by omega) (by omega)
    simp only [hv] at h1 ⊢
    rw [if_pos h1, Int.toNat_natCast]
    simp (disch := first | omega | decide | assumption | exact Nat.le_of_ble_eq_true rfl) only [s249_14, s249_17, s249_19, s249_20, ow_some, true_and, and_true, and_self, if_true, if_false, not_true, not_false_eq_true, Bool.false_eq_true, eq_self, Option.toList, List.cons_append, List.nil_append, ix_in, ix_cl, lt_in, lt_cl, lt_add, ix_one, vu_eq, vu_ne, arI_mk, arL_mk, arY_mZ, arY_mB, alen_mI, fld_sfl_ne, fld_sfl_same, Option.isSome_some, pok_i, b1z, b01, z10, b1o, Int32.zero_add, vu_vu, upd_eq, upd_ne, V0.r1, V0.r2, V0.r3, V0.r4, V0.r16, V0.r17, V0.r18, V0.r19, V0.r20, V0.r23, V0.r24, V0.r25, V0.r26, V0.r27, V0.r28, V0.r29, V0.r30, V0.c172, V0.c173, V0.c174, V0.c186, V0.c187, V0.c188, V0.n5, V0.n13, V0.n14, V0.i0, V0.i5, V0.i6, V0.i7, V0.i8, V0.i9, V0.i10, V0.i11, V0.i12, V0.i13, V0.i14, V0.i15, V0.i21, V0.i22, h1]
    refine k249_21 (cno_MR V0.mr) (Nat.le_of_ble_eq_true rfl) (sp_keeps V0) ?_
    rintro f2 n2 k2 v2 ⟨rfl, rfl, rfl, sw2, V2, w, hw, hwv⟩
    simp (disch := first | omega | decide | assumption | exact Nat.le_of_ble_eq_true rfl) only [s249_24, s249_25, s249_26, s249_29, s249_30, s249_31, h249_32, ow_some, true_and, and_true, and_self, if_true, if_false, not_true, not_false_eq_true, Bool.false_eq_true, eq_self, Option.toList, List.cons_append, List.nil_append, ix_in, ix_cl, lt_in, lt_cl, lt_add, ix_one, vu_eq, vu_ne, arI_mk, arL_mk, arY_mZ, arY_mB, alen_mI, fld_sfl_ne, fld_sfl_same, Option.isSome_some, pok_i, b1z, b01, z10, b1o, Int32.zero_add, vu_vu, upd_eq, upd_ne, V2.r1, V2.r2, V2.r3, V2.r4, V2.r16, V2.r17, V2.r18, V2.r19, V2.r20, V2.r23, V2.r24, V2.r25, V2.r26, V2.r27, V2.r28, V2.r29, V2.r30, V2.c172, V2.c173, V2.c174, V2.c186, V2.c187, V2.c188, V2.n5, V2.n13, V2.n14, V2.i0, V2.i5, V2.i6, V2.i7, V2.i8, V2.i9, V2.i10, V2.i11, V2.i12, V2.i13, V2.i14, V2.i15, V2.i21, V2.i22]
    have V3 := V2.num (j := 22) (x := x) (by decide)
    have sm3 : SM f2 (va_up f2 171 (sfl (f2 171) 22 (.int x))) := SM.up (by omega) (by omega)
    have h22 : fld (va_up f2 171 (sfl (f2 171) 22 (.int x)) 171) 12 22 = some (.int x) := by rw [vu_eq, fld_sfl_same V2.i22]
    generalize va_up f2 171 (sfl (f2 171) 22 (.int x)) = f3 at V3 sm3 h22 ⊢
    refine lp (fun j g (y : Value × Int32 × Nat × (Nat → Int32)) => SM f2 g ∧ MV g (y.2.2.2, s.2) ∧ WF y.2.2.2 S P ∧ y.2.2.2 92 = nI D ∧ fld (g 171) 12 22 = some (.int y.2.1) ∧ y.2.2.1 ≤ j ∧ m_year S P M x 0 s.1 = m_year S P (M - j) y.2.1 y.2.2.1 y.2.2.2) (fun j y => [.ref 171, .int x, .int (nI M), .int (nI y.2.2.1), .int (nI j), y.1]) M ?_ ?_ 0 f3 (a5, x, 0, s.1) (by omega) ⟨sm3, V3, W, hD, h22, Nat.le_refl _, rfl⟩
    · rintro j g ⟨u, y, k, all⟩ hj ⟨sm, V4, W4, h92, hy, hk, he⟩ hI
      have hc : (M ≤ j) = False := eq_false (by omega)
      obtain ⟨m, hm⟩ : ∃ m, M - j = m + 1 := ⟨M - j - 1, by omega⟩
      simp only at sm V4 W4 h92 hy hk he
      rw [hm, m_year] at he
      simp (disch := first | omega | decide | assumption | exact Nat.le_of_ble_eq_true rfl) only [s249_34, s249_36, s249_37, s249_40, ow_some, true_and, and_true, and_self, if_true, if_false, not_true, not_false_eq_true, Bool.false_eq_true, eq_self, Option.toList, List.cons_append, List.nil_append, ix_in, ix_cl, lt_in, lt_cl, lt_add, ix_one, vu_eq, vu_ne, arI_mk, arL_mk, arY_mZ, arY_mB, alen_mI, fld_sfl_ne, fld_sfl_same, Option.isSome_some, pok_i, b1z, b01, z10, b1o, Int32.zero_add, vu_vu, upd_eq, upd_ne, V4.r1, V4.r2, V4.r3, V4.r4, V4.r16, V4.r17, V4.r18, V4.r19, V4.r20, V4.r23, V4.r24, V4.r25, V4.r26, V4.r27, V4.r28, V4.r29, V4.r30, V4.c172, V4.c173, V4.c174, V4.c186, V4.c187, V4.c188, V4.n5, V4.n13, V4.n14, V4.i0, V4.i5, V4.i6, V4.i7, V4.i8, V4.i9, V4.i10, V4.i11, V4.i12, V4.i13, V4.i14, V4.i15, V4.i21, V4.i22, ix_le, hc]
      refine k249_41 (cno_MR V4.mr) (Nat.le_of_ble_eq_true rfl) (sp_drawn V4 hy) ?_
      rintro f5 n5 k5 v5 ⟨rfl, rfl, sm5, V5, ⟨z, rfl, hz⟩, hy5⟩
      simp (disch := first | omega | decide | assumption | exact Nat.le_of_ble_eq_true rfl) only [s249_44, s249_46, s249_47, s249_49, ow_some, true_and, and_true, and_self, if_true, if_false, not_true, not_false_eq_true, Bool.false_eq_true, eq_self, Option.toList, List.cons_append, List.nil_append, ix_in, ix_cl, lt_in, lt_cl, lt_add, ix_one, vu_eq, vu_ne, arI_mk, arL_mk, arY_mZ, arY_mB, alen_mI, fld_sfl_ne, fld_sfl_same, Option.isSome_some, pok_i, b1z, b01, z10, b1o, Int32.zero_add, vu_vu, upd_eq, upd_ne, V5.r1, V5.r2, V5.r3, V5.r4, V5.r16, V5.r17, V5.r18, V5.r19, V5.r20, V5.r23, V5.r24, V5.r25, V5.r26, V5.r27, V5.r28, V5.r29, V5.r30, V5.c172, V5.c173, V5.c174, V5.c186, V5.c187, V5.c188, V5.n5, V5.n13, V5.n14, V5.i0, V5.i5, V5.i6, V5.i7, V5.i8, V5.i9, V5.i10, V5.i11, V5.i12, V5.i13, V5.i14, V5.i15, V5.i21, V5.i22]
      refine k249_50 (cno_MR V5.mr) (Nat.le_of_ble_eq_true rfl) ((sp_whyNot V5 W4.1 W4.2.1 W4.T).np _ np_M (by decide)) ?_
      rintro f6 n6 k6 v6 ⟨⟨rfl, rfl, sm6, V6, rfl⟩, ko6⟩
      rw [Int32.toInt_toInt64, hz]
      by_cases h0 : w_not all S P (nT all) (d_n y).1 = 0
      · rw [if_pos h0] at he
        simp (disch := first | omega | decide | assumption | exact Nat.le_of_ble_eq_true rfl) only [s249_53, s249_56, s249_59, s249_60, ow_some, true_and, and_true, and_self, if_true, if_false, not_true, not_false_eq_true, Bool.false_eq_true, eq_self, Option.toList, List.cons_append, List.nil_append, ix_in, ix_cl, lt_in, lt_cl, lt_add, ix_one, vu_eq, vu_ne, arI_mk, arL_mk, arY_mZ, arY_mB, alen_mI, fld_sfl_ne, fld_sfl_same, Option.isSome_some, pok_i, b1z, b01, z10, b1o, Int32.zero_add, vu_vu, upd_eq, upd_ne, V6.r1, V6.r2, V6.r3, V6.r4, V6.r16, V6.r17, V6.r18, V6.r19, V6.r20, V6.r23, V6.r24, V6.r25, V6.r26, V6.r27, V6.r28, V6.r29, V6.r30, V6.c172, V6.c173, V6.c174, V6.c186, V6.c187, V6.c188, V6.n5, V6.n13, V6.n14, V6.i0, V6.i5, V6.i6, V6.i7, V6.i8, V6.i9, V6.i10, V6.i11, V6.i12, V6.i13, V6.i14, V6.i15, V6.i21, V6.i22, h0]
        refine k249_62 (cno_MR V6.mr) (Nat.le_of_ble_eq_true rfl) ((sp_does V6 W4 h0 hz).np _ np_M (by decide)) ?_
        rintro f7 n7 k7 v7 ⟨⟨rfl, rfl, sm7, V7, rfl⟩, ko7⟩
        simp (disch := first | omega | decide | assumption | exact Nat.le_of_ble_eq_true rfl) only [s249_65, s249_68, h249_71, ow_some, true_and, and_true, and_self, if_true, if_false, not_true, not_false_eq_true, Bool.false_eq_true, eq_self, Option.toList, List.cons_append, List.nil_append, ix_in, ix_cl, lt_in, lt_cl, lt_add, ix_one, vu_eq, vu_ne, arI_mk, arL_mk, arY_mZ, arY_mB, alen_mI, fld_sfl_ne, fld_sfl_same, Option.isSome_some, pok_i, b1z, b01, z10, b1o, Int32.zero_add, vu_vu, upd_eq, upd_ne, V7.r1, V7.r2, V7.r3, V7.r4, V7.r16, V7.r17, V7.r18, V7.r19, V7.r20, V7.r23, V7.r24, V7.r25, V7.r26, V7.r27, V7.r28, V7.r29, V7.r30, V7.c172, V7.c173, V7.c174, V7.c186, V7.c187, V7.c188, V7.n5, V7.n13, V7.n14, V7.i0, V7.i5, V7.i6, V7.i7, V7.i8, V7.i9, V7.i10, V7.i11, V7.i12, V7.i13, V7.i14, V7.i15, V7.i21, V7.i22]
        refine hI f7 (.int z, (d_n y).2, k + 1, m_does all S P (d_n y).1) ⟨((sm.tr sm5).tr sm6).tr sm7, V7, W4.does h0, ?_, ?_, by show k + 1 ≤ j + 1; omega, ?_⟩
        · show m_does all S P (d_n y).1 92 = nI D
          rw [does_hi W.1.2.2.1 W.1.2.2.2.2.1 h0 (by omega)]; exact h92
        · show fld (f7 171) 12 22 = some (.int (d_n y).2)
          rw [V6.ko hN ko7, V5.ko hN ko6]; exact hy5
        · rw [he, show M - (j + 1) = m by omega]
      · rw [if_neg h0] at he
        simp (disch := first | omega | decide | assumption | exact Nat.le_of_ble_eq_true rfl) only [s249_53, s249_56, s249_68, h249_71, ow_some, true_and, and_true, and_self, if_true, if_false, not_true, not_false_eq_true, Bool.false_eq_true, eq_self, Option.toList, List.cons_append, List.nil_append, ix_in, ix_cl, lt_in, lt_cl, lt_add, ix_one, vu_eq, vu_ne, arI_mk, arL_mk, arY_mZ, arY_mB, alen_mI, fld_sfl_ne, fld_sfl_same, Option.isSome_some, pok_i, b1z, b01, z10, b1o, Int32.zero_add, vu_vu, upd_eq, upd_ne, V6.r1, V6.r2, V6.r3, V6.r4, V6.r16, V6.r17, V6.r18, V6.r19, V6.r20, V6.r23, V6.r24, V6.r25, V6.r26, V6.r27, V6.r28, V6.r29, V6.r30, V6.c172, V6.c173, V6.c174, V6.c186, V6.c187, V6.c188, V6.n5, V6.n13, V6.n14, V6.i0, V6.i5, V6.i6, V6.i7, V6.i8, V6.i9, V6.i10, V6.i11, V6.i12, V6.i13, V6.i14, V6.i15, V6.i21, V6.i22, h0]
        refine hI f6 (.int z, (d_n y).2, k, all) ⟨(sm.tr sm5).tr sm6, V6, W4, h92, ?_, by show k ≤ j + 1; omega, ?_⟩
        · show fld (f6 171) 12 22 = some (.int (d_n y).2)
          rw [V5.ko hN ko6]; exact hy5
        · rw [he, show M - (j + 1) = m by omega]
    · rintro g ⟨u, y, k, all⟩ ⟨sm, V4, W4, h92, hy, hk, he⟩
      simp only at sm V4 W4 h92 hy hk he
      rw [Nat.sub_self, m_year] at he
      rw [he]
      by_cases h0 : k = 0
      · have ez : (nI k ≤ 0) = True := eq_true (by rw [h0]; decide)
        simp (disch := first | omega | decide | assumption | exact Nat.le_of_ble_eq_true rfl) only [s249_34, s249_36, s249_37, s249_74, s249_75, s249_78, s249_82, s249_83, ow_some, true_and, and_true, and_self, if_true, if_false, not_true, not_false_eq_true, Bool.false_eq_true, eq_self, Option.toList, List.cons_append, List.nil_append, ix_in, ix_cl, lt_in, lt_cl, lt_add, ix_one, vu_eq, vu_ne, arI_mk, arL_mk, arY_mZ, arY_mB, alen_mI, fld_sfl_ne, fld_sfl_same, Option.isSome_some, pok_i, b1z, b01, z10, b1o, Int32.zero_add, vu_vu, upd_eq, upd_ne, V4.r1, V4.r2, V4.r3, V4.r4, V4.r16, V4.r17, V4.r18, V4.r19, V4.r20, V4.r23, V4.r24, V4.r25, V4.r26, V4.r27, V4.r28, V4.r29, V4.r30, V4.c172, V4.c173, V4.c174, V4.c186, V4.c187, V4.c188, V4.n5, V4.n13, V4.n14, V4.i0, V4.i5, V4.i6, V4.i7, V4.i8, V4.i9, V4.i10, V4.i11, V4.i12, V4.i13, V4.i14, V4.i15, V4.i21, V4.i22, ix_le, Nat.le_refl, ez, h0]
        exact ⟨rfl, rfl, (sm0.w.tr sw2).tr sm.w, V4, rfl⟩
      · have ez : (nI k ≤ 0) = False := by rw [le_lt (c := 0) (by decide) (by omega)]; exact eq_false (by omega)
        simp (disch := first | omega | decide | assumption | exact Nat.le_of_ble_eq_true rfl) only [s249_34, s249_36, s249_37, s249_74, s249_75, s249_78, ow_some, true_and, and_true, and_self, if_true, if_false, not_true, not_false_eq_true, Bool.false_eq_true, eq_self, Option.toList, List.cons_append, List.nil_append, ix_in, ix_cl, lt_in, lt_cl, lt_add, ix_one, vu_eq, vu_ne, arI_mk, arL_mk, arY_mZ, arY_mB, alen_mI, fld_sfl_ne, fld_sfl_same, Option.isSome_some, pok_i, b1z, b01, z10, b1o, Int32.zero_add, vu_vu, upd_eq, upd_ne, V4.r1, V4.r2, V4.r3, V4.r4, V4.r16, V4.r17, V4.r18, V4.r19, V4.r20, V4.r23, V4.r24, V4.r25, V4.r26, V4.r27, V4.r28, V4.r29, V4.r30, V4.c172, V4.c173, V4.c174, V4.c186, V4.c187, V4.c188, V4.n5, V4.n13, V4.n14, V4.i0, V4.i5, V4.i6, V4.i7, V4.i8, V4.i9, V4.i10, V4.i11, V4.i12, V4.i13, V4.i14, V4.i15, V4.i21, V4.i22, ix_le, Nat.le_refl, ez, h0]
        refine k249_79 (cno_MR V4.mr) (Nat.le_of_ble_eq_true rfl) (sp_notes V4 (by rw [sm 180 (by omega)]; exact hw) h92 hD2) ?_
        rintro f5 n5 k5 v5 ⟨rfl, rfl, sm5, V5, rfl⟩
        rw [note_cg (w' := m_kept s.1) hwv] at V5
        simp (disch := first | omega | decide | assumption | exact Nat.le_of_ble_eq_true rfl) only [s249_82, s249_83, ow_some, true_and, and_true, and_self, if_true, if_false, not_true, not_false_eq_true, Bool.false_eq_true, eq_self, Option.toList, List.cons_append, List.nil_append, ix_in, ix_cl, lt_in, lt_cl, lt_add, ix_one, vu_eq, vu_ne, arI_mk, arL_mk, arY_mZ, arY_mB, alen_mI, fld_sfl_ne, fld_sfl_same, Option.isSome_some, pok_i, b1z, b01, z10, b1o, Int32.zero_add, vu_vu, upd_eq, upd_ne, V5.r1, V5.r2, V5.r3, V5.r4, V5.r16, V5.r17, V5.r18, V5.r19, V5.r20, V5.r23, V5.r24, V5.r25, V5.r26, V5.r27, V5.r28, V5.r29, V5.r30, V5.c172, V5.c173, V5.c174, V5.c186, V5.c187, V5.c188, V5.n5, V5.n13, V5.n14, V5.i0, V5.i5, V5.i6, V5.i7, V5.i8, V5.i9, V5.i10, V5.i11, V5.i12, V5.i13, V5.i14, V5.i15, V5.i21, V5.i22]
        exact ⟨rfl, rfl, (sm0.w.tr sw2).tr (sm.tr sm5).w, V5, rfl⟩
  · rw [if_neg h1]
    simp (disch := first | omega | decide | assumption | exact Nat.le_of_ble_eq_true rfl) only [s249_14, s249_17, s249_19, ow_some, true_and, and_true, and_self, if_true, if_false, not_true, not_false_eq_true, Bool.false_eq_true, eq_self, Option.toList, List.cons_append, List.nil_append, ix_in, ix_cl, lt_in, lt_cl, lt_add, ix_one, vu_eq, vu_ne, arI_mk, arL_mk, arY_mZ, arY_mB, alen_mI, fld_sfl_ne, fld_sfl_same, Option.isSome_some, pok_i, b1z, b01, z10, b1o, Int32.zero_add, vu_vu, upd_eq, upd_ne, V0.r1, V0.r2, V0.r3, V0.r4, V0.r16, V0.r17, V0.r18, V0.r19, V0.r20, V0.r23, V0.r24, V0.r25, V0.r26, V0.r27, V0.r28, V0.r29, V0.r30, V0.c172, V0.c173, V0.c174, V0.c186, V0.c187, V0.c188, V0.n5, V0.n13, V0.n14, V0.i0, V0.i5, V0.i6, V0.i7, V0.i8, V0.i9, V0.i10, V0.i11, V0.i12, V0.i13, V0.i14, V0.i15, V0.i21, V0.i22, h1]
    exact ⟨rfl, rfl, sm0.w, V0, rfl⟩

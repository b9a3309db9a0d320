/-! the reference: days, undo, judge, perform, year -/
theorem does_hi {all : Nat → Int32} {S P T a : Nat} {v : Int} (hS : S ≤ 8) (hP : P ≤ 9) (h : w_not all S P T v = 0) (ha : a < 52 ∨ 92 ≤ a) : m_does all S P v a = all a := by
  rcases w_not_0 h with h1 | h1 | h1 | h1
  · subst h1
    unfold m_does
    rw [if_pos rfl, m_day, fall_ne (by omega), upd_ne (by omega), upd_ne (by omega)]
  · unfold m_does
    rw [if_neg (by omega), if_pos (by omega), m_see, fall_ne (by omega), upd_ne (by omega), upd_ne (by omega)]
  · unfold m_does
    rw [if_neg (by omega), if_neg (by omega), if_pos (by omega), m_move, fall_ne (by omega), upd_ne (by omega)]
  · unfold m_does
    rw [if_neg (by omega), if_neg (by omega), if_neg (by omega), m_prop, fall_ne (by omega), upd_ne (by omega)]
theorem tell_hi {q : Nat → Int64} {S P a : Nat} (hS : S ≤ 8) (hP : P ≤ 9) (ha : a < 52 ∨ 92 ≤ a) : ∀ (m k : Nat) (all : Nat → Int32), (m_tell q S P m k all).2.2 a = all a := by
  intro m
  induction m with
  | zero => intro k all; rfl
  | succ m ih =>
    intro k all
    unfold m_tell
    split
    · next h => rw [ih, does_hi hS hP h ha]
    · rfl
theorem tell_WF {q : Nat → Int64} {S P : Nat} : ∀ (m k : Nat) (all : Nat → Int32), WF all S P → WF (m_tell q S P m k all).2.2 S P := by
  intro m
  induction m with
  | zero => intro k all W; exact W
  | succ m ih =>
    intro k all W
    unfold m_tell
    split
    · next h => exact ih _ _ (W.does h)
    · exact W
theorem back_id {x w all : Nat → Int32} (h1 : ∀ a, a < 52 ∨ 92 ≤ a → x a = all a) (h2 : ∀ i, i < 40 → w i = all (52 + i)) : m_back x w 40 = all := by
  funext a
  unfold m_back
  by_cases h : 52 ≤ a ∧ a < 52 + 40
  · rw [if_pos h, h2 _ (by omega)]; congr 1; omega
  · rw [if_neg h, h1 _ (by omega)]
theorem wth {v : Int32} {a b : Nat} (ha : a < 65536) (hb : b < 65536) : ((nI a).toInt64 ≤ v.toInt64 ∧ v.toInt64 ≤ (nI b).toInt64) = ((a : Int) ≤ v.toInt ∧ v.toInt ≤ b) := by
  rw [Int64.le_iff_toInt_le, Int64.le_iff_toInt_le, nI_64 ha, nI_64 hb, Int32.toInt_toInt64]
def m_days (S P : Nat) : Nat → Nat → (Nat → Int32) → Nat × (Nat → Int32)
  | 0, k, all => (k, all)
  | m + 1, k, all => if all 54 = 0 then m_days S P m (k + 1) (m_day all S P (nT all)) else (k, all)
def o_days (all : Nat → Int32) (S P D : Nat) (n : Int32) : (Nat → Int32) × Int32 := if 1 ≤ n.toInt ∧ n.toInt ≤ 99 then (if all 54 = 1 then (all, -5) else (m_note (m_days S P n.toInt.toNat 0 all).2 (m_kept all) D, nI (m_days S P n.toInt.toNat 0 all).1)) else (all, -3)
theorem WF.day {all : Nat → Int32} {S P : Nat} (W : WF all S P) : WF (m_day all S P (nT all)) S P := by
  refine WF.mk' (T := nT all) (((W.1.up (by unfold al_i; omega)).up (by unfold al_i; omega)).fall) ?_ W.2.2
  unfold m_day
  rw [fall_ne (by omega), upd_ne (by omega), upd_ne (by omega)]; exact W.2.1
theorem sp_days {X : Nat × (Nat → Int32)} {d N K : Nat} {f : Nat → e_C} {s : m_T} {S P : Nat} (V : MV f s) (W : WF s.1 S P) {D : Nat} (hD : s.1 92 = nI D) (hD2 : D ≤ 10) {n : Int32} {a2 : Value} : TT X (d + 8) 239 0 [.ref 171, .int n, a2] [] f N K (MZ N K f (o_days s.1 S P D n) s.2) := by
  simp only [s239_0, s239_1, s239_2, V.i0, pok_i, true_and]
  have sm0 : SM f (va_up f 171 (sfl (f 171) 0 (.int 0))) := SM.up (by omega) (by omega)
  have V0 := V.num (j := 0) (x := 0) (by decide)
  generalize va_up f 171 (sfl (f 171) 0 (.int 0)) = f0 at sm0 V0 ⊢
  simp (disch := first | omega | decide | assumption | exact Nat.le_of_ble_eq_true rfl) only [s239_5, s239_6, s239_7, s239_8, ow_some, true_and, and_true, and_self, if_true, if_false, not_true, not_false_eq_true, Bool.false_eq_true, eq_self, Option.toList, List.cons_append, List.nil_append, ix_in, ix_cl, lt_in, lt_cl, lt_add, ix_one, vu_eq, vu_ne, arI_mk, arL_mk, arY_mZ, arY_mB, alen_mI, fld_sfl_ne, fld_sfl_same, Option.isSome_some, pok_i, b1z, b01, z10, b1o, Int32.zero_add, vu_vu, upd_eq, upd_ne, V0.r1, V0.r2, V0.r3, V0.r4, V0.r16, V0.r17, V0.r18, V0.r19, V0.r20, V0.r23, V0.r24, V0.r25, V0.r26, V0.r27, V0.r28, V0.r29, V0.r30, V0.c172, V0.c173, V0.c174, V0.c186, V0.c187, V0.c188, V0.n5, V0.n13, V0.n14, V0.i0, V0.i5, V0.i6, V0.i7, V0.i8, V0.i9, V0.i10, V0.i11, V0.i12, V0.i13, V0.i14, V0.i15, V0.i21, V0.i22]
  rw [p239_11 (Nat.le_of_ble_eq_true rfl) sp_within]
  unfold o_days
  have e : (1 ≤ n.toInt64 ∧ n.toInt64 ≤ 99) = (1 ≤ n.toInt ∧ n.toInt ≤ 99) := wth (a := 1) (b := 99) (by decide) (by decide)
  simp only [e]
  by_cases h1 : 1 ≤ n.toInt ∧ n.toInt ≤ 99
  · rw [if_pos h1]
    simp (disch := first | omega | decide | assumption | exact Nat.le_of_ble_eq_true rfl) only [s239_14, s239_17, s239_19, s239_20, s239_21, s239_24, s239_26, s239_27, s239_28, ow_some, true_and, and_true, and_self, if_true, if_false, not_true, not_false_eq_true, Bool.false_eq_true, eq_self, Option.toList, List.cons_append, List.nil_append, ix_in, ix_cl, lt_in, lt_cl, lt_add, ix_one, vu_eq, vu_ne, arI_mk, arL_mk, arY_mZ, arY_mB, alen_mI, fld_sfl_ne, fld_sfl_same, Option.isSome_some, pok_i, b1z, b01, z10, b1o, Int32.zero_add, vu_vu, upd_eq, upd_ne, V0.r1, V0.r2, V0.r3, V0.r4, V0.r16, V0.r17, V0.r18, V0.r19, V0.r20, V0.r23, V0.r24, V0.r25, V0.r26, V0.r27, V0.r28, V0.r29, V0.r30, V0.c172, V0.c173, V0.c174, V0.c186, V0.c187, V0.c188, V0.n5, V0.n13, V0.n14, V0.i0, V0.i5, V0.i6, V0.i7, V0.i8, V0.i9, V0.i10, V0.i11, V0.i12, V0.i13, V0.i14, V0.i15, V0.i21, V0.i22, h1]
    by_cases h2 : s.1 54 = 1
    · simp only [h2, if_true]
      simp (disch := first | omega | decide | assumption | exact Nat.le_of_ble_eq_true rfl) only [s239_31, s239_33, ow_some, true_and, and_true, and_self, if_true, if_false, not_true, not_false_eq_true, Bool.false_eq_true, eq_self, Option.toList, List.cons_append, List.nil_append, ix_in, ix_cl, lt_in, lt_cl, lt_add, ix_one, vu_eq, vu_ne, arI_mk, arL_mk, arY_mZ, arY_mB, alen_mI, fld_sfl_ne, fld_sfl_same, Option.isSome_some, pok_i, b1z, b01, z10, b1o, Int32.zero_add, vu_vu, upd_eq, upd_ne, V0.r1, V0.r2, V0.r3, V0.r4, V0.r16, V0.r17, V0.r18, V0.r19, V0.r20, V0.r23, V0.r24, V0.r25, V0.r26, V0.r27, V0.r28, V0.r29, V0.r30, V0.c172, V0.c173, V0.c174, V0.c186, V0.c187, V0.c188, V0.n5, V0.n13, V0.n14, V0.i0, V0.i5, V0.i6, V0.i7, V0.i8, V0.i9, V0.i10, V0.i11, V0.i12, V0.i13, V0.i14, V0.i15, V0.i21, V0.i22]
      exact ⟨rfl, rfl, sm0.w, V0, rfl⟩
    · simp only [h2, if_false]
      obtain ⟨M, hM, rfl, hv⟩ := i9 (v := n) (N := 100) (by omega) (by omega) (by omega)
      rw [hv, Int.toNat_natCast]
      simp (disch := first | omega | decide | assumption | exact Nat.le_of_ble_eq_true rfl) only [s239_34, ow_some, true_and, and_true, and_self, if_true, if_false, not_true, not_false_eq_true, Bool.false_eq_true, eq_self, Option.toList, List.cons_append, List.nil_append, ix_in, ix_cl, lt_in, lt_cl, lt_add, ix_one, vu_eq, vu_ne, arI_mk, arL_mk, arY_mZ, arY_mB, alen_mI, fld_sfl_ne, fld_sfl_same, Option.isSome_some, pok_i, b1z, b01, z10, b1o, Int32.zero_add, vu_vu, upd_eq, upd_ne, V0.r1, V0.r2, V0.r3, V0.r4, V0.r16, V0.r17, V0.r18, V0.r19, V0.r20, V0.r23, V0.r24, V0.r25, V0.r26, V0.r27, V0.r28, V0.r29, V0.r30, V0.c172, V0.c173, V0.c174, V0.c186, V0.c187, V0.c188, V0.n5, V0.n13, V0.n14, V0.i0, V0.i5, V0.i6, V0.i7, V0.i8, V0.i9, V0.i10, V0.i11, V0.i12, V0.i13, V0.i14, V0.i15, V0.i21, V0.i22]
      refine k239_35 (cno_MR V0.mr) (Nat.le_of_ble_eq_true rfl) (sp_keeps V0) ?_
      rintro f2 n2 k2 v2 ⟨rfl, rfl, rfl, sw2, V2, w, hw, hwv⟩
      simp (disch := first | omega | decide | assumption | exact Nat.le_of_ble_eq_true rfl) only [s239_38, h239_39, ow_some, true_and, and_true, and_self, if_true, if_false, not_true, not_false_eq_true, Bool.false_eq_true, eq_self, Option.toList, List.cons_append, List.nil_append, ix_in, ix_cl, lt_in, lt_cl, lt_add, ix_one, vu_eq, vu_ne, arI_mk, arL_mk, arY_mZ, arY_mB, alen_mI, fld_sfl_ne, fld_sfl_same, Option.isSome_some, pok_i, b1z, b01, z10, b1o, Int32.zero_add, vu_vu, upd_eq, upd_ne, V2.r1, V2.r2, V2.r3, V2.r4, V2.r16, V2.r17, V2.r18, V2.r19, V2.r20, V2.r23, V2.r24, V2.r25, V2.r26, V2.r27, V2.r28, V2.r29, V2.r30, V2.c172, V2.c173, V2.c174, V2.c186, V2.c187, V2.c188, V2.n5, V2.n13, V2.n14, V2.i0, V2.i5, V2.i6, V2.i7, V2.i8, V2.i9, V2.i10, V2.i11, V2.i12, V2.i13, V2.i14, V2.i15, V2.i21, V2.i22]
      have tail : ∀ g all k, SM f2 g → MV g (all, s.2) → all 92 = nI D → m_days S P M 0 s.1 = (k, all) → TT X (d + 8) 239 65 [.ref 171, .int (nI M), .int (nI k)] [] g n2 k2 (MZ n2 k2 f (m_note (m_days S P M 0 s.1).2 (m_kept s.1) D, nI (m_days S P M 0 s.1).1) s.2) := by
        intro g all k sm V3 h92 he
        rw [he]
        simp (disch := first | omega | decide | assumption | exact Nat.le_of_ble_eq_true rfl) only [s239_65, ow_some, true_and, and_true, and_self, if_true, if_false, not_true, not_false_eq_true, Bool.false_eq_true, eq_self, Option.toList, List.cons_append, List.nil_append, ix_in, ix_cl, lt_in, lt_cl, lt_add, ix_one, vu_eq, vu_ne, arI_mk, arL_mk, arY_mZ, arY_mB, alen_mI, fld_sfl_ne, fld_sfl_same, Option.isSome_some, pok_i, b1z, b01, z10, b1o, Int32.zero_add, vu_vu, upd_eq, upd_ne, V3.r1, V3.r2, V3.r3, V3.r4, V3.r16, V3.r17, V3.r18, V3.r19, V3.r20, V3.r23, V3.r24, V3.r25, V3.r26, V3.r27, V3.r28, V3.r29, V3.r30, V3.c172, V3.c173, V3.c174, V3.c186, V3.c187, V3.c188, V3.n5, V3.n13, V3.n14, V3.i0, V3.i5, V3.i6, V3.i7, V3.i8, V3.i9, V3.i10, V3.i11, V3.i12, V3.i13, V3.i14, V3.i15, V3.i21, V3.i22]
        refine k239_66 (cno_MR V3.mr) (Nat.le_of_ble_eq_true rfl) (sp_notes V3 (by rw [sm 180 (by omega)]; exact hw) h92 hD2) ?_
        rintro f4 n4 k4 v4 ⟨rfl, rfl, sm4, V4, rfl⟩
        rw [note_cg (w' := m_kept s.1) hwv] at V4
        simp (disch := first | omega | decide | assumption | exact Nat.le_of_ble_eq_true rfl) only [s239_69, s239_70, ow_some, true_and, and_true, and_self, if_true, if_false, not_true, not_false_eq_true, Bool.false_eq_true, eq_self, Option.toList, List.cons_append, List.nil_append, ix_in, ix_cl, lt_in, lt_cl, lt_add, ix_one, vu_eq, vu_ne, arI_mk, arL_mk, arY_mZ, arY_mB, alen_mI, fld_sfl_ne, fld_sfl_same, Option.isSome_some, pok_i, b1z, b01, z10, b1o, Int32.zero_add, vu_vu, upd_eq, upd_ne, V4.r1, V4.r2, V4.r3, V4.r4, V4.r16, V4.r17, V4.r18, V4.r19, V4.r20, V4.r23, V4.r24, V4.r25, V4.r26, V4.r27, V4.r28, V4.r29, V4.r30, V4.c172, V4.c173, V4.c174, V4.c186, V4.c187, V4.c188, V4.n5, V4.n13, V4.n14, V4.i0, V4.i5, V4.i6, V4.i7, V4.i8, V4.i9, V4.i10, V4.i11, V4.i12, V4.i13, V4.i14, V4.i15, V4.i21, V4.i22]
        exact ⟨rfl, rfl, (sm0.w.tr sw2).tr (sm.tr sm4).w, V4, rfl⟩
      refine lp (fun k g (all : Nat → Int32) => SM f2 g ∧ MV g (all, s.2) ∧ WF all S P ∧ all 92 = nI D ∧ m_days S P M 0 s.1 = m_days S P (M - k) k all) (fun k x => [.ref 171, .int (nI M), .int (nI k)]) M ?_ ?_ 0 f2 s.1 (by omega) ⟨SM.rf, V2, W, hD, rfl⟩
      · rintro k g all hk ⟨sm, V3, W3, h92, he⟩ hI
        have hc : (M ≤ k) = False := eq_false (by omega)
        obtain ⟨m, hm⟩ : ∃ m, M - k = m + 1 := ⟨M - k - 1, by omega⟩
        rw [hm, m_days] at he
        simp (disch := first | omega | decide | assumption | exact Nat.le_of_ble_eq_true rfl) only [s239_40, s239_41, s239_42, s239_45, s239_46, s239_49, s239_51, s239_52, ow_some, true_and, and_true, and_self, if_true, if_false, not_true, not_false_eq_true, Bool.false_eq_true, eq_self, Option.toList, List.cons_append, List.nil_append, ix_in, ix_cl, lt_in, lt_cl, lt_add, ix_one, vu_eq, vu_ne, arI_mk, arL_mk, arY_mZ, arY_mB, alen_mI, fld_sfl_ne, fld_sfl_same, Option.isSome_some, pok_i, b1z, b01, z10, b1o, Int32.zero_add, vu_vu, upd_eq, upd_ne, V3.r1, V3.r2, V3.r3, V3.r4, V3.r16, V3.r17, V3.r18, V3.r19, V3.r20, V3.r23, V3.r24, V3.r25, V3.r26, V3.r27, V3.r28, V3.r29, V3.r30, V3.c172, V3.c173, V3.c174, V3.c186, V3.c187, V3.c188, V3.n5, V3.n13, V3.n14, V3.i0, V3.i5, V3.i6, V3.i7, V3.i8, V3.i9, V3.i10, V3.i11, V3.i12, V3.i13, V3.i14, V3.i15, V3.i21, V3.i22, ix_le, hc]
        by_cases h0 : all 54 = 0
        · rw [if_pos h0] at he
          simp (disch := first | omega | decide | assumption | exact Nat.le_of_ble_eq_true rfl) only [s239_55, ow_some, true_and, and_true, and_self, if_true, if_false, not_true, not_false_eq_true, Bool.false_eq_true, eq_self, Option.toList, List.cons_append, List.nil_append, ix_in, ix_cl, lt_in, lt_cl, lt_add, ix_one, vu_eq, vu_ne, arI_mk, arL_mk, arY_mZ, arY_mB, alen_mI, fld_sfl_ne, fld_sfl_same, Option.isSome_some, pok_i, b1z, b01, z10, b1o, Int32.zero_add, vu_vu, upd_eq, upd_ne, V3.r1, V3.r2, V3.r3, V3.r4, V3.r16, V3.r17, V3.r18, V3.r19, V3.r20, V3.r23, V3.r24, V3.r25, V3.r26, V3.r27, V3.r28, V3.r29, V3.r30, V3.c172, V3.c173, V3.c174, V3.c186, V3.c187, V3.c188, V3.n5, V3.n13, V3.n14, V3.i0, V3.i5, V3.i6, V3.i7, V3.i8, V3.i9, V3.i10, V3.i11, V3.i12, V3.i13, V3.i14, V3.i15, V3.i21, V3.i22, h0]
          refine k239_56 (cno_MR V3.mr) (Nat.le_of_ble_eq_true rfl) (sp_goesDay V3 W3.1 W3.2.1 W3.T) ?_
          rintro f4 n4 k4 v4 ⟨rfl, rfl, sm4, V4, rfl⟩
          simp (disch := first | omega | decide | assumption | exact Nat.le_of_ble_eq_true rfl) only [s239_59, h239_62, ow_some, true_and, and_true, and_self, if_true, if_false, not_true, not_false_eq_true, Bool.false_eq_true, eq_self, Option.toList, List.cons_append, List.nil_append, ix_in, ix_cl, lt_in, lt_cl, lt_add, ix_one, vu_eq, vu_ne, arI_mk, arL_mk, arY_mZ, arY_mB, alen_mI, fld_sfl_ne, fld_sfl_same, Option.isSome_some, pok_i, b1z, b01, z10, b1o, Int32.zero_add, vu_vu, upd_eq, upd_ne, V4.r1, V4.r2, V4.r3, V4.r4, V4.r16, V4.r17, V4.r18, V4.r19, V4.r20, V4.r23, V4.r24, V4.r25, V4.r26, V4.r27, V4.r28, V4.r29, V4.r30, V4.c172, V4.c173, V4.c174, V4.c186, V4.c187, V4.c188, V4.n5, V4.n13, V4.n14, V4.i0, V4.i5, V4.i6, V4.i7, V4.i8, V4.i9, V4.i10, V4.i11, V4.i12, V4.i13, V4.i14, V4.i15, V4.i21, V4.i22]
          refine hI _ _ ⟨sm.tr sm4, V4, W3.day, ?_, ?_⟩
          · show m_fall _ _ _ _ _ = _
            rw [fall_ne (by omega), upd_ne (by omega), upd_ne (by omega)]; exact h92
          · rw [he, show M - (k + 1) = m by omega]
        · rw [if_neg h0] at he
          simp only [h0, if_false]
          exact tail g all k sm V3 h92 he
      · rintro g all ⟨sm, V3, W3, h92, he⟩
        rw [Nat.sub_self, m_days] at he
        simp (disch := first | omega | decide | assumption | exact Nat.le_of_ble_eq_true rfl) only [s239_40, s239_41, s239_42, ow_some, true_and, and_true, and_self, if_true, if_false, not_true, not_false_eq_true, Bool.false_eq_true, eq_self, Option.toList, List.cons_append, List.nil_append, ix_in, ix_cl, lt_in, lt_cl, lt_add, ix_one, vu_eq, vu_ne, arI_mk, arL_mk, arY_mZ, arY_mB, alen_mI, fld_sfl_ne, fld_sfl_same, Option.isSome_some, pok_i, b1z, b01, z10, b1o, Int32.zero_add, vu_vu, upd_eq, upd_ne, V3.r1, V3.r2, V3.r3, V3.r4, V3.r16, V3.r17, V3.r18, V3.r19, V3.r20, V3.r23, V3.r24, V3.r25, V3.r26, V3.r27, V3.r28, V3.r29, V3.r30, V3.c172, V3.c173, V3.c174, V3.c186, V3.c187, V3.c188, V3.n5, V3.n13, V3.n14, V3.i0, V3.i5, V3.i6, V3.i7, V3.i8, V3.i9, V3.i10, V3.i11, V3.i12, V3.i13, V3.i14, V3.i15, V3.i21, V3.i22, ix_le, Nat.le_refl]
        exact tail g all M sm V3 h92 he
  · rw [if_neg h1]
    simp (disch := first | omega | decide | assumption | exact Nat.le_of_ble_eq_true rfl) only [s239_14, s239_17, s239_19, ow_some, true_and, and_true, and_self, if_true, if_false, not_true, not_false_eq_true, Bool.false_eq_true, eq_self, Option.toList, List.cons_append, List.nil_append, ix_in, ix_cl, lt_in, lt_cl, lt_add, ix_one, vu_eq, vu_ne, arI_mk, arL_mk, arY_mZ, arY_mB, alen_mI, fld_sfl_ne, fld_sfl_same, Option.isSome_some, pok_i, b1z, b01, z10, b1o, Int32.zero_add, vu_vu, upd_eq, upd_ne, V0.r1, V0.r2, V0.r3, V0.r4, V0.r16, V0.r17, V0.r18, V0.r19, V0.r20, V0.r23, V0.r24, V0.r25, V0.r26, V0.r27, V0.r28, V0.r29, V0.r30, V0.c172, V0.c173, V0.c174, V0.c186, V0.c187, V0.c188, V0.n5, V0.n13, V0.n14, V0.i0, V0.i5, V0.i6, V0.i7, V0.i8, V0.i9, V0.i10, V0.i11, V0.i12, V0.i13, V0.i14, V0.i15, V0.i21, V0.i22, h1]
    exact ⟨rfl, rfl, sm0.w, V0, rfl⟩
def o_undo (all : Nat → Int32) (D : Nat) (n : Int32) : (Nat → Int32) × Int32 := if (1 ≤ n.toInt ∧ n.toInt ≤ 10) ∧ n.toInt ≤ D then (m_back (upd all 92 (nI (D - n.toInt.toNat))) (fun i => all (93 + 40 * (D - n.toInt.toNat) + i)) 40, nI (D - n.toInt.toNat)) else (all, -3)
theorem sp_undo {X : Nat × (Nat → Int32)} {d N K : Nat} {f : Nat → e_C} {s : m_T} {S P : Nat} (V : MV f s) (W : WF s.1 S P) {D : Nat} (hD : s.1 92 = nI D) (hD2 : D ≤ 10) {n : Int32} {a2 : Value} : TT X (d + 8) 241 0 [.ref 171, .int n, a2] [] f N K (MZ N K f (o_undo s.1 D n) s.2) := by
  simp only [s241_0, s241_1, s241_2, V.i0, pok_i, true_and]
  have sm0 : SM f (va_up f 171 (sfl (f 171) 0 (.int 0))) := SM.up (by omega) (by omega)
  have V0 := V.num (j := 0) (x := 0) (by decide)
  generalize va_up f 171 (sfl (f 171) 0 (.int 0)) = f0 at sm0 V0 ⊢
  simp (disch := first | omega | decide | assumption | exact Nat.le_of_ble_eq_true rfl) only [s241_5, s241_6, s241_7, s241_8, ow_some, true_and, and_true, and_self, if_true, if_false, not_true, not_false_eq_true, Bool.false_eq_true, eq_self, Option.toList, List.cons_append, List.nil_append, ix_in, ix_cl, lt_in, lt_cl, lt_add, ix_one, vu_eq, vu_ne, arI_mk, arL_mk, arY_mZ, arY_mB, alen_mI, fld_sfl_ne, fld_sfl_same, Option.isSome_some, pok_i, b1z, b01, z10, b1o, Int32.zero_add, vu_vu, upd_eq, upd_ne, V0.r1, V0.r2, V0.r3, V0.r4, V0.r16, V0.r17, V0.r18, V0.r19, V0.r20, V0.r23, V0.r24, V0.r25, V0.r26, V0.r27, V0.r28, V0.r29, V0.r30, V0.c172, V0.c173, V0.c174, V0.c186, V0.c187, V0.c188, V0.n5, V0.n13, V0.n14, V0.i0, V0.i5, V0.i6, V0.i7, V0.i8, V0.i9, V0.i10, V0.i11, V0.i12, V0.i13, V0.i14, V0.i15, V0.i21, V0.i22]
  rw [p241_11 (Nat.le_of_ble_eq_true rfl) sp_within]
  unfold o_undo
  have e : (1 ≤ n.toInt64 ∧ n.toInt64 ≤ 10) = (1 ≤ n.toInt ∧ n.toInt ≤ 10) := wth (a := 1) (b := 10) (by decide) (by decide)
  simp only [e]
  by_cases h1 : 1 ≤ n.toInt ∧ n.toInt ≤ 10
  · obtain ⟨M, hM, rfl, hv⟩ := i9 (v := n) (N := 100) (by omega) (by omega) (by omega)
    simp only [hv] at h1 ⊢
    simp (disch := first | omega | decide | assumption | exact Nat.le_of_ble_eq_true rfl) only [s241_14, s241_17, s241_18, s241_19, s241_22, s241_24, s241_25, ow_some, true_and, and_true, and_self, if_true, if_false, not_true, not_false_eq_true, Bool.false_eq_true, eq_self, Option.toList, List.cons_append, List.nil_append, ix_in, ix_cl, lt_in, lt_cl, lt_add, ix_one, vu_eq, vu_ne, arI_mk, arL_mk, arY_mZ, arY_mB, alen_mI, fld_sfl_ne, fld_sfl_same, Option.isSome_some, pok_i, b1z, b01, z10, b1o, Int32.zero_add, vu_vu, upd_eq, upd_ne, V0.r1, V0.r2, V0.r3, V0.r4, V0.r16, V0.r17, V0.r18, V0.r19, V0.r20, V0.r23, V0.r24, V0.r25, V0.r26, V0.r27, V0.r28, V0.r29, V0.r30, V0.c172, V0.c173, V0.c174, V0.c186, V0.c187, V0.c188, V0.n5, V0.n13, V0.n14, V0.i0, V0.i5, V0.i6, V0.i7, V0.i8, V0.i9, V0.i10, V0.i11, V0.i12, V0.i13, V0.i14, V0.i15, V0.i21, V0.i22, h1, hD, ix_le]
    by_cases h2 : M ≤ D
    · have h2' : ((M : Int) ≤ (D : Int)) = True := eq_true (by omega)
      simp only [h2, h2', if_true, Int.toNat_natCast]
      have es : nI D - nI M = nI (D - M) := pk_sub h2
      simp (disch := first | omega | decide | assumption | exact Nat.le_of_ble_eq_true rfl) only [s241_31, s241_32, s241_35, s241_37, s241_38, s241_39, s241_40, s241_41, s241_42, h241_43, ow_some, true_and, and_true, and_self, if_true, if_false, not_true, not_false_eq_true, Bool.false_eq_true, eq_self, Option.toList, List.cons_append, List.nil_append, ix_in, ix_cl, lt_in, lt_cl, lt_add, ix_one, vu_eq, vu_ne, arI_mk, arL_mk, arY_mZ, arY_mB, alen_mI, fld_sfl_ne, fld_sfl_same, Option.isSome_some, pok_i, b1z, b01, z10, b1o, Int32.zero_add, vu_vu, upd_eq, upd_ne, V0.r1, V0.r2, V0.r3, V0.r4, V0.r16, V0.r17, V0.r18, V0.r19, V0.r20, V0.r23, V0.r24, V0.r25, V0.r26, V0.r27, V0.r28, V0.r29, V0.r30, V0.c172, V0.c173, V0.c174, V0.c186, V0.c187, V0.c188, V0.n5, V0.n13, V0.n14, V0.i0, V0.i5, V0.i6, V0.i7, V0.i8, V0.i9, V0.i10, V0.i11, V0.i12, V0.i13, V0.i14, V0.i15, V0.i21, V0.i22, hD, es]
      have V2 := V0.all (all' := upd s.1 92 (nI (D - M)))
      have sm2 : SM f (va_up f0 172 (.inl (.int, 4182, .inl (upd s.1 92 (nI (D - M)))))) := sm0.tr (SM.up (by omega) (by omega))
      generalize va_up f0 172 (.inl (.int, 4182, .inl (upd s.1 92 (nI (D - M))))) = f2 at V2 sm2 ⊢
      have e40 : (40 : Int32) * nI (D - M) = nI (40 * (D - M)) := by rw [lit_nI 40, pk_mul]
      refine lp (fun k g (_ : Unit) => SM f g ∧ MV g (m_back (upd s.1 92 (nI (D - M))) (fun i => s.1 (93 + 40 * (D - M) + i)) k, s.2)) (fun k x => [.ref 171, .int (nI M), .int (nI k)]) 40 ?_ ?_ 0 f2 () (by omega) ⟨sm2, ?_⟩
      · rintro k g _ hk ⟨sm, V3⟩ hI
        have hc : (40 ≤ k) = False := eq_false (by omega)
        have h92 : m_back (upd s.1 92 (nI (D - M))) (fun i => s.1 (93 + 40 * (D - M) + i)) k 92 = nI (D - M) := by
          rw [m_back, if_neg (by omega), upd_eq]
        have hrow : m_back (upd s.1 92 (nI (D - M))) (fun i => s.1 (93 + 40 * (D - M) + i)) k (93 + 40 * (D - M) + k) = s.1 (93 + 40 * (D - M) + k) := by
          rw [m_back, if_neg (by omega), upd_ne (by omega)]
        simp (disch := first | omega | decide | assumption | exact Nat.le_of_ble_eq_true rfl) only [s241_44, s241_45, s241_47, s241_50, s241_51, s241_54, s241_56, s241_57, s241_58, s241_59, s241_62, s241_64, s241_66, s241_67, s241_70, s241_72, s241_73, s241_74, s241_75, s241_76, s241_77, s241_78, s241_79, h241_82, ow_some, true_and, and_true, and_self, if_true, if_false, not_true, not_false_eq_true, Bool.false_eq_true, eq_self, Option.toList, List.cons_append, List.nil_append, ix_in, ix_cl, lt_in, lt_cl, lt_add, ix_one, vu_eq, vu_ne, arI_mk, arL_mk, arY_mZ, arY_mB, alen_mI, fld_sfl_ne, fld_sfl_same, Option.isSome_some, pok_i, b1z, b01, z10, b1o, Int32.zero_add, vu_vu, upd_eq, upd_ne, V3.r1, V3.r2, V3.r3, V3.r4, V3.r16, V3.r17, V3.r18, V3.r19, V3.r20, V3.r23, V3.r24, V3.r25, V3.r26, V3.r27, V3.r28, V3.r29, V3.r30, V3.c172, V3.c173, V3.c174, V3.c186, V3.c187, V3.c188, V3.n5, V3.n13, V3.n14, V3.i0, V3.i5, V3.i6, V3.i7, V3.i8, V3.i9, V3.i10, V3.i11, V3.i12, V3.i13, V3.i14, V3.i15, V3.i21, V3.i22, lt_le, hc, h92, e40, nI_add, hrow]
        refine hI _ () ⟨sm.tr (SM.up (by omega) (by omega)), ?_⟩
        rw [← m_back_s]
        exact V3.all
      · rintro g _ ⟨sm, V3⟩
        have h92 : m_back (upd s.1 92 (nI (D - M))) (fun i => s.1 (93 + 40 * (D - M) + i)) 40 92 = nI (D - M) := by
          rw [m_back, if_neg (by omega), upd_eq]
        simp (disch := first | omega | decide | assumption | exact Nat.le_of_ble_eq_true rfl) only [s241_44, s241_45, s241_47, s241_85, s241_86, s241_89, s241_91, s241_92, ow_some, true_and, and_true, and_self, if_true, if_false, not_true, not_false_eq_true, Bool.false_eq_true, eq_self, Option.toList, List.cons_append, List.nil_append, ix_in, ix_cl, lt_in, lt_cl, lt_add, ix_one, vu_eq, vu_ne, arI_mk, arL_mk, arY_mZ, arY_mB, alen_mI, fld_sfl_ne, fld_sfl_same, Option.isSome_some, pok_i, b1z, b01, z10, b1o, Int32.zero_add, vu_vu, upd_eq, upd_ne, V3.r1, V3.r2, V3.r3, V3.r4, V3.r16, V3.r17, V3.r18, V3.r19, V3.r20, V3.r23, V3.r24, V3.r25, V3.r26, V3.r27, V3.r28, V3.r29, V3.r30, V3.c172, V3.c173, V3.c174, V3.c186, V3.c187, V3.c188, V3.n5, V3.n13, V3.n14, V3.i0, V3.i5, V3.i6, V3.i7, V3.i8, V3.i9, V3.i10, V3.i11, V3.i12, V3.i13, V3.i14, V3.i15, V3.i21, V3.i22, lt_le, Nat.le_refl, h92, h1]
        exact ⟨rfl, rfl, sm.w, V3, rfl⟩
      · have : m_back (upd s.1 92 (nI (D - M))) (fun i => s.1 (93 + 40 * (D - M) + i)) 0 = upd s.1 92 (nI (D - M)) := by
          funext a; rw [m_back, if_neg (by omega)]
        rw [this]; exact V2
    · have h2' : ((M : Int) ≤ (D : Int)) = False := eq_false (by omega)
      simp only [h2, h2', if_false, and_false]
      simp (disch := first | omega | decide | assumption | exact Nat.le_of_ble_eq_true rfl) only [s241_28, s241_30, ow_some, true_and, and_true, and_self, if_true, if_false, not_true, not_false_eq_true, Bool.false_eq_true, eq_self, Option.toList, List.cons_append, List.nil_append, ix_in, ix_cl, lt_in, lt_cl, lt_add, ix_one, vu_eq, vu_ne, arI_mk, arL_mk, arY_mZ, arY_mB, alen_mI, fld_sfl_ne, fld_sfl_same, Option.isSome_some, pok_i, b1z, b01, z10, b1o, Int32.zero_add, vu_vu, upd_eq, upd_ne, V0.r1, V0.r2, V0.r3, V0.r4, V0.r16, V0.r17, V0.r18, V0.r19, V0.r20, V0.r23, V0.r24, V0.r25, V0.r26, V0.r27, V0.r28, V0.r29, V0.r30, V0.c172, V0.c173, V0.c174, V0.c186, V0.c187, V0.c188, V0.n5, V0.n13, V0.n14, V0.i0, V0.i5, V0.i6, V0.i7, V0.i8, V0.i9, V0.i10, V0.i11, V0.i12, V0.i13, V0.i14, V0.i15, V0.i21, V0.i22]
      exact ⟨rfl, rfl, sm0.w, V0, rfl⟩
  · have : ¬ ((1 ≤ n.toInt ∧ n.toInt ≤ 10) ∧ n.toInt ≤ D) := fun z => h1 z.1
    rw [if_neg this]
    simp (disch := first | omega | decide | assumption | exact Nat.le_of_ble_eq_true rfl) only [s241_14, s241_28, s241_30, ow_some, true_and, and_true, and_self, if_true, if_false, not_true, not_false_eq_true, Bool.false_eq_true, eq_self, Option.toList, List.cons_append, List.nil_append, ix_in, ix_cl, lt_in, lt_cl, lt_add, ix_one, vu_eq, vu_ne, arI_mk, arL_mk, arY_mZ, arY_mB, alen_mI, fld_sfl_ne, fld_sfl_same, Option.isSome_some, pok_i, b1z, b01, z10, b1o, Int32.zero_add, vu_vu, upd_eq, upd_ne, V0.r1, V0.r2, V0.r3, V0.r4, V0.r16, V0.r17, V0.r18, V0.r19, V0.r20, V0.r23, V0.r24, V0.r25, V0.r26, V0.r27, V0.r28, V0.r29, V0.r30, V0.c172, V0.c173, V0.c174, V0.c186, V0.c187, V0.c188, V0.n5, V0.n13, V0.n14, V0.i0, V0.i5, V0.i6, V0.i7, V0.i8, V0.i9, V0.i10, V0.i11, V0.i12, V0.i13, V0.i14, V0.i15, V0.i21, V0.i22, h1]
    exact ⟨rfl, rfl, sm0.w, V0, rfl⟩
/-- how many numbers a tray has -/
def nM (s : m_T) (t : Nat) : Nat := (s.2.2.2.2.2.1 t).toNatClampNeg
def RM (s : m_T) : Prop := ∀ t, t < 4 → nM s t ≤ 40 ∧ s.2.2.2.2.2.1 t = nI (nM s t)
def m_told (s : m_T) (S P t : Nat) : Nat × Int32 × (Nat → Int32) := m_tell (fun i => s.2.2.2.2.2.2 (40 * t + i)) S P (nM s t) 0 s.1
def o_judge (s : m_T) (S P : Nat) (t w : Int32) : Int32 := if 0 ≤ w.toInt ∧ w.toInt ≤ 3 then (if 0 ≤ t.toInt ∧ t.toInt ≤ 3 then (if s.2.2.2.2.1 t.toInt.toNat = -1 then -6 else if w = 0 then (if (m_told s S P t.toInt.toNat).2.1 = 0 then -1 else nI (m_told s S P t.toInt.toNat).1) else if w = 1 then (m_told s S P t.toInt.toNat).2.1 else if w = 2 then (m_told s S P t.toInt.toNat).2.2 53 else (m_told s S P t.toInt.toNat).2.2 54) else -2) else -2
theorem t03 {t : Int32} : (0 ≤ t ∧ t ≤ 3) = (0 ≤ t.toInt ∧ t.toInt ≤ 3) := by rw [Int32.le_iff_toInt_le, Int32.le_iff_toInt_le]; rfl
theorem sp_judge {X : Nat × (Nat → Int32)} {d N K : Nat} {f : Nat → e_C} {s : m_T} {S P : Nat} (V : MV f s) (W : WF s.1 S P) (hR : RM s) (hN : 189 ≤ N) {t w : Int32} {a3 a4 a5 a6 : Value} : TT X (d + 10) 242 0 [.ref 171, .int t, .int w, a3, a4, a5, a6] [] f N K (MZ N K f (s.1, o_judge s S P t w) s.2) := by
  simp only [s242_0, s242_1, s242_2, V.i0, pok_i, true_and]
  have sm0 : SM f (va_up f 171 (sfl (f 171) 0 (.int 0))) := SM.up (by omega) (by omega)
  have V0 := V.num (j := 0) (x := 0) (by decide)
  generalize va_up f 171 (sfl (f 171) 0 (.int 0)) = f0 at sm0 V0 ⊢
  simp (disch := first | omega | decide | assumption | exact Nat.le_of_ble_eq_true rfl) only [s242_5, s242_6, s242_7, s242_8, ow_some, true_and, and_true, and_self, if_true, if_false, not_true, not_false_eq_true, Bool.false_eq_true, eq_self, Option.toList, List.cons_append, List.nil_append, ix_in, ix_cl, lt_in, lt_cl, lt_add, ix_one, vu_eq, vu_ne, arI_mk, arL_mk, arY_mZ, arY_mB, alen_mI, fld_sfl_ne, fld_sfl_same, Option.isSome_some, pok_i, b1z, b01, z10, b1o, Int32.zero_add, vu_vu, upd_eq, upd_ne, V0.r1, V0.r2, V0.r3, V0.r4, V0.r16, V0.r17, V0.r18, V0.r19, V0.r20, V0.r23, V0.r24, V0.r25, V0.r26, V0.r27, V0.r28, V0.r29, V0.r30, V0.c172, V0.c173, V0.c174, V0.c186, V0.c187, V0.c188, V0.n5, V0.n13, V0.n14, V0.i0, V0.i5, V0.i6, V0.i7, V0.i8, V0.i9, V0.i10, V0.i11, V0.i12, V0.i13, V0.i14, V0.i15, V0.i21, V0.i22]
  rw [p242_11 (Nat.le_of_ble_eq_true rfl) sp_within]
  unfold o_judge
  have e : (0 ≤ w.toInt64 ∧ w.toInt64 ≤ 3) = (0 ≤ w.toInt ∧ w.toInt ≤ 3) := wth (a := 0) (b := 3) (by decide) (by decide)
  simp only [e]
  by_cases h1 : 0 ≤ w.toInt ∧ w.toInt ≤ 3
  · rw [if_pos h1]
    simp (disch := first | omega | decide | assumption | exact Nat.le_of_ble_eq_true rfl) only [s242_14, s242_17, s242_19, s242_20, s242_21, ow_some, true_and, and_true, and_self, if_true, if_false, not_true, not_false_eq_true, Bool.false_eq_true, eq_self, Option.toList, List.cons_append, List.nil_append, ix_in, ix_cl, lt_in, lt_cl, lt_add, ix_one, vu_eq, vu_ne, arI_mk, arL_mk, arY_mZ, arY_mB, alen_mI, fld_sfl_ne, fld_sfl_same, Option.isSome_some, pok_i, b1z, b01, z10, b1o, Int32.zero_add, vu_vu, upd_eq, upd_ne, V0.r1, V0.r2, V0.r3, V0.r4, V0.r16, V0.r17, V0.r18, V0.r19, V0.r20, V0.r23, V0.r24, V0.r25, V0.r26, V0.r27, V0.r28, V0.r29, V0.r30, V0.c172, V0.c173, V0.c174, V0.c186, V0.c187, V0.c188, V0.n5, V0.n13, V0.n14, V0.i0, V0.i5, V0.i6, V0.i7, V0.i8, V0.i9, V0.i10, V0.i11, V0.i12, V0.i13, V0.i14, V0.i15, V0.i21, V0.i22, h1]
    rw [p242_22 (cno_MR V0.mr) (Nat.le_of_ble_eq_true rfl) (sp_noTray V0)]
    simp only [t03]
    by_cases h2 : 0 ≤ t.toInt ∧ t.toInt ≤ 3
    · obtain ⟨j, hj, rfl, hv⟩ := i9 (v := t) (N := 4) (by omega) (by omega) (by omega)
      have hcl : (nI j).toNatClampNeg = j := ix_cl (by omega)
      simp only [hv] at h2
      simp only [hv, h2, and_self, if_true, hcl, Int.toNat_natCast]
      by_cases h3 : s.2.2.2.2.1 j = -1
      · simp (disch := first | omega | decide | assumption | exact Nat.le_of_ble_eq_true rfl) only [s242_25, s242_26, s242_27, s242_30, s242_31, ow_some, true_and, and_true, and_self, if_true, if_false, not_true, not_false_eq_true, Bool.false_eq_true, eq_self, Option.toList, List.cons_append, List.nil_append, ix_in, ix_cl, lt_in, lt_cl, lt_add, ix_one, vu_eq, vu_ne, arI_mk, arL_mk, arY_mZ, arY_mB, alen_mI, fld_sfl_ne, fld_sfl_same, Option.isSome_some, pok_i, b1z, b01, z10, b1o, Int32.zero_add, vu_vu, upd_eq, upd_ne, V0.r1, V0.r2, V0.r3, V0.r4, V0.r16, V0.r17, V0.r18, V0.r19, V0.r20, V0.r23, V0.r24, V0.r25, V0.r26, V0.r27, V0.r28, V0.r29, V0.r30, V0.c172, V0.c173, V0.c174, V0.c186, V0.c187, V0.c188, V0.n5, V0.n13, V0.n14, V0.i0, V0.i5, V0.i6, V0.i7, V0.i8, V0.i9, V0.i10, V0.i11, V0.i12, V0.i13, V0.i14, V0.i15, V0.i21, V0.i22, h3]
        exact ⟨rfl, rfl, sm0.w, V0, rfl⟩
      · simp (disch := first | omega | decide | assumption | exact Nat.le_of_ble_eq_true rfl) only [s242_25, s242_26, s242_27, s242_30, s242_31, s242_32, ow_some, true_and, and_true, and_self, if_true, if_false, not_true, not_false_eq_true, Bool.false_eq_true, eq_self, Option.toList, List.cons_append, List.nil_append, ix_in, ix_cl, lt_in, lt_cl, lt_add, ix_one, vu_eq, vu_ne, arI_mk, arL_mk, arY_mZ, arY_mB, alen_mI, fld_sfl_ne, fld_sfl_same, Option.isSome_some, pok_i, b1z, b01, z10, b1o, Int32.zero_add, vu_vu, upd_eq, upd_ne, V0.r1, V0.r2, V0.r3, V0.r4, V0.r16, V0.r17, V0.r18, V0.r19, V0.r20, V0.r23, V0.r24, V0.r25, V0.r26, V0.r27, V0.r28, V0.r29, V0.r30, V0.c172, V0.c173, V0.c174, V0.c186, V0.c187, V0.c188, V0.n5, V0.n13, V0.n14, V0.i0, V0.i5, V0.i6, V0.i7, V0.i8, V0.i9, V0.i10, V0.i11, V0.i12, V0.i13, V0.i14, V0.i15, V0.i21, V0.i22, h3]
        refine k242_33 (cno_MR V0.mr) (Nat.le_of_ble_eq_true rfl) (sp_keeps V0) ?_
        rintro f2 n2 k2 v2 ⟨rfl, rfl, rfl, sw2, V2, w2, hw, hwv⟩
        simp (disch := first | omega | decide | assumption | exact Nat.le_of_ble_eq_true rfl) only [s242_36, s242_37, ow_some, true_and, and_true, and_self, if_true, if_false, not_true, not_false_eq_true, Bool.false_eq_true, eq_self, Option.toList, List.cons_append, List.nil_append, ix_in, ix_cl, lt_in, lt_cl, lt_add, ix_one, vu_eq, vu_ne, arI_mk, arL_mk, arY_mZ, arY_mB, alen_mI, fld_sfl_ne, fld_sfl_same, Option.isSome_some, pok_i, b1z, b01, z10, b1o, Int32.zero_add, vu_vu, upd_eq, upd_ne, V2.r1, V2.r2, V2.r3, V2.r4, V2.r16, V2.r17, V2.r18, V2.r19, V2.r20, V2.r23, V2.r24, V2.r25, V2.r26, V2.r27, V2.r28, V2.r29, V2.r30, V2.c172, V2.c173, V2.c174, V2.c186, V2.c187, V2.c188, V2.n5, V2.n13, V2.n14, V2.i0, V2.i5, V2.i6, V2.i7, V2.i8, V2.i9, V2.i10, V2.i11, V2.i12, V2.i13, V2.i14, V2.i15, V2.i21, V2.i22]
        refine k242_38 (cno_MR V2.mr) (Nat.le_of_ble_eq_true rfl) (sp_tells V2 W hN hj (hR j hj).2 (hR j hj).1) ?_
        rintro f3 n3 k3 v3 ⟨rfl, rfl, sm3, V3, rfl, h21⟩
        simp (disch := first | omega | decide | assumption | exact Nat.le_of_ble_eq_true rfl) only [s242_41, s242_43, s242_44, s242_47, s242_49, s242_50, s242_52, s242_53, s242_56, s242_58, s242_59, s242_61, ow_some, true_and, and_true, and_self, if_true, if_false, not_true, not_false_eq_true, Bool.false_eq_true, eq_self, Option.toList, List.cons_append, List.nil_append, ix_in, ix_cl, lt_in, lt_cl, lt_add, ix_one, vu_eq, vu_ne, arI_mk, arL_mk, arY_mZ, arY_mB, alen_mI, fld_sfl_ne, fld_sfl_same, Option.isSome_some, pok_i, b1z, b01, z10, b1o, Int32.zero_add, vu_vu, upd_eq, upd_ne, V3.r1, V3.r2, V3.r3, V3.r4, V3.r16, V3.r17, V3.r18, V3.r19, V3.r20, V3.r23, V3.r24, V3.r25, V3.r26, V3.r27, V3.r28, V3.r29, V3.r30, V3.c172, V3.c173, V3.c174, V3.c186, V3.c187, V3.c188, V3.n5, V3.n13, V3.n14, V3.i0, V3.i5, V3.i6, V3.i7, V3.i8, V3.i9, V3.i10, V3.i11, V3.i12, V3.i13, V3.i14, V3.i15, V3.i21, V3.i22]
        refine k242_62 (cno_MR V3.mr) (Nat.le_of_ble_eq_true rfl) ((sp_isAgain V3 (by rw [sm3 180 (by omega)]; exact hw)).np _ np_M (by decide)) ?_
        rintro f4 n4 k4 v4 ⟨⟨rfl, rfl, sm4, V4, rfl⟩, ko⟩
        have hb : m_back ((m_tell (fun i => s.2.2.2.2.2.2 (40 * j + i)) S P (nM s j) 0 s.1).2.2) w2 40 = s.1 := back_id (fun a ha => tell_hi W.1.2.2.1 W.1.2.2.2.2.1 ha _ _ _) hwv
        simp only [hb] at V4
        rw [← V3.ko hN ko] at h21
        have hfin : SW f f4 := ((sm0.w.tr sw2).tr (sm3.tr sm4).w)
        unfold m_told
        by_cases w0 : w = 0
        · by_cases w1 : (m_tell (fun i => s.2.2.2.2.2.2 (40 * j + i)) S P (nM s j) 0 s.1).2.1 = 0
          · simp (disch := first | omega | decide | assumption | exact Nat.le_of_ble_eq_true rfl) only [s242_65, s242_66, s242_69, s242_70, s242_73, s242_76, s242_77, s242_80, s242_82, s242_85, s242_86, s242_87, s242_90, s242_91, s242_94, s242_97, s242_98, s242_99, s242_102, s242_104, s242_107, s242_109, ow_some, true_and, and_true, and_self, if_true, if_false, not_true, not_false_eq_true, Bool.false_eq_true, eq_self, Option.toList, List.cons_append, List.nil_append, ix_in, ix_cl, lt_in, lt_cl, lt_add, ix_one, vu_eq, vu_ne, arI_mk, arL_mk, arY_mZ, arY_mB, alen_mI, fld_sfl_ne, fld_sfl_same, Option.isSome_some, pok_i, b1z, b01, z10, b1o, Int32.zero_add, vu_vu, upd_eq, upd_ne, V4.r1, V4.r2, V4.r3, V4.r4, V4.r16, V4.r17, V4.r18, V4.r19, V4.r20, V4.r23, V4.r24, V4.r25, V4.r26, V4.r27, V4.r28, V4.r29, V4.r30, V4.c172, V4.c173, V4.c174, V4.c186, V4.c187, V4.c188, V4.n5, V4.n13, V4.n14, V4.i0, V4.i5, V4.i6, V4.i7, V4.i8, V4.i9, V4.i10, V4.i11, V4.i12, V4.i13, V4.i14, V4.i15, V4.i21, V4.i22, w0, h21, w1]
            exact ⟨rfl, rfl, hfin, V4, rfl⟩
          · simp (disch := first | omega | decide | assumption | exact Nat.le_of_ble_eq_true rfl) only [s242_65, s242_66, s242_69, s242_70, s242_73, s242_76, s242_77, s242_80, s242_82, s242_85, s242_86, s242_87, s242_90, s242_91, s242_94, s242_97, s242_98, s242_99, s242_102, s242_104, s242_107, s242_109, ow_some, true_and, and_true, and_self, if_true, if_false, not_true, not_false_eq_true, Bool.false_eq_true, eq_self, Option.toList, List.cons_append, List.nil_append, ix_in, ix_cl, lt_in, lt_cl, lt_add, ix_one, vu_eq, vu_ne, arI_mk, arL_mk, arY_mZ, arY_mB, alen_mI, fld_sfl_ne, fld_sfl_same, Option.isSome_some, pok_i, b1z, b01, z10, b1o, Int32.zero_add, vu_vu, upd_eq, upd_ne, V4.r1, V4.r2, V4.r3, V4.r4, V4.r16, V4.r17, V4.r18, V4.r19, V4.r20, V4.r23, V4.r24, V4.r25, V4.r26, V4.r27, V4.r28, V4.r29, V4.r30, V4.c172, V4.c173, V4.c174, V4.c186, V4.c187, V4.c188, V4.n5, V4.n13, V4.n14, V4.i0, V4.i5, V4.i6, V4.i7, V4.i8, V4.i9, V4.i10, V4.i11, V4.i12, V4.i13, V4.i14, V4.i15, V4.i21, V4.i22, w0, h21, w1]
            exact ⟨rfl, rfl, hfin, V4, rfl⟩
        · by_cases w1 : w = 1
          · simp (disch := first | omega | decide | assumption | exact Nat.le_of_ble_eq_true rfl) only [s242_65, s242_66, s242_69, s242_70, s242_73, s242_76, s242_77, s242_80, s242_82, s242_85, s242_86, s242_87, s242_90, s242_91, s242_94, s242_97, s242_98, s242_99, s242_102, s242_104, s242_107, s242_109, ow_some, true_and, and_true, and_self, if_true, if_false, not_true, not_false_eq_true, Bool.false_eq_true, eq_self, Option.toList, List.cons_append, List.nil_append, ix_in, ix_cl, lt_in, lt_cl, lt_add, ix_one, vu_eq, vu_ne, arI_mk, arL_mk, arY_mZ, arY_mB, alen_mI, fld_sfl_ne, fld_sfl_same, Option.isSome_some, pok_i, b1z, b01, z10, b1o, Int32.zero_add, vu_vu, upd_eq, upd_ne, V4.r1, V4.r2, V4.r3, V4.r4, V4.r16, V4.r17, V4.r18, V4.r19, V4.r20, V4.r23, V4.r24, V4.r25, V4.r26, V4.r27, V4.r28, V4.r29, V4.r30, V4.c172, V4.c173, V4.c174, V4.c186, V4.c187, V4.c188, V4.n5, V4.n13, V4.n14, V4.i0, V4.i5, V4.i6, V4.i7, V4.i8, V4.i9, V4.i10, V4.i11, V4.i12, V4.i13, V4.i14, V4.i15, V4.i21, V4.i22, w0, h21, w1]
            exact ⟨rfl, rfl, hfin, V4, rfl⟩
          · by_cases w2 : w = 2
            · simp (disch := first | omega | decide | assumption | exact Nat.le_of_ble_eq_true rfl) only [s242_65, s242_66, s242_69, s242_70, s242_73, s242_76, s242_77, s242_80, s242_82, s242_85, s242_86, s242_87, s242_90, s242_91, s242_94, s242_97, s242_98, s242_99, s242_102, s242_104, s242_107, s242_109, ow_some, true_and, and_true, and_self, if_true, if_false, not_true, not_false_eq_true, Bool.false_eq_true, eq_self, Option.toList, List.cons_append, List.nil_append, ix_in, ix_cl, lt_in, lt_cl, lt_add, ix_one, vu_eq, vu_ne, arI_mk, arL_mk, arY_mZ, arY_mB, alen_mI, fld_sfl_ne, fld_sfl_same, Option.isSome_some, pok_i, b1z, b01, z10, b1o, Int32.zero_add, vu_vu, upd_eq, upd_ne, V4.r1, V4.r2, V4.r3, V4.r4, V4.r16, V4.r17, V4.r18, V4.r19, V4.r20, V4.r23, V4.r24, V4.r25, V4.r26, V4.r27, V4.r28, V4.r29, V4.r30, V4.c172, V4.c173, V4.c174, V4.c186, V4.c187, V4.c188, V4.n5, V4.n13, V4.n14, V4.i0, V4.i5, V4.i6, V4.i7, V4.i8, V4.i9, V4.i10, V4.i11, V4.i12, V4.i13, V4.i14, V4.i15, V4.i21, V4.i22, w0, h21, w1, w2]
              exact ⟨rfl, rfl, hfin, V4, rfl⟩
            · simp (disch := first | omega | decide | assumption | exact Nat.le_of_ble_eq_true rfl) only [s242_65, s242_66, s242_69, s242_70, s242_73, s242_76, s242_77, s242_80, s242_82, s242_85, s242_86, s242_87, s242_90, s242_91, s242_94, s242_97, s242_98, s242_99, s242_102, s242_104, s242_107, s242_109, ow_some, true_and, and_true, and_self, if_true, if_false, not_true, not_false_eq_true, Bool.false_eq_true, eq_self, Option.toList, List.cons_append, List.nil_append, ix_in, ix_cl, lt_in, lt_cl, lt_add, ix_one, vu_eq, vu_ne, arI_mk, arL_mk, arY_mZ, arY_mB, alen_mI, fld_sfl_ne, fld_sfl_same, Option.isSome_some, pok_i, b1z, b01, z10, b1o, Int32.zero_add, vu_vu, upd_eq, upd_ne, V4.r1, V4.r2, V4.r3, V4.r4, V4.r16, V4.r17, V4.r18, V4.r19, V4.r20, V4.r23, V4.r24, V4.r25, V4.r26, V4.r27, V4.r28, V4.r29, V4.r30, V4.c172, V4.c173, V4.c174, V4.c186, V4.c187, V4.c188, V4.n5, V4.n13, V4.n14, V4.i0, V4.i5, V4.i6, V4.i7, V4.i8, V4.i9, V4.i10, V4.i11, V4.i12, V4.i13, V4.i14, V4.i15, V4.i21, V4.i22, w0, h21, w1, w2]
              exact ⟨rfl, rfl, hfin, V4, rfl⟩
    · simp only [h2, if_false]
      simp (disch := first | omega | decide | assumption | exact Nat.le_of_ble_eq_true rfl) only [s242_25, s242_26, s242_27, s242_30, s242_31, ow_some, true_and, and_true, and_self, if_true, if_false, not_true, not_false_eq_true, Bool.false_eq_true, eq_self, Option.toList, List.cons_append, List.nil_append, ix_in, ix_cl, lt_in, lt_cl, lt_add, ix_one, vu_eq, vu_ne, arI_mk, arL_mk, arY_mZ, arY_mB, alen_mI, fld_sfl_ne, fld_sfl_same, Option.isSome_some, pok_i, b1z, b01, z10, b1o, Int32.zero_add, vu_vu, upd_eq, upd_ne, V0.r1, V0.r2, V0.r3, V0.r4, V0.r16, V0.r17, V0.r18, V0.r19, V0.r20, V0.r23, V0.r24, V0.r25, V0.r26, V0.r27, V0.r28, V0.r29, V0.r30, V0.c172, V0.c173, V0.c174, V0.c186, V0.c187, V0.c188, V0.n5, V0.n13, V0.n14, V0.i0, V0.i5, V0.i6, V0.i7, V0.i8, V0.i9, V0.i10, V0.i11, V0.i12, V0.i13, V0.i14, V0.i15, V0.i21, V0.i22]
      exact ⟨rfl, rfl, sm0.w, V0, rfl⟩
  · rw [if_neg h1]
    simp (disch := first | omega | decide | assumption | exact Nat.le_of_ble_eq_true rfl) only [s242_14, s242_17, s242_19, ow_some, true_and, and_true, and_self, if_true, if_false, not_true, not_false_eq_true, Bool.false_eq_true, eq_self, Option.toList, List.cons_append, List.nil_append, ix_in, ix_cl, lt_in, lt_cl, lt_add, ix_one, vu_eq, vu_ne, arI_mk, arL_mk, arY_mZ, arY_mB, alen_mI, fld_sfl_ne, fld_sfl_same, Option.isSome_some, pok_i, b1z, b01, z10, b1o, Int32.zero_add, vu_vu, upd_eq, upd_ne, V0.r1, V0.r2, V0.r3, V0.r4, V0.r16, V0.r17, V0.r18, V0.r19, V0.r20, V0.r23, V0.r24, V0.r25, V0.r26, V0.r27, V0.r28, V0.r29, V0.r30, V0.c172, V0.c173, V0.c174, V0.c186, V0.c187, V0.c188, V0.n5, V0.n13, V0.n14, V0.i0, V0.i5, V0.i6, V0.i7, V0.i8, V0.i9, V0.i10, V0.i11, V0.i12, V0.i13, V0.i14, V0.i15, V0.i21, V0.i22, h1]
    exact ⟨rfl, rfl, sm0.w, V0, rfl⟩
def o_perf (s : m_T) (S P D : Nat) (t : Int32) : (Nat → Int32) × Int32 := if 0 ≤ t.toInt ∧ t.toInt ≤ 3 then (if s.2.2.2.2.1 t.toInt.toNat = -1 then (s.1, -6) else if (m_told s S P t.toInt.toNat).1 = 0 then ((m_told s S P t.toInt.toNat).2.2, 0) else (m_note (m_told s S P t.toInt.toNat).2.2 (m_kept s.1) D, nI (m_told s S P t.toInt.toNat).1)) else (s.1, -2)
theorem tell_le {q : Nat → Int64} {S P : Nat} : ∀ (m k : Nat) (all : Nat → Int32), (m_tell q S P m k all).1 ≤ k + m := by
  intro m
  induction m with
  | zero => intro k all; exact Nat.le_refl _
  | succ m ih =>
    intro k all
    unfold m_tell
    split
    · have := ih (k + 1) (m_does all S P (q k).toInt); omega
    · show k ≤ _; omega
theorem sp_perform {X : Nat × (Nat → Int32)} {d N K : Nat} {f : Nat → e_C} {s : m_T} {S P : Nat} (V : MV f s) (W : WF s.1 S P) {D : Nat} (hD : s.1 92 = nI D) (hD2 : D ≤ 10) (hR : RM s) (hN : 189 ≤ N) {t : Int32} {a2 a3 : Value} : TT X (d + 10) 248 0 [.ref 171, .int t, a2, a3] [] f N K (MZ N K f (o_perf s S P D t) s.2) := by
  simp only [s248_0, s248_1, s248_2, V.i0, pok_i, true_and]
  have sm0 : SM f (va_up f 171 (sfl (f 171) 0 (.int 0))) := SM.up (by omega) (by omega)
  have V0 := V.num (j := 0) (x := 0) (by decide)
  generalize va_up f 171 (sfl (f 171) 0 (.int 0)) = f0 at sm0 V0 ⊢
  simp (disch := first | omega | decide | assumption | exact Nat.le_of_ble_eq_true rfl) only [s248_5, s248_6, ow_some, true_and, and_true, and_self, if_true, if_false, not_true, not_false_eq_true, Bool.false_eq_true, eq_self, Option.toList, List.cons_append, List.nil_append, ix_in, ix_cl, lt_in, lt_cl, lt_add, ix_one, vu_eq, vu_ne, arI_mk, arL_mk, arY_mZ, arY_mB, alen_mI, fld_sfl_ne, fld_sfl_same, Option.isSome_some, pok_i, b1z, b01, z10, b1o, Int32.zero_add, vu_vu, upd_eq, upd_ne, V0.r1, V0.r2, V0.r3, V0.r4, V0.r16, V0.r17, V0.r18, V0.r19, V0.r20, V0.r23, V0.r24, V0.r25, V0.r26, V0.r27, V0.r28, V0.r29, V0.r30, V0.c172, V0.c173, V0.c174, V0.c186, V0.c187, V0.c188, V0.n5, V0.n13, V0.n14, V0.i0, V0.i5, V0.i6, V0.i7, V0.i8, V0.i9, V0.i10, V0.i11, V0.i12, V0.i13, V0.i14, V0.i15, V0.i21, V0.i22]
  rw [p248_7 (cno_MR V0.mr) (Nat.le_of_ble_eq_true rfl) (sp_noTray V0)]
  unfold o_perf
  simp only [t03]
  by_cases h2 : 0 ≤ t.toInt ∧ t.toInt ≤ 3
  · obtain ⟨j, hj, rfl, hv⟩ := i9 (v := t) (N := 4) (by omega) (by omega) (by omega)
    have hcl : (nI j).toNatClampNeg = j := ix_cl (by omega)
    simp only [hv] at h2
    simp only [hv, h2, and_self, if_true, hcl, Int.toNat_natCast]
    by_cases h3 : s.2.2.2.2.1 j = -1
    · simp (disch := first | omega | decide | assumption | exact Nat.le_of_ble_eq_true rfl) only [s248_10, s248_11, s248_12, s248_15, s248_16, ow_some, true_and, and_true, and_self, if_true, if_false, not_true, not_false_eq_true, Bool.false_eq_true, eq_self, Option.toList, List.cons_append, List.nil_append, ix_in, ix_cl, lt_in, lt_cl, lt_add, ix_one, vu_eq, vu_ne, arI_mk, arL_mk, arY_mZ, arY_mB, alen_mI, fld_sfl_ne, fld_sfl_same, Option.isSome_some, pok_i, b1z, b01, z10, b1o, Int32.zero_add, vu_vu, upd_eq, upd_ne, V0.r1, V0.r2, V0.r3, V0.r4, V0.r16, V0.r17, V0.r18, V0.r19, V0.r20, V0.r23, V0.r24, V0.r25, V0.r26, V0.r27, V0.r28, V0.r29, V0.r30, V0.c172, V0.c173, V0.c174, V0.c186, V0.c187, V0.c188, V0.n5, V0.n13, V0.n14, V0.i0, V0.i5, V0.i6, V0.i7, V0.i8, V0.i9, V0.i10, V0.i11, V0.i12, V0.i13, V0.i14, V0.i15, V0.i21, V0.i22, h3]
      exact ⟨rfl, rfl, sm0.w, V0, rfl⟩
    · simp (disch := first | omega | decide | assumption | exact Nat.le_of_ble_eq_true rfl) only [s248_10, s248_11, s248_12, s248_15, s248_16, s248_17, ow_some, true_and, and_true, and_self, if_true, if_false, not_true, not_false_eq_true, Bool.false_eq_true, eq_self, Option.toList, List.cons_append, List.nil_append, ix_in, ix_cl, lt_in, lt_cl, lt_add, ix_one, vu_eq, vu_ne, arI_mk, arL_mk, arY_mZ, arY_mB, alen_mI, fld_sfl_ne, fld_sfl_same, Option.isSome_some, pok_i, b1z, b01, z10, b1o, Int32.zero_add, vu_vu, upd_eq, upd_ne, V0.r1, V0.r2, V0.r3, V0.r4, V0.r16, V0.r17, V0.r18, V0.r19, V0.r20, V0.r23, V0.r24, V0.r25, V0.r26, V0.r27, V0.r28, V0.r29, V0.r30, V0.c172, V0.c173, V0.c174, V0.c186, V0.c187, V0.c188, V0.n5, V0.n13, V0.n14, V0.i0, V0.i5, V0.i6, V0.i7, V0.i8, V0.i9, V0.i10, V0.i11, V0.i12, V0.i13, V0.i14, V0.i15, V0.i21, V0.i22, h3]
      refine k248_18 (cno_MR V0.mr) (Nat.le_of_ble_eq_true rfl) (sp_keeps V0) ?_
      rintro f2 n2 k2 v2 ⟨rfl, rfl, rfl, sw2, V2, w2, hw, hwv⟩
      simp (disch := first | omega | decide | assumption | exact Nat.le_of_ble_eq_true rfl) only [s248_21, s248_22, ow_some, true_and, and_true, and_self, if_true, if_false, not_true, not_false_eq_true, Bool.false_eq_true, eq_self, Option.toList, List.cons_append, List.nil_append, ix_in, ix_cl, lt_in, lt_cl, lt_add, ix_one, vu_eq, vu_ne, arI_mk, arL_mk, arY_mZ, arY_mB, alen_mI, fld_sfl_ne, fld_sfl_same, Option.isSome_some, pok_i, b1z, b01, z10, b1o, Int32.zero_add, vu_vu, upd_eq, upd_ne, V2.r1, V2.r2, V2.r3, V2.r4, V2.r16, V2.r17, V2.r18, V2.r19, V2.r20, V2.r23, V2.r24, V2.r25, V2.r26, V2.r27, V2.r28, V2.r29, V2.r30, V2.c172, V2.c173, V2.c174, V2.c186, V2.c187, V2.c188, V2.n5, V2.n13, V2.n14, V2.i0, V2.i5, V2.i6, V2.i7, V2.i8, V2.i9, V2.i10, V2.i11, V2.i12, V2.i13, V2.i14, V2.i15, V2.i21, V2.i22]
      refine k248_23 (cno_MR V2.mr) (Nat.le_of_ble_eq_true rfl) (sp_tells V2 W hN hj (hR j hj).2 (hR j hj).1) ?_
      rintro f3 n3 k3 v3 ⟨rfl, rfl, sm3, V3, rfl, h21⟩
      unfold m_told
      have hle := tell_le (q := fun i => s.2.2.2.2.2.2 (40 * j + i)) (S := S) (P := P) (nM s j) 0 s.1
      have h92 := tell_hi (q := fun i => s.2.2.2.2.2.2 (40 * j + i)) (a := 92) W.1.2.2.1 W.1.2.2.2.2.1 (by omega) (nM s j) 0 s.1
      have hm40 := (hR j hj).1
      generalize m_tell (fun i => s.2.2.2.2.2.2 (40 * j + i)) S P (nM s j) 0 s.1 = r at *
      by_cases h0 : r.1 = 0
      · have ez : (nI r.1 ≤ 0) = True := eq_true (by rw [h0]; decide)
        simp (disch := first | omega | decide | assumption | exact Nat.le_of_ble_eq_true rfl) only [s248_26, s248_27, s248_28, s248_31, s248_35, s248_36, ow_some, true_and, and_true, and_self, if_true, if_false, not_true, not_false_eq_true, Bool.false_eq_true, eq_self, Option.toList, List.cons_append, List.nil_append, ix_in, ix_cl, lt_in, lt_cl, lt_add, ix_one, vu_eq, vu_ne, arI_mk, arL_mk, arY_mZ, arY_mB, alen_mI, fld_sfl_ne, fld_sfl_same, Option.isSome_some, pok_i, b1z, b01, z10, b1o, Int32.zero_add, vu_vu, upd_eq, upd_ne, V3.r1, V3.r2, V3.r3, V3.r4, V3.r16, V3.r17, V3.r18, V3.r19, V3.r20, V3.r23, V3.r24, V3.r25, V3.r26, V3.r27, V3.r28, V3.r29, V3.r30, V3.c172, V3.c173, V3.c174, V3.c186, V3.c187, V3.c188, V3.n5, V3.n13, V3.n14, V3.i0, V3.i5, V3.i6, V3.i7, V3.i8, V3.i9, V3.i10, V3.i11, V3.i12, V3.i13, V3.i14, V3.i15, V3.i21, V3.i22, ez, h0]
        exact ⟨rfl, rfl, (sm0.w.tr sw2).tr sm3.w, V3, rfl⟩
      · have ez : (nI r.1 ≤ 0) = False := by rw [le_lt (c := 0) (by decide) (by omega)]; exact eq_false (by omega)
        simp (disch := first | omega | decide | assumption | exact Nat.le_of_ble_eq_true rfl) only [s248_26, s248_27, s248_28, s248_31, ow_some, true_and, and_true, and_self, if_true, if_false, not_true, not_false_eq_true, Bool.false_eq_true, eq_self, Option.toList, List.cons_append, List.nil_append, ix_in, ix_cl, lt_in, lt_cl, lt_add, ix_one, vu_eq, vu_ne, arI_mk, arL_mk, arY_mZ, arY_mB, alen_mI, fld_sfl_ne, fld_sfl_same, Option.isSome_some, pok_i, b1z, b01, z10, b1o, Int32.zero_add, vu_vu, upd_eq, upd_ne, V3.r1, V3.r2, V3.r3, V3.r4, V3.r16, V3.r17, V3.r18, V3.r19, V3.r20, V3.r23, V3.r24, V3.r25, V3.r26, V3.r27, V3.r28, V3.r29, V3.r30, V3.c172, V3.c173, V3.c174, V3.c186, V3.c187, V3.c188, V3.n5, V3.n13, V3.n14, V3.i0, V3.i5, V3.i6, V3.i7, V3.i8, V3.i9, V3.i10, V3.i11, V3.i12, V3.i13, V3.i14, V3.i15, V3.i21, V3.i22, ez, h0]
        refine k248_32 (cno_MR V3.mr) (Nat.le_of_ble_eq_true rfl) (sp_notes V3 (by rw [sm3 180 (by omega)]; exact hw) (h92.trans hD) hD2) ?_
        rintro f4 n4 k4 v4 ⟨rfl, rfl, sm4, V4, rfl⟩
        rw [note_cg (w' := m_kept s.1) hwv] at V4
        simp (disch := first | omega | decide | assumption | exact Nat.le_of_ble_eq_true rfl) only [s248_35, s248_36, ow_some, true_and, and_true, and_self, if_true, if_false, not_true, not_false_eq_true, Bool.false_eq_true, eq_self, Option.toList, List.cons_append, List.nil_append, ix_in, ix_cl, lt_in, lt_cl, lt_add, ix_one, vu_eq, vu_ne, arI_mk, arL_mk, arY_mZ, arY_mB, alen_mI, fld_sfl_ne, fld_sfl_same, Option.isSome_some, pok_i, b1z, b01, z10, b1o, Int32.zero_add, vu_vu, upd_eq, upd_ne, V4.r1, V4.r2, V4.r3, V4.r4, V4.r16, V4.r17, V4.r18, V4.r19, V4.r20, V4.r23, V4.r24, V4.r25, V4.r26, V4.r27, V4.r28, V4.r29, V4.r30, V4.c172, V4.c173, V4.c174, V4.c186, V4.c187, V4.c188, V4.n5, V4.n13, V4.n14, V4.i0, V4.i5, V4.i6, V4.i7, V4.i8, V4.i9, V4.i10, V4.i11, V4.i12, V4.i13, V4.i14, V4.i15, V4.i21, V4.i22]
        exact ⟨rfl, rfl, (sm0.w.tr sw2).tr (sm3.tr sm4).w, V4, rfl⟩
  · simp only [h2, if_false]
    simp (disch := first | omega | decide | assumption | exact Nat.le_of_ble_eq_true rfl) only [s248_10, s248_11, s248_12, s248_15, s248_16, ow_some, true_and, and_true, and_self, if_true, if_false, not_true, not_false_eq_true, Bool.false_eq_true, eq_self, Option.toList, List.cons_append, List.nil_append, ix_in, ix_cl, lt_in, lt_cl, lt_add, ix_one, vu_eq, vu_ne, arI_mk, arL_mk, arY_mZ, arY_mB, alen_mI, fld_sfl_ne, fld_sfl_same, Option.isSome_some, pok_i, b1z, b01, z10, b1o, Int32.zero_add, vu_vu, upd_eq, upd_ne, V0.r1, V0.r2, V0.r3, V0.r4, V0.r16, V0.r17, V0.r18, V0.r19, V0.r20, V0.r23, V0.r24, V0.r25, V0.r26, V0.r27, V0.r28, V0.r29, V0.r30, V0.c172, V0.c173, V0.c174, V0.c186, V0.c187, V0.c188, V0.n5, V0.n13, V0.n14, V0.i0, V0.i5, V0.i6, V0.i7, V0.i8, V0.i9, V0.i10, V0.i11, V0.i12, V0.i13, V0.i14, V0.i15, V0.i21, V0.i22]
    exact ⟨rfl, rfl, sm0.w, V0, rfl⟩

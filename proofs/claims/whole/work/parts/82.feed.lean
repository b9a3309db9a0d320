/-! the reference is fed -/
theorem MV.tp {f : Nat → e_C} {s : m_T} {g : Nat → Int32} (h : MV f s) : MV (va_up f 174 (.inl (.int, 900, .inl g))) (s.1, s.2.1, g, s.2.2.2) := by
  intro b h1 h2
  by_cases hb : b = 174
  · subst hb; rw [vu_eq]; rfl
  · rw [vu_ne hb]
    have := h b h1 h2
    unfold mcell at this ⊢
    simp only [hb, if_false] at this ⊢
    exact this
def f_v (a b c d e : Int32) (k : Nat) : Int32 := if k < 4 then a else if k < 8 then b else if k < 12 then c else if k < 16 then d else e
def f_b (v : Int32) (k : Nat) : Int32 := v >>> (nI (24 - 8 * (k % 4)) &&& 31) &&& 255
def f_t (tp : Nat → Int32) (q : Nat) (w : Nat → Int32) (j : Nat) : Nat → Int32 := fun i => if q ≤ i ∧ i < q + j then w (i - q) else tp i
theorem f_t_s {tp w : Nat → Int32} {q j : Nat} : upd (f_t tp q w j) (q + j) (w j) = f_t tp q w (j + 1) := by
  funext i
  by_cases h : i = q + j
  · subst h; rw [upd_eq, f_t, if_pos (by omega)]; congr 1; omega
  · rw [upd_ne h, f_t, f_t]
    by_cases h2 : q ≤ i ∧ i < q + j
    · rw [if_pos h2, if_pos (by omega)]
    · rw [if_neg h2, if_neg (by omega)]
def o_feed (s : m_T) (q : Nat) (a b c d e : Int32) : m_T × Int32 := if q + 20 ≤ 900 then ((s.1, (nI (q + 20), s.2.1.2), f_t s.2.2.1 q (fun k => f_b (f_v a b c d e k) k) 20, s.2.2.2), nI (q + 20)) else (s, -5)
theorem f_k : ∀ k, k < 20 → (24 : Int32) - 8 * (nI k - nI k / 4 * 4) = nI (24 - 8 * (k % 4)) := by decide
theorem sp_feed {X : Nat × (Nat → Int32)} {d N K q : Nat} {f : Nat → e_C} {s : m_T} (V : MV f s) (hq : s.2.1.1 = nI q) (hq2 : q ≤ 900) {x1 x2 x3 x4 x5 : Int32} {a6 a7 : Value} : TT X (d + 8) 172 0 [.ref 171, .int x1, .int x2, .int x3, .int x4, .int x5, a6, a7] [] f N K (MY N K f (o_feed s q x1 x2 x3 x4 x5).1 (.int (o_feed s q x1 x2 x3 x4 x5).2)) := by
  simp only [s172_0, s172_1, s172_2, V.i0, pok_i, true_and]
  have sm0 : SM f (va_up f 171 (sfl (f 171) 0 (.int 0))) := SM.up (by omega) (by omega)
  have V0 := V.num (j := 0) (x := 0) (by decide)
  generalize va_up f 171 (sfl (f 171) 0 (.int 0)) = f0 at sm0 V0 ⊢
  have e20 : nI q + 20 = nI (q + 20) := by rw [lit_nI 20, nI_add]
  have t4 : ((4 : Int32) = 0) = False := eq_false (by decide)
  unfold o_feed
  by_cases h : q + 20 ≤ 900
  · rw [if_pos h]
    have h' : (q + 20 ≤ 900) = True := eq_true h
    simp (disch := first | omega | decide | assumption | exact Nat.le_of_ble_eq_true rfl) only [s172_5, s172_6, s172_9, s172_11, s172_12, s172_15, s172_18, s172_20, s172_21, h172_22, ow_some, true_and, and_true, and_self, if_true, if_false, not_true, not_false_eq_true, Bool.false_eq_true, eq_self, Option.toList, List.cons_append, List.nil_append, ix_in, ix_cl, lt_in, lt_cl, lt_add, ix_one, vu_eq, vu_ne, arI_mk, arL_mk, arY_mZ, arY_mB, alen_mI, fld_sfl_ne, fld_sfl_same, Option.isSome_some, pok_i, b1z, b01, z10, b1o, Int32.zero_add, vu_vu, upd_eq, upd_ne, true_or, or_true, V0.r1, V0.r2, V0.r3, V0.r4, V0.r16, V0.r17, V0.r18, V0.r19, V0.r20, V0.r23, V0.r24, V0.r25, V0.r26, V0.r27, V0.r28, V0.r29, V0.r30, V0.c172, V0.c173, V0.c174, V0.c186, V0.c187, V0.c188, V0.n5, V0.n13, V0.n14, V0.i0, V0.i5, V0.i6, V0.i7, V0.i8, V0.i9, V0.i10, V0.i11, V0.i12, V0.i13, V0.i14, V0.i15, V0.i21, V0.i22, hq, e20, le_lt, h']
    refine lp (fun j g (_ : Value) => SM f g ∧ MV g (s.1, (nI (q + j), s.2.1.2), f_t s.2.2.1 q (fun k => f_b (f_v x1 x2 x3 x4 x5 k) k) j, s.2.2.2)) (fun j u => [.ref 171, .int x1, .int x2, .int x3, .int x4, .int x5, .int (nI j), u]) 20 ?_ ?_ 0 f0 a7 (by omega) ⟨sm0, ?_⟩
    · rintro j g u hj ⟨sm, V1⟩ hI
      have hc : (20 ≤ j) = False := eq_false (by omega)
      have fk := f_k j hj
      have main : ∀ u, TT X (d + 8) 172 77 [.ref 171, .int x1, .int x2, .int x3, .int x4, .int x5, .int (nI j), u] [.int (f_v x1 x2 x3 x4 x5 j)] g N K (MY N K f (s.1, (nI (q + 20), s.2.1.2), f_t s.2.2.1 q (fun k => f_b (f_v x1 x2 x3 x4 x5 k) k) 20, s.2.2.2) (.int (nI (q + 20)))) := by
        intro u
        simp (disch := first | omega | decide | assumption | exact Nat.le_of_ble_eq_true rfl) only [s172_77, s172_79, s172_80, s172_83, s172_84, s172_87, s172_89, s172_91, s172_93, s172_95, s172_96, s172_97, s172_98, s172_99, s172_100, s172_103, s172_104, ow_some, true_and, and_true, and_self, if_true, if_false, not_true, not_false_eq_true, Bool.false_eq_true, eq_self, Option.toList, List.cons_append, List.nil_append, ix_in, ix_cl, lt_in, lt_cl, lt_add, ix_one, vu_eq, vu_ne, arI_mk, arL_mk, arY_mZ, arY_mB, alen_mI, fld_sfl_ne, fld_sfl_same, Option.isSome_some, pok_i, b1z, b01, z10, b1o, Int32.zero_add, vu_vu, upd_eq, upd_ne, true_or, or_true, V1.r1, V1.r2, V1.r3, V1.r4, V1.r16, V1.r17, V1.r18, V1.r19, V1.r20, V1.r23, V1.r24, V1.r25, V1.r26, V1.r27, V1.r28, V1.r29, V1.r30, V1.c172, V1.c173, V1.c174, V1.c186, V1.c187, V1.c188, V1.n5, V1.n13, V1.n14, V1.i0, V1.i5, V1.i6, V1.i7, V1.i8, V1.i9, V1.i10, V1.i11, V1.i12, V1.i13, V1.i14, V1.i15, V1.i21, V1.i22, t4, ne_eq, fk]
        have V2 := V1.tp (g := f_t s.2.2.1 q (fun k => f_b (f_v x1 x2 x3 x4 x5 k) k) (j + 1))
        have hs := f_t_s (tp := s.2.2.1) (w := fun k => f_b (f_v x1 x2 x3 x4 x5 k) k) (q := q) (j := j)
        have hb : f_b (f_v x1 x2 x3 x4 x5 j) j = f_v x1 x2 x3 x4 x5 j >>> (nI (24 - 8 * (j % 4)) &&& 31) &&& 255 := rfl
        simp only [hb] at hs
        rw [hs]
        have sm2 : SM f (va_up g 174 (.inl (.int, 900, .inl (f_t s.2.2.1 q (fun k => f_b (f_v x1 x2 x3 x4 x5 k) k) (j + 1))))) := sm.tr (SM.up (by omega) (by omega))
        generalize va_up g 174 (.inl (.int, 900, .inl (f_t s.2.2.1 q (fun k => f_b (f_v x1 x2 x3 x4 x5 k) k) (j + 1)))) = g2 at V2 sm2 ⊢
        simp (disch := first | omega | decide | assumption | exact Nat.le_of_ble_eq_true rfl) only [s172_105, s172_106, s172_106i, s172_107, s172_110, s172_111, s172_112, s172_115, h172_118, ow_some, true_and, and_true, and_self, if_true, if_false, not_true, not_false_eq_true, Bool.false_eq_true, eq_self, Option.toList, List.cons_append, List.nil_append, ix_in, ix_cl, lt_in, lt_cl, lt_add, ix_one, vu_eq, vu_ne, arI_mk, arL_mk, arY_mZ, arY_mB, alen_mI, fld_sfl_ne, fld_sfl_same, Option.isSome_some, pok_i, b1z, b01, z10, b1o, Int32.zero_add, vu_vu, upd_eq, upd_ne, true_or, or_true, V2.r1, V2.r2, V2.r3, V2.r4, V2.r16, V2.r17, V2.r18, V2.r19, V2.r20, V2.r23, V2.r24, V2.r25, V2.r26, V2.r27, V2.r28, V2.r29, V2.r30, V2.c172, V2.c173, V2.c174, V2.c186, V2.c187, V2.c188, V2.n5, V2.n13, V2.n14, V2.i0, V2.i5, V2.i6, V2.i7, V2.i8, V2.i9, V2.i10, V2.i11, V2.i12, V2.i13, V2.i14, V2.i15, V2.i21, V2.i22]
        refine hI _ _ ⟨sm2.tr (SM.up (by omega) (by omega)), ?_⟩
        have V3 := V2.nums (j := 5) (x := nI (q + j + 1)) (t := (nI (q + j + 1), s.2.1.2)) (Or.inl ⟨rfl, rfl⟩)
        rw [show q + (j + 1) = q + j + 1 by omega]
        exact V3
      simp (disch := first | omega | decide | assumption | exact Nat.le_of_ble_eq_true rfl) only [s172_24, s172_26, s172_28, s172_31, s172_33, s172_34, ow_some, true_and, and_true, and_self, if_true, if_false, not_true, not_false_eq_true, Bool.false_eq_true, eq_self, Option.toList, List.cons_append, List.nil_append, ix_in, ix_cl, lt_in, lt_cl, lt_add, ix_one, vu_eq, vu_ne, arI_mk, arL_mk, arY_mZ, arY_mB, alen_mI, fld_sfl_ne, fld_sfl_same, Option.isSome_some, pok_i, b1z, b01, z10, b1o, Int32.zero_add, vu_vu, upd_eq, upd_ne, true_or, or_true, V1.r1, V1.r2, V1.r3, V1.r4, V1.r16, V1.r17, V1.r18, V1.r19, V1.r20, V1.r23, V1.r24, V1.r25, V1.r26, V1.r27, V1.r28, V1.r29, V1.r30, V1.c172, V1.c173, V1.c174, V1.c186, V1.c187, V1.c188, V1.n5, V1.n13, V1.n14, V1.i0, V1.i5, V1.i6, V1.i7, V1.i8, V1.i9, V1.i10, V1.i11, V1.i12, V1.i13, V1.i14, V1.i15, V1.i21, V1.i22, lt_le, hc]
      by_cases c1 : 4 ≤ j
      · by_cases c2 : 8 ≤ j
        · by_cases c3 : 12 ≤ j
          · by_cases c4 : 16 ≤ j
            · have m := main u
              rw [show f_v x1 x2 x3 x4 x5 j = x5 by unfold f_v; rw [if_neg (by omega), if_neg (by omega), if_neg (by omega), if_neg (by omega)]] at m
              have q1 : (4 ≤ j) = True := eq_true c1
              have q2 : (8 ≤ j) = True := eq_true c2
              have q3 : (12 ≤ j) = True := eq_true c3
              have q4 : (16 ≤ j) = True := eq_true c4
              simp (disch := first | omega | decide | assumption | exact Nat.le_of_ble_eq_true rfl) only [s172_37, s172_38, s172_41, s172_43, s172_45, s172_48, s172_49, s172_52, s172_54, s172_56, s172_59, s172_60, s172_63, s172_65, s172_67, s172_70, s172_72, s172_75, ow_some, true_and, and_true, and_self, if_true, if_false, not_true, not_false_eq_true, Bool.false_eq_true, eq_self, Option.toList, List.cons_append, List.nil_append, ix_in, ix_cl, lt_in, lt_cl, lt_add, ix_one, vu_eq, vu_ne, arI_mk, arL_mk, arY_mZ, arY_mB, alen_mI, fld_sfl_ne, fld_sfl_same, Option.isSome_some, pok_i, b1z, b01, z10, b1o, Int32.zero_add, vu_vu, upd_eq, upd_ne, true_or, or_true, V1.r1, V1.r2, V1.r3, V1.r4, V1.r16, V1.r17, V1.r18, V1.r19, V1.r20, V1.r23, V1.r24, V1.r25, V1.r26, V1.r27, V1.r28, V1.r29, V1.r30, V1.c172, V1.c173, V1.c174, V1.c186, V1.c187, V1.c188, V1.n5, V1.n13, V1.n14, V1.i0, V1.i5, V1.i6, V1.i7, V1.i8, V1.i9, V1.i10, V1.i11, V1.i12, V1.i13, V1.i14, V1.i15, V1.i21, V1.i22, lt_le, q1, q2, q3, q4]
              exact m
            · have m := main u
              rw [show f_v x1 x2 x3 x4 x5 j = x4 by unfold f_v; rw [if_neg (by omega), if_neg (by omega), if_neg (by omega), if_pos (by omega)]] at m
              have q1 : (4 ≤ j) = True := eq_true c1
              have q2 : (8 ≤ j) = True := eq_true c2
              have q3 : (12 ≤ j) = True := eq_true c3
              have q4 : (16 ≤ j) = False := eq_false c4
              simp (disch := first | omega | decide | assumption | exact Nat.le_of_ble_eq_true rfl) only [s172_37, s172_38, s172_41, s172_43, s172_45, s172_48, s172_49, s172_52, s172_54, s172_56, s172_59, s172_60, s172_63, s172_65, s172_67, s172_70, s172_72, s172_75, ow_some, true_and, and_true, and_self, if_true, if_false, not_true, not_false_eq_true, Bool.false_eq_true, eq_self, Option.toList, List.cons_append, List.nil_append, ix_in, ix_cl, lt_in, lt_cl, lt_add, ix_one, vu_eq, vu_ne, arI_mk, arL_mk, arY_mZ, arY_mB, alen_mI, fld_sfl_ne, fld_sfl_same, Option.isSome_some, pok_i, b1z, b01, z10, b1o, Int32.zero_add, vu_vu, upd_eq, upd_ne, true_or, or_true, V1.r1, V1.r2, V1.r3, V1.r4, V1.r16, V1.r17, V1.r18, V1.r19, V1.r20, V1.r23, V1.r24, V1.r25, V1.r26, V1.r27, V1.r28, V1.r29, V1.r30, V1.c172, V1.c173, V1.c174, V1.c186, V1.c187, V1.c188, V1.n5, V1.n13, V1.n14, V1.i0, V1.i5, V1.i6, V1.i7, V1.i8, V1.i9, V1.i10, V1.i11, V1.i12, V1.i13, V1.i14, V1.i15, V1.i21, V1.i22, lt_le, q1, q2, q3, q4]
              exact m
          · have m := main u
            rw [show f_v x1 x2 x3 x4 x5 j = x3 by unfold f_v; rw [if_neg (by omega), if_neg (by omega), if_pos (by omega)]] at m
            have q1 : (4 ≤ j) = True := eq_true c1
            have q2 : (8 ≤ j) = True := eq_true c2
            have q3 : (12 ≤ j) = False := eq_false c3
            simp (disch := first | omega | decide | assumption | exact Nat.le_of_ble_eq_true rfl) only [s172_37, s172_38, s172_41, s172_43, s172_45, s172_48, s172_49, s172_52, s172_54, s172_56, s172_59, s172_60, s172_63, s172_65, s172_67, s172_70, s172_72, s172_75, ow_some, true_and, and_true, and_self, if_true, if_false, not_true, not_false_eq_true, Bool.false_eq_true, eq_self, Option.toList, List.cons_append, List.nil_append, ix_in, ix_cl, lt_in, lt_cl, lt_add, ix_one, vu_eq, vu_ne, arI_mk, arL_mk, arY_mZ, arY_mB, alen_mI, fld_sfl_ne, fld_sfl_same, Option.isSome_some, pok_i, b1z, b01, z10, b1o, Int32.zero_add, vu_vu, upd_eq, upd_ne, true_or, or_true, V1.r1, V1.r2, V1.r3, V1.r4, V1.r16, V1.r17, V1.r18, V1.r19, V1.r20, V1.r23, V1.r24, V1.r25, V1.r26, V1.r27, V1.r28, V1.r29, V1.r30, V1.c172, V1.c173, V1.c174, V1.c186, V1.c187, V1.c188, V1.n5, V1.n13, V1.n14, V1.i0, V1.i5, V1.i6, V1.i7, V1.i8, V1.i9, V1.i10, V1.i11, V1.i12, V1.i13, V1.i14, V1.i15, V1.i21, V1.i22, lt_le, q1, q2, q3]
            exact m
        · have m := main u
          rw [show f_v x1 x2 x3 x4 x5 j = x2 by unfold f_v; rw [if_neg (by omega), if_pos (by omega)]] at m
          have q1 : (4 ≤ j) = True := eq_true c1
          have q2 : (8 ≤ j) = False := eq_false c2
          simp (disch := first | omega | decide | assumption | exact Nat.le_of_ble_eq_true rfl) only [s172_37, s172_38, s172_41, s172_43, s172_45, s172_48, s172_49, s172_52, s172_54, s172_56, s172_59, s172_60, s172_63, s172_65, s172_67, s172_70, s172_72, s172_75, ow_some, true_and, and_true, and_self, if_true, if_false, not_true, not_false_eq_true, Bool.false_eq_true, eq_self, Option.toList, List.cons_append, List.nil_append, ix_in, ix_cl, lt_in, lt_cl, lt_add, ix_one, vu_eq, vu_ne, arI_mk, arL_mk, arY_mZ, arY_mB, alen_mI, fld_sfl_ne, fld_sfl_same, Option.isSome_some, pok_i, b1z, b01, z10, b1o, Int32.zero_add, vu_vu, upd_eq, upd_ne, true_or, or_true, V1.r1, V1.r2, V1.r3, V1.r4, V1.r16, V1.r17, V1.r18, V1.r19, V1.r20, V1.r23, V1.r24, V1.r25, V1.r26, V1.r27, V1.r28, V1.r29, V1.r30, V1.c172, V1.c173, V1.c174, V1.c186, V1.c187, V1.c188, V1.n5, V1.n13, V1.n14, V1.i0, V1.i5, V1.i6, V1.i7, V1.i8, V1.i9, V1.i10, V1.i11, V1.i12, V1.i13, V1.i14, V1.i15, V1.i21, V1.i22, lt_le, q1, q2]
          exact m
      · have m := main u
        rw [show f_v x1 x2 x3 x4 x5 j = x1 by unfold f_v; rw [if_pos (by omega)]] at m
        have q1 : (4 ≤ j) = False := eq_false c1
        simp (disch := first | omega | decide | assumption | exact Nat.le_of_ble_eq_true rfl) only [s172_37, s172_38, s172_41, s172_43, s172_45, s172_48, s172_49, s172_52, s172_54, s172_56, s172_59, s172_60, s172_63, s172_65, s172_67, s172_70, s172_72, s172_75, ow_some, true_and, and_true, and_self, if_true, if_false, not_true, not_false_eq_true, Bool.false_eq_true, eq_self, Option.toList, List.cons_append, List.nil_append, ix_in, ix_cl, lt_in, lt_cl, lt_add, ix_one, vu_eq, vu_ne, arI_mk, arL_mk, arY_mZ, arY_mB, alen_mI, fld_sfl_ne, fld_sfl_same, Option.isSome_some, pok_i, b1z, b01, z10, b1o, Int32.zero_add, vu_vu, upd_eq, upd_ne, true_or, or_true, V1.r1, V1.r2, V1.r3, V1.r4, V1.r16, V1.r17, V1.r18, V1.r19, V1.r20, V1.r23, V1.r24, V1.r25, V1.r26, V1.r27, V1.r28, V1.r29, V1.r30, V1.c172, V1.c173, V1.c174, V1.c186, V1.c187, V1.c188, V1.n5, V1.n13, V1.n14, V1.i0, V1.i5, V1.i6, V1.i7, V1.i8, V1.i9, V1.i10, V1.i11, V1.i12, V1.i13, V1.i14, V1.i15, V1.i21, V1.i22, lt_le, q1]
        exact m
    · rintro g u ⟨sm, V1⟩
      simp (disch := first | omega | decide | assumption | exact Nat.le_of_ble_eq_true rfl) only [s172_24, s172_26, s172_28, s172_121, s172_122, s172_125, ow_some, true_and, and_true, and_self, if_true, if_false, not_true, not_false_eq_true, Bool.false_eq_true, eq_self, Option.toList, List.cons_append, List.nil_append, ix_in, ix_cl, lt_in, lt_cl, lt_add, ix_one, vu_eq, vu_ne, arI_mk, arL_mk, arY_mZ, arY_mB, alen_mI, fld_sfl_ne, fld_sfl_same, Option.isSome_some, pok_i, b1z, b01, z10, b1o, Int32.zero_add, vu_vu, upd_eq, upd_ne, true_or, or_true, V1.r1, V1.r2, V1.r3, V1.r4, V1.r16, V1.r17, V1.r18, V1.r19, V1.r20, V1.r23, V1.r24, V1.r25, V1.r26, V1.r27, V1.r28, V1.r29, V1.r30, V1.c172, V1.c173, V1.c174, V1.c186, V1.c187, V1.c188, V1.n5, V1.n13, V1.n14, V1.i0, V1.i5, V1.i6, V1.i7, V1.i8, V1.i9, V1.i10, V1.i11, V1.i12, V1.i13, V1.i14, V1.i15, V1.i21, V1.i22, lt_le, Nat.le_refl]
      exact ⟨rfl, rfl, sm.w, V1, rfl⟩
    · have : f_t s.2.2.1 q (fun k => f_b (f_v x1 x2 x3 x4 x5 k) k) 0 = s.2.2.1 := by funext i; rw [f_t, if_neg (by omega)]
      rw [this, Nat.add_zero, ← hq]
      exact V0
  · rw [if_neg h]
    have h' : (q + 20 ≤ 900) = False := eq_false h
    simp (disch := first | omega | decide | assumption | exact Nat.le_of_ble_eq_true rfl) only [s172_5, s172_6, s172_9, s172_11, s172_12, s172_15, s172_18, s172_20, ow_some, true_and, and_true, and_self, if_true, if_false, not_true, not_false_eq_true, Bool.false_eq_true, eq_self, Option.toList, List.cons_append, List.nil_append, ix_in, ix_cl, lt_in, lt_cl, lt_add, ix_one, vu_eq, vu_ne, arI_mk, arL_mk, arY_mZ, arY_mB, alen_mI, fld_sfl_ne, fld_sfl_same, Option.isSome_some, pok_i, b1z, b01, z10, b1o, Int32.zero_add, vu_vu, upd_eq, upd_ne, true_or, or_true, V0.r1, V0.r2, V0.r3, V0.r4, V0.r16, V0.r17, V0.r18, V0.r19, V0.r20, V0.r23, V0.r24, V0.r25, V0.r26, V0.r27, V0.r28, V0.r29, V0.r30, V0.c172, V0.c173, V0.c174, V0.c186, V0.c187, V0.c188, V0.n5, V0.n13, V0.n14, V0.i0, V0.i5, V0.i6, V0.i7, V0.i8, V0.i9, V0.i10, V0.i11, V0.i12, V0.i13, V0.i14, V0.i15, V0.i21, V0.i22, hq, e20, le_lt, h']
    exact ⟨rfl, rfl, sm0.w, V0, rfl⟩

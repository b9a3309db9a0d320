/-! the reference: bound, trial -/
def m_bd (c : Nat → Bool) (w : Int32) (n : Nat) : Option Nat := fo (fun b r => if (c b && (decide (w = 1) || r.isNone)) = true then some b else r) none n
theorem bd_s {c : Nat → Bool} {w : Int32} {n : Nat} : m_bd c w (n + 1) = if (c n && (decide (w = 1) || (m_bd c w n).isNone)) = true then some n else m_bd c w n := rfl
theorem bd_lt {c : Nat → Bool} {w : Int32} : ∀ {n x : Nat}, m_bd c w n = some x → x < n := by
  intro n
  induction n with
  | zero => intro x h; cases h
  | succ n ih =>
    intro x h
    rw [bd_s] at h
    split at h
    · cases h; omega
    · have := ih h; omega
def o_bound (s : m_T) (S P : Nat) (t p w : Int32) : Int32 := if 0 ≤ w.toInt ∧ w.toInt ≤ 1 then (if m_nt s P t p = 0 then oI (m_bd (t_fit s S P t.toInt.toNat p.toInt.toNat) w 100) else m_nt s P t p) else -2
theorem sp_bound {X : Nat × (Nat → Int32)} {d N K : Nat} {f : Nat → e_C} {s : m_T} {S P : Nat} (V : MV f s) (W : WF s.1 S P) (hR : RM s) {t p w : Int32} {a4 a5 a6 : Value} : TT X (d + 8) 278 0 [.ref 171, .int t, .int p, .int w, a4, a5, a6] [] f N K (MZ N K f (s.1, o_bound s S P t p w) s.2) := by
  simp only [s278_0, s278_1, s278_2, V.i0, pok_i, true_and]
  have sm0 : SM f (va_up f 171 (sfl (f 171) 0 (.int 0))) := SM.up (by omega) (by omega)
  have V0 := V.num (j := 0) (x := 0) (by decide)
  generalize va_up f 171 (sfl (f 171) 0 (.int 0)) = f0 at sm0 V0 ⊢
  simp (disch := first | omega | decide | assumption | exact Nat.le_of_ble_eq_true rfl) only [s278_5, ow_some, true_and, and_true, and_self, if_true, if_false, not_true, not_false_eq_true, Bool.false_eq_true, eq_self, Option.toList, List.cons_append, List.nil_append, ix_in, ix_cl, lt_in, lt_cl, lt_add, ix_one, vu_eq, vu_ne, arI_mk, arL_mk, arY_mZ, arY_mB, alen_mI, fld_sfl_ne, fld_sfl_same, Option.isSome_some, pok_i, b1z, b01, z10, b1o, Int32.zero_add, vu_vu, upd_eq, upd_ne, true_or, or_true, V0.r1, V0.r2, V0.r3, V0.r4, V0.r16, V0.r17, V0.r18, V0.r19, V0.r20, V0.r23, V0.r24, V0.r25, V0.r26, V0.r27, V0.r28, V0.r29, V0.r30, V0.c172, V0.c173, V0.c174, V0.c186, V0.c187, V0.c188, V0.n5, V0.n13, V0.n14, V0.i0, V0.i5, V0.i6, V0.i7, V0.i8, V0.i9, V0.i10, V0.i11, V0.i12, V0.i13, V0.i14, V0.i15, V0.i21, V0.i22]
  rw [p278_6 (Nat.le_of_ble_eq_true rfl) sp_isWhat]
  simp only [wh1]
  unfold o_bound
  have h9 := W.1.2.2.2.2.1
  by_cases h1 : 0 ≤ w.toInt ∧ w.toInt ≤ 1
  · rw [if_pos h1]
    simp (disch := first | omega | decide | assumption | exact Nat.le_of_ble_eq_true rfl) only [s278_9, s278_12, s278_14, s278_15, s278_16, s278_17, ow_some, true_and, and_true, and_self, if_true, if_false, not_true, not_false_eq_true, Bool.false_eq_true, eq_self, Option.toList, List.cons_append, List.nil_append, ix_in, ix_cl, lt_in, lt_cl, lt_add, ix_one, vu_eq, vu_ne, arI_mk, arL_mk, arY_mZ, arY_mB, alen_mI, fld_sfl_ne, fld_sfl_same, Option.isSome_some, pok_i, b1z, b01, z10, b1o, Int32.zero_add, vu_vu, upd_eq, upd_ne, true_or, or_true, V0.r1, V0.r2, V0.r3, V0.r4, V0.r16, V0.r17, V0.r18, V0.r19, V0.r20, V0.r23, V0.r24, V0.r25, V0.r26, V0.r27, V0.r28, V0.r29, V0.r30, V0.c172, V0.c173, V0.c174, V0.c186, V0.c187, V0.c188, V0.n5, V0.n13, V0.n14, V0.i0, V0.i5, V0.i6, V0.i7, V0.i8, V0.i9, V0.i10, V0.i11, V0.i12, V0.i13, V0.i14, V0.i15, V0.i21, V0.i22, h1]
    rw [p278_18 (cno_MR V0.mr) (Nat.le_of_ble_eq_true rfl) (sp_noTrials V0 W hR)]
    by_cases h0 : m_nt s P t p = 0
    · rw [if_pos h0]
      simp (disch := first | omega | decide | assumption | exact Nat.le_of_ble_eq_true rfl) only [s278_21, s278_23, s278_25, s278_28, s278_30, s278_31, s278_32, s278_33, ow_some, true_and, and_true, and_self, if_true, if_false, not_true, not_false_eq_true, Bool.false_eq_true, eq_self, Option.toList, List.cons_append, List.nil_append, ix_in, ix_cl, lt_in, lt_cl, lt_add, ix_one, vu_eq, vu_ne, arI_mk, arL_mk, arY_mZ, arY_mB, alen_mI, fld_sfl_ne, fld_sfl_same, Option.isSome_some, pok_i, b1z, b01, z10, b1o, Int32.zero_add, vu_vu, upd_eq, upd_ne, true_or, or_true, V0.r1, V0.r2, V0.r3, V0.r4, V0.r16, V0.r17, V0.r18, V0.r19, V0.r20, V0.r23, V0.r24, V0.r25, V0.r26, V0.r27, V0.r28, V0.r29, V0.r30, V0.c172, V0.c173, V0.c174, V0.c186, V0.c187, V0.c188, V0.n5, V0.n13, V0.n14, V0.i0, V0.i5, V0.i6, V0.i7, V0.i8, V0.i9, V0.i10, V0.i11, V0.i12, V0.i13, V0.i14, V0.i15, V0.i21, V0.i22, h0]
      obtain ⟨t', p', rfl, ht, rfl, hp, hok, hth⟩ := nt_0 h0
      rw [nI_tn (by omega), nI_tn (by omega)]
      refine k278_34 (cno_MR V0.mr) (Nat.le_of_ble_eq_true rfl) (sp_laysBuilds V0 W hR ht (show p' < 9 by omega) hok) ?_
      rintro f1 n1 k1 v1 ⟨rfl, rfl, sw1, V1, rfl, g, hg, gv⟩
      have hy := arY_Z hg
      simp (disch := first | omega | decide | assumption | exact Nat.le_of_ble_eq_true rfl) only [s278_37, s278_38, s278_39, s278_41, h278_42, ow_some, true_and, and_true, and_self, if_true, if_false, not_true, not_false_eq_true, Bool.false_eq_true, eq_self, Option.toList, List.cons_append, List.nil_append, ix_in, ix_cl, lt_in, lt_cl, lt_add, ix_one, vu_eq, vu_ne, arI_mk, arL_mk, arY_mZ, arY_mB, alen_mI, fld_sfl_ne, fld_sfl_same, Option.isSome_some, pok_i, b1z, b01, z10, b1o, Int32.zero_add, vu_vu, upd_eq, upd_ne, true_or, or_true, V1.r1, V1.r2, V1.r3, V1.r4, V1.r16, V1.r17, V1.r18, V1.r19, V1.r20, V1.r23, V1.r24, V1.r25, V1.r26, V1.r27, V1.r28, V1.r29, V1.r30, V1.c172, V1.c173, V1.c174, V1.c186, V1.c187, V1.c188, V1.n5, V1.n13, V1.n14, V1.i0, V1.i5, V1.i6, V1.i7, V1.i8, V1.i9, V1.i10, V1.i11, V1.i12, V1.i13, V1.i14, V1.i15, V1.i21, V1.i22]
      refine lp (fun b h (r : Option Nat) => h = f1 ∧ r = m_bd (t_fit s S P t' p') w b) (fun b r => [.ref 171, .int (nI t'), .int (nI p'), .int w, .int 0, .int (oI r), .int (nI b)]) 100 ?_ ?_ 0 f1 none (by omega) ⟨rfl, rfl⟩
      · rintro b h r hb ⟨rfl, hr⟩ hI
        have hc : (99 < b) = False := eq_false (by omega)
        simp (disch := first | omega | decide | assumption | exact Nat.le_of_ble_eq_true rfl) only [s278_44, s278_46, s278_48, s278_51, s278_52, s278_55, y278_57, s278_58, ow_some, true_and, and_true, and_self, if_true, if_false, not_true, not_false_eq_true, Bool.false_eq_true, eq_self, Option.toList, List.cons_append, List.nil_append, ix_in, ix_cl, lt_in, lt_cl, lt_add, ix_one, vu_eq, vu_ne, arI_mk, arL_mk, arY_mZ, arY_mB, alen_mI, fld_sfl_ne, fld_sfl_same, Option.isSome_some, pok_i, b1z, b01, z10, b1o, Int32.zero_add, vu_vu, upd_eq, upd_ne, true_or, or_true, V1.r1, V1.r2, V1.r3, V1.r4, V1.r16, V1.r17, V1.r18, V1.r19, V1.r20, V1.r23, V1.r24, V1.r25, V1.r26, V1.r27, V1.r28, V1.r29, V1.r30, V1.c172, V1.c173, V1.c174, V1.c186, V1.c187, V1.c188, V1.n5, V1.n13, V1.n14, V1.i0, V1.i5, V1.i6, V1.i7, V1.i8, V1.i9, V1.i10, V1.i11, V1.i12, V1.i13, V1.i14, V1.i15, V1.i21, V1.i22, lt_lt, hc, hy, gv, bI0]
        by_cases h2 : t_fit s S P t' p' b = false
        · simp (disch := first | omega | decide | assumption | exact Nat.le_of_ble_eq_true rfl) only [s278_76, h278_79, ow_some, true_and, and_true, and_self, if_true, if_false, not_true, not_false_eq_true, Bool.false_eq_true, eq_self, Option.toList, List.cons_append, List.nil_append, ix_in, ix_cl, lt_in, lt_cl, lt_add, ix_one, vu_eq, vu_ne, arI_mk, arL_mk, arY_mZ, arY_mB, alen_mI, fld_sfl_ne, fld_sfl_same, Option.isSome_some, pok_i, b1z, b01, z10, b1o, Int32.zero_add, vu_vu, upd_eq, upd_ne, true_or, or_true, V1.r1, V1.r2, V1.r3, V1.r4, V1.r16, V1.r17, V1.r18, V1.r19, V1.r20, V1.r23, V1.r24, V1.r25, V1.r26, V1.r27, V1.r28, V1.r29, V1.r30, V1.c172, V1.c173, V1.c174, V1.c186, V1.c187, V1.c188, V1.n5, V1.n13, V1.n14, V1.i0, V1.i5, V1.i6, V1.i7, V1.i8, V1.i9, V1.i10, V1.i11, V1.i12, V1.i13, V1.i14, V1.i15, V1.i21, V1.i22, h2]
          refine hI _ r ⟨rfl, ?_⟩
          rw [bd_s, h2, ← hr]; rfl
        · rw [Bool.not_eq_false] at h2
          by_cases h3 : w = 1
          · have h3' : (w = 1) = True := eq_true h3
            simp (disch := first | omega | decide | assumption | exact Nat.le_of_ble_eq_true rfl) only [s278_61, s278_62, s278_63, s278_66, s278_68, s278_69, s278_72, s278_74, s278_76, h278_79, ow_some, true_and, and_true, and_self, if_true, if_false, not_true, not_false_eq_true, Bool.false_eq_true, eq_self, Option.toList, List.cons_append, List.nil_append, ix_in, ix_cl, lt_in, lt_cl, lt_add, ix_one, vu_eq, vu_ne, arI_mk, arL_mk, arY_mZ, arY_mB, alen_mI, fld_sfl_ne, fld_sfl_same, Option.isSome_some, pok_i, b1z, b01, z10, b1o, Int32.zero_add, vu_vu, upd_eq, upd_ne, true_or, or_true, V1.r1, V1.r2, V1.r3, V1.r4, V1.r16, V1.r17, V1.r18, V1.r19, V1.r20, V1.r23, V1.r24, V1.r25, V1.r26, V1.r27, V1.r28, V1.r29, V1.r30, V1.c172, V1.c173, V1.c174, V1.c186, V1.c187, V1.c188, V1.n5, V1.n13, V1.n14, V1.i0, V1.i5, V1.i6, V1.i7, V1.i8, V1.i9, V1.i10, V1.i11, V1.i12, V1.i13, V1.i14, V1.i15, V1.i21, V1.i22, h2, h3', Bool.true_eq_false]
            refine hI _ (some b) ⟨rfl, ?_⟩
            rw [bd_s, h2, ← hr]; simp [h3]
          · rcases r with _ | x
            · simp (disch := first | omega | decide | assumption | exact Nat.le_of_ble_eq_true rfl) only [s278_61, s278_62, s278_63, s278_66, s278_68, s278_69, s278_72, s278_74, s278_76, h278_79, ow_some, true_and, and_true, and_self, if_true, if_false, not_true, not_false_eq_true, Bool.false_eq_true, eq_self, Option.toList, List.cons_append, List.nil_append, ix_in, ix_cl, lt_in, lt_cl, lt_add, ix_one, vu_eq, vu_ne, arI_mk, arL_mk, arY_mZ, arY_mB, alen_mI, fld_sfl_ne, fld_sfl_same, Option.isSome_some, pok_i, b1z, b01, z10, b1o, Int32.zero_add, vu_vu, upd_eq, upd_ne, true_or, or_true, V1.r1, V1.r2, V1.r3, V1.r4, V1.r16, V1.r17, V1.r18, V1.r19, V1.r20, V1.r23, V1.r24, V1.r25, V1.r26, V1.r27, V1.r28, V1.r29, V1.r30, V1.c172, V1.c173, V1.c174, V1.c186, V1.c187, V1.c188, V1.n5, V1.n13, V1.n14, V1.i0, V1.i5, V1.i6, V1.i7, V1.i8, V1.i9, V1.i10, V1.i11, V1.i12, V1.i13, V1.i14, V1.i15, V1.i21, V1.i22, h2, h3, oI, Bool.true_eq_false]
              refine hI _ (some b) ⟨rfl, ?_⟩
              rw [bd_s, h2, ← hr]; simp
            · have hx : x < b := bd_lt hr.symm
              simp (disch := first | omega | decide | assumption | exact Nat.le_of_ble_eq_true rfl) only [s278_61, s278_62, s278_63, s278_66, s278_68, s278_69, s278_72, s278_74, s278_76, h278_79, ow_some, true_and, and_true, and_self, if_true, if_false, not_true, not_false_eq_true, Bool.false_eq_true, eq_self, Option.toList, List.cons_append, List.nil_append, ix_in, ix_cl, lt_in, lt_cl, lt_add, ix_one, vu_eq, vu_ne, arI_mk, arL_mk, arY_mZ, arY_mB, alen_mI, fld_sfl_ne, fld_sfl_same, Option.isSome_some, pok_i, b1z, b01, z10, b1o, Int32.zero_add, vu_vu, upd_eq, upd_ne, true_or, or_true, V1.r1, V1.r2, V1.r3, V1.r4, V1.r16, V1.r17, V1.r18, V1.r19, V1.r20, V1.r23, V1.r24, V1.r25, V1.r26, V1.r27, V1.r28, V1.r29, V1.r30, V1.c172, V1.c173, V1.c174, V1.c186, V1.c187, V1.c188, V1.n5, V1.n13, V1.n14, V1.i0, V1.i5, V1.i6, V1.i7, V1.i8, V1.i9, V1.i10, V1.i11, V1.i12, V1.i13, V1.i14, V1.i15, V1.i21, V1.i22, h2, h3, oI, ne_m1, Bool.true_eq_false]
              refine hI _ (some x) ⟨rfl, ?_⟩
              rw [bd_s, h2, ← hr]; simp [h3]
      · rintro h r ⟨rfl, rfl⟩
        simp (disch := first | omega | decide | assumption | exact Nat.le_of_ble_eq_true rfl) only [s278_44, s278_46, s278_48, s278_82, s278_84, ow_some, true_and, and_true, and_self, if_true, if_false, not_true, not_false_eq_true, Bool.false_eq_true, eq_self, Option.toList, List.cons_append, List.nil_append, ix_in, ix_cl, lt_in, lt_cl, lt_add, ix_one, vu_eq, vu_ne, arI_mk, arL_mk, arY_mZ, arY_mB, alen_mI, fld_sfl_ne, fld_sfl_same, Option.isSome_some, pok_i, b1z, b01, z10, b1o, Int32.zero_add, vu_vu, upd_eq, upd_ne, true_or, or_true, V1.r1, V1.r2, V1.r3, V1.r4, V1.r16, V1.r17, V1.r18, V1.r19, V1.r20, V1.r23, V1.r24, V1.r25, V1.r26, V1.r27, V1.r28, V1.r29, V1.r30, V1.c172, V1.c173, V1.c174, V1.c186, V1.c187, V1.c188, V1.n5, V1.n13, V1.n14, V1.i0, V1.i5, V1.i6, V1.i7, V1.i8, V1.i9, V1.i10, V1.i11, V1.i12, V1.i13, V1.i14, V1.i15, V1.i21, V1.i22, lt_lt]
        exact ⟨rfl, rfl, sm0.w.tr sw1, V1, rfl⟩
    · rw [if_neg h0]
      simp (disch := first | omega | decide | assumption | exact Nat.le_of_ble_eq_true rfl) only [s278_21, s278_23, s278_25, s278_28, s278_30, ow_some, true_and, and_true, and_self, if_true, if_false, not_true, not_false_eq_true, Bool.false_eq_true, eq_self, Option.toList, List.cons_append, List.nil_append, ix_in, ix_cl, lt_in, lt_cl, lt_add, ix_one, vu_eq, vu_ne, arI_mk, arL_mk, arY_mZ, arY_mB, alen_mI, fld_sfl_ne, fld_sfl_same, Option.isSome_some, pok_i, b1z, b01, z10, b1o, Int32.zero_add, vu_vu, upd_eq, upd_ne, true_or, or_true, V0.r1, V0.r2, V0.r3, V0.r4, V0.r16, V0.r17, V0.r18, V0.r19, V0.r20, V0.r23, V0.r24, V0.r25, V0.r26, V0.r27, V0.r28, V0.r29, V0.r30, V0.c172, V0.c173, V0.c174, V0.c186, V0.c187, V0.c188, V0.n5, V0.n13, V0.n14, V0.i0, V0.i5, V0.i6, V0.i7, V0.i8, V0.i9, V0.i10, V0.i11, V0.i12, V0.i13, V0.i14, V0.i15, V0.i21, V0.i22, h0]
      exact ⟨rfl, rfl, sm0.w, V0, rfl⟩
  · rw [if_neg h1]
    simp (disch := first | omega | decide | assumption | exact Nat.le_of_ble_eq_true rfl) only [s278_9, s278_12, s278_14, ow_some, true_and, and_true, and_self, if_true, if_false, not_true, not_false_eq_true, Bool.false_eq_true, eq_self, Option.toList, List.cons_append, List.nil_append, ix_in, ix_cl, lt_in, lt_cl, lt_add, ix_one, vu_eq, vu_ne, arI_mk, arL_mk, arY_mZ, arY_mB, alen_mI, fld_sfl_ne, fld_sfl_same, Option.isSome_some, pok_i, b1z, b01, z10, b1o, Int32.zero_add, vu_vu, upd_eq, upd_ne, true_or, or_true, V0.r1, V0.r2, V0.r3, V0.r4, V0.r16, V0.r17, V0.r18, V0.r19, V0.r20, V0.r23, V0.r24, V0.r25, V0.r26, V0.r27, V0.r28, V0.r29, V0.r30, V0.c172, V0.c173, V0.c174, V0.c186, V0.c187, V0.c188, V0.n5, V0.n13, V0.n14, V0.i0, V0.i5, V0.i6, V0.i7, V0.i8, V0.i9, V0.i10, V0.i11, V0.i12, V0.i13, V0.i14, V0.i15, V0.i21, V0.i22, h1]
    exact ⟨rfl, rfl, sm0.w, V0, rfl⟩
def t_st (s : m_T) (S P t p o b : Nat) : Bool := t_fit s S P t p b && m_hold (upd s.1 (66 + p) (nI b)) S P (clr (nT s.1) o)
theorem sp_standsBy {X : Nat × (Nat → Int32)} {d N K : Nat} {f : Nat → e_C} {s : m_T} {S P : Nat} (V : MV f s) (W : WF s.1 S P) {t p o : Nat} (hp : p < 9) (ho : o < 9) {g : Nat → Int32} (hg : arZ (f 184) = some (100, g)) (gv : ∀ i, i < 100 → g i = bI (t_fit s S P t p i)) {a3 a4 a5 : Value} : TT X (d + 6) 280 0 [.ref 171, .int (nI p), .int (nI o), a3, a4, a5] [] f N K (MP N K f s (some (.int (nI (cnt (t_st s S P t p o) 100))))) := by
  have hcl := bit_clr (nT s.1) W.T o ho
  simp (disch := first | omega | decide | assumption | exact Nat.le_of_ble_eq_true rfl) only [s280_0, s280_1, s280_4, s280_6, s280_7, s280_8, s280_9, s280_10, s280_11, s280_13, h280_14, ow_some, true_and, and_true, and_self, if_true, if_false, not_true, not_false_eq_true, Bool.false_eq_true, eq_self, Option.toList, List.cons_append, List.nil_append, ix_in, ix_cl, lt_in, lt_cl, lt_add, ix_one, vu_eq, vu_ne, arI_mk, arL_mk, arY_mZ, arY_mB, alen_mI, fld_sfl_ne, fld_sfl_same, Option.isSome_some, pok_i, b1z, b01, z10, b1o, Int32.zero_add, vu_vu, upd_eq, upd_ne, true_or, or_true, V.r1, V.r2, V.r3, V.r4, V.r16, V.r17, V.r18, V.r19, V.r20, V.r23, V.r24, V.r25, V.r26, V.r27, V.r28, V.r29, V.r30, V.c172, V.c173, V.c174, V.c186, V.c187, V.c188, V.n5, V.n13, V.n14, V.i0, V.i5, V.i6, V.i7, V.i8, V.i9, V.i10, V.i11, V.i12, V.i13, V.i14, V.i15, V.i21, V.i22]
  refine lp (fun b h (y : Int32) => SM f h ∧ MV h (upd s.1 (66 + p) y, s.2)) (fun b _ => [.ref 171, .int (nI p), .int (nI o), .int (s.1 (66 + p)), .int (nI (cnt (t_st s S P t p o) b)), .int (nI b)]) 100 ?_ ?_ 0 f (s.1 (66 + p)) (by omega) ⟨SM.rf, by rw [upd_self]; exact V⟩
  · rintro b h y hb ⟨sm, V1⟩ hI
    have hc : (99 < b) = False := eq_false (by omega)
    have hcn := cnt_le (c := t_st s S P t p o) (n := b)
    have hg1 : arZ (h 184) = some (100, g) := by rw [sm 184 (by omega)]; exact hg
    have hy := arY_Z hg1
    have W3 : WF (upd s.1 (66 + p) (nI b)) S P := W.up (by unfold al_i; omega) (by omega)
    have e53 : upd s.1 (66 + p) (nI b) 53 = nI (nT s.1) := by rw [upd_ne (by omega)]; exact W.2.1
    have hcs := cnt_s (c := t_st s S P t p o) (n := b)
    simp (disch := first | omega | decide | assumption | exact Nat.le_of_ble_eq_true rfl) only [s280_16, s280_18, s280_20, s280_23, s280_24, s280_27, s280_29, s280_30, s280_31, s280_33, s280_34, s280_36, s280_37, s280_40, y280_42, s280_43, ow_some, true_and, and_true, and_self, if_true, if_false, not_true, not_false_eq_true, Bool.false_eq_true, eq_self, Option.toList, List.cons_append, List.nil_append, ix_in, ix_cl, lt_in, lt_cl, lt_add, ix_one, vu_eq, vu_ne, arI_mk, arL_mk, arY_mZ, arY_mB, alen_mI, fld_sfl_ne, fld_sfl_same, Option.isSome_some, pok_i, b1z, b01, z10, b1o, Int32.zero_add, vu_vu, upd_eq, upd_ne, true_or, or_true, V1.r1, V1.r2, V1.r3, V1.r4, V1.r16, V1.r17, V1.r18, V1.r19, V1.r20, V1.r23, V1.r24, V1.r25, V1.r26, V1.r27, V1.r28, V1.r29, V1.r30, V1.c172, V1.c173, V1.c174, V1.c186, V1.c187, V1.c188, V1.n5, V1.n13, V1.n14, V1.i0, V1.i5, V1.i6, V1.i7, V1.i8, V1.i9, V1.i10, V1.i11, V1.i12, V1.i13, V1.i14, V1.i15, V1.i21, V1.i22, lt_lt, hc, upd_upd, hy, gv, bI0]
    have V2 : MV (va_up h 172 (.inl (.int, 4182, .inl (upd s.1 (66 + p) (nI b))))) (upd s.1 (66 + p) (nI b), s.2) := V1.all
    have sm2 : SM f (va_up h 172 (.inl (.int, 4182, .inl (upd s.1 (66 + p) (nI b))))) := sm.tr (SM.up (by omega) (by omega))
    generalize va_up h 172 (.inl (.int, 4182, .inl (upd s.1 (66 + p) (nI b)))) = h2 at V2 sm2 ⊢
    by_cases h1 : t_fit s S P t p b = false
    · have e : t_st s S P t p o b = false := by rw [t_st, h1]; rfl
      rw [e] at hcs
      simp only [Bool.false_eq_true, if_false] at hcs
      simp (disch := first | omega | decide | assumption | exact Nat.le_of_ble_eq_true rfl) only [s280_70, s280_71, s280_72, s280_74, h280_77, ow_some, true_and, and_true, and_self, if_true, if_false, not_true, not_false_eq_true, Bool.false_eq_true, eq_self, Option.toList, List.cons_append, List.nil_append, ix_in, ix_cl, lt_in, lt_cl, lt_add, ix_one, vu_eq, vu_ne, arI_mk, arL_mk, arY_mZ, arY_mB, alen_mI, fld_sfl_ne, fld_sfl_same, Option.isSome_some, pok_i, b1z, b01, z10, b1o, Int32.zero_add, vu_vu, upd_eq, upd_ne, true_or, or_true, V2.r1, V2.r2, V2.r3, V2.r4, V2.r16, V2.r17, V2.r18, V2.r19, V2.r20, V2.r23, V2.r24, V2.r25, V2.r26, V2.r27, V2.r28, V2.r29, V2.r30, V2.c172, V2.c173, V2.c174, V2.c186, V2.c187, V2.c188, V2.n5, V2.n13, V2.n14, V2.i0, V2.i5, V2.i6, V2.i7, V2.i8, V2.i9, V2.i10, V2.i11, V2.i12, V2.i13, V2.i14, V2.i15, V2.i21, V2.i22, h1, Int32.add_zero]
      rw [← hcs]
      exact hI h2 (nI b) ⟨sm2, V2⟩
    · rw [Bool.not_eq_false] at h1
      simp (disch := first | omega | decide | assumption | exact Nat.le_of_ble_eq_true rfl) only [s280_46, s280_47, s280_48, s280_51, s280_53, s280_54, s280_55, s280_56, s280_57, s280_58, s280_59, ow_some, true_and, and_true, and_self, if_true, if_false, not_true, not_false_eq_true, Bool.false_eq_true, eq_self, Option.toList, List.cons_append, List.nil_append, ix_in, ix_cl, lt_in, lt_cl, lt_add, ix_one, vu_eq, vu_ne, arI_mk, arL_mk, arY_mZ, arY_mB, alen_mI, fld_sfl_ne, fld_sfl_same, Option.isSome_some, pok_i, b1z, b01, z10, b1o, Int32.zero_add, vu_vu, upd_eq, upd_ne, true_or, or_true, V2.r1, V2.r2, V2.r3, V2.r4, V2.r16, V2.r17, V2.r18, V2.r19, V2.r20, V2.r23, V2.r24, V2.r25, V2.r26, V2.r27, V2.r28, V2.r29, V2.r30, V2.c172, V2.c173, V2.c174, V2.c186, V2.c187, V2.c188, V2.n5, V2.n13, V2.n14, V2.i0, V2.i5, V2.i6, V2.i7, V2.i8, V2.i9, V2.i10, V2.i11, V2.i12, V2.i13, V2.i14, V2.i15, V2.i21, V2.i22, h1, Bool.true_eq_false, W.2.1, hcl.1]
      refine k280_60 (cno_MR V2.mr) (Nat.le_of_ble_eq_true rfl) (vb_hold V2 W3 hcl.2) ?_
      rintro h5 n5 k5 v5 ⟨rfl, rfl, sm5, V5, rfl⟩
      by_cases hh : m_hold (upd s.1 (66 + p) (nI b)) S P (clr (nT s.1) o) = true
      · have e : t_st s S P t p o b = true := by rw [t_st, h1, hh]; rfl
        rw [e] at hcs
        simp only [if_true] at hcs
        simp (disch := first | omega | decide | assumption | exact Nat.le_of_ble_eq_true rfl) only [s280_63, s280_66, s280_67, s280_70, s280_71, s280_72, s280_74, h280_77, ow_some, true_and, and_true, and_self, if_true, if_false, not_true, not_false_eq_true, Bool.false_eq_true, eq_self, Option.toList, List.cons_append, List.nil_append, ix_in, ix_cl, lt_in, lt_cl, lt_add, ix_one, vu_eq, vu_ne, arI_mk, arL_mk, arY_mZ, arY_mB, alen_mI, fld_sfl_ne, fld_sfl_same, Option.isSome_some, pok_i, b1z, b01, z10, b1o, Int32.zero_add, vu_vu, upd_eq, upd_ne, true_or, or_true, V5.r1, V5.r2, V5.r3, V5.r4, V5.r16, V5.r17, V5.r18, V5.r19, V5.r20, V5.r23, V5.r24, V5.r25, V5.r26, V5.r27, V5.r28, V5.r29, V5.r30, V5.c172, V5.c173, V5.c174, V5.c186, V5.c187, V5.c188, V5.n5, V5.n13, V5.n14, V5.i0, V5.i5, V5.i6, V5.i7, V5.i8, V5.i9, V5.i10, V5.i11, V5.i12, V5.i13, V5.i14, V5.i15, V5.i21, V5.i22, hh]
        rw [← hcs]
        exact hI h5 (nI b) ⟨sm2.tr sm5, V5⟩
      · have e : t_st s S P t p o b = false := by rw [t_st, h1]; simpa using hh
        rw [e] at hcs
        simp only [Bool.false_eq_true, if_false] at hcs
        simp (disch := first | omega | decide | assumption | exact Nat.le_of_ble_eq_true rfl) only [s280_63, s280_70, s280_71, s280_72, s280_74, h280_77, ow_some, true_and, and_true, and_self, if_true, if_false, not_true, not_false_eq_true, Bool.false_eq_true, eq_self, Option.toList, List.cons_append, List.nil_append, ix_in, ix_cl, lt_in, lt_cl, lt_add, ix_one, vu_eq, vu_ne, arI_mk, arL_mk, arY_mZ, arY_mB, alen_mI, fld_sfl_ne, fld_sfl_same, Option.isSome_some, pok_i, b1z, b01, z10, b1o, Int32.zero_add, vu_vu, upd_eq, upd_ne, true_or, or_true, V5.r1, V5.r2, V5.r3, V5.r4, V5.r16, V5.r17, V5.r18, V5.r19, V5.r20, V5.r23, V5.r24, V5.r25, V5.r26, V5.r27, V5.r28, V5.r29, V5.r30, V5.c172, V5.c173, V5.c174, V5.c186, V5.c187, V5.c188, V5.n5, V5.n13, V5.n14, V5.i0, V5.i5, V5.i6, V5.i7, V5.i8, V5.i9, V5.i10, V5.i11, V5.i12, V5.i13, V5.i14, V5.i15, V5.i21, V5.i22, hh, Int32.add_zero]
        rw [← hcs]
        exact hI h5 (nI b) ⟨sm2.tr sm5, V5⟩
  · rintro h y ⟨sm, V1⟩
    simp (disch := first | omega | decide | assumption | exact Nat.le_of_ble_eq_true rfl) only [s280_16, s280_18, s280_20, s280_80, s280_81, s280_84, s280_86, s280_87, s280_88, s280_89, s280_90, s280_92, ow_some, true_and, and_true, and_self, if_true, if_false, not_true, not_false_eq_true, Bool.false_eq_true, eq_self, Option.toList, List.cons_append, List.nil_append, ix_in, ix_cl, lt_in, lt_cl, lt_add, ix_one, vu_eq, vu_ne, arI_mk, arL_mk, arY_mZ, arY_mB, alen_mI, fld_sfl_ne, fld_sfl_same, Option.isSome_some, pok_i, b1z, b01, z10, b1o, Int32.zero_add, vu_vu, upd_eq, upd_ne, true_or, or_true, V1.r1, V1.r2, V1.r3, V1.r4, V1.r16, V1.r17, V1.r18, V1.r19, V1.r20, V1.r23, V1.r24, V1.r25, V1.r26, V1.r27, V1.r28, V1.r29, V1.r30, V1.c172, V1.c173, V1.c174, V1.c186, V1.c187, V1.c188, V1.n5, V1.n13, V1.n14, V1.i0, V1.i5, V1.i6, V1.i7, V1.i8, V1.i9, V1.i10, V1.i11, V1.i12, V1.i13, V1.i14, V1.i15, V1.i21, V1.i22, lt_lt]
    have V2 := V1.all (all' := upd (upd s.1 (66 + p) y) (66 + p) (s.1 (66 + p)))
    have he : upd (upd s.1 (66 + p) y) (66 + p) (s.1 (66 + p)) = s.1 := by rw [upd_upd, upd_self]
    rw [he] at V2
    refine ⟨rfl, rfl, sm.tr (SM.up (by omega) (by omega)), ?_, rfl⟩
    simpa only [upd_upd, upd_self] using V2
def t_v (s : m_T) (S P t p q : Nat) : Int32 := if q = p ∨ ¬ (nT s.1).testBit q = true then -1 else nI (min (cnt (t_st s S P t p q) 100) (cnt (t_fit s S P t p) 100 - cnt (t_st s S P t p q) 100))
def o_trial (s : m_T) (S P : Nat) (t p : Int32) : Int32 := if m_nt s P t p = 0 then (if cnt (t_fit s S P t.toInt.toNat p.toInt.toNat) 100 = 0 then -1 else oI (m_best (t_v s S P t.toInt.toNat p.toInt.toNat) P).1) else m_nt s P t p
theorem cnt_mono {c c' : Nat → Bool} (h : ∀ i, c i = true → c' i = true) : ∀ {n : Nat}, cnt c n ≤ cnt c' n := by
  intro n
  induction n with
  | zero => exact Nat.le_refl _
  | succ n ih =>
    rw [cnt_s, cnt_s]
    by_cases h1 : c n = true
    · rw [if_pos h1, if_pos (h n h1)]; omega
    · rw [if_neg h1]; split <;> omega
theorem best_ge {v : Nat → Int32} : ∀ {n : Nat}, (-1 : Int32) ≤ (m_best v n).2 := by
  intro n
  induction n with
  | zero => show (-1 : Int32) ≤ -1; decide
  | succ n ih =>
    rw [m_best_s]
    split
    · next h => rw [Int32.le_iff_toInt_le] at *; rw [Int32.lt_iff_toInt_lt] at h; show _ ≤ (v n).toInt; omega
    · exact ih
theorem sp_trial {X : Nat × (Nat → Int32)} {d N K : Nat} {f : Nat → e_C} {s : m_T} {S P : Nat} (V : MV f s) (W : WF s.1 S P) (hR : RM s) {t p : Int32} {a3 a4 a5 a6 a7 a8 : Value} : TT X (d + 8) 279 0 [.ref 171, .int t, .int p, a3, a4, a5, a6, a7, a8] [] f N K (MZ N K f (s.1, o_trial s S P t p) s.2) := by
  simp only [s279_0, s279_1, s279_2, V.i0, pok_i, true_and]
  have sm0 : SM f (va_up f 171 (sfl (f 171) 0 (.int 0))) := SM.up (by omega) (by omega)
  have V0 := V.num (j := 0) (x := 0) (by decide)
  generalize va_up f 171 (sfl (f 171) 0 (.int 0)) = f0 at sm0 V0 ⊢
  simp (disch := first | omega | decide | assumption | exact Nat.le_of_ble_eq_true rfl) only [s279_5, s279_6, s279_7, ow_some, true_and, and_true, and_self, if_true, if_false, not_true, not_false_eq_true, Bool.false_eq_true, eq_self, Option.toList, List.cons_append, List.nil_append, ix_in, ix_cl, lt_in, lt_cl, lt_add, ix_one, vu_eq, vu_ne, arI_mk, arL_mk, arY_mZ, arY_mB, alen_mI, fld_sfl_ne, fld_sfl_same, Option.isSome_some, pok_i, b1z, b01, z10, b1o, Int32.zero_add, vu_vu, upd_eq, upd_ne, true_or, or_true, V0.r1, V0.r2, V0.r3, V0.r4, V0.r16, V0.r17, V0.r18, V0.r19, V0.r20, V0.r23, V0.r24, V0.r25, V0.r26, V0.r27, V0.r28, V0.r29, V0.r30, V0.c172, V0.c173, V0.c174, V0.c186, V0.c187, V0.c188, V0.n5, V0.n13, V0.n14, V0.i0, V0.i5, V0.i6, V0.i7, V0.i8, V0.i9, V0.i10, V0.i11, V0.i12, V0.i13, V0.i14, V0.i15, V0.i21, V0.i22]
  rw [p279_8 (cno_MR V0.mr) (Nat.le_of_ble_eq_true rfl) (sp_noTrials V0 W hR)]
  unfold o_trial
  have h9 := W.1.2.2.2.2.1
  have A4 := W.1.2.2.2.1
  by_cases h0 : m_nt s P t p = 0
  · rw [if_pos h0]
    simp (disch := first | omega | decide | assumption | exact Nat.le_of_ble_eq_true rfl) only [s279_11, s279_12, s279_13, s279_16, s279_17, s279_18, s279_19, s279_20, ow_some, true_and, and_true, and_self, if_true, if_false, not_true, not_false_eq_true, Bool.false_eq_true, eq_self, Option.toList, List.cons_append, List.nil_append, ix_in, ix_cl, lt_in, lt_cl, lt_add, ix_one, vu_eq, vu_ne, arI_mk, arL_mk, arY_mZ, arY_mB, alen_mI, fld_sfl_ne, fld_sfl_same, Option.isSome_some, pok_i, b1z, b01, z10, b1o, Int32.zero_add, vu_vu, upd_eq, upd_ne, true_or, or_true, V0.r1, V0.r2, V0.r3, V0.r4, V0.r16, V0.r17, V0.r18, V0.r19, V0.r20, V0.r23, V0.r24, V0.r25, V0.r26, V0.r27, V0.r28, V0.r29, V0.r30, V0.c172, V0.c173, V0.c174, V0.c186, V0.c187, V0.c188, V0.n5, V0.n13, V0.n14, V0.i0, V0.i5, V0.i6, V0.i7, V0.i8, V0.i9, V0.i10, V0.i11, V0.i12, V0.i13, V0.i14, V0.i15, V0.i21, V0.i22, h0]
    obtain ⟨t', p', rfl, ht, rfl, hp, hok, hth⟩ := nt_0 h0
    rw [nI_tn (by omega), nI_tn (by omega)]
    refine k279_21 (cno_MR V0.mr) (Nat.le_of_ble_eq_true rfl) (sp_laysBuilds V0 W hR ht (show p' < 9 by omega) hok) ?_
    rintro f1 n1 k1 v1 ⟨rfl, rfl, sw1, V1, rfl, g, hg, gv⟩
    have hcn := cnt_le (c := t_fit s S P t' p') (n := 100)
    have em : (nI (cnt (t_fit s S P t' p') 100) ≤ 0) = (cnt (t_fit s S P t' p') 100 ≤ 0) := le_lt (c := 0) (by decide) (by omega)
    simp (disch := first | omega | decide | assumption | exact Nat.le_of_ble_eq_true rfl) only [s279_24, s279_26, s279_27, s279_29, s279_30, s279_32, h279_33, ow_some, true_and, and_true, and_self, if_true, if_false, not_true, not_false_eq_true, Bool.false_eq_true, eq_self, Option.toList, List.cons_append, List.nil_append, ix_in, ix_cl, lt_in, lt_cl, lt_add, ix_one, vu_eq, vu_ne, arI_mk, arL_mk, arY_mZ, arY_mB, alen_mI, fld_sfl_ne, fld_sfl_same, Option.isSome_some, pok_i, b1z, b01, z10, b1o, Int32.zero_add, vu_vu, upd_eq, upd_ne, true_or, or_true, V1.r1, V1.r2, V1.r3, V1.r4, V1.r16, V1.r17, V1.r18, V1.r19, V1.r20, V1.r23, V1.r24, V1.r25, V1.r26, V1.r27, V1.r28, V1.r29, V1.r30, V1.c172, V1.c173, V1.c174, V1.c186, V1.c187, V1.c188, V1.n5, V1.n13, V1.n14, V1.i0, V1.i5, V1.i6, V1.i7, V1.i8, V1.i9, V1.i10, V1.i11, V1.i12, V1.i13, V1.i14, V1.i15, V1.i21, V1.i22]
    by_cases hm0 : cnt (t_fit s S P t' p') 100 = 0
    · rw [if_pos hm0]
      have em2 : (cnt (t_fit s S P t' p') 100 ≤ 0) = True := eq_true (by omega)
      have hpp : 0 < P := by omega
      have hpc : (P ≤ 0) = False := eq_false (by omega)
      refine lp (fun q h (_ : Unit) => h = f1) (fun q _ => [.ref 171, .int (nI t'), .int (nI p'), .int 0, .int (nI (cnt (t_fit s S P t' p') 100)), .int (-1), .int (-1), .int (nI q), a8]) 0 ?_ ?_ 0 f1 () (by omega) rfl
      · rintro q h _ hq; omega
      · rintro h _ rfl
        simp (disch := first | omega | decide | assumption | exact Nat.le_of_ble_eq_true rfl) only [s279_35, s279_37, s279_38, s279_41, s279_43, s279_44, s279_47, s279_49, s279_125, s279_127, ow_some, true_and, and_true, and_self, if_true, if_false, not_true, not_false_eq_true, Bool.false_eq_true, eq_self, Option.toList, List.cons_append, List.nil_append, ix_in, ix_cl, lt_in, lt_cl, lt_add, ix_one, vu_eq, vu_ne, arI_mk, arL_mk, arY_mZ, arY_mB, alen_mI, fld_sfl_ne, fld_sfl_same, Option.isSome_some, pok_i, b1z, b01, z10, b1o, Int32.zero_add, vu_vu, upd_eq, upd_ne, true_or, or_true, V1.r1, V1.r2, V1.r3, V1.r4, V1.r16, V1.r17, V1.r18, V1.r19, V1.r20, V1.r23, V1.r24, V1.r25, V1.r26, V1.r27, V1.r28, V1.r29, V1.r30, V1.c172, V1.c173, V1.c174, V1.c186, V1.c187, V1.c188, V1.n5, V1.n13, V1.n14, V1.i0, V1.i5, V1.i6, V1.i7, V1.i8, V1.i9, V1.i10, V1.i11, V1.i12, V1.i13, V1.i14, V1.i15, V1.i21, V1.i22, A4, ix_le, hpc, em, em2]
        exact ⟨rfl, rfl, sm0.w.tr sw1, V1, rfl⟩
    · rw [if_neg hm0]
      have em2 : (cnt (t_fit s S P t' p') 100 ≤ 0) = False := eq_false (by omega)
      refine lp (fun q h (z : (Option Nat × Int32) × Value) => SM f1 h ∧ MV h s ∧ z.1 = m_best (t_v s S P t' p') q) (fun q z => [.ref 171, .int (nI t'), .int (nI p'), .int 0, .int (nI (cnt (t_fit s S P t' p') 100)), .int (oI z.1.1), .int z.1.2, .int (nI q), z.2]) P ?_ ?_ 0 f1 ((none, -1), a8) (by omega) ⟨SM.rf, V1, rfl⟩
      · rintro q h ⟨z, u⟩ hq ⟨sm, V2, hz⟩ hI
        simp only at hz
        have hc : (P ≤ q) = False := eq_false (by omega)
        have hge := best_ge (v := t_v s S P t' p') (n := q)
        rw [← hz] at hge
        have skip : ∀ u, t_v s S P t' p' q = -1 → TT X (d + 8) 279 119 [.ref 171, .int (nI t'), .int (nI p'), .int 0, .int (nI (cnt (t_fit s S P t' p') 100)), .int (oI z.1), .int z.2, .int (nI q), u] [] h n1 k1 (MZ n1 k1 f (s.1, oI (m_best (t_v s S P t' p') P).1) s.2) := by
          intro u hv
          simp (disch := first | omega | decide | assumption | exact Nat.le_of_ble_eq_true rfl) only [s279_119, h279_122, ow_some, true_and, and_true, and_self, if_true, if_false, not_true, not_false_eq_true, Bool.false_eq_true, eq_self, Option.toList, List.cons_append, List.nil_append, ix_in, ix_cl, lt_in, lt_cl, lt_add, ix_one, vu_eq, vu_ne, arI_mk, arL_mk, arY_mZ, arY_mB, alen_mI, fld_sfl_ne, fld_sfl_same, Option.isSome_some, pok_i, b1z, b01, z10, b1o, Int32.zero_add, vu_vu, upd_eq, upd_ne, true_or, or_true, V2.r1, V2.r2, V2.r3, V2.r4, V2.r16, V2.r17, V2.r18, V2.r19, V2.r20, V2.r23, V2.r24, V2.r25, V2.r26, V2.r27, V2.r28, V2.r29, V2.r30, V2.c172, V2.c173, V2.c174, V2.c186, V2.c187, V2.c188, V2.n5, V2.n13, V2.n14, V2.i0, V2.i5, V2.i6, V2.i7, V2.i8, V2.i9, V2.i10, V2.i11, V2.i12, V2.i13, V2.i14, V2.i15, V2.i21, V2.i22]
          refine hI h (z, u) ⟨sm, V2, ?_⟩
          rw [m_best_s, ← hz, hv, if_neg]
          rw [Int32.lt_iff_toInt_lt]; rw [Int32.le_iff_toInt_le] at hge; omega
        simp (disch := first | omega | decide | assumption | exact Nat.le_of_ble_eq_true rfl) only [s279_35, s279_37, s279_38, s279_41, s279_43, s279_44, s279_47, s279_49, s279_52, s279_54, s279_55, ow_some, true_and, and_true, and_self, if_true, if_false, not_true, not_false_eq_true, Bool.false_eq_true, eq_self, Option.toList, List.cons_append, List.nil_append, ix_in, ix_cl, lt_in, lt_cl, lt_add, ix_one, vu_eq, vu_ne, arI_mk, arL_mk, arY_mZ, arY_mB, alen_mI, fld_sfl_ne, fld_sfl_same, Option.isSome_some, pok_i, b1z, b01, z10, b1o, Int32.zero_add, vu_vu, upd_eq, upd_ne, true_or, or_true, V2.r1, V2.r2, V2.r3, V2.r4, V2.r16, V2.r17, V2.r18, V2.r19, V2.r20, V2.r23, V2.r24, V2.r25, V2.r26, V2.r27, V2.r28, V2.r29, V2.r30, V2.c172, V2.c173, V2.c174, V2.c186, V2.c187, V2.c188, V2.n5, V2.n13, V2.n14, V2.i0, V2.i5, V2.i6, V2.i7, V2.i8, V2.i9, V2.i10, V2.i11, V2.i12, V2.i13, V2.i14, V2.i15, V2.i21, V2.i22, A4, ix_le, hc, em, em2, ix_eq]
        by_cases hqp : q = p'
        · simp only [hqp, if_true]
          have := skip u (by unfold t_v; rw [if_pos (Or.inl hqp)])
          simpa only [hqp] using this
        · simp (disch := first | omega | decide | assumption | exact Nat.le_of_ble_eq_true rfl) only [s279_58, s279_59, ow_some, true_and, and_true, and_self, if_true, if_false, not_true, not_false_eq_true, Bool.false_eq_true, eq_self, Option.toList, List.cons_append, List.nil_append, ix_in, ix_cl, lt_in, lt_cl, lt_add, ix_one, vu_eq, vu_ne, arI_mk, arL_mk, arY_mZ, arY_mB, alen_mI, fld_sfl_ne, fld_sfl_same, Option.isSome_some, pok_i, b1z, b01, z10, b1o, Int32.zero_add, vu_vu, upd_eq, upd_ne, true_or, or_true, V2.r1, V2.r2, V2.r3, V2.r4, V2.r16, V2.r17, V2.r18, V2.r19, V2.r20, V2.r23, V2.r24, V2.r25, V2.r26, V2.r27, V2.r28, V2.r29, V2.r30, V2.c172, V2.c173, V2.c174, V2.c186, V2.c187, V2.c188, V2.n5, V2.n13, V2.n14, V2.i0, V2.i5, V2.i6, V2.i7, V2.i8, V2.i9, V2.i10, V2.i11, V2.i12, V2.i13, V2.i14, V2.i15, V2.i21, V2.i22, hqp]
          rw [p279_61 (cno_MR V2.mr) (Nat.le_of_ble_eq_true rfl) (sp_isThere V2.mr V2.c172 W.2.1 W.T (show q < 9 by omega))]
          by_cases hq2 : (nT s.1).testBit q = true
          · simp (disch := first | omega | decide | assumption | exact Nat.le_of_ble_eq_true rfl) only [s279_64, s279_67, s279_70, s279_71, s279_72, ow_some, true_and, and_true, and_self, if_true, if_false, not_true, not_false_eq_true, Bool.false_eq_true, eq_self, Option.toList, List.cons_append, List.nil_append, ix_in, ix_cl, lt_in, lt_cl, lt_add, ix_one, vu_eq, vu_ne, arI_mk, arL_mk, arY_mZ, arY_mB, alen_mI, fld_sfl_ne, fld_sfl_same, Option.isSome_some, pok_i, b1z, b01, z10, b1o, Int32.zero_add, vu_vu, upd_eq, upd_ne, true_or, or_true, V2.r1, V2.r2, V2.r3, V2.r4, V2.r16, V2.r17, V2.r18, V2.r19, V2.r20, V2.r23, V2.r24, V2.r25, V2.r26, V2.r27, V2.r28, V2.r29, V2.r30, V2.c172, V2.c173, V2.c174, V2.c186, V2.c187, V2.c188, V2.n5, V2.n13, V2.n14, V2.i0, V2.i5, V2.i6, V2.i7, V2.i8, V2.i9, V2.i10, V2.i11, V2.i12, V2.i13, V2.i14, V2.i15, V2.i21, V2.i22, hq2]
            refine k279_74 (cno_MR V2.mr) (Nat.le_of_ble_eq_true rfl) (sp_standsBy (t := t') V2 W (show p' < 9 by omega) (show q < 9 by omega) (by rw [sm 184 (by omega)]; exact hg) gv) ?_
            rintro h5 n5 k5 v5 ⟨rfl, rfl, sm5, V5, rfl⟩
            have hle : cnt (t_st s S P t' p' q) 100 ≤ cnt (t_fit s S P t' p') 100 := cnt_mono (fun i hi => by unfold t_st at hi; simp only [Bool.and_eq_true] at hi; exact hi.1)
            have hv : t_v s S P t' p' q = nI (min (cnt (t_st s S P t' p' q) 100) (cnt (t_fit s S P t' p') 100 - cnt (t_st s S P t' p' q) 100)) := by
              unfold t_v; rw [if_neg (by rintro (z | z); exact hqp z; exact z hq2)]
            have es : nI (cnt (t_fit s S P t' p') 100) - nI (cnt (t_st s S P t' p' q) 100) = nI (cnt (t_fit s S P t' p') 100 - cnt (t_st s S P t' p' q) 100) := pk_sub hle
            have fin : ∀ x u, x = t_v s S P t' p' q → TT X (d + 8) 279 99 [.ref 171, .int (nI t'), .int (nI p'), .int 0, .int (nI (cnt (t_fit s S P t' p') 100)), .int (oI z.1), .int z.2, .int (nI q), u] [.int x] h5 n5 k5 (MZ n5 k5 f (s.1, oI (m_best (t_v s S P t' p') P).1) s.2) := by
              intro x u hx
              by_cases hlt : z.2 < x
              · simp (disch := first | omega | decide | assumption | exact Nat.le_of_ble_eq_true rfl) only [s279_99, s279_101, s279_103, s279_105, s279_108, s279_111, s279_113, s279_115, s279_117, s279_119, h279_122, ow_some, true_and, and_true, and_self, if_true, if_false, not_true, not_false_eq_true, Bool.false_eq_true, eq_self, Option.toList, List.cons_append, List.nil_append, ix_in, ix_cl, lt_in, lt_cl, lt_add, ix_one, vu_eq, vu_ne, arI_mk, arL_mk, arY_mZ, arY_mB, alen_mI, fld_sfl_ne, fld_sfl_same, Option.isSome_some, pok_i, b1z, b01, z10, b1o, Int32.zero_add, vu_vu, upd_eq, upd_ne, true_or, or_true, V5.r1, V5.r2, V5.r3, V5.r4, V5.r16, V5.r17, V5.r18, V5.r19, V5.r20, V5.r23, V5.r24, V5.r25, V5.r26, V5.r27, V5.r28, V5.r29, V5.r30, V5.c172, V5.c173, V5.c174, V5.c186, V5.c187, V5.c188, V5.n5, V5.n13, V5.n14, V5.i0, V5.i5, V5.i6, V5.i7, V5.i8, V5.i9, V5.i10, V5.i11, V5.i12, V5.i13, V5.i14, V5.i15, V5.i21, V5.i22, hlt]
                refine hI h5 ((some q, x), .int x) ⟨sm.tr sm5, V5, ?_⟩
                rw [m_best_s, ← hz, ← hx, if_pos hlt]
              · simp (disch := first | omega | decide | assumption | exact Nat.le_of_ble_eq_true rfl) only [s279_99, s279_101, s279_103, s279_105, s279_108, s279_119, h279_122, ow_some, true_and, and_true, and_self, if_true, if_false, not_true, not_false_eq_true, Bool.false_eq_true, eq_self, Option.toList, List.cons_append, List.nil_append, ix_in, ix_cl, lt_in, lt_cl, lt_add, ix_one, vu_eq, vu_ne, arI_mk, arL_mk, arY_mZ, arY_mB, alen_mI, fld_sfl_ne, fld_sfl_same, Option.isSome_some, pok_i, b1z, b01, z10, b1o, Int32.zero_add, vu_vu, upd_eq, upd_ne, true_or, or_true, V5.r1, V5.r2, V5.r3, V5.r4, V5.r16, V5.r17, V5.r18, V5.r19, V5.r20, V5.r23, V5.r24, V5.r25, V5.r26, V5.r27, V5.r28, V5.r29, V5.r30, V5.c172, V5.c173, V5.c174, V5.c186, V5.c187, V5.c188, V5.n5, V5.n13, V5.n14, V5.i0, V5.i5, V5.i6, V5.i7, V5.i8, V5.i9, V5.i10, V5.i11, V5.i12, V5.i13, V5.i14, V5.i15, V5.i21, V5.i22, hlt]
                refine hI h5 (z, .int x) ⟨sm.tr sm5, V5, ?_⟩
                rw [m_best_s, ← hz, ← hx, if_neg hlt]
            by_cases hmn : cnt (t_fit s S P t' p') 100 - cnt (t_st s S P t' p' q) 100 ≤ cnt (t_st s S P t' p' q) 100
            · simp (disch := first | omega | decide | assumption | exact Nat.le_of_ble_eq_true rfl) only [s279_77, s279_79, s279_81, s279_83, s279_85, s279_86, s279_89, s279_91, s279_94, s279_96, s279_98, ow_some, true_and, and_true, and_self, if_true, if_false, not_true, not_false_eq_true, Bool.false_eq_true, eq_self, Option.toList, List.cons_append, List.nil_append, ix_in, ix_cl, lt_in, lt_cl, lt_add, ix_one, vu_eq, vu_ne, arI_mk, arL_mk, arY_mZ, arY_mB, alen_mI, fld_sfl_ne, fld_sfl_same, Option.isSome_some, pok_i, b1z, b01, z10, b1o, Int32.zero_add, vu_vu, upd_eq, upd_ne, true_or, or_true, V5.r1, V5.r2, V5.r3, V5.r4, V5.r16, V5.r17, V5.r18, V5.r19, V5.r20, V5.r23, V5.r24, V5.r25, V5.r26, V5.r27, V5.r28, V5.r29, V5.r30, V5.c172, V5.c173, V5.c174, V5.c186, V5.c187, V5.c188, V5.n5, V5.n13, V5.n14, V5.i0, V5.i5, V5.i6, V5.i7, V5.i8, V5.i9, V5.i10, V5.i11, V5.i12, V5.i13, V5.i14, V5.i15, V5.i21, V5.i22, es, ix_le, hmn]
              exact fin _ _ (by rw [hv, Nat.min_eq_right hmn])
            · simp (disch := first | omega | decide | assumption | exact Nat.le_of_ble_eq_true rfl) only [s279_77, s279_79, s279_81, s279_83, s279_85, s279_86, s279_89, s279_91, ow_some, true_and, and_true, and_self, if_true, if_false, not_true, not_false_eq_true, Bool.false_eq_true, eq_self, Option.toList, List.cons_append, List.nil_append, ix_in, ix_cl, lt_in, lt_cl, lt_add, ix_one, vu_eq, vu_ne, arI_mk, arL_mk, arY_mZ, arY_mB, alen_mI, fld_sfl_ne, fld_sfl_same, Option.isSome_some, pok_i, b1z, b01, z10, b1o, Int32.zero_add, vu_vu, upd_eq, upd_ne, true_or, or_true, V5.r1, V5.r2, V5.r3, V5.r4, V5.r16, V5.r17, V5.r18, V5.r19, V5.r20, V5.r23, V5.r24, V5.r25, V5.r26, V5.r27, V5.r28, V5.r29, V5.r30, V5.c172, V5.c173, V5.c174, V5.c186, V5.c187, V5.c188, V5.n5, V5.n13, V5.n14, V5.i0, V5.i5, V5.i6, V5.i7, V5.i8, V5.i9, V5.i10, V5.i11, V5.i12, V5.i13, V5.i14, V5.i15, V5.i21, V5.i22, es, ix_le, hmn]
              exact fin _ _ (by rw [hv, Nat.min_eq_left (by omega)])
          · simp (disch := first | omega | decide | assumption | exact Nat.le_of_ble_eq_true rfl) only [s279_64, s279_67, ow_some, true_and, and_true, and_self, if_true, if_false, not_true, not_false_eq_true, Bool.false_eq_true, eq_self, Option.toList, List.cons_append, List.nil_append, ix_in, ix_cl, lt_in, lt_cl, lt_add, ix_one, vu_eq, vu_ne, arI_mk, arL_mk, arY_mZ, arY_mB, alen_mI, fld_sfl_ne, fld_sfl_same, Option.isSome_some, pok_i, b1z, b01, z10, b1o, Int32.zero_add, vu_vu, upd_eq, upd_ne, true_or, or_true, V2.r1, V2.r2, V2.r3, V2.r4, V2.r16, V2.r17, V2.r18, V2.r19, V2.r20, V2.r23, V2.r24, V2.r25, V2.r26, V2.r27, V2.r28, V2.r29, V2.r30, V2.c172, V2.c173, V2.c174, V2.c186, V2.c187, V2.c188, V2.n5, V2.n13, V2.n14, V2.i0, V2.i5, V2.i6, V2.i7, V2.i8, V2.i9, V2.i10, V2.i11, V2.i12, V2.i13, V2.i14, V2.i15, V2.i21, V2.i22, hq2]
            exact skip u (by unfold t_v; rw [if_pos (Or.inr hq2)])
      · rintro h ⟨z, u⟩ ⟨sm, V2, hz⟩
        simp only at hz
        simp (disch := first | omega | decide | assumption | exact Nat.le_of_ble_eq_true rfl) only [s279_35, s279_37, s279_38, s279_41, s279_43, s279_44, s279_125, s279_127, ow_some, true_and, and_true, and_self, if_true, if_false, not_true, not_false_eq_true, Bool.false_eq_true, eq_self, Option.toList, List.cons_append, List.nil_append, ix_in, ix_cl, lt_in, lt_cl, lt_add, ix_one, vu_eq, vu_ne, arI_mk, arL_mk, arY_mZ, arY_mB, alen_mI, fld_sfl_ne, fld_sfl_same, Option.isSome_some, pok_i, b1z, b01, z10, b1o, Int32.zero_add, vu_vu, upd_eq, upd_ne, true_or, or_true, V2.r1, V2.r2, V2.r3, V2.r4, V2.r16, V2.r17, V2.r18, V2.r19, V2.r20, V2.r23, V2.r24, V2.r25, V2.r26, V2.r27, V2.r28, V2.r29, V2.r30, V2.c172, V2.c173, V2.c174, V2.c186, V2.c187, V2.c188, V2.n5, V2.n13, V2.n14, V2.i0, V2.i5, V2.i6, V2.i7, V2.i8, V2.i9, V2.i10, V2.i11, V2.i12, V2.i13, V2.i14, V2.i15, V2.i21, V2.i22, A4, ix_le, Nat.le_refl]
        rw [hz]
        exact ⟨rfl, rfl, (sm0.w.tr sw1).tr sm.w, V2, rfl⟩
  · rw [if_neg h0]
    simp (disch := first | omega | decide | assumption | exact Nat.le_of_ble_eq_true rfl) only [s279_11, s279_12, s279_13, s279_16, s279_17, ow_some, true_and, and_true, and_self, if_true, if_false, not_true, not_false_eq_true, Bool.false_eq_true, eq_self, Option.toList, List.cons_append, List.nil_append, ix_in, ix_cl, lt_in, lt_cl, lt_add, ix_one, vu_eq, vu_ne, arI_mk, arL_mk, arY_mZ, arY_mB, alen_mI, fld_sfl_ne, fld_sfl_same, Option.isSome_some, pok_i, b1z, b01, z10, b1o, Int32.zero_add, vu_vu, upd_eq, upd_ne, true_or, or_true, V0.r1, V0.r2, V0.r3, V0.r4, V0.r16, V0.r17, V0.r18, V0.r19, V0.r20, V0.r23, V0.r24, V0.r25, V0.r26, V0.r27, V0.r28, V0.r29, V0.r30, V0.c172, V0.c173, V0.c174, V0.c186, V0.c187, V0.c188, V0.n5, V0.n13, V0.n14, V0.i0, V0.i5, V0.i6, V0.i7, V0.i8, V0.i9, V0.i10, V0.i11, V0.i12, V0.i13, V0.i14, V0.i15, V0.i21, V0.i22, h0]
    exact ⟨rfl, rfl, sm0.w, V0, rfl⟩

/-! the reference: two clerks -/
def g_st (all : Nat → Int32) (S P : Nat) (g : Nat → Int32) (set p : Nat) (r : Int32 × Int32) : Int32 × Int32 := if set.testBit p = true then (if m_h all S P (clr set p) = false then (r.1, if 1 ≤ r.2 then r.2 else 1) else if 0 ≤ g (clr set p) then (r.1, if g (clr set p) + 1 ≤ r.2 then r.2 else g (clr set p) + 1) else (if r.1 ≤ -g (clr set p) then r.1 else -g (clr set p), r.2)) else r
def g_end (r : Int32 × Int32) : Int32 := if 268435456 ≤ r.1 then -r.2 - 1 else r.1
def g_val (all : Nat → Int32) (S P : Nat) (g : Nat → Int32) (set : Nat) : Int32 := g_end (fo (g_st all S P g set) (268435456, 0) P)
def gt (all : Nat → Int32) (S P : Nat) : Nat → Nat → Int32
  | 0 => fun _ => 0
  | j + 1 => upd (gt all S P j) j (g_val all S P (gt all S P j) j)
def gm (all : Nat → Int32) (S P : Nat) (set : Nat) : Int32 := gt all S P (set + 1) set
theorem gt_at {all : Nat → Int32} {S P i : Nat} : ∀ {j : Nat}, i < j → gt all S P j i = gm all S P i := by
  intro j
  induction j with
  | zero => intro h; omega
  | succ j ih =>
    intro h
    by_cases hi : i = j
    · subst hi; rfl
    · show upd _ _ _ i = _
      rw [upd_ne hi]; exact ih (by omega)
theorem clr_bit {T p : Nat} (h : T.testBit p = true) : clr T p < T := by
  unfold clr
  rw [if_pos h]
  have h2 := Nat.ge_two_pow_of_testBit h
  have h3 : 0 < 2 ^ p := Nat.two_pow_pos p
  omega
theorem g_cg {all g g' : Nat → Int32} {S P set : Nat} (h : ∀ p, p < P → set.testBit p = true → g (clr set p) = g' (clr set p)) : g_val all S P g set = g_val all S P g' set := by
  unfold g_val
  congr 1
  apply fo_cong
  intro p x hp
  unfold g_st
  by_cases hb : set.testBit p = true
  · rw [h p hp hb]
  · rw [if_neg hb, if_neg hb]
theorem gm_eq {all : Nat → Int32} {S P set : Nat} : gm all S P set = g_val all S P (gm all S P) set := by
  show upd _ _ _ set = _
  rw [upd_eq]
  exact g_cg (fun p _ hb => gt_at (clr_bit hb))
theorem clr_sub {T p : Nat} (hT : T < 512) (hp : p < 9) : sub (clr T p) T = true := by
  revert T
  intro T hT
  have : ∀ T, T < 512 → ∀ p, p < 9 → sub (clr T p) T = true := by decide +kernel
  exact this T hT p hp
theorem sub_tr {a b c : Nat} (h1 : sub a b = true) (h2 : sub b c = true) : sub a c = true := sub_iff.mpr (fun i hi => sub_iff.mp h2 i (sub_iff.mp h1 i hi))
theorem sp_laysGame {X : Nat × (Nat → Int32)} {d N K : Nat} {f : Nat → e_C} {s : m_T} {S P : Nat} (V : MV f s) (W : WF s.1 S P) {a1 a2 a3 a4 a5 : Value} : TT X (d + 7) 282 0 [.ref 171, a1, a2, a3, a4, a5] [] f N K (fun f' n' k' v => n' = N ∧ k' = K ∧ v = none ∧ SW f f' ∧ MV f' s ∧ ∃ g h, arI (f' 185) = some (512, g) ∧ arZ (f' 181) = some (512, h) ∧ (∀ i, i < 2 ^ P → h i = bI (m_h s.1 S P i)) ∧ ∀ i, i < 2 ^ P → sub i (nT s.1) = true → g i = gm s.1 S P i) := by
  simp (disch := first | omega | decide | assumption | exact Nat.le_of_ble_eq_true rfl) only [s282_0, ow_some, true_and, and_true, and_self, if_true, if_false, not_true, not_false_eq_true, Bool.false_eq_true, eq_self, Option.toList, List.cons_append, List.nil_append, ix_in, ix_cl, lt_in, lt_cl, lt_add, ix_one, vu_eq, vu_ne, arI_mk, arL_mk, arY_mZ, arY_mB, alen_mI, fld_sfl_ne, fld_sfl_same, Option.isSome_some, pok_i, b1z, b01, z10, b1o, Int32.zero_add, vu_vu, upd_eq, upd_ne, true_or, or_true, V.r1, V.r2, V.r3, V.r4, V.r16, V.r17, V.r18, V.r19, V.r20, V.r23, V.r24, V.r25, V.r26, V.r27, V.r28, V.r29, V.r30, V.c172, V.c173, V.c174, V.c186, V.c187, V.c188, V.n5, V.n13, V.n14, V.i0, V.i5, V.i6, V.i7, V.i8, V.i9, V.i10, V.i11, V.i12, V.i13, V.i14, V.i15, V.i21, V.i22]
  refine k282_1 (cno_MR V.mr) (Nat.le_of_ble_eq_true rfl) (sp_laysHold V W) ?_
  rintro f1 n1 k1 v1 ⟨rfl, rfl, rfl, sn1, V1, h, hh, hv⟩
  obtain ⟨g0, hg0⟩ := V1.e185
  have A4 := W.1.2.2.2.1
  have h9 := W.1.2.2.2.2.1
  have hp9 := pw9 h9
  have e2 := p2 P (by omega)
  simp (disch := first | omega | decide | assumption | exact Nat.le_of_ble_eq_true rfl) only [s282_4, h282_5, ow_some, true_and, and_true, and_self, if_true, if_false, not_true, not_false_eq_true, Bool.false_eq_true, eq_self, Option.toList, List.cons_append, List.nil_append, ix_in, ix_cl, lt_in, lt_cl, lt_add, ix_one, vu_eq, vu_ne, arI_mk, arL_mk, arY_mZ, arY_mB, alen_mI, fld_sfl_ne, fld_sfl_same, Option.isSome_some, pok_i, b1z, b01, z10, b1o, Int32.zero_add, vu_vu, upd_eq, upd_ne, true_or, or_true, V1.r1, V1.r2, V1.r3, V1.r4, V1.r16, V1.r17, V1.r18, V1.r19, V1.r20, V1.r23, V1.r24, V1.r25, V1.r26, V1.r27, V1.r28, V1.r29, V1.r30, V1.c172, V1.c173, V1.c174, V1.c186, V1.c187, V1.c188, V1.n5, V1.n13, V1.n14, V1.i0, V1.i5, V1.i6, V1.i7, V1.i8, V1.i9, V1.i10, V1.i11, V1.i12, V1.i13, V1.i14, V1.i15, V1.i21, V1.i22]
  refine lp (fun j e (z : (Nat → Int32) × Value × Value × Value × Value) => SW f e ∧ MV e s ∧ arZ (e 181) = some (512, h) ∧ arI (e 185) = some (512, z.1) ∧ ∀ i, i < j → sub i (nT s.1) = true → z.1 i = gm s.1 S P i) (fun j z => [.ref 171, .int (nI j), z.2.1, z.2.2.1, z.2.2.2.1, z.2.2.2.2]) (2 ^ P) ?_ ?_ 0 f1 (g0, a2, a3, a4, a5) (Nat.zero_le _) ⟨sn1.w (by omega) (by omega), V1, hh, hg0, fun i hi => by omega⟩
  · rintro j e ⟨g, u2, u3, u4, u5⟩ hj ⟨sw, V2, hh2, hg2, gv⟩ hI
    simp only at hg2 gv
    have hc : (2 ^ P ≤ j) = False := eq_false (by omega)
    simp (disch := first | omega | decide | assumption | exact Nat.le_of_ble_eq_true rfl) only [s282_6, s282_7, s282_8, s282_9, s282_12, s282_14, s282_15, s282_16, s282_19, s282_20, s282_21, s282_24, s282_26, ow_some, true_and, and_true, and_self, if_true, if_false, not_true, not_false_eq_true, Bool.false_eq_true, eq_self, Option.toList, List.cons_append, List.nil_append, ix_in, ix_cl, lt_in, lt_cl, lt_add, ix_one, vu_eq, vu_ne, arI_mk, arL_mk, arY_mZ, arY_mB, alen_mI, fld_sfl_ne, fld_sfl_same, Option.isSome_some, pok_i, b1z, b01, z10, b1o, Int32.zero_add, vu_vu, upd_eq, upd_ne, true_or, or_true, V2.r1, V2.r2, V2.r3, V2.r4, V2.r16, V2.r17, V2.r18, V2.r19, V2.r20, V2.r23, V2.r24, V2.r25, V2.r26, V2.r27, V2.r28, V2.r29, V2.r30, V2.c172, V2.c173, V2.c174, V2.c186, V2.c187, V2.c188, V2.n5, V2.n13, V2.n14, V2.i0, V2.i5, V2.i6, V2.i7, V2.i8, V2.i9, V2.i10, V2.i11, V2.i12, V2.i13, V2.i14, V2.i15, V2.i21, V2.i22, A4, e2, ix_le, hc, W.2.1]
    rw [p282_27 (Nat.le_of_ble_eq_true rfl) (sp_isPartN (show j < 512 by omega) W.T)]
    by_cases h1 : sub j (nT s.1) = true
    · simp (disch := first | omega | decide | assumption | exact Nat.le_of_ble_eq_true rfl) only [s282_30, s282_33, s282_36, s282_38, s282_39, s282_40, s282_41, h282_42, ow_some, true_and, and_true, and_self, if_true, if_false, not_true, not_false_eq_true, Bool.false_eq_true, eq_self, Option.toList, List.cons_append, List.nil_append, ix_in, ix_cl, lt_in, lt_cl, lt_add, ix_one, vu_eq, vu_ne, arI_mk, arL_mk, arY_mZ, arY_mB, alen_mI, fld_sfl_ne, fld_sfl_same, Option.isSome_some, pok_i, b1z, b01, z10, b1o, Int32.zero_add, vu_vu, upd_eq, upd_ne, true_or, or_true, V2.r1, V2.r2, V2.r3, V2.r4, V2.r16, V2.r17, V2.r18, V2.r19, V2.r20, V2.r23, V2.r24, V2.r25, V2.r26, V2.r27, V2.r28, V2.r29, V2.r30, V2.c172, V2.c173, V2.c174, V2.c186, V2.c187, V2.c188, V2.n5, V2.n13, V2.n14, V2.i0, V2.i5, V2.i6, V2.i7, V2.i8, V2.i9, V2.i10, V2.i11, V2.i12, V2.i13, V2.i14, V2.i15, V2.i21, V2.i22, h1]
      refine lp (fun p e' (z : (Int32 × Int32) × Value) => e' = e ∧ z.1 = fo (g_st s.1 S P (gm s.1 S P) j) (268435456, 0) p) (fun p z => [.ref 171, .int (nI j), .int z.1.1, .int z.1.2, .int (nI p), z.2]) P ?_ ?_ 0 e ((268435456, 0), u5) (by omega) ⟨rfl, rfl⟩
      · rintro p e' ⟨⟨win, lose⟩, u⟩ hp ⟨rfl, hz⟩ hJ
        simp only at hz
        have hc2 : (P ≤ p) = False := eq_false (by omega)
        have nxt : ∀ r u, r = g_st s.1 S P (gm s.1 S P) j p (win, lose) → TT X (d + 7) 282 168 [.ref 171, .int (nI j), .int r.1, .int r.2, .int (nI p), u] [] e' n1 k1 (fun f' n' k' v => n' = n1 ∧ k' = k1 ∧ v = none ∧ SW f f' ∧ MV f' s ∧ ∃ g h, arI (f' 185) = some (512, g) ∧ arZ (f' 181) = some (512, h) ∧ (∀ i, i < 2 ^ P → h i = bI (m_h s.1 S P i)) ∧ ∀ i, i < 2 ^ P → sub i (nT s.1) = true → g i = gm s.1 S P i) := by
          intro r u hr
          simp (disch := first | omega | decide | assumption | exact Nat.le_of_ble_eq_true rfl) only [s282_168, h282_171, ow_some, true_and, and_true, and_self, if_true, if_false, not_true, not_false_eq_true, Bool.false_eq_true, eq_self, Option.toList, List.cons_append, List.nil_append, ix_in, ix_cl, lt_in, lt_cl, lt_add, ix_one, vu_eq, vu_ne, arI_mk, arL_mk, arY_mZ, arY_mB, alen_mI, fld_sfl_ne, fld_sfl_same, Option.isSome_some, pok_i, b1z, b01, z10, b1o, Int32.zero_add, vu_vu, upd_eq, upd_ne, true_or, or_true, V2.r1, V2.r2, V2.r3, V2.r4, V2.r16, V2.r17, V2.r18, V2.r19, V2.r20, V2.r23, V2.r24, V2.r25, V2.r26, V2.r27, V2.r28, V2.r29, V2.r30, V2.c172, V2.c173, V2.c174, V2.c186, V2.c187, V2.c188, V2.n5, V2.n13, V2.n14, V2.i0, V2.i5, V2.i6, V2.i7, V2.i8, V2.i9, V2.i10, V2.i11, V2.i12, V2.i13, V2.i14, V2.i15, V2.i21, V2.i22]
          exact hJ _ (r, u) ⟨rfl, by rw [fo_s, ← hz]; exact hr⟩
        simp (disch := first | omega | decide | assumption | exact Nat.le_of_ble_eq_true rfl) only [s282_44, s282_46, s282_47, s282_50, s282_52, s282_53, s282_56, s282_57, s282_58, ow_some, true_and, and_true, and_self, if_true, if_false, not_true, not_false_eq_true, Bool.false_eq_true, eq_self, Option.toList, List.cons_append, List.nil_append, ix_in, ix_cl, lt_in, lt_cl, lt_add, ix_one, vu_eq, vu_ne, arI_mk, arL_mk, arY_mZ, arY_mB, alen_mI, fld_sfl_ne, fld_sfl_same, Option.isSome_some, pok_i, b1z, b01, z10, b1o, Int32.zero_add, vu_vu, upd_eq, upd_ne, true_or, or_true, V2.r1, V2.r2, V2.r3, V2.r4, V2.r16, V2.r17, V2.r18, V2.r19, V2.r20, V2.r23, V2.r24, V2.r25, V2.r26, V2.r27, V2.r28, V2.r29, V2.r30, V2.c172, V2.c173, V2.c174, V2.c186, V2.c187, V2.c188, V2.n5, V2.n13, V2.n14, V2.i0, V2.i5, V2.i6, V2.i7, V2.i8, V2.i9, V2.i10, V2.i11, V2.i12, V2.i13, V2.i14, V2.i15, V2.i21, V2.i22, A4, ix_le, hc2]
        rw [p282_60 (Nat.le_of_ble_eq_true rfl) (sp_isIn (show j < 512 by omega) (show p < 9 by omega))]
        unfold g_st at nxt
        by_cases hb : j.testBit p = true
        · have hcl := bit_clr j (by omega) p (by omega)
          have hlt := clr_bit hb
          have hy := arY_Z hh2
          have hvc := hv (clr j p) (by omega)
          have hsc : sub (clr j p) (nT s.1) = true := sub_tr (clr_sub (by omega) (by omega)) h1
          have hgc := gv (clr j p) hlt hsc
          simp only [if_pos hb] at nxt
          simp (disch := first | omega | decide | assumption | exact Nat.le_of_ble_eq_true rfl) only [s282_63, s282_66, s282_69, s282_70, s282_71, s282_73, s282_74, s282_75, s282_76, s282_77, s282_79, s282_80, s282_83, y282_85, s282_86, ow_some, true_and, and_true, and_self, if_true, if_false, not_true, not_false_eq_true, Bool.false_eq_true, eq_self, Option.toList, List.cons_append, List.nil_append, ix_in, ix_cl, lt_in, lt_cl, lt_add, ix_one, vu_eq, vu_ne, arI_mk, arL_mk, arY_mZ, arY_mB, alen_mI, fld_sfl_ne, fld_sfl_same, Option.isSome_some, pok_i, b1z, b01, z10, b1o, Int32.zero_add, vu_vu, upd_eq, upd_ne, true_or, or_true, V2.r1, V2.r2, V2.r3, V2.r4, V2.r16, V2.r17, V2.r18, V2.r19, V2.r20, V2.r23, V2.r24, V2.r25, V2.r26, V2.r27, V2.r28, V2.r29, V2.r30, V2.c172, V2.c173, V2.c174, V2.c186, V2.c187, V2.c188, V2.n5, V2.n13, V2.n14, V2.i0, V2.i5, V2.i6, V2.i7, V2.i8, V2.i9, V2.i10, V2.i11, V2.i12, V2.i13, V2.i14, V2.i15, V2.i21, V2.i22, hb, hcl.1, hy, hvc, bI0]
          by_cases h2 : m_h s.1 S P (clr j p) = false
          · simp only [if_pos h2] at nxt
            by_cases h3 : 1 ≤ lose
            · simp only [if_pos h3] at nxt
              simp (disch := first | omega | decide | assumption | exact Nat.le_of_ble_eq_true rfl) only [s282_89, s282_90, s282_91, s282_94, s282_95, s282_98, s282_99, s282_100, ow_some, true_and, and_true, and_self, if_true, if_false, not_true, not_false_eq_true, Bool.false_eq_true, eq_self, Option.toList, List.cons_append, List.nil_append, ix_in, ix_cl, lt_in, lt_cl, lt_add, ix_one, vu_eq, vu_ne, arI_mk, arL_mk, arY_mZ, arY_mB, alen_mI, fld_sfl_ne, fld_sfl_same, Option.isSome_some, pok_i, b1z, b01, z10, b1o, Int32.zero_add, vu_vu, upd_eq, upd_ne, true_or, or_true, V2.r1, V2.r2, V2.r3, V2.r4, V2.r16, V2.r17, V2.r18, V2.r19, V2.r20, V2.r23, V2.r24, V2.r25, V2.r26, V2.r27, V2.r28, V2.r29, V2.r30, V2.c172, V2.c173, V2.c174, V2.c186, V2.c187, V2.c188, V2.n5, V2.n13, V2.n14, V2.i0, V2.i5, V2.i6, V2.i7, V2.i8, V2.i9, V2.i10, V2.i11, V2.i12, V2.i13, V2.i14, V2.i15, V2.i21, V2.i22, h2, h3, Bool.true_eq_false]
              exact nxt _ _ rfl
            · simp only [if_neg h3] at nxt
              simp (disch := first | omega | decide | assumption | exact Nat.le_of_ble_eq_true rfl) only [s282_89, s282_90, s282_91, s282_94, s282_95, s282_98, s282_99, s282_100, ow_some, true_and, and_true, and_self, if_true, if_false, not_true, not_false_eq_true, Bool.false_eq_true, eq_self, Option.toList, List.cons_append, List.nil_append, ix_in, ix_cl, lt_in, lt_cl, lt_add, ix_one, vu_eq, vu_ne, arI_mk, arL_mk, arY_mZ, arY_mB, alen_mI, fld_sfl_ne, fld_sfl_same, Option.isSome_some, pok_i, b1z, b01, z10, b1o, Int32.zero_add, vu_vu, upd_eq, upd_ne, true_or, or_true, V2.r1, V2.r2, V2.r3, V2.r4, V2.r16, V2.r17, V2.r18, V2.r19, V2.r20, V2.r23, V2.r24, V2.r25, V2.r26, V2.r27, V2.r28, V2.r29, V2.r30, V2.c172, V2.c173, V2.c174, V2.c186, V2.c187, V2.c188, V2.n5, V2.n13, V2.n14, V2.i0, V2.i5, V2.i6, V2.i7, V2.i8, V2.i9, V2.i10, V2.i11, V2.i12, V2.i13, V2.i14, V2.i15, V2.i21, V2.i22, h2, h3]
              exact nxt _ _ rfl
          · simp only [if_neg h2] at nxt
            by_cases h3 : 0 ≤ gm s.1 S P (clr j p)
            · simp only [if_pos h3] at nxt
              by_cases h4 : gm s.1 S P (clr j p) + 1 ≤ lose
              · simp only [if_pos h4] at nxt
                simp (disch := first | omega | decide | assumption | exact Nat.le_of_ble_eq_true rfl) only [s282_103, s282_104, s282_107, s282_109, s282_110, s282_141, s282_142, s282_145, s282_147, s282_148, s282_149, s282_150, s282_151, s282_154, s282_155, s282_158, s282_160, s282_161, s282_162, s282_163, s282_166, s282_167, ow_some, true_and, and_true, and_self, if_true, if_false, not_true, not_false_eq_true, Bool.false_eq_true, eq_self, Option.toList, List.cons_append, List.nil_append, ix_in, ix_cl, lt_in, lt_cl, lt_add, ix_one, vu_eq, vu_ne, arI_mk, arL_mk, arY_mZ, arY_mB, alen_mI, fld_sfl_ne, fld_sfl_same, Option.isSome_some, pok_i, b1z, b01, z10, b1o, Int32.zero_add, vu_vu, upd_eq, upd_ne, true_or, or_true, V2.r1, V2.r2, V2.r3, V2.r4, V2.r16, V2.r17, V2.r18, V2.r19, V2.r20, V2.r23, V2.r24, V2.r25, V2.r26, V2.r27, V2.r28, V2.r29, V2.r30, V2.c172, V2.c173, V2.c174, V2.c186, V2.c187, V2.c188, V2.n5, V2.n13, V2.n14, V2.i0, V2.i5, V2.i6, V2.i7, V2.i8, V2.i9, V2.i10, V2.i11, V2.i12, V2.i13, V2.i14, V2.i15, V2.i21, V2.i22, h2, hg2, hgc, h3, h4]
                exact nxt _ _ rfl
              · simp only [if_neg h4] at nxt
                simp (disch := first | omega | decide | assumption | exact Nat.le_of_ble_eq_true rfl) only [s282_103, s282_104, s282_107, s282_109, s282_110, s282_141, s282_142, s282_145, s282_147, s282_148, s282_149, s282_150, s282_151, s282_154, s282_155, s282_158, s282_160, s282_161, s282_162, s282_163, s282_166, s282_167, ow_some, true_and, and_true, and_self, if_true, if_false, not_true, not_false_eq_true, Bool.false_eq_true, eq_self, Option.toList, List.cons_append, List.nil_append, ix_in, ix_cl, lt_in, lt_cl, lt_add, ix_one, vu_eq, vu_ne, arI_mk, arL_mk, arY_mZ, arY_mB, alen_mI, fld_sfl_ne, fld_sfl_same, Option.isSome_some, pok_i, b1z, b01, z10, b1o, Int32.zero_add, vu_vu, upd_eq, upd_ne, true_or, or_true, V2.r1, V2.r2, V2.r3, V2.r4, V2.r16, V2.r17, V2.r18, V2.r19, V2.r20, V2.r23, V2.r24, V2.r25, V2.r26, V2.r27, V2.r28, V2.r29, V2.r30, V2.c172, V2.c173, V2.c174, V2.c186, V2.c187, V2.c188, V2.n5, V2.n13, V2.n14, V2.i0, V2.i5, V2.i6, V2.i7, V2.i8, V2.i9, V2.i10, V2.i11, V2.i12, V2.i13, V2.i14, V2.i15, V2.i21, V2.i22, h2, hg2, hgc, h3, h4]
                exact nxt _ _ rfl
            · simp only [if_neg h3] at nxt
              by_cases h4 : win ≤ -gm s.1 S P (clr j p)
              · simp only [if_pos h4] at nxt
                simp (disch := first | omega | decide | assumption | exact Nat.le_of_ble_eq_true rfl) only [s282_103, s282_104, s282_107, s282_109, s282_110, s282_113, s282_114, s282_117, s282_119, s282_120, s282_121, s282_122, s282_125, s282_126, s282_129, s282_131, s282_132, s282_133, s282_136, s282_137, s282_138, ow_some, true_and, and_true, and_self, if_true, if_false, not_true, not_false_eq_true, Bool.false_eq_true, eq_self, Option.toList, List.cons_append, List.nil_append, ix_in, ix_cl, lt_in, lt_cl, lt_add, ix_one, vu_eq, vu_ne, arI_mk, arL_mk, arY_mZ, arY_mB, alen_mI, fld_sfl_ne, fld_sfl_same, Option.isSome_some, pok_i, b1z, b01, z10, b1o, Int32.zero_add, vu_vu, upd_eq, upd_ne, true_or, or_true, V2.r1, V2.r2, V2.r3, V2.r4, V2.r16, V2.r17, V2.r18, V2.r19, V2.r20, V2.r23, V2.r24, V2.r25, V2.r26, V2.r27, V2.r28, V2.r29, V2.r30, V2.c172, V2.c173, V2.c174, V2.c186, V2.c187, V2.c188, V2.n5, V2.n13, V2.n14, V2.i0, V2.i5, V2.i6, V2.i7, V2.i8, V2.i9, V2.i10, V2.i11, V2.i12, V2.i13, V2.i14, V2.i15, V2.i21, V2.i22, h2, hg2, hgc, h3, h4]
                exact nxt _ _ rfl
              · simp only [if_neg h4] at nxt
                simp (disch := first | omega | decide | assumption | exact Nat.le_of_ble_eq_true rfl) only [s282_103, s282_104, s282_107, s282_109, s282_110, s282_113, s282_114, s282_117, s282_119, s282_120, s282_121, s282_122, s282_125, s282_126, s282_129, s282_131, s282_132, s282_133, s282_136, s282_137, s282_138, ow_some, true_and, and_true, and_self, if_true, if_false, not_true, not_false_eq_true, Bool.false_eq_true, eq_self, Option.toList, List.cons_append, List.nil_append, ix_in, ix_cl, lt_in, lt_cl, lt_add, ix_one, vu_eq, vu_ne, arI_mk, arL_mk, arY_mZ, arY_mB, alen_mI, fld_sfl_ne, fld_sfl_same, Option.isSome_some, pok_i, b1z, b01, z10, b1o, Int32.zero_add, vu_vu, upd_eq, upd_ne, true_or, or_true, V2.r1, V2.r2, V2.r3, V2.r4, V2.r16, V2.r17, V2.r18, V2.r19, V2.r20, V2.r23, V2.r24, V2.r25, V2.r26, V2.r27, V2.r28, V2.r29, V2.r30, V2.c172, V2.c173, V2.c174, V2.c186, V2.c187, V2.c188, V2.n5, V2.n13, V2.n14, V2.i0, V2.i5, V2.i6, V2.i7, V2.i8, V2.i9, V2.i10, V2.i11, V2.i12, V2.i13, V2.i14, V2.i15, V2.i21, V2.i22, h2, hg2, hgc, h3, h4]
                exact nxt _ _ rfl
        · simp only [if_neg hb] at nxt
          simp (disch := first | omega | decide | assumption | exact Nat.le_of_ble_eq_true rfl) only [s282_63, s282_66, ow_some, true_and, and_true, and_self, if_true, if_false, not_true, not_false_eq_true, Bool.false_eq_true, eq_self, Option.toList, List.cons_append, List.nil_append, ix_in, ix_cl, lt_in, lt_cl, lt_add, ix_one, vu_eq, vu_ne, arI_mk, arL_mk, arY_mZ, arY_mB, alen_mI, fld_sfl_ne, fld_sfl_same, Option.isSome_some, pok_i, b1z, b01, z10, b1o, Int32.zero_add, vu_vu, upd_eq, upd_ne, true_or, or_true, V2.r1, V2.r2, V2.r3, V2.r4, V2.r16, V2.r17, V2.r18, V2.r19, V2.r20, V2.r23, V2.r24, V2.r25, V2.r26, V2.r27, V2.r28, V2.r29, V2.r30, V2.c172, V2.c173, V2.c174, V2.c186, V2.c187, V2.c188, V2.n5, V2.n13, V2.n14, V2.i0, V2.i5, V2.i6, V2.i7, V2.i8, V2.i9, V2.i10, V2.i11, V2.i12, V2.i13, V2.i14, V2.i15, V2.i21, V2.i22, hb]
          exact nxt _ _ rfl
      · rintro e' ⟨⟨win, lose⟩, u⟩ ⟨rfl, hz⟩
        simp only at hz
        have hgm : gm s.1 S P j = g_end (win, lose) := by rw [gm_eq, g_val, ← hz]
        have fin : ∀ x, x = gm s.1 S P j → TT X (d + 7) 282 193 [.ref 171, .int (nI j), .int win, .int lose, .int (nI P), u] [.int x, .int (nI j), .ref 185] e' n1 k1 (fun f' n' k' v => n' = n1 ∧ k' = k1 ∧ v = none ∧ SW f f' ∧ MV f' s ∧ ∃ g h, arI (f' 185) = some (512, g) ∧ arZ (f' 181) = some (512, h) ∧ (∀ i, i < 2 ^ P → h i = bI (m_h s.1 S P i)) ∧ ∀ i, i < 2 ^ P → sub i (nT s.1) = true → g i = gm s.1 S P i) := by
          intro x hx
          simp (disch := first | omega | decide | assumption | exact Nat.le_of_ble_eq_true rfl) only [s282_193, s282_194, h282_197, ow_some, true_and, and_true, and_self, if_true, if_false, not_true, not_false_eq_true, Bool.false_eq_true, eq_self, Option.toList, List.cons_append, List.nil_append, ix_in, ix_cl, lt_in, lt_cl, lt_add, ix_one, vu_eq, vu_ne, arI_mk, arL_mk, arY_mZ, arY_mB, alen_mI, fld_sfl_ne, fld_sfl_same, Option.isSome_some, pok_i, b1z, b01, z10, b1o, Int32.zero_add, vu_vu, upd_eq, upd_ne, true_or, or_true, V2.r1, V2.r2, V2.r3, V2.r4, V2.r16, V2.r17, V2.r18, V2.r19, V2.r20, V2.r23, V2.r24, V2.r25, V2.r26, V2.r27, V2.r28, V2.r29, V2.r30, V2.c172, V2.c173, V2.c174, V2.c186, V2.c187, V2.c188, V2.n5, V2.n13, V2.n14, V2.i0, V2.i5, V2.i6, V2.i7, V2.i8, V2.i9, V2.i10, V2.i11, V2.i12, V2.i13, V2.i14, V2.i15, V2.i21, V2.i22, hg2]
          refine hI _ (upd g j x, _, _, _, _) ⟨sw.tr (SW.up (by omega) (by omega)), V2.up ⟨_, rfl⟩, by rw [vu_ne (by decide)]; exact hh2, by rw [vu_eq]; rfl, fun i hi hs => ?_⟩
          show upd g j x i = _
          by_cases hij : i = j
          · subst hij; rw [upd_eq]; exact hx
          · rw [upd_ne hij]; exact gv i (by omega) hs
        unfold g_end at hgm
        by_cases h3 : 268435456 ≤ win
        · rw [if_pos h3] at hgm
          simp (disch := first | omega | decide | assumption | exact Nat.le_of_ble_eq_true rfl) only [s282_44, s282_46, s282_47, s282_50, s282_52, s282_53, s282_174, s282_175, s282_178, s282_179, s282_180, s282_182, s282_185, s282_186, s282_189, s282_190, s282_191, s282_192, ow_some, true_and, and_true, and_self, if_true, if_false, not_true, not_false_eq_true, Bool.false_eq_true, eq_self, Option.toList, List.cons_append, List.nil_append, ix_in, ix_cl, lt_in, lt_cl, lt_add, ix_one, vu_eq, vu_ne, arI_mk, arL_mk, arY_mZ, arY_mB, alen_mI, fld_sfl_ne, fld_sfl_same, Option.isSome_some, pok_i, b1z, b01, z10, b1o, Int32.zero_add, vu_vu, upd_eq, upd_ne, true_or, or_true, V2.r1, V2.r2, V2.r3, V2.r4, V2.r16, V2.r17, V2.r18, V2.r19, V2.r20, V2.r23, V2.r24, V2.r25, V2.r26, V2.r27, V2.r28, V2.r29, V2.r30, V2.c172, V2.c173, V2.c174, V2.c186, V2.c187, V2.c188, V2.n5, V2.n13, V2.n14, V2.i0, V2.i5, V2.i6, V2.i7, V2.i8, V2.i9, V2.i10, V2.i11, V2.i12, V2.i13, V2.i14, V2.i15, V2.i21, V2.i22, A4, ix_le, Nat.le_refl, h3]
          exact fin _ hgm.symm
        · rw [if_neg h3] at hgm
          simp (disch := first | omega | decide | assumption | exact Nat.le_of_ble_eq_true rfl) only [s282_44, s282_46, s282_47, s282_50, s282_52, s282_53, s282_174, s282_175, s282_178, s282_179, s282_180, s282_182, s282_185, s282_186, ow_some, true_and, and_true, and_self, if_true, if_false, not_true, not_false_eq_true, Bool.false_eq_true, eq_self, Option.toList, List.cons_append, List.nil_append, ix_in, ix_cl, lt_in, lt_cl, lt_add, ix_one, vu_eq, vu_ne, arI_mk, arL_mk, arY_mZ, arY_mB, alen_mI, fld_sfl_ne, fld_sfl_same, Option.isSome_some, pok_i, b1z, b01, z10, b1o, Int32.zero_add, vu_vu, upd_eq, upd_ne, true_or, or_true, V2.r1, V2.r2, V2.r3, V2.r4, V2.r16, V2.r17, V2.r18, V2.r19, V2.r20, V2.r23, V2.r24, V2.r25, V2.r26, V2.r27, V2.r28, V2.r29, V2.r30, V2.c172, V2.c173, V2.c174, V2.c186, V2.c187, V2.c188, V2.n5, V2.n13, V2.n14, V2.i0, V2.i5, V2.i6, V2.i7, V2.i8, V2.i9, V2.i10, V2.i11, V2.i12, V2.i13, V2.i14, V2.i15, V2.i21, V2.i22, A4, ix_le, Nat.le_refl, h3]
          exact fin _ hgm.symm
    · simp (disch := first | omega | decide | assumption | exact Nat.le_of_ble_eq_true rfl) only [s282_30, s282_33, s282_194, h282_197, ow_some, true_and, and_true, and_self, if_true, if_false, not_true, not_false_eq_true, Bool.false_eq_true, eq_self, Option.toList, List.cons_append, List.nil_append, ix_in, ix_cl, lt_in, lt_cl, lt_add, ix_one, vu_eq, vu_ne, arI_mk, arL_mk, arY_mZ, arY_mB, alen_mI, fld_sfl_ne, fld_sfl_same, Option.isSome_some, pok_i, b1z, b01, z10, b1o, Int32.zero_add, vu_vu, upd_eq, upd_ne, true_or, or_true, V2.r1, V2.r2, V2.r3, V2.r4, V2.r16, V2.r17, V2.r18, V2.r19, V2.r20, V2.r23, V2.r24, V2.r25, V2.r26, V2.r27, V2.r28, V2.r29, V2.r30, V2.c172, V2.c173, V2.c174, V2.c186, V2.c187, V2.c188, V2.n5, V2.n13, V2.n14, V2.i0, V2.i5, V2.i6, V2.i7, V2.i8, V2.i9, V2.i10, V2.i11, V2.i12, V2.i13, V2.i14, V2.i15, V2.i21, V2.i22, h1]
      refine hI _ (g, _, _, _, _) ⟨sw, V2, hh2, hg2, fun i hi hs => ?_⟩
      by_cases hij : i = j
      · subst hij; exact absurd hs h1
      · exact gv i (by omega) hs
  · rintro e ⟨g, u2, u3, u4, u5⟩ ⟨sw, V2, hh2, hg2, gv⟩
    simp (disch := first | omega | decide | assumption | exact Nat.le_of_ble_eq_true rfl) only [s282_6, s282_7, s282_8, s282_9, s282_12, s282_14, s282_15, s282_16, s282_200, ow_some, true_and, and_true, and_self, if_true, if_false, not_true, not_false_eq_true, Bool.false_eq_true, eq_self, Option.toList, List.cons_append, List.nil_append, ix_in, ix_cl, lt_in, lt_cl, lt_add, ix_one, vu_eq, vu_ne, arI_mk, arL_mk, arY_mZ, arY_mB, alen_mI, fld_sfl_ne, fld_sfl_same, Option.isSome_some, pok_i, b1z, b01, z10, b1o, Int32.zero_add, vu_vu, upd_eq, upd_ne, true_or, or_true, V2.r1, V2.r2, V2.r3, V2.r4, V2.r16, V2.r17, V2.r18, V2.r19, V2.r20, V2.r23, V2.r24, V2.r25, V2.r26, V2.r27, V2.r28, V2.r29, V2.r30, V2.c172, V2.c173, V2.c174, V2.c186, V2.c187, V2.c188, V2.n5, V2.n13, V2.n14, V2.i0, V2.i5, V2.i6, V2.i7, V2.i8, V2.i9, V2.i10, V2.i11, V2.i12, V2.i13, V2.i14, V2.i15, V2.i21, V2.i22, A4, e2, ix_le, Nat.le_refl]
    exact ⟨sw, V2, g, h, hg2, hh2, hv, gv⟩
theorem sub_rf {T : Nat} : sub T T = true := by unfold sub; simp
def o_wins (all : Nat → Int32) (S P : Nat) : Int32 := if m_hold all S P (nT all) = true then (if gm all S P (nT all) < 0 then 0 else 1) else -5
theorem sp_wins {X : Nat × (Nat → Int32)} {d N K : Nat} {f : Nat → e_C} {s : m_T} {S P : Nat} (V : MV f s) (W : WF s.1 S P) : TT X (d + 8) 281 0 [.ref 171] [] f N K (MZ N K f (s.1, o_wins s.1 S P) s.2) := by
  simp only [s281_0, s281_1, s281_2, V.i0, pok_i, true_and]
  have sm0 : SM f (va_up f 171 (sfl (f 171) 0 (.int 0))) := SM.up (by omega) (by omega)
  have V0 := V.num (j := 0) (x := 0) (by decide)
  generalize va_up f 171 (sfl (f 171) 0 (.int 0)) = f0 at sm0 V0 ⊢
  simp (disch := first | omega | decide | assumption | exact Nat.le_of_ble_eq_true rfl) only [s281_5, s281_6, s281_7, s281_10, s281_12, ow_some, true_and, and_true, and_self, if_true, if_false, not_true, not_false_eq_true, Bool.false_eq_true, eq_self, Option.toList, List.cons_append, List.nil_append, ix_in, ix_cl, lt_in, lt_cl, lt_add, ix_one, vu_eq, vu_ne, arI_mk, arL_mk, arY_mZ, arY_mB, alen_mI, fld_sfl_ne, fld_sfl_same, Option.isSome_some, pok_i, b1z, b01, z10, b1o, Int32.zero_add, vu_vu, upd_eq, upd_ne, true_or, or_true, V0.r1, V0.r2, V0.r3, V0.r4, V0.r16, V0.r17, V0.r18, V0.r19, V0.r20, V0.r23, V0.r24, V0.r25, V0.r26, V0.r27, V0.r28, V0.r29, V0.r30, V0.c172, V0.c173, V0.c174, V0.c186, V0.c187, V0.c188, V0.n5, V0.n13, V0.n14, V0.i0, V0.i5, V0.i6, V0.i7, V0.i8, V0.i9, V0.i10, V0.i11, V0.i12, V0.i13, V0.i14, V0.i15, V0.i21, V0.i22, W.2.1]
  refine k281_13 (cno_MR V0.mr) (Nat.le_of_ble_eq_true rfl) (vb_hold V0 W W.T) ?_
  rintro f1 n1 k1 v1 ⟨rfl, rfl, sm1, V1, rfl⟩
  unfold o_wins
  by_cases h1 : m_hold s.1 S P (nT s.1) = true
  · rw [if_pos h1]
    simp (disch := first | omega | decide | assumption | exact Nat.le_of_ble_eq_true rfl) only [s281_16, s281_19, s281_21, s281_22, ow_some, true_and, and_true, and_self, if_true, if_false, not_true, not_false_eq_true, Bool.false_eq_true, eq_self, Option.toList, List.cons_append, List.nil_append, ix_in, ix_cl, lt_in, lt_cl, lt_add, ix_one, vu_eq, vu_ne, arI_mk, arL_mk, arY_mZ, arY_mB, alen_mI, fld_sfl_ne, fld_sfl_same, Option.isSome_some, pok_i, b1z, b01, z10, b1o, Int32.zero_add, vu_vu, upd_eq, upd_ne, true_or, or_true, V1.r1, V1.r2, V1.r3, V1.r4, V1.r16, V1.r17, V1.r18, V1.r19, V1.r20, V1.r23, V1.r24, V1.r25, V1.r26, V1.r27, V1.r28, V1.r29, V1.r30, V1.c172, V1.c173, V1.c174, V1.c186, V1.c187, V1.c188, V1.n5, V1.n13, V1.n14, V1.i0, V1.i5, V1.i6, V1.i7, V1.i8, V1.i9, V1.i10, V1.i11, V1.i12, V1.i13, V1.i14, V1.i15, V1.i21, V1.i22, h1]
    refine k281_23 (cno_MR V1.mr) (Nat.le_of_ble_eq_true rfl) (sp_laysGame V1 W) ?_
    rintro f2 n2 k2 v2 ⟨rfl, rfl, rfl, sw2, V2, g, h, hg, hh, hv, gv⟩
    have hT := gv (nT s.1) W.2.2 sub_rf
    have hT9 := W.T
    by_cases h2 : gm s.1 S P (nT s.1) < 0
    · rw [if_pos h2]
      simp (disch := first | omega | decide | assumption | exact Nat.le_of_ble_eq_true rfl) only [s281_26, s281_27, s281_30, s281_31, s281_34, s281_36, s281_37, s281_38, s281_41, s281_42, s281_45, s281_46, ow_some, true_and, and_true, and_self, if_true, if_false, not_true, not_false_eq_true, Bool.false_eq_true, eq_self, Option.toList, List.cons_append, List.nil_append, ix_in, ix_cl, lt_in, lt_cl, lt_add, ix_one, vu_eq, vu_ne, arI_mk, arL_mk, arY_mZ, arY_mB, alen_mI, fld_sfl_ne, fld_sfl_same, Option.isSome_some, pok_i, b1z, b01, z10, b1o, Int32.zero_add, vu_vu, upd_eq, upd_ne, true_or, or_true, V2.r1, V2.r2, V2.r3, V2.r4, V2.r16, V2.r17, V2.r18, V2.r19, V2.r20, V2.r23, V2.r24, V2.r25, V2.r26, V2.r27, V2.r28, V2.r29, V2.r30, V2.c172, V2.c173, V2.c174, V2.c186, V2.c187, V2.c188, V2.n5, V2.n13, V2.n14, V2.i0, V2.i5, V2.i6, V2.i7, V2.i8, V2.i9, V2.i10, V2.i11, V2.i12, V2.i13, V2.i14, V2.i15, V2.i21, V2.i22, hg, W.2.1, hT, h2]
      exact ⟨rfl, rfl, (sm0.tr sm1).w.tr sw2, V2, rfl⟩
    · rw [if_neg h2]
      simp (disch := first | omega | decide | assumption | exact Nat.le_of_ble_eq_true rfl) only [s281_26, s281_27, s281_30, s281_31, s281_34, s281_36, s281_37, s281_38, s281_41, s281_42, s281_45, s281_46, ow_some, true_and, and_true, and_self, if_true, if_false, not_true, not_false_eq_true, Bool.false_eq_true, eq_self, Option.toList, List.cons_append, List.nil_append, ix_in, ix_cl, lt_in, lt_cl, lt_add, ix_one, vu_eq, vu_ne, arI_mk, arL_mk, arY_mZ, arY_mB, alen_mI, fld_sfl_ne, fld_sfl_same, Option.isSome_some, pok_i, b1z, b01, z10, b1o, Int32.zero_add, vu_vu, upd_eq, upd_ne, true_or, or_true, V2.r1, V2.r2, V2.r3, V2.r4, V2.r16, V2.r17, V2.r18, V2.r19, V2.r20, V2.r23, V2.r24, V2.r25, V2.r26, V2.r27, V2.r28, V2.r29, V2.r30, V2.c172, V2.c173, V2.c174, V2.c186, V2.c187, V2.c188, V2.n5, V2.n13, V2.n14, V2.i0, V2.i5, V2.i6, V2.i7, V2.i8, V2.i9, V2.i10, V2.i11, V2.i12, V2.i13, V2.i14, V2.i15, V2.i21, V2.i22, hg, W.2.1, hT, h2]
      exact ⟨rfl, rfl, (sm0.tr sm1).w.tr sw2, V2, rfl⟩
  · rw [if_neg h1]
    simp (disch := first | omega | decide | assumption | exact Nat.le_of_ble_eq_true rfl) only [s281_16, s281_19, s281_21, ow_some, true_and, and_true, and_self, if_true, if_false, not_true, not_false_eq_true, Bool.false_eq_true, eq_self, Option.toList, List.cons_append, List.nil_append, ix_in, ix_cl, lt_in, lt_cl, lt_add, ix_one, vu_eq, vu_ne, arI_mk, arL_mk, arY_mZ, arY_mB, alen_mI, fld_sfl_ne, fld_sfl_same, Option.isSome_some, pok_i, b1z, b01, z10, b1o, Int32.zero_add, vu_vu, upd_eq, upd_ne, true_or, or_true, V1.r1, V1.r2, V1.r3, V1.r4, V1.r16, V1.r17, V1.r18, V1.r19, V1.r20, V1.r23, V1.r24, V1.r25, V1.r26, V1.r27, V1.r28, V1.r29, V1.r30, V1.c172, V1.c173, V1.c174, V1.c186, V1.c187, V1.c188, V1.n5, V1.n13, V1.n14, V1.i0, V1.i5, V1.i6, V1.i7, V1.i8, V1.i9, V1.i10, V1.i11, V1.i12, V1.i13, V1.i14, V1.i15, V1.i21, V1.i22, h1]
    exact ⟨rfl, rfl, (sm0.tr sm1).w, V1, rfl⟩
def o_lasts (all : Nat → Int32) (S P : Nat) : Int32 := if m_hold all S P (nT all) = true then (if gm all S P (nT all) < 0 then -gm all S P (nT all) - 1 else gm all S P (nT all)) else -5
theorem sp_lasts {X : Nat × (Nat → Int32)} {d N K : Nat} {f : Nat → e_C} {s : m_T} {S P : Nat} (V : MV f s) (W : WF s.1 S P) {a1 : Value} : TT X (d + 8) 284 0 [.ref 171, a1] [] f N K (MZ N K f (s.1, o_lasts s.1 S P) s.2) := by
  simp only [s284_0, s284_1, s284_2, V.i0, pok_i, true_and]
  have sm0 : SM f (va_up f 171 (sfl (f 171) 0 (.int 0))) := SM.up (by omega) (by omega)
  have V0 := V.num (j := 0) (x := 0) (by decide)
  generalize va_up f 171 (sfl (f 171) 0 (.int 0)) = f0 at sm0 V0 ⊢
  simp (disch := first | omega | decide | assumption | exact Nat.le_of_ble_eq_true rfl) only [s284_5, s284_6, s284_7, s284_10, s284_12, ow_some, true_and, and_true, and_self, if_true, if_false, not_true, not_false_eq_true, Bool.false_eq_true, eq_self, Option.toList, List.cons_append, List.nil_append, ix_in, ix_cl, lt_in, lt_cl, lt_add, ix_one, vu_eq, vu_ne, arI_mk, arL_mk, arY_mZ, arY_mB, alen_mI, fld_sfl_ne, fld_sfl_same, Option.isSome_some, pok_i, b1z, b01, z10, b1o, Int32.zero_add, vu_vu, upd_eq, upd_ne, true_or, or_true, V0.r1, V0.r2, V0.r3, V0.r4, V0.r16, V0.r17, V0.r18, V0.r19, V0.r20, V0.r23, V0.r24, V0.r25, V0.r26, V0.r27, V0.r28, V0.r29, V0.r30, V0.c172, V0.c173, V0.c174, V0.c186, V0.c187, V0.c188, V0.n5, V0.n13, V0.n14, V0.i0, V0.i5, V0.i6, V0.i7, V0.i8, V0.i9, V0.i10, V0.i11, V0.i12, V0.i13, V0.i14, V0.i15, V0.i21, V0.i22, W.2.1]
  refine k284_13 (cno_MR V0.mr) (Nat.le_of_ble_eq_true rfl) (vb_hold V0 W W.T) ?_
  rintro f1 n1 k1 v1 ⟨rfl, rfl, sm1, V1, rfl⟩
  unfold o_lasts
  by_cases h1 : m_hold s.1 S P (nT s.1) = true
  · rw [if_pos h1]
    simp (disch := first | omega | decide | assumption | exact Nat.le_of_ble_eq_true rfl) only [s284_16, s284_19, s284_21, s284_22, ow_some, true_and, and_true, and_self, if_true, if_false, not_true, not_false_eq_true, Bool.false_eq_true, eq_self, Option.toList, List.cons_append, List.nil_append, ix_in, ix_cl, lt_in, lt_cl, lt_add, ix_one, vu_eq, vu_ne, arI_mk, arL_mk, arY_mZ, arY_mB, alen_mI, fld_sfl_ne, fld_sfl_same, Option.isSome_some, pok_i, b1z, b01, z10, b1o, Int32.zero_add, vu_vu, upd_eq, upd_ne, true_or, or_true, V1.r1, V1.r2, V1.r3, V1.r4, V1.r16, V1.r17, V1.r18, V1.r19, V1.r20, V1.r23, V1.r24, V1.r25, V1.r26, V1.r27, V1.r28, V1.r29, V1.r30, V1.c172, V1.c173, V1.c174, V1.c186, V1.c187, V1.c188, V1.n5, V1.n13, V1.n14, V1.i0, V1.i5, V1.i6, V1.i7, V1.i8, V1.i9, V1.i10, V1.i11, V1.i12, V1.i13, V1.i14, V1.i15, V1.i21, V1.i22, h1]
    refine k284_23 (cno_MR V1.mr) (Nat.le_of_ble_eq_true rfl) (sp_laysGame V1 W) ?_
    rintro f2 n2 k2 v2 ⟨rfl, rfl, rfl, sw2, V2, g, h, hg, hh, hv, gv⟩
    have hT := gv (nT s.1) W.2.2 sub_rf
    have hT9 := W.T
    by_cases h2 : gm s.1 S P (nT s.1) < 0
    · rw [if_pos h2]
      simp (disch := first | omega | decide | assumption | exact Nat.le_of_ble_eq_true rfl) only [s284_26, s284_27, s284_30, s284_31, s284_34, s284_36, s284_37, s284_38, s284_39, s284_40, s284_43, s284_44, s284_47, s284_48, s284_49, s284_50, s284_51, ow_some, true_and, and_true, and_self, if_true, if_false, not_true, not_false_eq_true, Bool.false_eq_true, eq_self, Option.toList, List.cons_append, List.nil_append, ix_in, ix_cl, lt_in, lt_cl, lt_add, ix_one, vu_eq, vu_ne, arI_mk, arL_mk, arY_mZ, arY_mB, alen_mI, fld_sfl_ne, fld_sfl_same, Option.isSome_some, pok_i, b1z, b01, z10, b1o, Int32.zero_add, vu_vu, upd_eq, upd_ne, true_or, or_true, V2.r1, V2.r2, V2.r3, V2.r4, V2.r16, V2.r17, V2.r18, V2.r19, V2.r20, V2.r23, V2.r24, V2.r25, V2.r26, V2.r27, V2.r28, V2.r29, V2.r30, V2.c172, V2.c173, V2.c174, V2.c186, V2.c187, V2.c188, V2.n5, V2.n13, V2.n14, V2.i0, V2.i5, V2.i6, V2.i7, V2.i8, V2.i9, V2.i10, V2.i11, V2.i12, V2.i13, V2.i14, V2.i15, V2.i21, V2.i22, hg, W.2.1, hT, h2]
      exact ⟨rfl, rfl, (sm0.tr sm1).w.tr sw2, V2, rfl⟩
    · rw [if_neg h2]
      simp (disch := first | omega | decide | assumption | exact Nat.le_of_ble_eq_true rfl) only [s284_26, s284_27, s284_30, s284_31, s284_34, s284_36, s284_37, s284_38, s284_39, s284_40, s284_43, s284_44, s284_47, s284_48, s284_49, s284_50, s284_51, ow_some, true_and, and_true, and_self, if_true, if_false, not_true, not_false_eq_true, Bool.false_eq_true, eq_self, Option.toList, List.cons_append, List.nil_append, ix_in, ix_cl, lt_in, lt_cl, lt_add, ix_one, vu_eq, vu_ne, arI_mk, arL_mk, arY_mZ, arY_mB, alen_mI, fld_sfl_ne, fld_sfl_same, Option.isSome_some, pok_i, b1z, b01, z10, b1o, Int32.zero_add, vu_vu, upd_eq, upd_ne, true_or, or_true, V2.r1, V2.r2, V2.r3, V2.r4, V2.r16, V2.r17, V2.r18, V2.r19, V2.r20, V2.r23, V2.r24, V2.r25, V2.r26, V2.r27, V2.r28, V2.r29, V2.r30, V2.c172, V2.c173, V2.c174, V2.c186, V2.c187, V2.c188, V2.n5, V2.n13, V2.n14, V2.i0, V2.i5, V2.i6, V2.i7, V2.i8, V2.i9, V2.i10, V2.i11, V2.i12, V2.i13, V2.i14, V2.i15, V2.i21, V2.i22, hg, W.2.1, hT, h2]
      exact ⟨rfl, rfl, (sm0.tr sm1).w.tr sw2, V2, rfl⟩
  · rw [if_neg h1]
    simp (disch := first | omega | decide | assumption | exact Nat.le_of_ble_eq_true rfl) only [s284_16, s284_19, s284_21, ow_some, true_and, and_true, and_self, if_true, if_false, not_true, not_false_eq_true, Bool.false_eq_true, eq_self, Option.toList, List.cons_append, List.nil_append, ix_in, ix_cl, lt_in, lt_cl, lt_add, ix_one, vu_eq, vu_ne, arI_mk, arL_mk, arY_mZ, arY_mB, alen_mI, fld_sfl_ne, fld_sfl_same, Option.isSome_some, pok_i, b1z, b01, z10, b1o, Int32.zero_add, vu_vu, upd_eq, upd_ne, true_or, or_true, V1.r1, V1.r2, V1.r3, V1.r4, V1.r16, V1.r17, V1.r18, V1.r19, V1.r20, V1.r23, V1.r24, V1.r25, V1.r26, V1.r27, V1.r28, V1.r29, V1.r30, V1.c172, V1.c173, V1.c174, V1.c186, V1.c187, V1.c188, V1.n5, V1.n13, V1.n14, V1.i0, V1.i5, V1.i6, V1.i7, V1.i8, V1.i9, V1.i10, V1.i11, V1.i12, V1.i13, V1.i14, V1.i15, V1.i21, V1.i22, h1]
    exact ⟨rfl, rfl, (sm0.tr sm1).w, V1, rfl⟩
def b_mv (all : Nat → Int32) (S P p : Nat) : Bool := (nT all).testBit p && m_h all S P (clr (nT all) p) && decide (gm all S P (clr (nT all) p) < 0)
def o_best (all : Nat → Int32) (S P : Nat) : Int32 := if m_hold all S P (nT all) = true then oI (m_fi (b_mv all S P) P 0) else -5
theorem sp_best {X : Nat × (Nat → Int32)} {d N K : Nat} {f : Nat → e_C} {s : m_T} {S P : Nat} (V : MV f s) (W : WF s.1 S P) {a1 : Value} : TT X (d + 8) 283 0 [.ref 171, a1] [] f N K (MZ N K f (s.1, o_best s.1 S P) s.2) := by
  simp only [s283_0, s283_1, s283_2, V.i0, pok_i, true_and]
  have sm0 : SM f (va_up f 171 (sfl (f 171) 0 (.int 0))) := SM.up (by omega) (by omega)
  have V0 := V.num (j := 0) (x := 0) (by decide)
  generalize va_up f 171 (sfl (f 171) 0 (.int 0)) = f0 at sm0 V0 ⊢
  simp (disch := first | omega | decide | assumption | exact Nat.le_of_ble_eq_true rfl) only [s283_5, s283_6, s283_7, s283_10, s283_12, ow_some, true_and, and_true, and_self, if_true, if_false, not_true, not_false_eq_true, Bool.false_eq_true, eq_self, Option.toList, List.cons_append, List.nil_append, ix_in, ix_cl, lt_in, lt_cl, lt_add, ix_one, vu_eq, vu_ne, arI_mk, arL_mk, arY_mZ, arY_mB, alen_mI, fld_sfl_ne, fld_sfl_same, Option.isSome_some, pok_i, b1z, b01, z10, b1o, Int32.zero_add, vu_vu, upd_eq, upd_ne, true_or, or_true, V0.r1, V0.r2, V0.r3, V0.r4, V0.r16, V0.r17, V0.r18, V0.r19, V0.r20, V0.r23, V0.r24, V0.r25, V0.r26, V0.r27, V0.r28, V0.r29, V0.r30, V0.c172, V0.c173, V0.c174, V0.c186, V0.c187, V0.c188, V0.n5, V0.n13, V0.n14, V0.i0, V0.i5, V0.i6, V0.i7, V0.i8, V0.i9, V0.i10, V0.i11, V0.i12, V0.i13, V0.i14, V0.i15, V0.i21, V0.i22, W.2.1]
  refine k283_13 (cno_MR V0.mr) (Nat.le_of_ble_eq_true rfl) (vb_hold V0 W W.T) ?_
  rintro f1 n1 k1 v1 ⟨rfl, rfl, sm1, V1, rfl⟩
  have A4 := W.1.2.2.2.1
  have h9 := W.1.2.2.2.2.1
  unfold o_best
  by_cases h1 : m_hold s.1 S P (nT s.1) = true
  · rw [if_pos h1]
    simp (disch := first | omega | decide | assumption | exact Nat.le_of_ble_eq_true rfl) only [s283_16, s283_19, s283_21, s283_22, ow_some, true_and, and_true, and_self, if_true, if_false, not_true, not_false_eq_true, Bool.false_eq_true, eq_self, Option.toList, List.cons_append, List.nil_append, ix_in, ix_cl, lt_in, lt_cl, lt_add, ix_one, vu_eq, vu_ne, arI_mk, arL_mk, arY_mZ, arY_mB, alen_mI, fld_sfl_ne, fld_sfl_same, Option.isSome_some, pok_i, b1z, b01, z10, b1o, Int32.zero_add, vu_vu, upd_eq, upd_ne, true_or, or_true, V1.r1, V1.r2, V1.r3, V1.r4, V1.r16, V1.r17, V1.r18, V1.r19, V1.r20, V1.r23, V1.r24, V1.r25, V1.r26, V1.r27, V1.r28, V1.r29, V1.r30, V1.c172, V1.c173, V1.c174, V1.c186, V1.c187, V1.c188, V1.n5, V1.n13, V1.n14, V1.i0, V1.i5, V1.i6, V1.i7, V1.i8, V1.i9, V1.i10, V1.i11, V1.i12, V1.i13, V1.i14, V1.i15, V1.i21, V1.i22, h1]
    refine k283_23 (cno_MR V1.mr) (Nat.le_of_ble_eq_true rfl) (sp_laysGame V1 W) ?_
    rintro f2 n2 k2 v2 ⟨rfl, rfl, rfl, sw2, V2, g, h, hg, hh, hv, gv⟩
    have hy := arY_Z hh
    simp (disch := first | omega | decide | assumption | exact Nat.le_of_ble_eq_true rfl) only [s283_26, h283_27, ow_some, true_and, and_true, and_self, if_true, if_false, not_true, not_false_eq_true, Bool.false_eq_true, eq_self, Option.toList, List.cons_append, List.nil_append, ix_in, ix_cl, lt_in, lt_cl, lt_add, ix_one, vu_eq, vu_ne, arI_mk, arL_mk, arY_mZ, arY_mB, alen_mI, fld_sfl_ne, fld_sfl_same, Option.isSome_some, pok_i, b1z, b01, z10, b1o, Int32.zero_add, vu_vu, upd_eq, upd_ne, true_or, or_true, V2.r1, V2.r2, V2.r3, V2.r4, V2.r16, V2.r17, V2.r18, V2.r19, V2.r20, V2.r23, V2.r24, V2.r25, V2.r26, V2.r27, V2.r28, V2.r29, V2.r30, V2.c172, V2.c173, V2.c174, V2.c186, V2.c187, V2.c188, V2.n5, V2.n13, V2.n14, V2.i0, V2.i5, V2.i6, V2.i7, V2.i8, V2.i9, V2.i10, V2.i11, V2.i12, V2.i13, V2.i14, V2.i15, V2.i21, V2.i22]
    refine lp (fun p e (_ : Unit) => e = f2 ∧ m_fi (b_mv s.1 S P) P 0 = m_fi (b_mv s.1 S P) (P - p) p) (fun p _ => [.ref 171, .int (nI p)]) P ?_ ?_ 0 f2 () (by omega) ⟨rfl, rfl⟩
    · rintro p e _ hp ⟨rfl, he⟩ hI
      have hc : (P ≤ p) = False := eq_false (by omega)
      obtain ⟨m, hm⟩ : ∃ m, P - p = m + 1 := ⟨P - p - 1, by omega⟩
      rw [hm, m_fi_s m] at he
      have hcl := bit_clr (nT s.1) W.T p (by omega)
      have hcl2 : clr (nT s.1) p < 2 ^ P := Nat.lt_of_le_of_lt (clr_le _ _) W.2.2
      have hvc := hv _ hcl2
      have hgc := gv _ hcl2 (clr_sub W.T (by omega))
      have skip : b_mv s.1 S P p = false → TT X (d + 8) 283 91 [.ref 171, .int (nI p)] [] e n2 k2 (MZ n2 k2 f (s.1, oI (m_fi (b_mv s.1 S P) P 0)) s.2) := by
        intro hb
        rw [hb] at he
        simp (disch := first | omega | decide | assumption | exact Nat.le_of_ble_eq_true rfl) only [s283_91, h283_94, ow_some, true_and, and_true, and_self, if_true, if_false, not_true, not_false_eq_true, Bool.false_eq_true, eq_self, Option.toList, List.cons_append, List.nil_append, ix_in, ix_cl, lt_in, lt_cl, lt_add, ix_one, vu_eq, vu_ne, arI_mk, arL_mk, arY_mZ, arY_mB, alen_mI, fld_sfl_ne, fld_sfl_same, Option.isSome_some, pok_i, b1z, b01, z10, b1o, Int32.zero_add, vu_vu, upd_eq, upd_ne, true_or, or_true, V2.r1, V2.r2, V2.r3, V2.r4, V2.r16, V2.r17, V2.r18, V2.r19, V2.r20, V2.r23, V2.r24, V2.r25, V2.r26, V2.r27, V2.r28, V2.r29, V2.r30, V2.c172, V2.c173, V2.c174, V2.c186, V2.c187, V2.c188, V2.n5, V2.n13, V2.n14, V2.i0, V2.i5, V2.i6, V2.i7, V2.i8, V2.i9, V2.i10, V2.i11, V2.i12, V2.i13, V2.i14, V2.i15, V2.i21, V2.i22]
        exact hI _ () ⟨rfl, by rw [he, show P - (p + 1) = m by omega]; rfl⟩
      simp (disch := first | omega | decide | assumption | exact Nat.le_of_ble_eq_true rfl) only [s283_28, s283_29, s283_30, s283_33, s283_35, s283_36, s283_39, s283_40, ow_some, true_and, and_true, and_self, if_true, if_false, not_true, not_false_eq_true, Bool.false_eq_true, eq_self, Option.toList, List.cons_append, List.nil_append, ix_in, ix_cl, lt_in, lt_cl, lt_add, ix_one, vu_eq, vu_ne, arI_mk, arL_mk, arY_mZ, arY_mB, alen_mI, fld_sfl_ne, fld_sfl_same, Option.isSome_some, pok_i, b1z, b01, z10, b1o, Int32.zero_add, vu_vu, upd_eq, upd_ne, true_or, or_true, V2.r1, V2.r2, V2.r3, V2.r4, V2.r16, V2.r17, V2.r18, V2.r19, V2.r20, V2.r23, V2.r24, V2.r25, V2.r26, V2.r27, V2.r28, V2.r29, V2.r30, V2.c172, V2.c173, V2.c174, V2.c186, V2.c187, V2.c188, V2.n5, V2.n13, V2.n14, V2.i0, V2.i5, V2.i6, V2.i7, V2.i8, V2.i9, V2.i10, V2.i11, V2.i12, V2.i13, V2.i14, V2.i15, V2.i21, V2.i22, A4, ix_le, hc]
      rw [p283_41 (cno_MR V2.mr) (Nat.le_of_ble_eq_true rfl) (sp_isThere V2.mr V2.c172 W.2.1 W.T (show p < 9 by omega))]
      by_cases h2 : (nT s.1).testBit p = true
      · simp (disch := first | omega | decide | assumption | exact Nat.le_of_ble_eq_true rfl) only [s283_44, s283_47, s283_48, s283_51, s283_52, s283_55, s283_57, s283_58, s283_59, s283_60, s283_61, s283_62, s283_63, y283_64, s283_65, ow_some, true_and, and_true, and_self, if_true, if_false, not_true, not_false_eq_true, Bool.false_eq_true, eq_self, Option.toList, List.cons_append, List.nil_append, ix_in, ix_cl, lt_in, lt_cl, lt_add, ix_one, vu_eq, vu_ne, arI_mk, arL_mk, arY_mZ, arY_mB, alen_mI, fld_sfl_ne, fld_sfl_same, Option.isSome_some, pok_i, b1z, b01, z10, b1o, Int32.zero_add, vu_vu, upd_eq, upd_ne, true_or, or_true, V2.r1, V2.r2, V2.r3, V2.r4, V2.r16, V2.r17, V2.r18, V2.r19, V2.r20, V2.r23, V2.r24, V2.r25, V2.r26, V2.r27, V2.r28, V2.r29, V2.r30, V2.c172, V2.c173, V2.c174, V2.c186, V2.c187, V2.c188, V2.n5, V2.n13, V2.n14, V2.i0, V2.i5, V2.i6, V2.i7, V2.i8, V2.i9, V2.i10, V2.i11, V2.i12, V2.i13, V2.i14, V2.i15, V2.i21, V2.i22, h2, W.2.1, hcl.1, hy, hvc, bI0]
        by_cases h3 : m_h s.1 S P (clr (nT s.1) p) = false
        · simp only [h3, if_true]
          exact skip (by unfold b_mv; rw [h3]; simp)
        · rw [Bool.not_eq_false] at h3
          simp (disch := first | omega | decide | assumption | exact Nat.le_of_ble_eq_true rfl) only [s283_68, s283_69, s283_72, s283_73, s283_76, s283_78, s283_79, s283_80, s283_81, s283_82, s283_83, s283_84, s283_85, s283_86, ow_some, true_and, and_true, and_self, if_true, if_false, not_true, not_false_eq_true, Bool.false_eq_true, eq_self, Option.toList, List.cons_append, List.nil_append, ix_in, ix_cl, lt_in, lt_cl, lt_add, ix_one, vu_eq, vu_ne, arI_mk, arL_mk, arY_mZ, arY_mB, alen_mI, fld_sfl_ne, fld_sfl_same, Option.isSome_some, pok_i, b1z, b01, z10, b1o, Int32.zero_add, vu_vu, upd_eq, upd_ne, true_or, or_true, V2.r1, V2.r2, V2.r3, V2.r4, V2.r16, V2.r17, V2.r18, V2.r19, V2.r20, V2.r23, V2.r24, V2.r25, V2.r26, V2.r27, V2.r28, V2.r29, V2.r30, V2.c172, V2.c173, V2.c174, V2.c186, V2.c187, V2.c188, V2.n5, V2.n13, V2.n14, V2.i0, V2.i5, V2.i6, V2.i7, V2.i8, V2.i9, V2.i10, V2.i11, V2.i12, V2.i13, V2.i14, V2.i15, V2.i21, V2.i22, h3, Bool.true_eq_false, W.2.1, hcl.1, hg, hgc]
          by_cases h4 : gm s.1 S P (clr (nT s.1) p) < 0
          · have h4' : (0 ≤ gm s.1 S P (clr (nT s.1) p)) = False := eq_false (by rw [Int32.le_iff_toInt_le]; rw [Int32.lt_iff_toInt_lt] at h4; omega)
            have hb : b_mv s.1 S P p = true := by unfold b_mv; rw [h2, h3]; simp [h4]
            rw [hb] at he
            simp (disch := first | omega | decide | assumption | exact Nat.le_of_ble_eq_true rfl) only [s283_89, s283_90, ow_some, true_and, and_true, and_self, if_true, if_false, not_true, not_false_eq_true, Bool.false_eq_true, eq_self, Option.toList, List.cons_append, List.nil_append, ix_in, ix_cl, lt_in, lt_cl, lt_add, ix_one, vu_eq, vu_ne, arI_mk, arL_mk, arY_mZ, arY_mB, alen_mI, fld_sfl_ne, fld_sfl_same, Option.isSome_some, pok_i, b1z, b01, z10, b1o, Int32.zero_add, vu_vu, upd_eq, upd_ne, true_or, or_true, V2.r1, V2.r2, V2.r3, V2.r4, V2.r16, V2.r17, V2.r18, V2.r19, V2.r20, V2.r23, V2.r24, V2.r25, V2.r26, V2.r27, V2.r28, V2.r29, V2.r30, V2.c172, V2.c173, V2.c174, V2.c186, V2.c187, V2.c188, V2.n5, V2.n13, V2.n14, V2.i0, V2.i5, V2.i6, V2.i7, V2.i8, V2.i9, V2.i10, V2.i11, V2.i12, V2.i13, V2.i14, V2.i15, V2.i21, V2.i22, h4']
            rw [he]
            exact ⟨rfl, rfl, (sm0.tr sm1).w.tr sw2, V2, rfl⟩
          · have h4' : (0 ≤ gm s.1 S P (clr (nT s.1) p)) = True := eq_true (by rw [Int32.le_iff_toInt_le]; rw [Int32.lt_iff_toInt_lt] at h4; omega)
            simp only [h4', if_true]
            exact skip (by unfold b_mv; rw [h2, h3]; simp [h4])
      · simp (disch := first | omega | decide | assumption | exact Nat.le_of_ble_eq_true rfl) only [s283_44, ow_some, true_and, and_true, and_self, if_true, if_false, not_true, not_false_eq_true, Bool.false_eq_true, eq_self, Option.toList, List.cons_append, List.nil_append, ix_in, ix_cl, lt_in, lt_cl, lt_add, ix_one, vu_eq, vu_ne, arI_mk, arL_mk, arY_mZ, arY_mB, alen_mI, fld_sfl_ne, fld_sfl_same, Option.isSome_some, pok_i, b1z, b01, z10, b1o, Int32.zero_add, vu_vu, upd_eq, upd_ne, true_or, or_true, V2.r1, V2.r2, V2.r3, V2.r4, V2.r16, V2.r17, V2.r18, V2.r19, V2.r20, V2.r23, V2.r24, V2.r25, V2.r26, V2.r27, V2.r28, V2.r29, V2.r30, V2.c172, V2.c173, V2.c174, V2.c186, V2.c187, V2.c188, V2.n5, V2.n13, V2.n14, V2.i0, V2.i5, V2.i6, V2.i7, V2.i8, V2.i9, V2.i10, V2.i11, V2.i12, V2.i13, V2.i14, V2.i15, V2.i21, V2.i22, h2]
        exact skip (by unfold b_mv; rw [Bool.not_eq_true] at h2; rw [h2]; rfl)
    · rintro e _ ⟨rfl, he⟩
      rw [Nat.sub_self, m_fi] at he
      simp (disch := first | omega | decide | assumption | exact Nat.le_of_ble_eq_true rfl) only [s283_28, s283_29, s283_30, s283_33, s283_35, s283_36, s283_97, s283_98, ow_some, true_and, and_true, and_self, if_true, if_false, not_true, not_false_eq_true, Bool.false_eq_true, eq_self, Option.toList, List.cons_append, List.nil_append, ix_in, ix_cl, lt_in, lt_cl, lt_add, ix_one, vu_eq, vu_ne, arI_mk, arL_mk, arY_mZ, arY_mB, alen_mI, fld_sfl_ne, fld_sfl_same, Option.isSome_some, pok_i, b1z, b01, z10, b1o, Int32.zero_add, vu_vu, upd_eq, upd_ne, true_or, or_true, V2.r1, V2.r2, V2.r3, V2.r4, V2.r16, V2.r17, V2.r18, V2.r19, V2.r20, V2.r23, V2.r24, V2.r25, V2.r26, V2.r27, V2.r28, V2.r29, V2.r30, V2.c172, V2.c173, V2.c174, V2.c186, V2.c187, V2.c188, V2.n5, V2.n13, V2.n14, V2.i0, V2.i5, V2.i6, V2.i7, V2.i8, V2.i9, V2.i10, V2.i11, V2.i12, V2.i13, V2.i14, V2.i15, V2.i21, V2.i22, A4, ix_le, Nat.le_refl]
      rw [he]
      exact ⟨rfl, rfl, (sm0.tr sm1).w.tr sw2, V2, rfl⟩
  · rw [if_neg h1]
    simp (disch := first | omega | decide | assumption | exact Nat.le_of_ble_eq_true rfl) only [s283_16, s283_19, s283_21, ow_some, true_and, and_true, and_self, if_true, if_false, not_true, not_false_eq_true, Bool.false_eq_true, eq_self, Option.toList, List.cons_append, List.nil_append, ix_in, ix_cl, lt_in, lt_cl, lt_add, ix_one, vu_eq, vu_ne, arI_mk, arL_mk, arY_mZ, arY_mB, alen_mI, fld_sfl_ne, fld_sfl_same, Option.isSome_some, pok_i, b1z, b01, z10, b1o, Int32.zero_add, vu_vu, upd_eq, upd_ne, true_or, or_true, V1.r1, V1.r2, V1.r3, V1.r4, V1.r16, V1.r17, V1.r18, V1.r19, V1.r20, V1.r23, V1.r24, V1.r25, V1.r26, V1.r27, V1.r28, V1.r29, V1.r30, V1.c172, V1.c173, V1.c174, V1.c186, V1.c187, V1.c188, V1.n5, V1.n13, V1.n14, V1.i0, V1.i5, V1.i6, V1.i7, V1.i8, V1.i9, V1.i10, V1.i11, V1.i12, V1.i13, V1.i14, V1.i15, V1.i21, V1.i22, h1]
    exact ⟨rfl, rfl, (sm0.tr sm1).w, V1, rfl⟩

/-! the class: judge, year -/
section DEED
variable {X : Nat × (Nat → Int32)} {d N K : Nat} {f f' f'' : Nat → e_C} {t t' : Nat → Int32} {s : m_T} {S R P P2 D B B2 j : Nat} {all2 : Nat → Int32}
theorem ST.jud (Z : ST f N s S R P D B t) (hf : ∀ b, b < 112 ∨ (189 ≤ b ∧ b < N) → ¬ (17 ≤ b ∧ b < 22) → f' b = f b) (a : anyS f' 17) : ST f' N s S R P D B t := by
  obtain ⟨a1, a2, a3, ⟨j', b1, b2, b3⟩, a5, a6, a7, a8, a9⟩ := Z
  refine ⟨a1.fr (hf 0 (by omega) (by omega)), a2.fr (Nat.le_refl _) (Nat.le_refl _) (fun b hb => hf b (by omega) (by omega)), a, ⟨j', b1, b2, ?_⟩, ?_, a6.fr (fun b h1 h2 => hf b (by omega) (by omega)), ?_, a8, ?_⟩
  · obtain ⟨c1, c2, c3, c4, c5, c6⟩ := b3
    refine ⟨by rw [hf 22 (by omega) (by omega)]; exact c1, fun i hi => (c2 i hi).fr (fun b h1 h2 => hf b (by omega) (by omega)), c3, c4, c5, fun i hi => ?_⟩
    obtain ⟨P', h⟩ := c6 i hi
    have := Nat.mod_lt (j' + 10 - i) (show 11 > 0 by omega)
    exact ⟨P', h.fr (Nat.le_refl _) (Nat.le_refl _) (fun b hb => hf b (by omega) (by omega))⟩
  · obtain ⟨c1, c2, c3, c4⟩ := a5
    refine ⟨by rw [hf 78 (by omega) (by omega)]; exact c1, by rw [hf 89 (by omega) (by omega)]; exact c2, fun i hi => (c3 i hi).fr (fun b h1 h2 => hf b (by omega) (by omega)), fun i hi hz => ?_⟩
    obtain ⟨S', R', P', h⟩ := c4 i hi hz
    exact ⟨S', R', P', h.fr (Nat.le_refl _) (Nat.le_refl _) (fun b hb => hf b (by omega) (by omega))⟩
  · unfold TP; rw [hf 1 (by omega) (by omega)]; exact a7
  · unfold RDV; rw [hf 99 (by omega) (by omega), hf 100 (by omega) (by omega), hf 101 (by omega) (by omega)]; exact a9
theorem sp_judgeC (Z : ST f N s S R P D B t) (Y : SCR f) (hB : B + 99 < 100000) {z w : Int32} {u3 : Value} : TT X (d + 8) 131 0 [.ref 0, .int z, .int w, u3] [] f N K (QG f N K s B (.int (o_judge s S P z w))) := by
  have I := Z.is
  have r11 := Z.1.r11
  have fin : ∀ z : Value, QG f N K s B z f N K (some z) := fun z => ⟨rfl, rfl, fun _ _ => rfl, Y, ⟨S, R, P, D, t, Z⟩, rfl⟩
  have l1 : (w < (0 : Int32)) = (w.toInt < 0) := by rw [Int32.lt_iff_toInt_lt]; rfl
  have l2 : (w ≤ (3 : Int32)) = (w.toInt ≤ 3) := by rw [Int32.le_iff_toInt_le]; rfl
  have c1 : ((1 : Int32) = 0) = False := eq_false (by decide)
  unfold o_judge
  simp (disch := first | omega | decide | assumption | exact Nat.le_of_ble_eq_true rfl) only [s131_0, ow_some, true_and, and_true, and_self, if_true, if_false, not_true, not_false_eq_true, Bool.false_eq_true, eq_self, Option.toList, List.cons_append, List.nil_append, ix_in, ix_cl, lt_in, lt_cl, lt_add, ix_one, vu_eq, vu_ne, arI_mk, arL_mk, arY_mZ, arY_mB, alen_mI, fld_sfl_ne, fld_sfl_same, Option.isSome_some, pok_i, b1z, b01, z10, b1o, Int32.zero_add, vu_vu, upd_eq, upd_ne, true_or, or_true]
  rw [p131_1 (Nat.le_of_ble_eq_true rfl) sp_isTray]
  by_cases h1 : 0 ≤ z.toInt ∧ z.toInt ≤ 3
  · rw [if_pos h1, if_pos h1]
    by_cases hw : 0 ≤ w.toInt ∧ w.toInt ≤ 3
    · rw [if_pos hw]
      have b1 : (w.toInt < 0) = False := eq_false (by omega)
      have b2 : (w.toInt ≤ 3) = True := eq_true hw.2
      obtain ⟨i, hi, rfl, hv⟩ := i9 (v := z) (N := 4) h1.1 (by omega) (by omega)
      simp only [hv, Int.toNat_natCast]
      obtain ⟨ga, hga, hgi⟩ := Z.2.2.2.2.2.1.1
      obtain ⟨so, sz, g, T, hso, hM, hT⟩ := Z.2.2.2.2.2.1.at hi
      have gi := hgi i hi
      have t1 := T.2.1
      rcases hT with ⟨q1, q2⟩ | ⟨q0, q1, q2, q3⟩
      · rw [if_pos q1]
        have c2 : ((0 : Int32) ≤ -1) = False := eq_false (by decide)
        simp (disch := first | omega | decide | assumption | exact Nat.le_of_ble_eq_true rfl) only [s131_4, s131_7, s131_8, s131_11, s131_12, s131_13, s131_19, s131_20, s131_23, y131_24, s131_25, s131_28, s131_31, s131_33, ow_some, true_and, and_true, and_self, if_true, if_false, not_true, not_false_eq_true, Bool.false_eq_true, eq_self, Option.toList, List.cons_append, List.nil_append, ix_in, ix_cl, lt_in, lt_cl, lt_add, ix_one, vu_eq, vu_ne, arI_mk, arL_mk, arY_mZ, arY_mB, alen_mI, fld_sfl_ne, fld_sfl_same, Option.isSome_some, pok_i, b1z, b01, z10, b1o, Int32.zero_add, vu_vu, upd_eq, upd_ne, true_or, or_true, r11, hga, gi, va_rf_s, t1, q2, c1, c2, l1, l2, b1, b2, ne_eq]
        exact fin _
      · rw [if_neg q0]
        have c2 : ((0 : Int32) ≤ nI (nM s i)) = True := eq_true (by rw [Int32.le_iff_toInt_le, nI_toInt (by omega)]; show (0 : Int) ≤ _; omega)
        have r4 := Z.1.r4
        have r5 := Z.1.r5
        simp (disch := first | omega | decide | assumption | exact Nat.le_of_ble_eq_true rfl) only [s131_4, s131_7, s131_8, s131_11, s131_12, s131_13, s131_19, s131_20, s131_23, y131_24, s131_25, s131_28, s131_34, s131_35, s131_38, s131_39, ow_some, true_and, and_true, and_self, if_true, if_false, not_true, not_false_eq_true, Bool.false_eq_true, eq_self, Option.toList, List.cons_append, List.nil_append, ix_in, ix_cl, lt_in, lt_cl, lt_add, ix_one, vu_eq, vu_ne, arI_mk, arL_mk, arY_mZ, arY_mB, alen_mI, fld_sfl_ne, fld_sfl_same, Option.isSome_some, pok_i, b1z, b01, z10, b1o, Int32.zero_add, vu_vu, upd_eq, upd_ne, true_or, or_true, r4, r5, r11, hga, gi, va_rf_s, t1, q2, c1, c2, l1, l2, b1, b2, ne_eq]
        obtain ⟨pl, w0, x0, v0, r0, C, V, W, G, -, m, hp, hb⟩ := Z.2.1
        obtain ⟨plo, wo, xo, Vo⟩ := Z.2.2.1
        have h9 : w0 9 = 0 ∨ w0 9 = 1 := by rw [G.w9]; exact I.fl
        refine k131_42 Vo.cn (Nat.le_of_ble_eq_true rfl) (sp_copyFrom Vo V (by omega) h9) ?_
        rintro f1 n1 k1 v1 ⟨rfl, rfl, rfl, s1, w2, x2, V2, e2⟩
        obtain ⟨sd, wy, yy, Dv, Lv⟩ := Y.2.1
        have W1 : DW f1 17 pl s.1 S R P sd wy := ⟨w2, x2, v0, r0, C, yy, Lv.fr (fun b h1 h2 => s1 b (by omega)), by unfold DV; rw [s1 119 (by omega)]; exact Dv, V2, W.fr (fun b h1 h2 => s1 b (by rcases hp with rfl | hp <;> omega)), G.same e2 I.p9, I, hp.ad (by omega) (by omega)⟩
        have H1 := Z.1.fr (f' := f1) (s1 0 (by omega))
        have r14' := H1.r14
        have r5' := H1.r5
        have r11' := H1.r11
        have hga' : arS (f1 90) = some (4, ga) := by rw [s1 90 (by omega)]; exact hga
        simp (disch := first | omega | decide | assumption | exact Nat.le_of_ble_eq_true rfl) only [s131_45, s131_46, s131_49, s131_50, s131_53, s131_54, s131_57, y131_58, ow_some, true_and, and_true, and_self, if_true, if_false, not_true, not_false_eq_true, Bool.false_eq_true, eq_self, Option.toList, List.cons_append, List.nil_append, ix_in, ix_cl, lt_in, lt_cl, lt_add, ix_one, vu_eq, vu_ne, arI_mk, arL_mk, arY_mZ, arY_mB, alen_mI, fld_sfl_ne, fld_sfl_same, Option.isSome_some, pok_i, b1z, b01, z10, b1o, Int32.zero_add, vu_vu, upd_eq, upd_ne, true_or, or_true, r5', r14', r11', hga', gi, va_rf_s]
        have T1 : TV f1 (91 + 2 * i) so (nI (nM s i)) g := by
          rw [← q2]; exact T.fr (s1 _ (by omega)) (s1 _ (by omega))
        have hday := Z.day
        refine k131_59 W1.dv.cn (Nat.le_of_ble_eq_true rfl) (sp_doAll W1 T1 hM (by omega) (by omega) (by omega)) ?_
        rintro f2 n2 k2 v2 ⟨rfl, rfl, s2, W2, rfl⟩
        have et : m_tell g S P (nM s i) 0 s.1 = m_told s S P i := tell_cg _ _ _ (fun k _ hk => q3 k (by omega))
        rw [et] at W2 ⊢
        have hte : m_told s S P i = m_tell (fun k => s.2.2.2.2.2.2 (40 * i + k)) S P (nM s i) 0 s.1 := rfl
        obtain ⟨hle, -, hiff⟩ := tell_lk (q := fun k => s.2.2.2.2.2.2 (40 * i + k)) (S := S) (P := P) (nM s i) 0 s.1
        rw [← hte] at hle hiff
        have hall : ∀ b, ¬ (17 ≤ b ∧ b < 22) → ¬ (119 ≤ b ∧ b < 127) → f2 b = f b := fun b h1 h2 => by rw [s2 b (by omega) h2]; exact s1 b (by omega)
        obtain ⟨w3, x3, V3, g6, g9⟩ := W2.tv
        have Zf : ∀ z : Value, QG f n2 k2 s B z f2 n2 k2 (some z) := fun z => ⟨rfl, rfl, fun b hb => hall b (by omega) (by omega), Y.d (fun b hb => hall b (by omega) (by omega)) W2.sc, ⟨S, R, P, D, t, Z.jud (fun b h1 h2 => hall b h2 (by omega)) ⟨pl, w3, x3, V3⟩⟩, rfl⟩
        have H2 := Z.1.fr (f' := f2) (hall 0 (by omega) (by omega))
        have r5'' := H2.r5
        have r14'' := H2.r14
        have r11'' := H2.r11
        have hga'' : arS (f2 90) = some (4, ga) := by rw [hall 90 (by omega) (by omega)]; exact hga
        have t1'' : fld (f2 (91 + 2 * i)) 9 1 = some (.int (nI (nM s i))) := by rw [hall _ (by omega) (by omega), t1, q2]
        simp (disch := first | omega | decide | assumption | exact Nat.le_of_ble_eq_true rfl) only [s131_62, s131_63, ow_some, true_and, and_true, and_self, if_true, if_false, not_true, not_false_eq_true, Bool.false_eq_true, eq_self, Option.toList, List.cons_append, List.nil_append, ix_in, ix_cl, lt_in, lt_cl, lt_add, ix_one, vu_eq, vu_ne, arI_mk, arL_mk, arY_mZ, arY_mB, alen_mI, fld_sfl_ne, fld_sfl_same, Option.isSome_some, pok_i, b1z, b01, z10, b1o, Int32.zero_add, vu_vu, upd_eq, upd_ne, true_or, or_true]
        rw [s131_64]
        rcases (show w.toInt = 0 ∨ w.toInt = 1 ∨ w.toInt = 2 ∨ w.toInt = 3 by omega) with h | h | h | h
        · rw [tsw_at _ _ 0 92 rfl (by omega)]
          have ew : w = 0 := Int32.toInt_inj.mp (by rw [h]; rfl)
          rw [if_pos ew]
          by_cases hd : (m_told s S P i).2.1 = 0
          · rw [if_pos hd]
            have hh := hiff.mp hd
            have c3 : (nI (nM s i) ≤ nI (m_told s S P i).1) = True := eq_true (by rw [Int32.le_iff_toInt_le, nI_toInt (by omega), nI_toInt (by omega)]; omega)
            simp (disch := first | omega | decide | assumption | exact Nat.le_of_ble_eq_true rfl) only [s131_92, s131_93, s131_94, s131_97, y131_98, s131_99, s131_102, s131_109, s131_110, ow_some, true_and, and_true, and_self, if_true, if_false, not_true, not_false_eq_true, Bool.false_eq_true, eq_self, Option.toList, List.cons_append, List.nil_append, ix_in, ix_cl, lt_in, lt_cl, lt_add, ix_one, vu_eq, vu_ne, arI_mk, arL_mk, arY_mZ, arY_mB, alen_mI, fld_sfl_ne, fld_sfl_same, Option.isSome_some, pok_i, b1z, b01, z10, b1o, Int32.zero_add, vu_vu, upd_eq, upd_ne, true_or, or_true, r11'', hga'', gi, va_rf_s, t1'', c3]
            exact Zf _
          · rw [if_neg hd]
            have hh : ¬ (m_told s S P i).1 = 0 + nM s i := fun z => hd (hiff.mpr z)
            have c3 : (nI (nM s i) ≤ nI (m_told s S P i).1) = False := eq_false (by rw [Int32.le_iff_toInt_le, nI_toInt (by omega), nI_toInt (by omega)]; omega)
            simp (disch := first | omega | decide | assumption | exact Nat.le_of_ble_eq_true rfl) only [s131_92, s131_93, s131_94, s131_97, y131_98, s131_99, s131_102, s131_105, s131_106, s131_110, ow_some, true_and, and_true, and_self, if_true, if_false, not_true, not_false_eq_true, Bool.false_eq_true, eq_self, Option.toList, List.cons_append, List.nil_append, ix_in, ix_cl, lt_in, lt_cl, lt_add, ix_one, vu_eq, vu_ne, arI_mk, arL_mk, arY_mZ, arY_mB, alen_mI, fld_sfl_ne, fld_sfl_same, Option.isSome_some, pok_i, b1z, b01, z10, b1o, Int32.zero_add, vu_vu, upd_eq, upd_ne, true_or, or_true, r11'', hga'', gi, va_rf_s, t1'', c3]
            exact Zf _
        · rw [tsw_at _ _ 1 111 rfl (by omega)]
          have ew0 : ¬ w = 0 := by rintro rfl; revert h; decide
          have ew : w = 1 := Int32.toInt_inj.mp (by rw [h]; rfl)
          rw [if_neg ew0, if_pos ew]
          have dv2 := W2.dv.2.2
          simp (disch := first | omega | decide | assumption | exact Nat.le_of_ble_eq_true rfl) only [s131_111, s131_112, s131_115, s131_118, ow_some, true_and, and_true, and_self, if_true, if_false, not_true, not_false_eq_true, Bool.false_eq_true, eq_self, Option.toList, List.cons_append, List.nil_append, ix_in, ix_cl, lt_in, lt_cl, lt_add, ix_one, vu_eq, vu_ne, arI_mk, arL_mk, arY_mZ, arY_mB, alen_mI, fld_sfl_ne, fld_sfl_same, Option.isSome_some, pok_i, b1z, b01, z10, b1o, Int32.zero_add, vu_vu, upd_eq, upd_ne, true_or, or_true, r14'', dv2]
          exact Zf _
        · rw [tsw_at _ _ 2 119 rfl (by omega)]
          have ew0 : ¬ w = 0 := by rintro rfl; revert h; decide
          have ew1 : ¬ w = 1 := by rintro rfl; revert h; decide
          have ew : w = 2 := Int32.toInt_inj.mp (by rw [h]; rfl)
          rw [if_neg ew0, if_neg ew1, if_pos ew]
          simp (disch := first | omega | decide | assumption | exact Nat.le_of_ble_eq_true rfl) only [s131_119, s131_120, s131_123, s131_126, ow_some, true_and, and_true, and_self, if_true, if_false, not_true, not_false_eq_true, Bool.false_eq_true, eq_self, Option.toList, List.cons_append, List.nil_append, ix_in, ix_cl, lt_in, lt_cl, lt_add, ix_one, vu_eq, vu_ne, arI_mk, arL_mk, arY_mZ, arY_mB, alen_mI, fld_sfl_ne, fld_sfl_same, Option.isSome_some, pok_i, b1z, b01, z10, b1o, Int32.zero_add, vu_vu, upd_eq, upd_ne, true_or, or_true, V3.v1, V3.v6, V3.v7, V3.v8, V3.v9, V3.i1, V3.i6, V3.i7, V3.i8, V3.i9, V3.r2, V3.r3, V3.r4, V3.r5, V3.pl, V3.a2, V3.a3, V3.a4, V3.a5, r5'', g6]
          exact Zf _
        · have ew0 : ¬ w = 0 := by rintro rfl; revert h; decide
          have ew1 : ¬ w = 1 := by rintro rfl; revert h; decide
          have ew2 : ¬ w = 2 := by rintro rfl; revert h; decide
          rw [tsw_out _ _ (by right; rw [h]; decide), if_neg ew0, if_neg ew1, if_neg ew2]
          rcases W2.is.fl with z | z
          · have g9' : w3 9 = 0 := by rw [g9]; exact z
            rw [z]
            simp (disch := first | omega | decide | assumption | exact Nat.le_of_ble_eq_true rfl) only [s131_127, s131_128, s131_131, s131_134, s131_141, s131_142, ow_some, true_and, and_true, and_self, if_true, if_false, not_true, not_false_eq_true, Bool.false_eq_true, eq_self, Option.toList, List.cons_append, List.nil_append, ix_in, ix_cl, lt_in, lt_cl, lt_add, ix_one, vu_eq, vu_ne, arI_mk, arL_mk, arY_mZ, arY_mB, alen_mI, fld_sfl_ne, fld_sfl_same, Option.isSome_some, pok_i, b1z, b01, z10, b1o, Int32.zero_add, vu_vu, upd_eq, upd_ne, true_or, or_true, V3.v1, V3.v6, V3.v7, V3.v8, V3.v9, V3.i1, V3.i6, V3.i7, V3.i8, V3.i9, V3.r2, V3.r3, V3.r4, V3.r5, V3.pl, V3.a2, V3.a3, V3.a4, V3.a5, r5'', g9']
            exact Zf _
          · have g9' : w3 9 = 1 := by rw [g9]; exact z
            rw [z]
            simp (disch := first | omega | decide | assumption | exact Nat.le_of_ble_eq_true rfl) only [s131_127, s131_128, s131_131, s131_134, s131_137, s131_138, s131_142, ow_some, true_and, and_true, and_self, if_true, if_false, not_true, not_false_eq_true, Bool.false_eq_true, eq_self, Option.toList, List.cons_append, List.nil_append, ix_in, ix_cl, lt_in, lt_cl, lt_add, ix_one, vu_eq, vu_ne, arI_mk, arL_mk, arY_mZ, arY_mB, alen_mI, fld_sfl_ne, fld_sfl_same, Option.isSome_some, pok_i, b1z, b01, z10, b1o, Int32.zero_add, vu_vu, upd_eq, upd_ne, true_or, or_true, V3.v1, V3.v6, V3.v7, V3.v8, V3.v9, V3.i1, V3.i6, V3.i7, V3.i8, V3.i9, V3.r2, V3.r3, V3.r4, V3.r5, V3.pl, V3.a2, V3.a3, V3.a4, V3.a5, r5'', g9']
            exact Zf _
    · rw [if_neg hw]
      by_cases c : w.toInt < 0
      · have c' : (w.toInt < 0) = True := eq_true c
        simp (disch := first | omega | decide | assumption | exact Nat.le_of_ble_eq_true rfl) only [s131_4, s131_7, s131_8, s131_16, s131_18, ow_some, true_and, and_true, and_self, if_true, if_false, not_true, not_false_eq_true, Bool.false_eq_true, eq_self, Option.toList, List.cons_append, List.nil_append, ix_in, ix_cl, lt_in, lt_cl, lt_add, ix_one, vu_eq, vu_ne, arI_mk, arL_mk, arY_mZ, arY_mB, alen_mI, fld_sfl_ne, fld_sfl_same, Option.isSome_some, pok_i, b1z, b01, z10, b1o, Int32.zero_add, vu_vu, upd_eq, upd_ne, true_or, or_true, l1, c', c1, ne_eq]
        exact fin _
      · have c' : (w.toInt < 0) = False := eq_false c
        have a2 : (w.toInt ≤ 3) = False := eq_false (by omega)
        simp (disch := first | omega | decide | assumption | exact Nat.le_of_ble_eq_true rfl) only [s131_4, s131_7, s131_8, s131_11, s131_12, s131_13, s131_16, s131_18, ow_some, true_and, and_true, and_self, if_true, if_false, not_true, not_false_eq_true, Bool.false_eq_true, eq_self, Option.toList, List.cons_append, List.nil_append, ix_in, ix_cl, lt_in, lt_cl, lt_add, ix_one, vu_eq, vu_ne, arI_mk, arL_mk, arY_mZ, arY_mB, alen_mI, fld_sfl_ne, fld_sfl_same, Option.isSome_some, pok_i, b1z, b01, z10, b1o, Int32.zero_add, vu_vu, upd_eq, upd_ne, true_or, or_true, l1, l2, c', a2, c1, ne_eq]
        exact fin _
  · rw [if_neg h1, if_neg h1]
    have e : (if 0 ≤ w.toInt ∧ w.toInt ≤ 3 then (-2 : Int32) else -2) = -2 := by split <;> rfl
    rw [e]
    simp (disch := first | omega | decide | assumption | exact Nat.le_of_ble_eq_true rfl) only [s131_4, s131_16, s131_18, ow_some, true_and, and_true, and_self, if_true, if_false, not_true, not_false_eq_true, Bool.false_eq_true, eq_self, Option.toList, List.cons_append, List.nil_append, ix_in, ix_cl, lt_in, lt_cl, lt_add, ix_one, vu_eq, vu_ne, arI_mk, arL_mk, arY_mZ, arY_mB, alen_mI, fld_sfl_ne, fld_sfl_same, Option.isSome_some, pok_i, b1z, b01, z10, b1o, Int32.zero_add, vu_vu, upd_eq, upd_ne, true_or, or_true, ne_eq]
    exact fin _
theorem year_s {S P m k : Nat} {x : Int32} {all : Nat → Int32} : m_year S P (m + 1) x k all = if w_not all S P (nT all) (d_n x).1 = 0 then m_year S P m (d_n x).2 (k + 1) (m_does all S P (d_n x).1) else m_year S P m (d_n x).2 k all := rfl
theorem year_le {S P : Nat} : ∀ (m k : Nat) (x : Int32) (all : Nat → Int32), k ≤ (m_year S P m x k all).1 ∧ (m_year S P m x k all).1 ≤ k + m ∧ ((m_year S P m x k all).1 = k → (m_year S P m x k all).2 = all) := by
  intro m
  induction m with
  | zero => intro k x all; exact ⟨Nat.le_refl _, Nat.le_refl _, fun _ => rfl⟩
  | succ m ih =>
    intro k x all
    rw [year_s]
    by_cases h : w_not all S P (nT all) (d_n x).1 = 0
    · rw [if_pos h]
      obtain ⟨h1, h2, h3⟩ := ih (k + 1) (d_n x).2 (m_does all S P (d_n x).1)
      exact ⟨by omega, by omega, fun e => by omega⟩
    · rw [if_neg h]
      obtain ⟨h1, h2, h3⟩ := ih k (d_n x).2 all
      exact ⟨h1, by omega, h3⟩
theorem sp_beginD {a pl : Nat} {sd wy z : Int32} (H : DW f a pl all2 S R P sd wy) : TT X d 9 0 [.ref 119, .int z] [] f N K (fun f' n' k' v => n' = N ∧ k' = K ∧ v = none ∧ SD a f f' ∧ DW f' a pl all2 S R P z wy) := by
  have d1 : (fld (f 119) 0 1).isSome = true := by rw [H.dv.2.1]; rfl
  simp (disch := first | omega | decide | assumption | exact Nat.le_of_ble_eq_true rfl) only [s9_0, s9_1, s9_2, s9_5, ow_some, true_and, and_true, and_self, if_true, if_false, not_true, not_false_eq_true, Bool.false_eq_true, eq_self, Option.toList, List.cons_append, List.nil_append, ix_in, ix_cl, lt_in, lt_cl, lt_add, ix_one, vu_eq, vu_ne, arI_mk, arL_mk, arY_mZ, arY_mB, alen_mI, fld_sfl_ne, fld_sfl_same, Option.isSome_some, pok_i, b1z, b01, z10, b1o, Int32.zero_add, vu_vu, upd_eq, upd_ne, true_or, or_true, d1]
  exact ⟨SD.up (by omega), H.seed⟩
theorem sp_yearC (Z : ST f N s S R P D B t) (Y : SCR f) (hB : B + 99 < 100000) {x n : Int32} {u3 u4 : Value} : TT X (d + 8) 134 0 [.ref 0, .int x, .int n, u3, u4] [] f N K (QG f N K ((o_year s.1 S P D x n).1, s.2) (B + 99) (.int (o_year s.1 S P D x n).2)) := by
  have I := Z.is
  have l1 : (n < (1 : Int32)) = (n.toInt < 1) := by rw [Int32.lt_iff_toInt_lt]; rfl
  have l2 : (n ≤ (40 : Int32)) = (n.toInt ≤ 40) := by rw [Int32.le_iff_toInt_le]; rfl
  have fin : ∀ z : Value, QG f N K s (B + 99) z f N K (some z) := fun z => ⟨rfl, rfl, fun _ _ => rfl, Y, ⟨S, R, P, D, t, Z.up (by omega)⟩, rfl⟩
  unfold o_year
  by_cases h1 : 1 ≤ n.toInt ∧ n.toInt ≤ 40
  · rw [if_pos h1]
    have a1 : (n.toInt < 1) = False := eq_false (by omega)
    have a2 : (n.toInt ≤ 40) = True := eq_true h1.2
    simp (disch := first | omega | decide | assumption | exact Nat.le_of_ble_eq_true rfl) only [s134_0, s134_1, s134_2, s134_5, s134_6, s134_8, s134_14, ow_some, true_and, and_true, and_self, if_true, if_false, not_true, not_false_eq_true, Bool.false_eq_true, eq_self, Option.toList, List.cons_append, List.nil_append, ix_in, ix_cl, lt_in, lt_cl, lt_add, ix_one, vu_eq, vu_ne, arI_mk, arL_mk, arY_mZ, arY_mB, alen_mI, fld_sfl_ne, fld_sfl_same, Option.isSome_some, pok_i, b1z, b01, z10, b1o, Int32.zero_add, vu_vu, upd_eq, upd_ne, true_or, or_true, l1, l2, a1, a2]
    obtain ⟨M, hM, rfl, hv⟩ := i9 (v := n) (N := 100) (by omega) (by omega) (by omega)
    rw [hv] at h1 ⊢
    rw [Int.toNat_natCast]
    refine k134_15 Z.1.cn (Nat.le_of_ble_eq_true rfl) (sp_keepZ Z Y.2.1) ?_
    rintro f1 n1 k1 v1 ⟨rfl, rfl, rfl, hf1, Z1, j, hj, h7, hk, pl, sd, wy, hp, W1⟩
    have r14 := Z1.1.r14
    simp (disch := first | omega | decide | assumption | exact Nat.le_of_ble_eq_true rfl) only [s134_18, s134_19, s134_22, ow_some, true_and, and_true, and_self, if_true, if_false, not_true, not_false_eq_true, Bool.false_eq_true, eq_self, Option.toList, List.cons_append, List.nil_append, ix_in, ix_cl, lt_in, lt_cl, lt_add, ix_one, vu_eq, vu_ne, arI_mk, arL_mk, arY_mZ, arY_mB, alen_mI, fld_sfl_ne, fld_sfl_same, Option.isSome_some, pok_i, b1z, b01, z10, b1o, Int32.zero_add, vu_vu, upd_eq, upd_ne, true_or, or_true, r14]
    refine k134_23 W1.dv.cn (Nat.le_of_ble_eq_true rfl) (sp_beginD W1) ?_
    rintro f2 n2 k2 v2 ⟨rfl, rfl, rfl, s2, W2⟩
    simp (disch := first | omega | decide | assumption | exact Nat.le_of_ble_eq_true rfl) only [s134_26, s134_27, s134_28, h134_29, ow_some, true_and, and_true, and_self, if_true, if_false, not_true, not_false_eq_true, Bool.false_eq_true, eq_self, Option.toList, List.cons_append, List.nil_append, ix_in, ix_cl, lt_in, lt_cl, lt_add, ix_one, vu_eq, vu_ne, arI_mk, arL_mk, arY_mZ, arY_mB, alen_mI, fld_sfl_ne, fld_sfl_same, Option.isSome_some, pok_i, b1z, b01, z10, b1o, Int32.zero_add, vu_vu, upd_eq, upd_ne, true_or, or_true]
    have hZ := Z.day
    refine lp (fun i g (y : Int32 × Nat × (Nat → Int32)) => SD 12 f1 g ∧ DW g 12 pl y.2.2 S R P y.1 wy ∧ mfl y.2.2 S P ∧ (∀ a, a < 52 ∨ 92 ≤ a → y.2.2 a = s.1 a) ∧ (y.2.2 56).toInt ≤ (s.1 56).toInt + i ∧ y.2.1 ≤ i ∧ m_year S P M x 0 s.1 = m_year S P (M - i) y.1 y.2.1 y.2.2) (fun i y => [.ref 0, .int x, .int (nI M), .int (nI y.2.1), .int (nI i)]) M ?_ ?_ 0 f2 (x, 0, s.1) (by omega) ⟨s2, W2, Z.mf, fun _ _ => rfl, by show (s.1 56).toInt ≤ _; omega, by show 0 ≤ 0; omega, rfl⟩
    · rintro i g ⟨y, k, all⟩ hi ⟨sg, Wg, mg, he, hd, hki, hm⟩ hI
      simp only at Wg mg he hd hki hm
      have hc : (M ≤ i) = False := eq_false (by omega)
      obtain ⟨m, hmm⟩ : ∃ m, M - i = m + 1 := ⟨M - i - 1, by omega⟩
      rw [hmm, year_s] at hm
      have Hg := Z1.1.fr (f' := g) (sg 0 (by omega) (by omega))
      have r4g := Hg.r4
      have r14g := Hg.r14
      have hdd : (all 56).toInt + 1 < 100000 := by omega
      simp (disch := first | omega | decide | assumption | exact Nat.le_of_ble_eq_true rfl) only [s134_31, s134_33, s134_34, s134_37, s134_38, s134_41, s134_42, ow_some, true_and, and_true, and_self, if_true, if_false, not_true, not_false_eq_true, Bool.false_eq_true, eq_self, Option.toList, List.cons_append, List.nil_append, ix_in, ix_cl, lt_in, lt_cl, lt_add, ix_one, vu_eq, vu_ne, arI_mk, arL_mk, arY_mZ, arY_mB, alen_mI, fld_sfl_ne, fld_sfl_same, Option.isSome_some, pok_i, b1z, b01, z10, b1o, Int32.zero_add, vu_vu, upd_eq, upd_ne, true_or, or_true, ix_le, hc, r4g, r14g]
      refine k134_45 Wg.dv.cn (Nat.le_of_ble_eq_true rfl) (sp_drawOne Wg hdd) ?_
      rintro f3 n3 k3 v3 ⟨rfl, rfl, s3, W3, rfl⟩
      by_cases h0 : w_not all S P (nT all) (d_n y).1 = 0
      · rw [if_pos h0] at W3 hm
        obtain ⟨⟨I3, m3⟩, hd3⟩ := Wg.is.does h0 hdd
        simp (disch := first | omega | decide | assumption | exact Nat.le_of_ble_eq_true rfl) only [s134_48, s134_51, s134_54, h134_57, ow_some, true_and, and_true, and_self, if_true, if_false, not_true, not_false_eq_true, Bool.false_eq_true, eq_self, Option.toList, List.cons_append, List.nil_append, ix_in, ix_cl, lt_in, lt_cl, lt_add, ix_one, vu_eq, vu_ne, arI_mk, arL_mk, arY_mZ, arY_mB, alen_mI, fld_sfl_ne, fld_sfl_same, Option.isSome_some, pok_i, b1z, b01, z10, b1o, Int32.zero_add, vu_vu, upd_eq, upd_ne, true_or, or_true, h0, ne_eq]
        refine hI _ ((d_n y).2, k + 1, m_does all S P (d_n y).1) ⟨sg.tr s3, W3, m3, fun a ha => ?_, by show (m_does all S P (d_n y).1 56).toInt ≤ _; push_cast; omega, by show k + 1 ≤ i + 1; omega, by rw [hm, show M - (i + 1) = m by omega]⟩
        show m_does all S P (d_n y).1 a = _
        rw [does_hi I.s8 I.p9 h0 ha]; exact he a ha
      · rw [if_neg h0] at W3 hm
        have h0' : (w_not all S P (nT all) (d_n y).1 = 0) = False := eq_false h0
        simp (disch := first | omega | decide | assumption | exact Nat.le_of_ble_eq_true rfl) only [s134_48, s134_54, h134_57, ow_some, true_and, and_true, and_self, if_true, if_false, not_true, not_false_eq_true, Bool.false_eq_true, eq_self, Option.toList, List.cons_append, List.nil_append, ix_in, ix_cl, lt_in, lt_cl, lt_add, ix_one, vu_eq, vu_ne, arI_mk, arL_mk, arY_mZ, arY_mB, alen_mI, fld_sfl_ne, fld_sfl_same, Option.isSome_some, pok_i, b1z, b01, z10, b1o, Int32.zero_add, vu_vu, upd_eq, upd_ne, true_or, or_true, h0', ne_eq]
        exact hI _ ((d_n y).2, k, all) ⟨sg.tr s3, W3, mg, he, by show (all 56).toInt ≤ _; push_cast; omega, by show k ≤ i + 1; omega, by rw [hm, show M - (i + 1) = m by omega]⟩
    · rintro g ⟨y, k, all⟩ ⟨sg, Wg, mg, he, hd, hki, hm⟩
      simp only at Wg mg he hd hki hm
      rw [Nat.sub_self, show m_year S P 0 y k all = (k, all) from rfl] at hm
      obtain ⟨-, -, hsame⟩ := year_le (S := S) (P := P) M 0 x s.1
      rw [hm] at hsame ⊢
      by_cases h0 : k = 0
      · subst h0
        have es : all = s.1 := hsame rfl
        subst es
        have e0 : nI 0 = 0 := rfl
        rw [if_pos rfl]
        simp (disch := first | omega | decide | assumption | exact Nat.le_of_ble_eq_true rfl) only [s134_31, s134_33, s134_34, s134_60, s134_61, s134_64, s134_65, s134_73, ow_some, true_and, and_true, and_self, if_true, if_false, not_true, not_false_eq_true, Bool.false_eq_true, eq_self, Option.toList, List.cons_append, List.nil_append, ix_in, ix_cl, lt_in, lt_cl, lt_add, ix_one, vu_eq, vu_ne, arI_mk, arL_mk, arY_mZ, arY_mB, alen_mI, fld_sfl_ne, fld_sfl_same, Option.isSome_some, pok_i, b1z, b01, z10, b1o, Int32.zero_add, vu_vu, upd_eq, upd_ne, true_or, or_true, ix_le, Nat.le_refl, e0, ne_eq]
        exact qg_no Y hf1 Z1 sg hp Wg (by omega)
      · have h0' : (nI k = 0) = False := eq_false (fun z => h0 (by
          have := congrArg Int32.toInt z
          rw [nI_toInt (by omega)] at this
          have e0 : (0 : Int32).toInt = 0 := by decide
          omega))
        have h0s : ¬ (k, all).1 = 0 := h0
        rw [if_neg h0s]
        have Hg := Z1.1.fr (f' := g) (sg 0 (by omega) (by omega))
        simp (disch := first | omega | decide | assumption | exact Nat.le_of_ble_eq_true rfl) only [s134_31, s134_33, s134_34, s134_60, s134_61, s134_68, s134_69, ow_some, true_and, and_true, and_self, if_true, if_false, not_true, not_false_eq_true, Bool.false_eq_true, eq_self, Option.toList, List.cons_append, List.nil_append, ix_in, ix_cl, lt_in, lt_cl, lt_add, ix_one, vu_eq, vu_ne, arI_mk, arL_mk, arY_mZ, arY_mB, alen_mI, fld_sfl_ne, fld_sfl_same, Option.isSome_some, pok_i, b1z, b01, z10, b1o, Int32.zero_add, vu_vu, upd_eq, upd_ne, true_or, or_true, ix_le, Nat.le_refl, h0', ne_eq]
        refine k134_70 Hg.cn (Nat.le_of_ble_eq_true rfl) (sp_didZ (B2 := B + 99) Z1 h7 hj hk sg hp Wg mg (by omega) (by omega) he) ?_
        rintro f3 n3 k3 v3 ⟨rfl, rfl, s3, rfl, Z3⟩
        simp (disch := first | omega | decide | assumption | exact Nat.le_of_ble_eq_true rfl) only [s134_73, ow_some, true_and, and_true, and_self, if_true, if_false, not_true, not_false_eq_true, Bool.false_eq_true, eq_self, Option.toList, List.cons_append, List.nil_append, ix_in, ix_cl, lt_in, lt_cl, lt_add, ix_one, vu_eq, vu_ne, arI_mk, arL_mk, arY_mZ, arY_mB, alen_mI, fld_sfl_ne, fld_sfl_same, Option.isSome_some, pok_i, b1z, b01, z10, b1o, Int32.zero_add, vu_vu, upd_eq, upd_ne, true_or, or_true]
        exact qg_yes Y hf1 sg Wg s3 Z3
  · rw [if_neg h1]
    by_cases c : n.toInt < 1
    · have c' : (n.toInt < 1) = True := eq_true c
      simp (disch := first | omega | decide | assumption | exact Nat.le_of_ble_eq_true rfl) only [s134_0, s134_1, s134_2, s134_11, s134_13, ow_some, true_and, and_true, and_self, if_true, if_false, not_true, not_false_eq_true, Bool.false_eq_true, eq_self, Option.toList, List.cons_append, List.nil_append, ix_in, ix_cl, lt_in, lt_cl, lt_add, ix_one, vu_eq, vu_ne, arI_mk, arL_mk, arY_mZ, arY_mB, alen_mI, fld_sfl_ne, fld_sfl_same, Option.isSome_some, pok_i, b1z, b01, z10, b1o, Int32.zero_add, vu_vu, upd_eq, upd_ne, true_or, or_true, l1, c']
      exact fin _
    · have c' : (n.toInt < 1) = False := eq_false c
      have a2 : (n.toInt ≤ 40) = False := eq_false (by omega)
      simp (disch := first | omega | decide | assumption | exact Nat.le_of_ble_eq_true rfl) only [s134_0, s134_1, s134_2, s134_5, s134_6, s134_8, s134_11, s134_13, ow_some, true_and, and_true, and_self, if_true, if_false, not_true, not_false_eq_true, Bool.false_eq_true, eq_self, Option.toList, List.cons_append, List.nil_append, ix_in, ix_cl, lt_in, lt_cl, lt_add, ix_one, vu_eq, vu_ne, arI_mk, arL_mk, arY_mZ, arY_mB, alen_mI, fld_sfl_ne, fld_sfl_same, Option.isSome_some, pok_i, b1z, b01, z10, b1o, Int32.zero_add, vu_vu, upd_eq, upd_ne, true_or, or_true, l1, l2, c', a2]
      exact fin _
end DEED

/-! the class: how likely it stands -/
section HOME
variable {X : Nat × (Nat → Int32)} {d N K pl C S R P : Nat} {f : Nat → e_C} {y x r : Nat → Nat → Int32} {t w v all tb : Nat → Int32}
theorem sp_chanceC (H : HV f t) (L : LV f 128 y) (V : SV f 12 pl w x) (W : PV f pl v r C) (G : CR all S P w x v r C) (I : IS all S R P) (hd : AD 12 pl 128) (O : OV f tb) {z : Int32} {u2 u3 u4 u5 u6 : Value} : TT X (d + 6) 160 0 [.ref 0, .int z, u2, u3, u4, u5, u6] [] f N K (fun f' n' k' v => n' = N ∧ k' = K ∧ SI 130 136 f f' ∧ (∃ y' tb', LV f' 128 y' ∧ OV f' tb') ∧ v = some (.long (o_chance all S P z))) := by
  have r4 := H.r4
  have r15 := H.r15
  have h9 := I.p9
  have hT : w 6 = nI (nT all) := by rw [G.w6]; exact I.eT
  have fin : SI 130 136 f f ∧ ∃ y' tb', LV f 128 y' ∧ OV f tb' := ⟨SI.rf, y, tb, L, O⟩
  obtain ⟨l2, l3⟩ := w_01 (z := z)
  unfold o_chance
  by_cases h1 : 0 ≤ z.toInt ∧ z.toInt ≤ 1
  · rw [if_pos h1]
    have a1 : (z.toInt < 0) = False := eq_false (by omega)
    have a2 : (z.toInt ≤ 1) = True := eq_true h1.2
    simp (disch := first | omega | decide | assumption | exact Nat.le_of_ble_eq_true rfl) only [s160_0, s160_1, s160_4, s160_5, s160_6, s160_13, s160_14, s160_17, s160_18, ow_some, true_and, and_true, and_self, if_true, if_false, not_true, not_false_eq_true, Bool.false_eq_true, eq_self, Option.toList, List.cons_append, List.nil_append, ix_in, ix_cl, lt_in, lt_cl, lt_add, ix_one, vu_eq, vu_ne, arI_mk, arL_mk, arY_mZ, arY_mB, alen_mI, fld_sfl_ne, fld_sfl_same, Option.isSome_some, pok_i, b1z, b01, z10, b1o, Int32.zero_add, vu_vu, upd_eq, upd_ne, true_or, or_true, r4, r15, l2, l3, a1, a2]
    refine k160_21 O.cn (Nat.le_of_ble_eq_true rfl) (sp_chanceAbove L V W G I hd O) ?_
    rintro f1 n1 k1 v1 ⟨rfl, rfl, s1, ⟨y1, t1, L1, O1⟩, rfl⟩
    have H1 := H.fr (f' := f1) (s1 0 (by omega))
    have V1 := V.fr (f' := f1) (fun b h1 h2 => s1 b (by omega))
    have r4' := H1.r4
    simp (disch := first | omega | decide | assumption | exact Nat.le_of_ble_eq_true rfl) only [s160_24, s160_25, s160_26, s160_28, s160_29, s160_32, ow_some, true_and, and_true, and_self, if_true, if_false, not_true, not_false_eq_true, Bool.false_eq_true, eq_self, Option.toList, List.cons_append, List.nil_append, ix_in, ix_cl, lt_in, lt_cl, lt_add, ix_one, vu_eq, vu_ne, arI_mk, arL_mk, arY_mZ, arY_mB, alen_mI, fld_sfl_ne, fld_sfl_same, Option.isSome_some, pok_i, b1z, b01, z10, b1o, Int32.zero_add, vu_vu, upd_eq, upd_ne, true_or, or_true, V1.v1, V1.v6, V1.v7, V1.v8, V1.v9, V1.i1, V1.i6, V1.i7, V1.i8, V1.i9, V1.r2, V1.r3, V1.r4, V1.r5, V1.pl, V1.a2, V1.a3, V1.a4, V1.a5, r4', hT]
    rw [p160_35 (Nat.le_of_ble_eq_true rfl) (sp_bitCount I.t5)]
    have hb9 : bits (nT all) ≤ 9 := bits_lt (T := nT all)
    have hcl : c_now all S P ≤ 512 * 1000000000 := Nat.le_trans (cn_le I.FR h9) (Nat.mul_le_mul_right _ (pw9 h9))
    generalize c_now all S P = above at hcl ⊢
    generalize bits (nT all) = b at hb9 ⊢
    simp (disch := first | omega | decide | assumption | exact Nat.le_of_ble_eq_true rfl) only [h160_38, ow_some, true_and, and_true, and_self, if_true, if_false, not_true, not_false_eq_true, Bool.false_eq_true, eq_self, Option.toList, List.cons_append, List.nil_append, ix_in, ix_cl, lt_in, lt_cl, lt_add, ix_one, vu_eq, vu_ne, arI_mk, arL_mk, arY_mZ, arY_mB, alen_mI, fld_sfl_ne, fld_sfl_same, Option.isSome_some, pok_i, b1z, b01, z10, b1o, Int32.zero_add, vu_vu, upd_eq, upd_ne, true_or, or_true]
    refine lp (fun j g (_ : Unit) => g = f1) (fun j _ => [.ref 0, .int z, .long (lI above), .double 0, .long (lI (10 ^ j)), .double 0, .int (nI (b - j))]) b ?_ ?_ 0 f1 () (by omega) rfl
    · rintro j g _ hj rfl hI
      have hc : (nI (b - j) ≤ (0 : Int32)) = False := eq_false (by rw [Int32.le_iff_toInt_le, nI_toInt (by omega)]; show ¬ ((b - j : Nat) : Int) ≤ 0; omega)
      have e1 : nI (b - j) + Int32.ofInt (-1) = nI (b - (j + 1)) := by
        rw [show Int32.ofInt (-1) = -1 from rfl]
        have : nI (b - j) + -1 = nI (b - j) - 1 := by rw [Int32.sub_eq_add_neg]
        rw [this, show (1 : Int32) = nI 1 from rfl, pk_sub (by omega), show b - j - 1 = b - (j + 1) by omega]
      have e2 : lI (10 ^ j) * 10 = lI (10 ^ (j + 1)) := by rw [show (10 : Int64) = lI 10 from rfl, lI_mul, Nat.pow_succ]
      simp (disch := first | omega | decide | assumption | exact Nat.le_of_ble_eq_true rfl) only [s160_40, s160_42, s160_45, s160_47, s160_50, s160_51, s160_53, h160_56, ow_some, true_and, and_true, and_self, if_true, if_false, not_true, not_false_eq_true, Bool.false_eq_true, eq_self, Option.toList, List.cons_append, List.nil_append, ix_in, ix_cl, lt_in, lt_cl, lt_add, ix_one, vu_eq, vu_ne, arI_mk, arL_mk, arY_mZ, arY_mB, alen_mI, fld_sfl_ne, fld_sfl_same, Option.isSome_some, pok_i, b1z, b01, z10, b1o, Int32.zero_add, vu_vu, upd_eq, upd_ne, true_or, or_true, hc, e1, e2]
      exact hI _ () rfl
    · rintro g _ rfl
      have hc : (nI (b - b) ≤ (0 : Int32)) = True := eq_true (by rw [Nat.sub_self]; decide)
      have hwl : 10 ^ b ≤ 1000000000 := Nat.pow_le_pow_right (n := 10) (by decide) hb9
      have hwp : 0 < 10 ^ b := Nat.pow_pos (by decide)
      generalize 10 ^ b = whole at hwl hwp ⊢
      have g1 : 0 < Nat.gcd above whole := Nat.gcd_pos_of_pos_right _ hwp
      have g2 : Nat.gcd above whole ≤ whole := Nat.gcd_le_right _ hwp
      have hne := lI_ne (b := Nat.gcd above whole) (by omega) g1
      have d1 := lI_div (a := above) (b := Nat.gcd above whole) (by omega) (by omega)
      have d2 := lI_div (a := whole) (b := Nat.gcd above whole) (by omega) (by omega)
      by_cases h0 : z = 0
      · have h0' : (z = 0) = True := eq_true h0
        rw [if_pos h0]
        simp (disch := first | omega | decide | assumption | exact Nat.le_of_ble_eq_true rfl) only [s160_40, s160_42, s160_59, s160_60, s160_63, s160_64, s160_67, s160_69, s160_70, ow_some, true_and, and_true, and_self, if_true, if_false, not_true, not_false_eq_true, Bool.false_eq_true, eq_self, Option.toList, List.cons_append, List.nil_append, ix_in, ix_cl, lt_in, lt_cl, lt_add, ix_one, vu_eq, vu_ne, arI_mk, arL_mk, arY_mZ, arY_mB, alen_mI, fld_sfl_ne, fld_sfl_same, Option.isSome_some, pok_i, b1z, b01, z10, b1o, Int32.zero_add, vu_vu, upd_eq, upd_ne, true_or, or_true, hc, h0', ne_eq]
        rw [p160_72 (Nat.le_of_ble_eq_true rfl) (sp_commonPart (by omega) (by omega) g1)]
        simp (disch := first | omega | decide | assumption | exact Nat.le_of_ble_eq_true rfl) only [s160_75, s160_76, ow_some, true_and, and_true, and_self, if_true, if_false, not_true, not_false_eq_true, Bool.false_eq_true, eq_self, Option.toList, List.cons_append, List.nil_append, ix_in, ix_cl, lt_in, lt_cl, lt_add, ix_one, vu_eq, vu_ne, arI_mk, arL_mk, arY_mZ, arY_mB, alen_mI, fld_sfl_ne, fld_sfl_same, Option.isSome_some, pok_i, b1z, b01, z10, b1o, Int32.zero_add, vu_vu, upd_eq, upd_ne, true_or, or_true, hne, d1, d2]
        exact ⟨s1, y1, t1, L1, O1⟩
      · have h0' : (z = 0) = False := eq_false h0
        rw [if_neg h0]
        simp (disch := first | omega | decide | assumption | exact Nat.le_of_ble_eq_true rfl) only [s160_40, s160_42, s160_59, s160_60, s160_63, s160_64, s160_67, s160_69, s160_70, ow_some, true_and, and_true, and_self, if_true, if_false, not_true, not_false_eq_true, Bool.false_eq_true, eq_self, Option.toList, List.cons_append, List.nil_append, ix_in, ix_cl, lt_in, lt_cl, lt_add, ix_one, vu_eq, vu_ne, arI_mk, arL_mk, arY_mZ, arY_mB, alen_mI, fld_sfl_ne, fld_sfl_same, Option.isSome_some, pok_i, b1z, b01, z10, b1o, Int32.zero_add, vu_vu, upd_eq, upd_ne, true_or, or_true, hc, h0', ne_eq]
        rw [p160_72 (Nat.le_of_ble_eq_true rfl) (sp_commonPart (by omega) (by omega) g1)]
        simp (disch := first | omega | decide | assumption | exact Nat.le_of_ble_eq_true rfl) only [s160_75, s160_76, ow_some, true_and, and_true, and_self, if_true, if_false, not_true, not_false_eq_true, Bool.false_eq_true, eq_self, Option.toList, List.cons_append, List.nil_append, ix_in, ix_cl, lt_in, lt_cl, lt_add, ix_one, vu_eq, vu_ne, arI_mk, arL_mk, arY_mZ, arY_mB, alen_mI, fld_sfl_ne, fld_sfl_same, Option.isSome_some, pok_i, b1z, b01, z10, b1o, Int32.zero_add, vu_vu, upd_eq, upd_ne, true_or, or_true, hne, d1, d2]
        exact ⟨s1, y1, t1, L1, O1⟩
  · rw [if_neg h1]
    by_cases a1 : z.toInt < 0
    · have a1' : (z.toInt < 0) = True := eq_true a1
      simp (disch := first | omega | decide | assumption | exact Nat.le_of_ble_eq_true rfl) only [s160_0, s160_1, s160_9, s160_12, ow_some, true_and, and_true, and_self, if_true, if_false, not_true, not_false_eq_true, Bool.false_eq_true, eq_self, Option.toList, List.cons_append, List.nil_append, ix_in, ix_cl, lt_in, lt_cl, lt_add, ix_one, vu_eq, vu_ne, arI_mk, arL_mk, arY_mZ, arY_mB, alen_mI, fld_sfl_ne, fld_sfl_same, Option.isSome_some, pok_i, b1z, b01, z10, b1o, Int32.zero_add, vu_vu, upd_eq, upd_ne, true_or, or_true, l2, a1']
      exact fin
    · have a1' : (z.toInt < 0) = False := eq_false a1
      have a2 : (z.toInt ≤ 1) = False := eq_false (by omega)
      simp (disch := first | omega | decide | assumption | exact Nat.le_of_ble_eq_true rfl) only [s160_0, s160_1, s160_4, s160_5, s160_6, s160_9, s160_12, ow_some, true_and, and_true, and_self, if_true, if_false, not_true, not_false_eq_true, Bool.false_eq_true, eq_self, Option.toList, List.cons_append, List.nil_append, ix_in, ix_cl, lt_in, lt_cl, lt_add, ix_one, vu_eq, vu_ne, arI_mk, arL_mk, arY_mZ, arY_mB, alen_mI, fld_sfl_ne, fld_sfl_same, Option.isSome_some, pok_i, b1z, b01, z10, b1o, Int32.zero_add, vu_vu, upd_eq, upd_ne, true_or, or_true, l2, l3, a1', a2]
      exact fin
end HOME

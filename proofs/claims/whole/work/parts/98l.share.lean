/-! the class: shares -/
theorem sh_1 : ∀ b, b < 10 → 0 < b → (1 : Int32) <<< ((nI b - 1) &&& 31) = nI (2 ^ (b - 1)) := by decide
section HOME
variable {X : Nat × (Nat → Int32)} {d N K pl C S R P : Nat} {f : Nat → e_C} {y x r : Nat → Nat → Int32} {t w v all tb : Nat → Int32}
theorem sp_shareC (H : HV f t) (L : LV f 128 y) (V : SV f 12 pl w x) (W : PV f pl v r C) (G : CR all S P w x v r C) (I : IS all S R P) (hd : AD 12 pl 128) (O : OV f tb) {p z : Int32} {u3 u4 u5 : Value} : TT X (d + 6) 157 0 [.ref 0, .int p, .int z, u3, u4, u5] [] f N K (QS f N K (o_share all S P p z)) := by
  have r4 := H.r4
  have r15 := H.r15
  have h9 := I.p9
  have p9 := pw9 h9
  have hP : w 1 = nI P := by rw [G.w1]; exact I.eP
  have hT : w 6 = nI (nT all) := by rw [G.w6]; exact I.eT
  have fin : SI 130 136 f f ∧ ∃ y' tb', LV f 128 y' ∧ OV f tb' := ⟨SI.rf, y, tb, L, O⟩
  obtain ⟨l2, l3⟩ := w_01 (z := z)
  simp (disch := first | omega | decide | assumption | exact Nat.le_of_ble_eq_true rfl) only [s157_0, s157_1, s157_4, ow_some, true_and, and_true, and_self, if_true, if_false, not_true, not_false_eq_true, Bool.false_eq_true, eq_self, Option.toList, List.cons_append, List.nil_append, ix_in, ix_cl, lt_in, lt_cl, lt_add, ix_one, vu_eq, vu_ne, arI_mk, arL_mk, arY_mZ, arY_mB, alen_mI, fld_sfl_ne, fld_sfl_same, Option.isSome_some, pok_i, b1z, b01, z10, b1o, Int32.zero_add, vu_vu, upd_eq, upd_ne, true_or, or_true, r4]
  rw [p157_5 V.cn (Nat.le_of_ble_eq_true rfl) (sp_isTold V hP h9)]
  unfold o_share
  by_cases h1 : 0 ≤ p.toInt ∧ p.toInt < P
  · obtain ⟨q, hq, rfl, hv⟩ := i9 (v := p) (N := 9) h1.1 (by omega) (by omega)
    have hqP : q < P := by omega
    rw [if_pos h1]
    by_cases h2 : 0 ≤ z.toInt ∧ z.toInt ≤ 1
    · rw [if_pos ⟨h1, h2⟩]
      simp only [hv, Int.toNat_natCast]
      have a1 : (z.toInt < 0) = False := eq_false (by omega)
      have a2 : (z.toInt ≤ 1) = True := eq_true h2.2
      simp (disch := first | omega | decide | assumption | exact Nat.le_of_ble_eq_true rfl) only [s157_8, s157_11, s157_12, s157_15, s157_16, s157_17, s157_23, s157_24, s157_27, ow_some, true_and, and_true, and_self, if_true, if_false, not_true, not_false_eq_true, Bool.false_eq_true, eq_self, Option.toList, List.cons_append, List.nil_append, ix_in, ix_cl, lt_in, lt_cl, lt_add, ix_one, vu_eq, vu_ne, arI_mk, arL_mk, arY_mZ, arY_mB, alen_mI, fld_sfl_ne, fld_sfl_same, Option.isSome_some, pok_i, b1z, b01, z10, b1o, Int32.zero_add, vu_vu, upd_eq, upd_ne, true_or, or_true, r4, l2, l3, a1, a2]
      rw [p157_28 V.cn (Nat.le_of_ble_eq_true rfl) (sp_isTj V hP h9 hT I.t5 hqP)]
      by_cases hb : (nT all).testBit q = true
      · rw [if_pos hb, if_pos hb]
        simp (disch := first | omega | decide | assumption | exact Nat.le_of_ble_eq_true rfl) only [s157_31, s157_37, s157_38, s157_41, s157_42, ow_some, true_and, and_true, and_self, if_true, if_false, not_true, not_false_eq_true, Bool.false_eq_true, eq_self, Option.toList, List.cons_append, List.nil_append, ix_in, ix_cl, lt_in, lt_cl, lt_add, ix_one, vu_eq, vu_ne, arI_mk, arL_mk, arY_mZ, arY_mB, alen_mI, fld_sfl_ne, fld_sfl_same, Option.isSome_some, pok_i, b1z, b01, z10, b1o, Int32.zero_add, vu_vu, upd_eq, upd_ne, true_or, or_true, r4, r15, ne_eq]
        refine k157_45 O.cn (Nat.le_of_ble_eq_true rfl) (sp_mark L V W G I hd O) ?_
        rintro f1 n1 k1 v1 ⟨rfl, rfl, rfl, s1, y1, t1, L1, O1, hw1, ht1⟩
        have H1 := H.fr (f' := f1) (s1 0 (by omega))
        have V1 := V.fr (f' := f1) (fun b h1 h2 => s1 b (by omega))
        have r4' := H1.r4
        have r15' := H1.r15
        simp (disch := first | omega | decide | assumption | exact Nat.le_of_ble_eq_true rfl) only [s157_48, s157_49, s157_52, s157_53, s157_56, ow_some, true_and, and_true, and_self, if_true, if_false, not_true, not_false_eq_true, Bool.false_eq_true, eq_self, Option.toList, List.cons_append, List.nil_append, ix_in, ix_cl, lt_in, lt_cl, lt_add, ix_one, vu_eq, vu_ne, arI_mk, arL_mk, arY_mZ, arY_mB, alen_mI, fld_sfl_ne, fld_sfl_same, Option.isSome_some, pok_i, b1z, b01, z10, b1o, Int32.zero_add, vu_vu, upd_eq, upd_ne, true_or, or_true, r4', r15']
        rw [p157_57 O1.cn (Nat.le_of_ble_eq_true rfl) (sp_turned V1 G I O1 ht1 hqP)]
        simp (disch := first | omega | decide | assumption | exact Nat.le_of_ble_eq_true rfl) only [s157_60, s157_61, s157_62, s157_63, s157_66, ow_some, true_and, and_true, and_self, if_true, if_false, not_true, not_false_eq_true, Bool.false_eq_true, eq_self, Option.toList, List.cons_append, List.nil_append, ix_in, ix_cl, lt_in, lt_cl, lt_add, ix_one, vu_eq, vu_ne, arI_mk, arL_mk, arY_mZ, arY_mB, alen_mI, fld_sfl_ne, fld_sfl_same, Option.isSome_some, pok_i, b1z, b01, z10, b1o, Int32.zero_add, vu_vu, upd_eq, upd_ne, true_or, or_true, V1.v1, V1.v6, V1.v7, V1.v8, V1.v9, V1.i1, V1.i6, V1.i7, V1.i8, V1.i9, V1.r2, V1.r3, V1.r4, V1.r5, V1.pl, V1.a2, V1.a3, V1.a4, V1.a5, r4', hT]
        rw [p157_69 (Nat.le_of_ble_eq_true rfl) (sp_bitCount I.t5)]
        have hbp := bits_pos (nT all) I.t5 q (by omega) hb
        have hbl := bits_lt (T := nT all)
        have es := sh_1 (bits (nT all)) (by omega) hbp
        have hw : 2 ^ (bits (nT all) - 1) ≤ 512 := pw9 (by omega)
        have hw0 : 0 < 2 ^ (bits (nT all) - 1) := Nat.two_pow_pos _
        have hc := cnt_le (c := m_sh all S P q) (n := 2 ^ P)
        generalize ha : cnt (m_sh all S P q) (2 ^ P) = ab at hc ⊢
        generalize hwh : 2 ^ (bits (nT all) - 1) = wh at es hw hw0 ⊢
        have hg0 : 0 < Nat.gcd ab wh := Nat.gcd_pos_of_pos_right _ hw0
        have hg1 : Nat.gcd ab wh ≤ wh := Nat.gcd_le_right _ hw0
        have n1' := nI_lI (n := ab) (by omega)
        have n2' := nI_lI (n := wh) (by omega)
        simp (disch := first | omega | decide | assumption | exact Nat.le_of_ble_eq_true rfl) only [s157_72, s157_73, s157_74, s157_75, s157_77, s157_78, s157_79, s157_81, ow_some, true_and, and_true, and_self, if_true, if_false, not_true, not_false_eq_true, Bool.false_eq_true, eq_self, Option.toList, List.cons_append, List.nil_append, ix_in, ix_cl, lt_in, lt_cl, lt_add, ix_one, vu_eq, vu_ne, arI_mk, arL_mk, arY_mZ, arY_mB, alen_mI, fld_sfl_ne, fld_sfl_same, Option.isSome_some, pok_i, b1z, b01, z10, b1o, Int32.zero_add, vu_vu, upd_eq, upd_ne, true_or, or_true, es, n1', n2']
        rw [p157_82 (Nat.le_of_ble_eq_true rfl) (sp_commonPart (by omega) (by omega) hg0)]
        have hne : (nI (Nat.gcd ab wh) ≠ 0) = True := eq_true (fun z => by
          have z2 := tl_eq (c := 0) (m := Nat.gcd ab wh) (by decide) (by omega)
          rw [z2] at z; omega)
        have d1 : nI ab / nI (Nat.gcd ab wh) = nI (ab / Nat.gcd ab wh) := pk_div (by omega) (by omega) (by omega)
        have d2 : nI wh / nI (Nat.gcd ab wh) = nI (wh / Nat.gcd ab wh) := pk_div (by omega) (by omega) (by omega)
        have n3 := lI_nI (n := Nat.gcd ab wh) (by omega)
        rcases z_01 h2 with rfl | rfl
        · simp (disch := first | omega | decide | assumption | exact Nat.le_of_ble_eq_true rfl) only [s157_85, s157_86, s157_88, s157_89, s157_92, s157_93, s157_98, s157_100, s157_101, ow_some, true_and, and_true, and_self, if_true, if_false, not_true, not_false_eq_true, Bool.false_eq_true, eq_self, Option.toList, List.cons_append, List.nil_append, ix_in, ix_cl, lt_in, lt_cl, lt_add, ix_one, vu_eq, vu_ne, arI_mk, arL_mk, arY_mZ, arY_mB, alen_mI, fld_sfl_ne, fld_sfl_same, Option.isSome_some, pok_i, b1z, b01, z10, b1o, Int32.zero_add, vu_vu, upd_eq, upd_ne, true_or, or_true, n3, hne, d1]
          exact ⟨rfl, rfl, s1, ⟨y1, t1, L1, O1⟩, rfl⟩
        · have z1 : ((1 : Int32) = 0) = False := by decide
          simp only [z1, if_false]
          simp (disch := first | omega | decide | assumption | exact Nat.le_of_ble_eq_true rfl) only [s157_85, s157_86, s157_88, s157_89, s157_96, s157_98, s157_100, s157_101, ow_some, true_and, and_true, and_self, if_true, if_false, not_true, not_false_eq_true, Bool.false_eq_true, eq_self, Option.toList, List.cons_append, List.nil_append, ix_in, ix_cl, lt_in, lt_cl, lt_add, ix_one, vu_eq, vu_ne, arI_mk, arL_mk, arY_mZ, arY_mB, alen_mI, fld_sfl_ne, fld_sfl_same, Option.isSome_some, pok_i, b1z, b01, z10, b1o, Int32.zero_add, vu_vu, upd_eq, upd_ne, true_or, or_true, n3, hne, d2, z1, ne_eq]
          exact ⟨rfl, rfl, s1, ⟨y1, t1, L1, O1⟩, rfl⟩
      · rw [if_neg hb, if_neg hb]
        simp (disch := first | omega | decide | assumption | exact Nat.le_of_ble_eq_true rfl) only [s157_31, s157_34, s157_36, ow_some, true_and, and_true, and_self, if_true, if_false, not_true, not_false_eq_true, Bool.false_eq_true, eq_self, Option.toList, List.cons_append, List.nil_append, ix_in, ix_cl, lt_in, lt_cl, lt_add, ix_one, vu_eq, vu_ne, arI_mk, arL_mk, arY_mZ, arY_mB, alen_mI, fld_sfl_ne, fld_sfl_same, Option.isSome_some, pok_i, b1z, b01, z10, b1o, Int32.zero_add, vu_vu, upd_eq, upd_ne, true_or, or_true]
        exact ⟨rfl, rfl, fin.1, fin.2, rfl⟩
    · rw [if_neg (fun z => h2 z.2)]
      by_cases a1 : z.toInt < 0
      · have a1' : (z.toInt < 0) = True := eq_true a1
        simp (disch := first | omega | decide | assumption | exact Nat.le_of_ble_eq_true rfl) only [s157_8, s157_11, s157_12, s157_20, s157_22, ow_some, true_and, and_true, and_self, if_true, if_false, not_true, not_false_eq_true, Bool.false_eq_true, eq_self, Option.toList, List.cons_append, List.nil_append, ix_in, ix_cl, lt_in, lt_cl, lt_add, ix_one, vu_eq, vu_ne, arI_mk, arL_mk, arY_mZ, arY_mB, alen_mI, fld_sfl_ne, fld_sfl_same, Option.isSome_some, pok_i, b1z, b01, z10, b1o, Int32.zero_add, vu_vu, upd_eq, upd_ne, true_or, or_true, l2, a1']
        exact ⟨rfl, rfl, fin.1, fin.2, rfl⟩
      · have a1' : (z.toInt < 0) = False := eq_false a1
        have a2 : (z.toInt ≤ 1) = False := eq_false (by omega)
        simp (disch := first | omega | decide | assumption | exact Nat.le_of_ble_eq_true rfl) only [s157_8, s157_11, s157_12, s157_15, s157_16, s157_17, s157_20, s157_22, ow_some, true_and, and_true, and_self, if_true, if_false, not_true, not_false_eq_true, Bool.false_eq_true, eq_self, Option.toList, List.cons_append, List.nil_append, ix_in, ix_cl, lt_in, lt_cl, lt_add, ix_one, vu_eq, vu_ne, arI_mk, arL_mk, arY_mZ, arY_mB, alen_mI, fld_sfl_ne, fld_sfl_same, Option.isSome_some, pok_i, b1z, b01, z10, b1o, Int32.zero_add, vu_vu, upd_eq, upd_ne, true_or, or_true, l2, l3, a1', a2]
        exact ⟨rfl, rfl, fin.1, fin.2, rfl⟩
  · rw [if_neg h1, if_neg (fun z => h1 z.1)]
    simp (disch := first | omega | decide | assumption | exact Nat.le_of_ble_eq_true rfl) only [s157_8, s157_20, s157_22, ow_some, true_and, and_true, and_self, if_true, if_false, not_true, not_false_eq_true, Bool.false_eq_true, eq_self, Option.toList, List.cons_append, List.nil_append, ix_in, ix_cl, lt_in, lt_cl, lt_add, ix_one, vu_eq, vu_ne, arI_mk, arL_mk, arY_mZ, arY_mB, alen_mI, fld_sfl_ne, fld_sfl_same, Option.isSome_some, pok_i, b1z, b01, z10, b1o, Int32.zero_add, vu_vu, upd_eq, upd_ne, true_or, or_true]
    exact ⟨rfl, rfl, fin.1, fin.2, rfl⟩
end HOME

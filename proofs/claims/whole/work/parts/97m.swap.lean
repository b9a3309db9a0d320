/-! the class: a swap; when it sinks -/
theorem sp_bestSwap {X : Nat × (Nat → Int32)} {d N K a pl C S R P q : Nat} {f : Nat → e_C} {y x r : Nat → Nat → Int32} {w v all br mo up : Nat → Int32} {li : Nat → Int64} (L : LV f q y) (V : SV f a pl w x) (W : PV f pl v r C) (G : CR all S P w x v r C) (I : IS all S R P) (hd : AD a pl q) (O : XV f q br mo up li) (hq : q = 160) {c : Nat} (hc : c < 100) (hP9 : P < 9) {u3 u4 u5 u6 u7 : Value} : TT X (d + 4) 103 0 [.ref 159, .ref a, .int (nI c), u3, u4, u5, u6, u7] [] f N K (QX f N K q (oI (m_best (fun p => if (nT all).testBit p then m_by all S P (all (57 + p)) (nI c) p else -1) P).1)) := by
  have h8 := I.s8
  have h9 := I.p9
  have t5 := I.t5
  have hS : v 0 = nI S := by rw [G.v0]; exact I.eS
  have hP : w 1 = nI P := by rw [G.w1]; exact I.eP
  have hT : w 6 = nI (nT all) := by rw [G.w6]; exact I.eT
  have o1 := O.1
  simp (disch := first | omega | decide | assumption | exact Nat.le_of_ble_eq_true rfl) only [s103_0, s103_1, s103_4, ow_some, true_and, and_true, and_self, if_true, if_false, not_true, not_false_eq_true, Bool.false_eq_true, eq_self, Option.toList, List.cons_append, List.nil_append, ix_in, ix_cl, lt_in, lt_cl, lt_add, ix_one, vu_eq, vu_ne, arI_mk, arL_mk, arY_mZ, arY_mB, alen_mI, fld_sfl_ne, fld_sfl_same, Option.isSome_some, pok_i, b1z, b01, z10, b1o, Int32.zero_add, vu_vu, upd_eq, upd_ne, true_or, or_true, o1]
  refine k103_5 L.cn (Nat.le_of_ble_eq_true rfl) (sp_weigh L V W G I hd) ?_
  rintro f1 n1 k1 v1 ⟨rfl, rfl, rfl, s1, y1, L1, -, hw1⟩
  have O1 : XV f1 q br mo up li := O.fr (s1 159 (by omega)) (fun b h1 h2 => s1 b (by omega))
  simp (disch := first | omega | decide | assumption | exact Nat.le_of_ble_eq_true rfl) only [s103_8, s103_9, s103_10, s103_11, s103_13, h103_14, ow_some, true_and, and_true, and_self, if_true, if_false, not_true, not_false_eq_true, Bool.false_eq_true, eq_self, Option.toList, List.cons_append, List.nil_append, ix_in, ix_cl, lt_in, lt_cl, lt_add, ix_one, vu_eq, vu_ne, arI_mk, arL_mk, arY_mZ, arY_mB, alen_mI, fld_sfl_ne, fld_sfl_same, Option.isSome_some, pok_i, b1z, b01, z10, b1o, Int32.zero_add, vu_vu, upd_eq, upd_ne, true_or, or_true]
  refine lp (fun p e (z : (Nat → Nat → Int32) × (Option Nat × Int32) × Value × Value) => SI 162 171 f e ∧ LV e q z.1 ∧ XV e q br mo up li ∧ wgd all P z.1 ∧ z.2.1 = m_best (fun p => if (nT all).testBit p then m_by all S P (all (57 + p)) (nI c) p else -1) p) (fun p z => [.ref 159, .ref a, .int (nI c), .int (oI z.2.1.1), .int z.2.1.2, .int (nI p), z.2.2.1, z.2.2.2]) P ?_ ?_ 0 f1 (y1, (none, -1), u6, u7) (by omega) ⟨s1.wd (by omega) (by omega), L1, O1, hw1, rfl⟩
  · rintro p e ⟨y2, z, ua, ub⟩ hp ⟨s2, L2, O2, hw2, hz⟩ hI
    dsimp only at hz
    subst hz
    have V2 := V.fr (f' := e) (fun b h1 h2 => s2 b (by omega))
    have W2 := W.fr (f' := e) (fun b h1 h2 => s2 b (by omega))
    have hc' : (P ≤ p) = False := eq_false (by omega)
    have hbs := m_best_s (v := fun p => if (nT all).testBit p then m_by all S P (all (57 + p)) (nI c) p else -1) (n := p)
    have hge := bst_ge (v := fun p => if (nT all).testBit p then m_by all S P (all (57 + p)) (nI c) p else -1) p
    have q2 := O2.1
    simp (disch := first | omega | decide | assumption | exact Nat.le_of_ble_eq_true rfl) only [s103_16, s103_18, s103_19, s103_22, s103_25, s103_26, ow_some, true_and, and_true, and_self, if_true, if_false, not_true, not_false_eq_true, Bool.false_eq_true, eq_self, Option.toList, List.cons_append, List.nil_append, ix_in, ix_cl, lt_in, lt_cl, lt_add, ix_one, vu_eq, vu_ne, arI_mk, arL_mk, arY_mZ, arY_mB, alen_mI, fld_sfl_ne, fld_sfl_same, Option.isSome_some, pok_i, b1z, b01, z10, b1o, Int32.zero_add, vu_vu, upd_eq, upd_ne, true_or, or_true, V2.v1, V2.v6, V2.v7, V2.v8, V2.v9, V2.i1, V2.i6, V2.i7, V2.i8, V2.i9, V2.r2, V2.r3, V2.r4, V2.r5, V2.pl, V2.a2, V2.a3, V2.a4, V2.a5, hP, ix_le, hc']
    rw [p103_28 V2.cn (Nat.le_of_ble_eq_true rfl) (sp_isTj V2 hP h9 hT t5 hp)]
    by_cases hb : (nT all).testBit p = true
    · simp only [hb, if_true] at hbs
      obtain ⟨hcl, hclt⟩ := bit_clr (nT all) t5 p (by omega)
      obtain ⟨sj, hsj, hst⟩ := I.st hp
      have e2 : x 2 p = nI sj := by rw [G.x2 hp]; exact hst
      simp (disch := first | omega | decide | assumption | exact Nat.le_of_ble_eq_true rfl) only [s103_31, s103_34, s103_35, s103_38, s103_40, s103_41, s103_43, s103_44, s103_47, s103_48, s103_49, s103_52, s103_53, s103_55, s103_56, s103_57, s103_58, ow_some, true_and, and_true, and_self, if_true, if_false, not_true, not_false_eq_true, Bool.false_eq_true, eq_self, Option.toList, List.cons_append, List.nil_append, ix_in, ix_cl, lt_in, lt_cl, lt_add, ix_one, vu_eq, vu_ne, arI_mk, arL_mk, arY_mZ, arY_mB, alen_mI, fld_sfl_ne, fld_sfl_same, Option.isSome_some, pok_i, b1z, b01, z10, b1o, Int32.zero_add, vu_vu, upd_eq, upd_ne, true_or, or_true, V2.v1, V2.v6, V2.v7, V2.v8, V2.v9, V2.i1, V2.i6, V2.i7, V2.i8, V2.i9, V2.r2, V2.r3, V2.r4, V2.r5, V2.pl, V2.a2, V2.a3, V2.a4, V2.a5, hb, q2, hT, hcl, e2]
      refine k103_59 L2.cn (Nat.le_of_ble_eq_true rfl) (sp_slackOf L2 V2 W2 G I hd (clr_sb t5 (by omega)) hw2) ?_
      rintro f3 n3 k3 v3 ⟨rfl, rfl, s3, ⟨g3, L3, hg3⟩, rfl⟩
      have s3' : SI 162 171 f f3 := s2.tr (s3.wd (by omega) (by omega))
      have V3 := V.fr (f' := f3) (fun b h1 h2 => s3' b (by omega))
      have W3 := W.fr (f' := f3) (fun b h1 h2 => s3' b (by omega))
      have O3 : XV f3 q br mo up li := O2.fr (s3 159 (by omega)) (fun b h1 h2 => s3 b (by omega))
      have q3 := O3.1
      simp (disch := first | omega | decide | assumption | exact Nat.le_of_ble_eq_true rfl) only [s103_62, s103_63, s103_64, s103_67, s103_70, s103_72, s103_73, s103_74, s103_75, s103_78, s103_79, s103_81, s103_82, ow_some, true_and, and_true, and_self, if_true, if_false, not_true, not_false_eq_true, Bool.false_eq_true, eq_self, Option.toList, List.cons_append, List.nil_append, ix_in, ix_cl, lt_in, lt_cl, lt_add, ix_one, vu_eq, vu_ne, arI_mk, arL_mk, arY_mZ, arY_mB, alen_mI, fld_sfl_ne, fld_sfl_same, Option.isSome_some, pok_i, b1z, b01, z10, b1o, Int32.zero_add, vu_vu, upd_eq, upd_ne, true_or, or_true, L3.r0, L3.r1, L3.r2, L3.r3, L3.l0, L3.l1, L3.a0, L3.a1, L3.a2, L3.a3, L3.a4, q3, up2_eq]
      refine k103_83 L3.cn (Nat.le_of_ble_eq_true rfl) (sp_newcomer L3 V3 W3 G I hd) ?_
      rintro f4 n4 k4 v4 ⟨rfl, rfl, s4, ⟨y4, L4, hy4⟩, rfl⟩
      have hnw : c_str all (nI P) (nI c) 0 (nI sj) (all 56 + 0) 0 = nwc all P c sj 0 := rfl
      rw [hnw]
      simp (disch := first | omega | decide | assumption | exact Nat.le_of_ble_eq_true rfl) only [s103_86, s103_87, ow_some, true_and, and_true, and_self, if_true, if_false, not_true, not_false_eq_true, Bool.false_eq_true, eq_self, Option.toList, List.cons_append, List.nil_append, ix_in, ix_cl, lt_in, lt_cl, lt_add, ix_one, vu_eq, vu_ne, arI_mk, arL_mk, arY_mZ, arY_mB, alen_mI, fld_sfl_ne, fld_sfl_same, Option.isSome_some, pok_i, b1z, b01, z10, b1o, Int32.zero_add, vu_vu, upd_eq, upd_ne, true_or, or_true, L4.r0, L4.r1, L4.r2, L4.r3, L4.l0, L4.l1, L4.a0, L4.a1, L4.a2, L4.a3, L4.a4]
      have L5 := L4.s4 (g := upd (y4 4) sj (g3 sj + nwc all P c sj 0))
      have s5 : SI 162 171 f (va_up f4 (q + 6) (.inl (.int, 8, .inl (upd (y4 4) sj (g3 sj + nwc all P c sj 0))))) := (s3'.tr (s4.wd (by omega) (by omega))).tr (SI.up (by omega) (by omega))
      have O5 : XV (va_up f4 (q + 6) (.inl (.int, 8, .inl (upd (y4 4) sj (g3 sj + nwc all P c sj 0))))) q br mo up li := (O3.fr (f' := f4) (s4 159 (by omega)) (fun b h1 h2 => s4 b (by omega))).fr (vu_ne (by omega)) (fun b h1 h2 => vu_ne (by omega))
      generalize va_up f4 (q + 6) (.inl (.int, 8, .inl (upd (y4 4) sj (g3 sj + nwc all P c sj 0)))) = f5 at L5 s5 O5 ⊢
      have V5 := V.fr (f' := f5) (fun b h1 h2 => s5 b (by omega))
      have W5 := W.fr (f' := f5) (fun b h1 h2 => s5 b (by omega))
      have q5 := O5.1
      have hrow : ∀ k, k < S → up2 y4 4 (upd (y4 4) sj (g3 sj + nwc all P c sj 0)) 4 k = if k = sj then m_bo all (clr (nT all) p) P k + nwc all P c sj 0 else m_bo all (clr (nT all) p) P k := by
        intro k hk
        rw [up2_eq]
        by_cases hks : k = sj
        · subst hks; rw [upd_eq, if_pos rfl, hg3 k hk]
        · rw [upd_ne hks, if_neg hks, hy4 4 (by omega), up2_eq]; exact hg3 k hk
      have hsl := slack_by (c := c) I hP9 hp hsj hc (fun i hi => G.jt hi) (fun k hk => G.ld hk) hrow
      have hw5 : wgd all P (up2 y4 4 (upd (y4 4) sj (g3 sj + nwc all P c sj 0))) := by
        refine wgd_up ?_
        intro i hi hbi
        rw [hy4 2 (by omega), hy4 3 (by omega)]
        exact wgd_up hw2 i hi hbi
      simp (disch := first | omega | decide | assumption | exact Nat.le_of_ble_eq_true rfl) only [s103_88, s103_89, s103_92, ow_some, true_and, and_true, and_self, if_true, if_false, not_true, not_false_eq_true, Bool.false_eq_true, eq_self, Option.toList, List.cons_append, List.nil_append, ix_in, ix_cl, lt_in, lt_cl, lt_add, ix_one, vu_eq, vu_ne, arI_mk, arL_mk, arY_mZ, arY_mB, alen_mI, fld_sfl_ne, fld_sfl_same, Option.isSome_some, pok_i, b1z, b01, z10, b1o, Int32.zero_add, vu_vu, upd_eq, upd_ne, true_or, or_true, q5]
      rw [p103_93 L5.cn (Nat.le_of_ble_eq_true rfl) (sp_slack L5 V5 W5 hS h8), hsl]
      rw [hst] at hbs
      simp (disch := first | omega | decide | assumption | exact Nat.le_of_ble_eq_true rfl) only [s103_96, s103_98, s103_100, ow_some, true_and, and_true, and_self, if_true, if_false, not_true, not_false_eq_true, Bool.false_eq_true, eq_self, Option.toList, List.cons_append, List.nil_append, ix_in, ix_cl, lt_in, lt_cl, lt_add, ix_one, vu_eq, vu_ne, arI_mk, arL_mk, arY_mZ, arY_mB, alen_mI, fld_sfl_ne, fld_sfl_same, Option.isSome_some, pok_i, b1z, b01, z10, b1o, Int32.zero_add, vu_vu, upd_eq, upd_ne, true_or, or_true]
      by_cases hlt : (m_best (fun p => if (nT all).testBit p then m_by all S P (all (57 + p)) (nI c) p else -1) p).2 < m_by all S P (nI sj) (nI c) p
      · have c1 : (m_by all S P (nI sj) (nI c) p ≤ (m_best (fun p => if (nT all).testBit p = true then m_by all S P (all (57 + p)) (nI c) p else -1) p).2) = False := eq_false (Int32.not_le.mpr hlt)
        rw [if_pos hlt] at hbs
        simp (disch := first | omega | decide | assumption | exact Nat.le_of_ble_eq_true rfl) only [s103_102, s103_105, s103_107, s103_109, s103_111, s103_112, h103_115, ow_some, true_and, and_true, and_self, if_true, if_false, not_true, not_false_eq_true, Bool.false_eq_true, eq_self, Option.toList, List.cons_append, List.nil_append, ix_in, ix_cl, lt_in, lt_cl, lt_add, ix_one, vu_eq, vu_ne, arI_mk, arL_mk, arY_mZ, arY_mB, alen_mI, fld_sfl_ne, fld_sfl_same, Option.isSome_some, pok_i, b1z, b01, z10, b1o, Int32.zero_add, vu_vu, upd_eq, upd_ne, true_or, or_true, c1]
        exact hI _ (_, (some p, m_by all S P (nI sj) (nI c) p), _, _) ⟨s5, L5, O5, hw5, hbs.symm⟩
      · have c1 : (m_by all S P (nI sj) (nI c) p ≤ (m_best (fun p => if (nT all).testBit p = true then m_by all S P (all (57 + p)) (nI c) p else -1) p).2) = True := eq_true (Int32.not_lt.mp hlt)
        rw [if_neg hlt] at hbs
        simp (disch := first | omega | decide | assumption | exact Nat.le_of_ble_eq_true rfl) only [s103_102, s103_105, s103_107, s103_109, s103_111, s103_112, h103_115, ow_some, true_and, and_true, and_self, if_true, if_false, not_true, not_false_eq_true, Bool.false_eq_true, eq_self, Option.toList, List.cons_append, List.nil_append, ix_in, ix_cl, lt_in, lt_cl, lt_add, ix_one, vu_eq, vu_ne, arI_mk, arL_mk, arY_mZ, arY_mB, alen_mI, fld_sfl_ne, fld_sfl_same, Option.isSome_some, pok_i, b1z, b01, z10, b1o, Int32.zero_add, vu_vu, upd_eq, upd_ne, true_or, or_true, c1]
        exact hI _ (_, _, _, _) ⟨s5, L5, O5, hw5, hbs.symm⟩
    · have hn : ¬ (m_best (fun p => if (nT all).testBit p then m_by all S P (all (57 + p)) (nI c) p else -1) p).2 < -1 := by
        rw [Int32.lt_iff_toInt_lt, show (-1 : Int32).toInt = -1 by decide]; omega
      rw [if_neg hb, if_neg hn] at hbs
      simp (disch := first | omega | decide | assumption | exact Nat.le_of_ble_eq_true rfl) only [s103_31, s103_112, h103_115, ow_some, true_and, and_true, and_self, if_true, if_false, not_true, not_false_eq_true, Bool.false_eq_true, eq_self, Option.toList, List.cons_append, List.nil_append, ix_in, ix_cl, lt_in, lt_cl, lt_add, ix_one, vu_eq, vu_ne, arI_mk, arL_mk, arY_mZ, arY_mB, alen_mI, fld_sfl_ne, fld_sfl_same, Option.isSome_some, pok_i, b1z, b01, z10, b1o, Int32.zero_add, vu_vu, upd_eq, upd_ne, true_or, or_true, hb]
      exact hI _ (y2, _, _, _) ⟨s2, L2, O2, hw2, hbs.symm⟩
  · rintro e ⟨y2, z, ua, ub⟩ ⟨s2, L2, O2, hw2, hz⟩
    dsimp only at hz
    have V2 := V.fr (f' := e) (fun b h1 h2 => s2 b (by omega))
    simp (disch := first | omega | decide | assumption | exact Nat.le_of_ble_eq_true rfl) only [s103_16, s103_18, s103_19, s103_22, s103_118, s103_119, ow_some, true_and, and_true, and_self, if_true, if_false, not_true, not_false_eq_true, Bool.false_eq_true, eq_self, Option.toList, List.cons_append, List.nil_append, ix_in, ix_cl, lt_in, lt_cl, lt_add, ix_one, vu_eq, vu_ne, arI_mk, arL_mk, arY_mZ, arY_mB, alen_mI, fld_sfl_ne, fld_sfl_same, Option.isSome_some, pok_i, b1z, b01, z10, b1o, Int32.zero_add, vu_vu, upd_eq, upd_ne, true_or, or_true, V2.v1, V2.v6, V2.v7, V2.v8, V2.v9, V2.i1, V2.i6, V2.i7, V2.i8, V2.i9, V2.r2, V2.r3, V2.r4, V2.r5, V2.pl, V2.a2, V2.a3, V2.a4, V2.a5, hP, ix_le, Nat.le_refl]
    exact ⟨rfl, rfl, s2, ⟨y2, br, mo, up, li, L2, O2⟩, by rw [hz]⟩
theorem sp_firstSunk {X : Nat × (Nat → Int32)} {d N K a pl C S R P q : Nat} {f : Nat → e_C} {y x r : Nat → Nat → Int32} {w v all br mo up : Nat → Int32} {li : Nat → Int64} (L : LV f q y) (V : SV f a pl w x) (W : PV f pl v r C) (G : CR all S P w x v r C) (I : IS all S R P) (hd : AD a pl q) (O : XV f q br mo up li) (hq : q = 160) {u2 : Value} : TT X (d + 4) 106 0 [.ref 159, .ref a, u2] [] f N K (QX f N K q (o_sinks all S P)) := by
  simp (disch := first | omega | decide | assumption | exact Nat.le_of_ble_eq_true rfl) only [s106_0, h106_1, ow_some, true_and, and_true, and_self, if_true, if_false, not_true, not_false_eq_true, Bool.false_eq_true, eq_self, Option.toList, List.cons_append, List.nil_append, ix_in, ix_cl, lt_in, lt_cl, lt_add, ix_one, vu_eq, vu_ne, arI_mk, arL_mk, arY_mZ, arY_mB, alen_mI, fld_sfl_ne, fld_sfl_same, Option.isSome_some, pok_i, b1z, b01, z10, b1o, Int32.zero_add, vu_vu, upd_eq, upd_ne, true_or, or_true]
  suffices key : ∀ (m n : Nat) (e : Nat → e_C) (y1 : Nat → Nat → Int32), n + m = 100 → SI (q + 2) (q + 7) f e → LV e q y1 → TH X (d + 4) 106 2 [.ref 159, .ref a, .int (nI n)] [] e N K (QX f N K q (if m_sd all S P m n = 100 then -1 else nI (m_sd all S P m n))) from key 100 0 f y rfl SI.rf L
  intro m
  induction m with
  | zero =>
    intro n e y1 hn s1 L1
    unfold TH
    have hc : (100 ≤ n) = True := eq_true (by omega)
    have hz : m_sd all S P 0 n = 100 := by show n = 100; omega
    have O1 : XV e q br mo up li := O.fr (s1 159 (by omega)) (fun b h1 h2 => s1 b (by omega))
    rw [if_pos hz]
    simp (disch := first | omega | decide | assumption | exact Nat.le_of_ble_eq_true rfl) only [s106_2, s106_3, s106_5, s106_28, s106_29, ow_some, true_and, and_true, and_self, if_true, if_false, not_true, not_false_eq_true, Bool.false_eq_true, eq_self, Option.toList, List.cons_append, List.nil_append, ix_in, ix_cl, lt_in, lt_cl, lt_add, ix_one, vu_eq, vu_ne, arI_mk, arL_mk, arY_mZ, arY_mB, alen_mI, fld_sfl_ne, fld_sfl_same, Option.isSome_some, pok_i, b1z, b01, z10, b1o, Int32.zero_add, vu_vu, upd_eq, upd_ne, true_or, or_true, lt_le, hc]
    exact ⟨rfl, rfl, s1.wd (by omega) (by omega), ⟨y1, br, mo, up, li, L1, O1⟩, rfl⟩
  | succ m ih =>
    intro n e y1 hn s1 L1
    unfold TH
    have O1 : XV e q br mo up li := O.fr (s1 159 (by omega)) (fun b h1 h2 => s1 b (by omega))
    have V1 := V.fr (f' := e) (fun b h1 h2 => s1 b (by omega))
    have W1 := W.fr (f' := e) (fun b h1 h2 => s1 b (by omega))
    have hc : (100 ≤ n) = False := eq_false (by omega)
    have q1 := O1.1
    simp (disch := first | omega | decide | assumption | exact Nat.le_of_ble_eq_true rfl) only [s106_2, s106_3, s106_5, s106_8, s106_9, s106_12, s106_13, ow_some, true_and, and_true, and_self, if_true, if_false, not_true, not_false_eq_true, Bool.false_eq_true, eq_self, Option.toList, List.cons_append, List.nil_append, ix_in, ix_cl, lt_in, lt_cl, lt_add, ix_one, vu_eq, vu_ne, arI_mk, arL_mk, arY_mZ, arY_mB, alen_mI, fld_sfl_ne, fld_sfl_same, Option.isSome_some, pok_i, b1z, b01, z10, b1o, Int32.zero_add, vu_vu, upd_eq, upd_ne, true_or, or_true, lt_le, hc, q1]
    refine k106_14 L1.cn (Nat.le_of_ble_eq_true rfl) (sp_later L1 V1 W1 G I hd (n := n) (by omega)) ?_
    rintro f2 n2 k2 v2 ⟨rfl, rfl, s2, ⟨y2, L2, hy2, -⟩, rfl⟩
    have O2 : XV f2 q br mo up li := O1.fr (s2 159 (by omega)) (fun b h1 h2 => s2 b (by omega))
    have hh := sp_ge0 (all := m_lat all n) (S := S) (P := P) (T := nT all)
    rw [m_sd_s m]
    by_cases hb : m_hold (m_lat all n) S P (nT all) = true
    · have hb' : (m_hold (m_lat all n) S P (nT all) = true) = True := eq_true hb
      rw [if_pos hb]
      simp (disch := first | omega | decide | assumption | exact Nat.le_of_ble_eq_true rfl) only [s106_17, s106_22, h106_25, ow_some, true_and, and_true, and_self, if_true, if_false, not_true, not_false_eq_true, Bool.false_eq_true, eq_self, Option.toList, List.cons_append, List.nil_append, ix_in, ix_cl, lt_in, lt_cl, lt_add, ix_one, vu_eq, vu_ne, arI_mk, arL_mk, arY_mZ, arY_mB, alen_mI, fld_sfl_ne, fld_sfl_same, Option.isSome_some, pok_i, b1z, b01, z10, b1o, Int32.zero_add, vu_vu, upd_eq, upd_ne, true_or, or_true, hh, hb']
      exact ih (n + 1) f2 y2 (by omega) (s1.tr s2) L2
    · have hb' : (m_hold (m_lat all n) S P (nT all) = true) = False := eq_false hb
      have hn1 : ¬ n = 100 := by omega
      rw [if_neg hb, if_neg hn1]
      simp (disch := first | omega | decide | assumption | exact Nat.le_of_ble_eq_true rfl) only [s106_17, s106_20, s106_21, ow_some, true_and, and_true, and_self, if_true, if_false, not_true, not_false_eq_true, Bool.false_eq_true, eq_self, Option.toList, List.cons_append, List.nil_append, ix_in, ix_cl, lt_in, lt_cl, lt_add, ix_one, vu_eq, vu_ne, arI_mk, arL_mk, arY_mZ, arY_mB, alen_mI, fld_sfl_ne, fld_sfl_same, Option.isSome_some, pok_i, b1z, b01, z10, b1o, Int32.zero_add, vu_vu, upd_eq, upd_ne, true_or, or_true, hh, hb']
      exact ⟨rfl, rfl, (s1.tr s2).wd (by omega) (by omega), ⟨y2, br, mo, up, li, L2, O2⟩, rfl⟩

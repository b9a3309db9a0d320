/-! the class: bring, days -/
section DEED
variable {X : Nat × (Nat → Int32)} {d N K : Nat} {f f' f'' : Nat → e_C} {t t' : Nat → Int32} {s : m_T} {S R P P2 D B B2 j : Nat} {all2 : Nat → Int32}
theorem bring_w {all : Nat → Int32} {S P D : Nat} {k b : Int32} : o_bring all S P D k b = if w_br all S P k.toInt b.toInt = 0 then (m_note (m_br all S P k b) (m_kept all) D, nI P) else (all, -10 - w_br all S P k.toInt b.toInt) := by
  unfold o_bring w_br m_br
  by_cases h1 : (0 ≤ k.toInt ∧ k.toInt < S) ∧ (0 ≤ b.toInt ∧ b.toInt ≤ 99)
  · rw [if_pos h1, if_pos h1]
    by_cases h2 : all 54 = 1 ∨ P = 9
    · rw [if_pos h2, if_pos h2, if_neg (by decide)]; rfl
    · rw [if_neg h2, if_neg h2, if_pos rfl]
  · rw [if_neg h1, if_neg h1, if_neg (by decide)]; rfl
theorem IS.br {all : Nat → Int32} {S R P : Nat} {k b : Int32} (I : IS all S R P) (h : w_br all S P k.toInt b.toInt = 0) : IS (m_br all S P k b) S R (P + 1) ∧ mfl (m_br all S P k b) S (P + 1) ∧ ∀ a, (a < 52 ∨ 92 ≤ a ∨ a = 56) → m_br all S P k b a = all a := by
  obtain ⟨⟨k0, k1⟩, ⟨b0, b1⟩, h54, hP⟩ := w_br_0 h
  have h9 := I.p9
  have h8 := I.s8
  obtain ⟨kk, hk, rfl, hkv⟩ := i9 (v := k) (N := 8) k0 (by omega) (by omega)
  obtain ⟨bb, hb, rfl, hbv⟩ := i9 (v := b) (N := 100) b0 (by omega) (by omega)
  have I1 := I.pcome (k := kk) (b := bb) (by omega) (by omega) hb
  obtain ⟨c1, c2⟩ := come_nT (all := all) (P := P) (k := nI kk) (b := nI bb) I.tP (by omega)
  have e : m_br all S P (nI kk) (nI bb) = m_fall (m_come all P (nT all) (nI kk) (nI bb)) S (P + 1) (nT (m_come all P (nT all) (nI kk) (nI bb))) := by unfold m_br; rw [c1]
  have h54' : m_come all P (nT all) (nI kk) (nI bb) 54 = 0 := by rw [come_ne (by omega) (by omega) (by omega) (by omega) (by omega)]; exact I.z54 h54
  refine ⟨by rw [e]; exact I1.fall, by rw [e]; exact mfl_fall h8 (by omega) h54', fun a ha => ?_⟩
  unfold m_br
  rw [fall_ne (by omega), come_ne (by omega) (by omega) (by omega) (by omega) (by omega)]
theorem sp_bringC (Z : ST f N s S R P D B t) (Y : SCR f) {k b : Int32} {u3 : Value} : TT X (d + 6) 126 0 [.ref 0, .int k, .int b, u3] [] f N K (QG f N K ((o_bring s.1 S P D k b).1, s.2) B (.int (o_bring s.1 S P D k b).2)) := by
  have I := Z.is
  simp (disch := first | omega | decide | assumption | exact Nat.le_of_ble_eq_true rfl) only [s126_0, ow_some, true_and, and_true, and_self, if_true, if_false, not_true, not_false_eq_true, Bool.false_eq_true, eq_self, Option.toList, List.cons_append, List.nil_append, ix_in, ix_cl, lt_in, lt_cl, lt_add, ix_one, vu_eq, vu_ne, arI_mk, arL_mk, arY_mZ, arY_mB, alen_mI, fld_sfl_ne, fld_sfl_same, Option.isSome_some, pok_i, b1z, b01, z10, b1o, Int32.zero_add, vu_vu, upd_eq, upd_ne, true_or, or_true]
  refine k126_1 Z.1.cn (Nat.le_of_ble_eq_true rfl) (sp_keepZ Z Y.2.1) ?_
  rintro f1 n1 k1 v1 ⟨rfl, rfl, rfl, hf1, Z1, j, hj, h7, hk, pl, sd, wy, hp, W1⟩
  have r4 := Z1.1.r4
  have r14 := Z1.1.r14
  simp (disch := first | omega | decide | assumption | exact Nat.le_of_ble_eq_true rfl) only [s126_4, s126_5, s126_8, s126_9, s126_12, s126_13, ow_some, true_and, and_true, and_self, if_true, if_false, not_true, not_false_eq_true, Bool.false_eq_true, eq_self, Option.toList, List.cons_append, List.nil_append, ix_in, ix_cl, lt_in, lt_cl, lt_add, ix_one, vu_eq, vu_ne, arI_mk, arL_mk, arY_mZ, arY_mB, alen_mI, fld_sfl_ne, fld_sfl_same, Option.isSome_some, pok_i, b1z, b01, z10, b1o, Int32.zero_add, vu_vu, upd_eq, upd_ne, true_or, or_true, r4, r14]
  refine k126_14 W1.dv.cn (Nat.le_of_ble_eq_true rfl) (sp_bringOne W1) ?_
  rintro f2 n2 k2 v2 ⟨rfl, rfl, s2, rfl, W2n, W2y⟩
  rw [bring_w]
  have h9 := I.p9
  by_cases h0 : w_br s.1 S P k.toInt b.toInt = 0
  · have W2 := W2y h0
    rw [if_pos h0]
    obtain ⟨I2, m2, he⟩ := I.br h0
    have H2 := Z1.1.fr (f' := f2) (s2 0 (by omega) (by omega))
    have r4' := H2.r4
    obtain ⟨w2, x2, V2, ⟨g1, g6, g9⟩, -⟩ := W2.sv
    have g1' : w2 1 = nI (P + 1) := by rw [g1]; exact I2.eP
    have e1 : nI (P + 1) - 1 = nI P := by rw [show (1 : Int32) = nI 1 from rfl, pk_sub (by omega), Nat.add_sub_cancel]
    simp (disch := first | omega | decide | assumption | exact Nat.le_of_ble_eq_true rfl) only [s126_17, s126_18, s126_19, s126_29, s126_30, s126_31, s126_34, s126_37, s126_38, ow_some, true_and, and_true, and_self, if_true, if_false, not_true, not_false_eq_true, Bool.false_eq_true, eq_self, Option.toList, List.cons_append, List.nil_append, ix_in, ix_cl, lt_in, lt_cl, lt_add, ix_one, vu_eq, vu_ne, arI_mk, arL_mk, arY_mZ, arY_mB, alen_mI, fld_sfl_ne, fld_sfl_same, Option.isSome_some, pok_i, b1z, b01, z10, b1o, Int32.zero_add, vu_vu, upd_eq, upd_ne, true_or, or_true, V2.v1, V2.v6, V2.v7, V2.v8, V2.v9, V2.i1, V2.i6, V2.i7, V2.i8, V2.i9, V2.r2, V2.r3, V2.r4, V2.r5, V2.pl, V2.a2, V2.a3, V2.a4, V2.a5, r4', h0, g1', e1, ne_eq]
    refine k126_39 H2.cn (Nat.le_of_ble_eq_true rfl) (sp_didZ Z1 h7 hj hk s2 hp W2 m2 (by rw [he 56 (by omega)]; exact Z.day) (Nat.le_refl _) (fun a ha => he a (by omega))) ?_
    rintro f3 n3 k3 v3 ⟨rfl, rfl, s3, rfl, Z3⟩
    simp (disch := first | omega | decide | assumption | exact Nat.le_of_ble_eq_true rfl) only [s126_42, ow_some, true_and, and_true, and_self, if_true, if_false, not_true, not_false_eq_true, Bool.false_eq_true, eq_self, Option.toList, List.cons_append, List.nil_append, ix_in, ix_cl, lt_in, lt_cl, lt_add, ix_one, vu_eq, vu_ne, arI_mk, arL_mk, arY_mZ, arY_mB, alen_mI, fld_sfl_ne, fld_sfl_same, Option.isSome_some, pok_i, b1z, b01, z10, b1o, Int32.zero_add, vu_vu, upd_eq, upd_ne, true_or, or_true]
    exact qg_yes Y hf1 s2 W2 s3 Z3
  · have W2 := W2n h0
    rw [if_neg h0]
    have h0' : (w_br s.1 S P k.toInt b.toInt = 0) = False := eq_false h0
    simp (disch := first | omega | decide | assumption | exact Nat.le_of_ble_eq_true rfl) only [s126_17, s126_18, s126_19, s126_22, s126_24, s126_25, s126_26, s126_42, ow_some, true_and, and_true, and_self, if_true, if_false, not_true, not_false_eq_true, Bool.false_eq_true, eq_self, Option.toList, List.cons_append, List.nil_append, ix_in, ix_cl, lt_in, lt_cl, lt_add, ix_one, vu_eq, vu_ne, arI_mk, arL_mk, arY_mZ, arY_mB, alen_mI, fld_sfl_ne, fld_sfl_same, Option.isSome_some, pok_i, b1z, b01, z10, b1o, Int32.zero_add, vu_vu, upd_eq, upd_ne, true_or, or_true, h0', ne_eq]
    exact qg_no Y hf1 Z1 s2 hp W2 (Nat.le_refl _)
theorem day_56 {all : Nat → Int32} {S R P : Nat} (I : IS all S R P) (hd : (all 56).toInt + 1 < 100000) : (m_day all S P (nT all) 56).toInt = (all 56).toInt + 1 ∧ ∀ a, a < 52 ∨ 92 ≤ a → m_day all S P (nT all) a = all a := by
  refine ⟨?_, fun a ha => by rw [m_day, fall_ne (by omega), upd_ne (by omega), upd_ne (by omega)]⟩
  rw [m_day, fall_ne (by omega), upd_ne (by omega), upd_eq]
  have := vb_t I.dy (by omega)
  have e1 : (1 : Int32).toInt = 1 := by decide
  rw [t_add (by omega) (by omega), e1]
theorem sp_daysC (Z : ST f N s S R P D B t) (Y : SCR f) (hB : B + 99 < 100000) {n : Int32} {u2 u3 : Value} : TT X (d + 6) 129 0 [.ref 0, .int n, u2, u3] [] f N K (QG f N K ((o_days s.1 S P D n).1, s.2) (B + 99) (.int (o_days s.1 S P D n).2)) := by
  have I := Z.is
  have r4 := Z.1.r4
  have l1 : (n < (1 : Int32)) = (n.toInt < 1) := by rw [Int32.lt_iff_toInt_lt]; rfl
  have l2 : (n ≤ (99 : Int32)) = (n.toInt ≤ 99) := by rw [Int32.le_iff_toInt_le]; rfl
  have fin : ∀ z : Value, QG f N K s (B + 99) z f N K (some z) := fun z => ⟨rfl, rfl, fun _ _ => rfl, Y, ⟨S, R, P, D, t, Z.up (by omega)⟩, rfl⟩
  unfold o_days
  by_cases h1 : 1 ≤ n.toInt ∧ n.toInt ≤ 99
  · rw [if_pos h1]
    have a1 : (n.toInt < 1) = False := eq_false (by omega)
    have a2 : (n.toInt ≤ 99) = True := eq_true h1.2
    obtain ⟨pl0, w, x, v, r, C, V, W, G, -, -, -, -⟩ := Z.2.1
    have g9 := G.w9
    by_cases h2 : s.1 54 = 1
    · rw [if_pos h2]
      simp (disch := first | omega | decide | assumption | exact Nat.le_of_ble_eq_true rfl) only [s129_0, s129_1, s129_2, s129_5, s129_6, s129_8, s129_14, s129_15, s129_18, s129_21, s129_24, s129_26, ow_some, true_and, and_true, and_self, if_true, if_false, not_true, not_false_eq_true, Bool.false_eq_true, eq_self, Option.toList, List.cons_append, List.nil_append, ix_in, ix_cl, lt_in, lt_cl, lt_add, ix_one, vu_eq, vu_ne, arI_mk, arL_mk, arY_mZ, arY_mB, alen_mI, fld_sfl_ne, fld_sfl_same, Option.isSome_some, pok_i, b1z, b01, z10, b1o, Int32.zero_add, vu_vu, upd_eq, upd_ne, true_or, or_true, V.v1, V.v6, V.v7, V.v8, V.v9, V.i1, V.i6, V.i7, V.i8, V.i9, V.r2, V.r3, V.r4, V.r5, V.pl, V.a2, V.a3, V.a4, V.a5, r4, l1, l2, a1, a2, g9, h2]
      exact fin _
    · rw [if_neg h2]
      have h20 := I.z54 h2
      obtain ⟨M, hM, rfl, hv⟩ := i9 (v := n) (N := 100) (by omega) (by omega) (by omega)
      rw [hv, Int.toNat_natCast]
      simp (disch := first | omega | decide | assumption | exact Nat.le_of_ble_eq_true rfl) only [s129_0, s129_1, s129_2, s129_5, s129_6, s129_8, s129_14, s129_15, s129_18, s129_21, s129_27, ow_some, true_and, and_true, and_self, if_true, if_false, not_true, not_false_eq_true, Bool.false_eq_true, eq_self, Option.toList, List.cons_append, List.nil_append, ix_in, ix_cl, lt_in, lt_cl, lt_add, ix_one, vu_eq, vu_ne, arI_mk, arL_mk, arY_mZ, arY_mB, alen_mI, fld_sfl_ne, fld_sfl_same, Option.isSome_some, pok_i, b1z, b01, z10, b1o, Int32.zero_add, vu_vu, upd_eq, upd_ne, true_or, or_true, V.v1, V.v6, V.v7, V.v8, V.v9, V.i1, V.i6, V.i7, V.i8, V.i9, V.r2, V.r3, V.r4, V.r5, V.pl, V.a2, V.a3, V.a4, V.a5, r4, l1, l2, a1, a2, g9, h20]
      refine k129_28 Z.1.cn (Nat.le_of_ble_eq_true rfl) (sp_keepZ Z Y.2.1) ?_
      rintro f1 n1 k1 v1 ⟨rfl, rfl, rfl, hf1, Z1, j, hj, h7, hk, pl, sd, wy, hp, W1⟩
      simp (disch := first | omega | decide | assumption | exact Nat.le_of_ble_eq_true rfl) only [s129_31, s129_32, s129_33, h129_34, ow_some, true_and, and_true, and_self, if_true, if_false, not_true, not_false_eq_true, Bool.false_eq_true, eq_self, Option.toList, List.cons_append, List.nil_append, ix_in, ix_cl, lt_in, lt_cl, lt_add, ix_one, vu_eq, vu_ne, arI_mk, arL_mk, arY_mZ, arY_mB, alen_mI, fld_sfl_ne, fld_sfl_same, Option.isSome_some, pok_i, b1z, b01, z10, b1o, Int32.zero_add, vu_vu, upd_eq, upd_ne, true_or, or_true]
      have hM1 : 1 ≤ M := by omega
      have tail : ∀ g all k q, SD 12 f1 g → DW g 12 pl all S R P sd wy → 0 < k → mfl all S P → (∀ a, a < 52 ∨ 92 ≤ a → all a = s.1 a) → (all 56).toInt ≤ (s.1 56).toInt + M → m_days S P M 0 s.1 = (k, all) → TT X (d + 6) 129 63 [.ref 0, .int (nI M), .int (nI k), .int (nI q)] [] g n1 k1 (QG f n1 k1 ((m_note (m_days S P M 0 s.1).2 (m_kept s.1) D, nI (m_days S P M 0 s.1).1).1, s.2) (B + 99) (.int (m_note (m_days S P M 0 s.1).2 (m_kept s.1) D, nI (m_days S P M 0 s.1).1).2)) := by
        intro g all k q sg Wg k0 mg he hd hm
        rw [hm]
        have Hg := Z1.1.fr (f' := g) (sg 0 (by omega) (by omega))
        have hZ := Z.day
        simp (disch := first | omega | decide | assumption | exact Nat.le_of_ble_eq_true rfl) only [s129_63, s129_64, ow_some, true_and, and_true, and_self, if_true, if_false, not_true, not_false_eq_true, Bool.false_eq_true, eq_self, Option.toList, List.cons_append, List.nil_append, ix_in, ix_cl, lt_in, lt_cl, lt_add, ix_one, vu_eq, vu_ne, arI_mk, arL_mk, arY_mZ, arY_mB, alen_mI, fld_sfl_ne, fld_sfl_same, Option.isSome_some, pok_i, b1z, b01, z10, b1o, Int32.zero_add, vu_vu, upd_eq, upd_ne, true_or, or_true]
        refine k129_65 Hg.cn (Nat.le_of_ble_eq_true rfl) (sp_didZ (B2 := B + 99) Z1 h7 hj hk sg hp Wg mg (by omega) (by omega) he) ?_
        rintro f3 n3 k3 v3 ⟨rfl, rfl, s3, rfl, Z3⟩
        simp (disch := first | omega | decide | assumption | exact Nat.le_of_ble_eq_true rfl) only [s129_68, ow_some, true_and, and_true, and_self, if_true, if_false, not_true, not_false_eq_true, Bool.false_eq_true, eq_self, Option.toList, List.cons_append, List.nil_append, ix_in, ix_cl, lt_in, lt_cl, lt_add, ix_one, vu_eq, vu_ne, arI_mk, arL_mk, arY_mZ, arY_mB, alen_mI, fld_sfl_ne, fld_sfl_same, Option.isSome_some, pok_i, b1z, b01, z10, b1o, Int32.zero_add, vu_vu, upd_eq, upd_ne, true_or, or_true]
        exact qg_yes Y hf1 sg Wg s3 Z3
      refine lp (fun k g (all : Nat → Int32) => SD 12 f1 g ∧ DW g 12 pl all S R P sd wy ∧ (0 < k ∨ all 54 = 0) ∧ mfl all S P ∧ (∀ a, a < 52 ∨ 92 ≤ a → all a = s.1 a) ∧ (all 56).toInt ≤ (s.1 56).toInt + k ∧ m_days S P M 0 s.1 = m_days S P (M - k) k all) (fun k _ => [.ref 0, .int (nI M), .int (nI k), .int (nI k)]) M ?_ ?_ 0 f1 s.1 (by omega) ⟨SD.rf, W1, Or.inr h20, Z.mf, fun _ _ => rfl, by omega, rfl⟩
      · rintro k g all hk' ⟨sg, Wg, h0, mg, he, hd, hm⟩ hI
        have hc : (M ≤ k) = False := eq_false (by omega)
        obtain ⟨m, hmm⟩ : ∃ m, M - k = m + 1 := ⟨M - k - 1, by omega⟩
        rw [hmm, m_days] at hm
        have Hg := Z1.1.fr (f' := g) (sg 0 (by omega) (by omega))
        have r4g := Hg.r4
        have r14g := Hg.r14
        have hZ := Z.day
        have hdd : (all 56).toInt + 1 < 100000 := by omega
        simp (disch := first | omega | decide | assumption | exact Nat.le_of_ble_eq_true rfl) only [s129_35, s129_36, s129_37, s129_40, s129_41, s129_44, s129_45, ow_some, true_and, and_true, and_self, if_true, if_false, not_true, not_false_eq_true, Bool.false_eq_true, eq_self, Option.toList, List.cons_append, List.nil_append, ix_in, ix_cl, lt_in, lt_cl, lt_add, ix_one, vu_eq, vu_ne, arI_mk, arL_mk, arY_mZ, arY_mB, alen_mI, fld_sfl_ne, fld_sfl_same, Option.isSome_some, pok_i, b1z, b01, z10, b1o, Int32.zero_add, vu_vu, upd_eq, upd_ne, true_or, or_true, ix_le, hc, r4g, r14g]
        refine k129_48 Wg.dv.cn (Nat.le_of_ble_eq_true rfl) (sp_dayGoes Wg hdd) ?_
        rintro f3 n3 k3 v3 ⟨rfl, rfl, s3, W3, rfl⟩
        by_cases h54 : all 54 = 1
        · have h540 : ¬ all 54 = 0 := by rw [h54]; decide
          rw [if_pos h54] at W3
          rw [if_neg h540] at hm
          simp only [h54, if_true]
          simp (disch := first | omega | decide | assumption | exact Nat.le_of_ble_eq_true rfl) only [s129_51, ow_some, true_and, and_true, and_self, if_true, if_false, not_true, not_false_eq_true, Bool.false_eq_true, eq_self, Option.toList, List.cons_append, List.nil_append, ix_in, ix_cl, lt_in, lt_cl, lt_add, ix_one, vu_eq, vu_ne, arI_mk, arL_mk, arY_mZ, arY_mB, alen_mI, fld_sfl_ne, fld_sfl_same, Option.isSome_some, pok_i, b1z, b01, z10, b1o, Int32.zero_add, vu_vu, upd_eq, upd_ne, true_or, or_true]
          exact tail f3 all k k (sg.tr s3) W3 (h0.resolve_right h540) mg he (by omega) hm
        · have h540 := Wg.is.z54 h54
          rw [if_neg h54] at W3
          rw [if_pos h540] at hm
          simp only [h54, if_false]
          obtain ⟨I3, m3⟩ := Wg.is.day h54 hdd
          obtain ⟨q1, q2⟩ := day_56 Wg.is hdd
          simp (disch := first | omega | decide | assumption | exact Nat.le_of_ble_eq_true rfl) only [s129_51, s129_54, s129_57, h129_60, ow_some, true_and, and_true, and_self, if_true, if_false, not_true, not_false_eq_true, Bool.false_eq_true, eq_self, Option.toList, List.cons_append, List.nil_append, ix_in, ix_cl, lt_in, lt_cl, lt_add, ix_one, vu_eq, vu_ne, arI_mk, arL_mk, arY_mZ, arY_mB, alen_mI, fld_sfl_ne, fld_sfl_same, Option.isSome_some, pok_i, b1z, b01, z10, b1o, Int32.zero_add, vu_vu, upd_eq, upd_ne, true_or, or_true]
          exact hI _ (m_day all S P (nT all)) ⟨sg.tr s3, W3, Or.inl (by omega), m3, fun a ha => by rw [q2 a ha]; exact he a ha, by rw [q1]; push_cast; omega, by rw [hm, show M - (k + 1) = m by omega]⟩
      · rintro g all ⟨sg, Wg, h0, mg, he, hd, hm⟩
        rw [Nat.sub_self, m_days] at hm
        simp (disch := first | omega | decide | assumption | exact Nat.le_of_ble_eq_true rfl) only [s129_35, s129_36, s129_37, ow_some, true_and, and_true, and_self, if_true, if_false, not_true, not_false_eq_true, Bool.false_eq_true, eq_self, Option.toList, List.cons_append, List.nil_append, ix_in, ix_cl, lt_in, lt_cl, lt_add, ix_one, vu_eq, vu_ne, arI_mk, arL_mk, arY_mZ, arY_mB, alen_mI, fld_sfl_ne, fld_sfl_same, Option.isSome_some, pok_i, b1z, b01, z10, b1o, Int32.zero_add, vu_vu, upd_eq, upd_ne, true_or, or_true, ix_le, Nat.le_refl]
        exact tail g all M M sg Wg (by omega) mg he hd hm
  · rw [if_neg h1]
    by_cases c : n.toInt < 1
    · have c' : (n.toInt < 1) = True := eq_true c
      simp (disch := first | omega | decide | assumption | exact Nat.le_of_ble_eq_true rfl) only [s129_0, s129_1, s129_2, s129_11, s129_13, ow_some, true_and, and_true, and_self, if_true, if_false, not_true, not_false_eq_true, Bool.false_eq_true, eq_self, Option.toList, List.cons_append, List.nil_append, ix_in, ix_cl, lt_in, lt_cl, lt_add, ix_one, vu_eq, vu_ne, arI_mk, arL_mk, arY_mZ, arY_mB, alen_mI, fld_sfl_ne, fld_sfl_same, Option.isSome_some, pok_i, b1z, b01, z10, b1o, Int32.zero_add, vu_vu, upd_eq, upd_ne, true_or, or_true, l1, c']
      exact fin _
    · have c' : (n.toInt < 1) = False := eq_false c
      have a2 : (n.toInt ≤ 99) = False := eq_false (by omega)
      simp (disch := first | omega | decide | assumption | exact Nat.le_of_ble_eq_true rfl) only [s129_0, s129_1, s129_2, s129_5, s129_6, s129_8, s129_11, s129_13, ow_some, true_and, and_true, and_self, if_true, if_false, not_true, not_false_eq_true, Bool.false_eq_true, eq_self, Option.toList, List.cons_append, List.nil_append, ix_in, ix_cl, lt_in, lt_cl, lt_add, ix_one, vu_eq, vu_ne, arI_mk, arL_mk, arY_mZ, arY_mB, alen_mI, fld_sfl_ne, fld_sfl_same, Option.isSome_some, pok_i, b1z, b01, z10, b1o, Int32.zero_add, vu_vu, upd_eq, upd_ne, true_or, or_true, l1, l2, c', a2]
      exact fin _
end DEED

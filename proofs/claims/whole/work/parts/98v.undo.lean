/-! the class: undo -/
def fmI (x y : Int32) : Int32 := if 0 ≤ x ^^^ y then x - x / y * y else if x - x / y * y = 0 then x - x / y * y else x - x / y * y + y
theorem fm_11 : ∀ j, j < 11 → ∀ n, n < 11 → fmI (nI j - nI n) 11 = nI ((j + 11 - n) % 11) := by decide
section DEED
variable {X : Nat × (Nat → Int32)} {d N K : Nat} {f f' f'' : Nat → e_C} {t t' : Nat → Int32} {s : m_T} {S R P P2 D B B2 j : Nat} {all2 : Nat → Int32}
theorem sp_fm {x y : Int32} (hy : y ≠ 0) {u2 : Value} : PU X d 305 [.int x, .int y, u2] f N K (some (.int (fmI x y))) := by
  unfold PU fmI
  have hy' : (y = 0) = False := eq_false hy
  by_cases h1 : 0 ≤ x ^^^ y
  · have h1' : (0 ≤ x ^^^ y) = True := eq_true h1
    rw [if_pos h1]
    simp (disch := first | omega | decide | assumption | exact Nat.le_of_ble_eq_true rfl) only [s305_0, s305_1, s305_2, s305_3, s305_4, s305_5, s305_6, s305_7, s305_18, s305_19, ow_some, true_and, and_true, and_self, if_true, if_false, not_true, not_false_eq_true, Bool.false_eq_true, eq_self, Option.toList, List.cons_append, List.nil_append, ix_in, ix_cl, lt_in, lt_cl, lt_add, ix_one, vu_eq, vu_ne, arI_mk, arL_mk, arY_mZ, arY_mB, alen_mI, fld_sfl_ne, fld_sfl_same, Option.isSome_some, pok_i, b1z, b01, z10, b1o, Int32.zero_add, vu_vu, upd_eq, upd_ne, true_or, or_true, hy', h1', ne_eq]
  · have h1' : (0 ≤ x ^^^ y) = False := eq_false h1
    rw [if_neg h1]
    by_cases h2 : x - x / y * y = 0
    · have h2' : (x - x / y * y = 0) = True := eq_true h2
      rw [if_pos h2]
      simp (disch := first | omega | decide | assumption | exact Nat.le_of_ble_eq_true rfl) only [s305_0, s305_1, s305_2, s305_3, s305_4, s305_5, s305_6, s305_7, s305_10, s305_11, s305_18, s305_19, ow_some, true_and, and_true, and_self, if_true, if_false, not_true, not_false_eq_true, Bool.false_eq_true, eq_self, Option.toList, List.cons_append, List.nil_append, ix_in, ix_cl, lt_in, lt_cl, lt_add, ix_one, vu_eq, vu_ne, arI_mk, arL_mk, arY_mZ, arY_mB, alen_mI, fld_sfl_ne, fld_sfl_same, Option.isSome_some, pok_i, b1z, b01, z10, b1o, Int32.zero_add, vu_vu, upd_eq, upd_ne, true_or, or_true, hy', h1', h2', ne_eq]
    · have h2' : (x - x / y * y = 0) = False := eq_false h2
      rw [if_neg h2]
      simp (disch := first | omega | decide | assumption | exact Nat.le_of_ble_eq_true rfl) only [s305_0, s305_1, s305_2, s305_3, s305_4, s305_5, s305_6, s305_7, s305_10, s305_11, s305_14, s305_15, s305_16, s305_17, s305_18, s305_19, ow_some, true_and, and_true, and_self, if_true, if_false, not_true, not_false_eq_true, Bool.false_eq_true, eq_self, Option.toList, List.cons_append, List.nil_append, ix_in, ix_cl, lt_in, lt_cl, lt_add, ix_one, vu_eq, vu_ne, arI_mk, arL_mk, arY_mZ, arY_mB, alen_mI, fld_sfl_ne, fld_sfl_same, Option.isSome_some, pok_i, b1z, b01, z10, b1o, Int32.zero_add, vu_vu, upd_eq, upd_ne, true_or, or_true, hy', h1', h2', ne_eq]
/-- the scene is another one, rows are brought back -/
theorem ST.mk2 {S' R' P' D' j' : Nat} (Z : ST f N s S R P D B t) (hf : ∀ b, b < 112 ∨ (189 ≤ b ∧ b < N) → ¬ (12 ≤ b ∧ b < 17) → b ≠ 0 → f' b = f b) (h12 : SR f' N 12 all2 S' R' P' B2) (hB : B ≤ B2) (H' : HV f' t') (hps : PSt f' N all2 S' R' D' B2 j') (h7 : t' 7 = nI j') (h8 : t' 8 = nI D') (ht : t' 1 = t 1 ∧ t' 2 = t 2 ∧ t' 3 = t 3) (he : ∀ a, 1394 ≤ a → all2 a = s.1 a) : ST f' N (all2, s.2) S' R' P' D' B2 t' := by
  obtain ⟨a1, a2, a3, ⟨j', b1, b2, b3⟩, a5, a6, a7, a8, a9⟩ := Z
  refine ⟨H', h12, a3.fr (fun b h1 h2 => hf b (by omega) (by omega) (by omega)), ⟨_, h7, h8, hps⟩, ?_, a6.fr (fun b h1 h2 => hf b (by omega) (by omega) (by omega)), ?_, ?_, ?_⟩
  · obtain ⟨c1, c2, c3, c4⟩ := a5
    refine ⟨by rw [hf 78 (by omega) (by omega) (by omega)]; exact c1, by rw [hf 89 (by omega) (by omega) (by omega)]; exact c2, fun i hi => (c3 i hi).fr (fun b h1 h2 => hf b (by omega) (by omega) (by omega)), fun i hi hz => ?_⟩
    obtain ⟨S', R', P', h⟩ := c4 i hi hz
    exact ⟨S', R', P', (h.fr (Nat.le_refl _) hB (fun b hb => hf b (by omega) (by omega) (by omega))).cb (fun a ha => he _ (by omega))⟩
  · obtain ⟨tb, F, h1, h2, h3, h4⟩ := a7
    exact ⟨tb, F, by rw [hf 1 (by omega) (by omega) (by omega)]; exact h1, by rw [ht.1]; exact h2, h3, h4⟩
  · rw [ht.2.1, ht.2.2]; exact a8
  · unfold RDV; rw [hf 99 (by omega) (by omega) (by omega), hf 100 (by omega) (by omega) (by omega), hf 101 (by omega) (by omega) (by omega)]; exact a9
theorem ring_u {j n i : Nat} (hj : j < 11) (hn : 1 ≤ n) (hi : n + i < 11) : ((j + 11 - n) % 11 + 10 - i) % 11 = (j + 10 - (n + i)) % 11 := by omega
theorem sp_undoC (Z : ST f N s S R P D B t) (Y : SCR f) {n : Int32} : TT X (d + 6) 130 0 [.ref 0, .int n] [] f N K (QG f N K ((o_undo s.1 D n).1, s.2) B (.int (o_undo s.1 D n).2)) := by
  have I := Z.is
  have H := Z.1
  obtain ⟨j, hj, h7, h8, hD, h92⟩ := Z.jx
  have v8 := H.v8
  have v7 := H.v7
  have l1 : (n < (1 : Int32)) = (n.toInt < 1) := by rw [Int32.lt_iff_toInt_lt]; rfl
  have l2 : ((10 : Int32) < n) = (10 < n.toInt) := by rw [Int32.lt_iff_toInt_lt]; rfl
  have l3 : (n ≤ nI D) = (n.toInt ≤ D) := by rw [Int32.le_iff_toInt_le, nI_toInt (by omega)]
  have fin : ∀ z : Value, QG f N K s B z f N K (some z) := fun z => ⟨rfl, rfl, fun _ _ => rfl, Y, ⟨S, R, P, D, t, Z⟩, rfl⟩
  unfold o_undo
  by_cases h1 : (1 ≤ n.toInt ∧ n.toInt ≤ 10) ∧ n.toInt ≤ D
  · rw [if_pos h1]
    obtain ⟨M, hM, rfl, hv⟩ := i9 (v := n) (N := 11) (by omega) (by omega) (by omega)
    rw [hv] at h1 l1 l2 l3 ⊢
    rw [Int.toNat_natCast]
    have a1 : ((M : Int) < 1) = False := eq_false (by omega)
    have a2 : ((10 : Int) < M) = False := eq_false (by omega)
    have a3 : ((M : Int) ≤ D) = True := eq_true h1.2
    simp (disch := first | omega | decide | assumption | exact Nat.le_of_ble_eq_true rfl) only [s130_0, s130_1, s130_2, s130_5, s130_6, s130_8, s130_11, s130_12, s130_13, s130_16, s130_22, s130_23, s130_24, s130_27, s130_28, s130_29, ow_some, true_and, and_true, and_self, if_true, if_false, not_true, not_false_eq_true, Bool.false_eq_true, eq_self, Option.toList, List.cons_append, List.nil_append, ix_in, ix_cl, lt_in, lt_cl, lt_add, ix_one, vu_eq, vu_ne, arI_mk, arL_mk, arY_mZ, arY_mB, alen_mI, fld_sfl_ne, fld_sfl_same, Option.isSome_some, pok_i, b1z, b01, z10, b1o, Int32.zero_add, vu_vu, upd_eq, upd_ne, true_or, or_true, v8, v7, h8, h7, l1, l2, l3, a1, a2, a3]
    rw [p130_31 (Nat.le_of_ble_eq_true rfl) (sp_fm (by decide)), fm_11 j hj M hM]
    have i7 := hv_p7 H
    simp (disch := first | omega | decide | assumption | exact Nat.le_of_ble_eq_true rfl) only [s130_34, ow_some, true_and, and_true, and_self, if_true, if_false, not_true, not_false_eq_true, Bool.false_eq_true, eq_self, Option.toList, List.cons_append, List.nil_append, ix_in, ix_cl, lt_in, lt_cl, lt_add, ix_one, vu_eq, vu_ne, arI_mk, arL_mk, arY_mZ, arY_mB, alen_mI, fld_sfl_ne, fld_sfl_same, Option.isSome_some, pok_i, b1z, b01, z10, b1o, Int32.zero_add, vu_vu, upd_eq, upd_ne, true_or, or_true, i7]
    have H1 := H.set (i := 7) (z := nI ((j + 11 - M) % 11)) (by decide)
    have s1 : SI 0 1 f (va_up f 0 (sfl (f 0) 7 (.int (nI ((j + 11 - M) % 11))))) := SI.up (by omega) (by omega)
    generalize va_up f 0 (sfl (f 0) 7 (.int (nI ((j + 11 - M) % 11)))) = f1 at H1 s1 ⊢
    have v8' := H1.v8
    have i8 := hv_p8 H1
    have h8' : upd t 7 (nI ((j + 11 - M) % 11)) 8 = nI D := by rw [upd_ne (by decide)]; exact h8
    have es : nI D - nI M = nI (D - M) := pk_sub (by omega)
    simp (disch := first | omega | decide | assumption | exact Nat.le_of_ble_eq_true rfl) only [s130_37, s130_38, s130_38i, s130_39, s130_42, s130_43, s130_44, ow_some, true_and, and_true, and_self, if_true, if_false, not_true, not_false_eq_true, Bool.false_eq_true, eq_self, Option.toList, List.cons_append, List.nil_append, ix_in, ix_cl, lt_in, lt_cl, lt_add, ix_one, vu_eq, vu_ne, arI_mk, arL_mk, arY_mZ, arY_mB, alen_mI, fld_sfl_ne, fld_sfl_same, Option.isSome_some, pok_i, b1z, b01, z10, b1o, Int32.zero_add, vu_vu, upd_eq, upd_ne, true_or, or_true, v8', h8', h8, i8, es]
    have H2 := H1.set (i := 8) (z := nI (D - M)) (by decide)
    have s2 : SI 0 1 f (va_up f1 0 (sfl (f1 0) 8 (.int (nI (D - M))))) := s1.tr (SI.up (by omega) (by omega))
    generalize va_up f1 0 (sfl (f1 0) 8 (.int (nI (D - M)))) = f2 at H2 s2 ⊢
    obtain ⟨a1', a2', a3', ⟨j', b1, b2, b3⟩, a5⟩ := id Z
    have e : j' = j := by
      have h5 := b3.2.2.2.2.1
      rw [b1] at h7
      have := congrArg Int32.toInt h7
      rw [nI_toInt (by omega), nI_toInt (by omega)] at this
      omega
    subst e
    obtain ⟨⟨g, hg, hgi⟩, c2, c3, c4, c5, c6⟩ := b3
    obtain ⟨P', h⟩ := c6 (M - 1) (by omega)
    have hjm : (j' + 10 - (M - 1)) % 11 = (j' + 11 - M) % 11 := by omega
    rw [hjm, show D - 1 - (M - 1) = D - M by omega] at h
    have hlt : (j' + 11 - M) % 11 < 11 := Nat.mod_lt _ (by omega)
    have hS := h
    have hM0 := h1.1.1
    generalize hjq : (j' + 11 - M) % 11 = jq at *
    obtain ⟨pl, w, x, v, r, C, V, W, G, I', m, hp, hb⟩ := h
    have V2 := V.fr (f' := f2) (fun b h1 h2 => s2 b (by omega))
    obtain ⟨plo, wo, xo, vo, ro, Co, Vo, -⟩ := a2'
    have Vo2 := Vo.fr (f' := f2) (fun b h1 h2 => s2 b (by omega))
    have r4 := H2.r4
    have r6 := H2.r6
    have v7' := H2.v7
    have t7 : upd (upd t 7 (nI jq)) 8 (nI (D - M)) 7 = nI jq := by rw [upd_ne (by decide), upd_eq]
    have t8 : upd (upd t 7 (nI jq)) 8 (nI (D - M)) 8 = nI (D - M) := upd_eq
    have gj := hgi jq hlt
    have hg' : arS (f2 22) = some (11, g) := by rw [s2 22 (by omega)]; exact hg
    have h9 : w 9 = 0 ∨ w 9 = 1 := by rw [G.w9]; exact I'.fl
    simp (disch := first | omega | decide | assumption | exact Nat.le_of_ble_eq_true rfl) only [s130_47, s130_48, s130_51, s130_52, s130_55, s130_56, y130_59, ow_some, true_and, and_true, and_self, if_true, if_false, not_true, not_false_eq_true, Bool.false_eq_true, eq_self, Option.toList, List.cons_append, List.nil_append, ix_in, ix_cl, lt_in, lt_cl, lt_add, ix_one, vu_eq, vu_ne, arI_mk, arL_mk, arY_mZ, arY_mB, alen_mI, fld_sfl_ne, fld_sfl_same, Option.isSome_some, pok_i, b1z, b01, z10, b1o, Int32.zero_add, vu_vu, upd_eq, upd_ne, true_or, or_true, r4, r6, v7', t7, hg', gj, va_rf_s]
    refine k130_60 Vo2.cn (Nat.le_of_ble_eq_true rfl) (sp_copyFrom Vo2 V2 (by omega) h9) ?_
    rintro f3 n3 k3 v3 ⟨rfl, rfl, rfl, s3, w3, x3, V3, e3⟩
    have H3 := H2.fr (f' := f3) (s3 0 (by omega))
    have v83 := H3.v8
    simp (disch := first | omega | decide | assumption | exact Nat.le_of_ble_eq_true rfl) only [s130_63, s130_64, s130_67, ow_some, true_and, and_true, and_self, if_true, if_false, not_true, not_false_eq_true, Bool.false_eq_true, eq_self, Option.toList, List.cons_append, List.nil_append, ix_in, ix_cl, lt_in, lt_cl, lt_add, ix_one, vu_eq, vu_ne, arI_mk, arL_mk, arY_mZ, arY_mB, alen_mI, fld_sfl_ne, fld_sfl_same, Option.isSome_some, pok_i, b1z, b01, z10, b1o, Int32.zero_add, vu_vu, upd_eq, upd_ne, true_or, or_true, v83, t8]
    have hall : ∀ b, b ≠ 0 → ¬ (12 ≤ b ∧ b < 17) → f3 b = f b := fun b h1 h2 => by rw [s3 b (by omega)]; exact s2 b (by omega)
    have W3 : PV f3 pl v r C := W.fr (fun b h1 h2 => hall b (by rcases hp with rfl | hp <;> omega) (by rcases hp with rfl | hp <;> omega))
    have hm : cg4 (brow s.1 (D - M)) (m_back (upd s.1 92 (nI (D - M))) (fun i => s.1 (93 + 40 * (D - M) + i)) 40) := by
      intro a ha
      by_cases hh : 52 ≤ a ∧ a < 92
      · rw [brow_in hh, m_back, if_pos (by omega)]
      · rw [brow_out (by omega), m_back, if_neg (by omega), upd_ne (by omega)]
    have hS3 : SR f3 n3 12 (brow s.1 (D - M)) S R P' B := ⟨pl, w3, x3, v, r, C, V3, W3, G.same e3 I'.p9, I', m, hp, hb⟩
    refine ⟨rfl, rfl, fun b hb => hall b (by omega) (by omega), Y.fr (fun b h1 h2 => hall b (by omega) (by omega)), ⟨S, R, P', D - M, _, Z.mk2 (fun b h1 h2 h3 => hall b h3 h2) (hS3.cb hm) (Nat.le_refl _) H3 ?_ t7 t8 ⟨by rw [upd_ne (by decide), upd_ne (by decide)], by rw [upd_ne (by decide), upd_ne (by decide)], by rw [upd_ne (by decide), upd_ne (by decide)]⟩ (fun a ha => by rw [m_back, if_neg (by omega), upd_ne (by omega)])⟩, rfl⟩
    refine ⟨⟨g, by rw [hall 22 (by omega) (by omega)]; exact hg, hgi⟩, fun i hi => (c2 i hi).fr (fun b h1 h2 => hall b (by omega) (by omega)), by rw [m_back, if_neg (by omega), upd_eq], by omega, hlt, fun i hi => ?_⟩
    obtain ⟨P2, h2⟩ := c6 (M + i) (by omega)
    have e1 := ring_u (j := j') (n := M) (i := i) hj (by omega) (by omega)
    rw [hjq] at e1
    rw [e1]
    have := Nat.mod_lt (j' + 10 - (M + i)) (show 11 > 0 by omega)
    refine ⟨P2, (h2.fr (Nat.le_refl _) (Nat.le_refl _) (fun b hb => hall b (by omega) (by omega))).cb (brow_cg (fun k hk => ?_) (fun a ha => ?_))⟩
    · rw [m_back, if_neg (by omega), upd_ne (by omega), show D - M - 1 - i = D - 1 - (M + i) by omega]
    · rw [m_back, if_neg (by omega), upd_ne (by omega)]
  · rw [if_neg h1]
    by_cases c : n.toInt < 1
    · have c' : (n.toInt < 1) = True := eq_true c
      simp (disch := first | omega | decide | assumption | exact Nat.le_of_ble_eq_true rfl) only [s130_0, s130_1, s130_2, s130_19, s130_21, ow_some, true_and, and_true, and_self, if_true, if_false, not_true, not_false_eq_true, Bool.false_eq_true, eq_self, Option.toList, List.cons_append, List.nil_append, ix_in, ix_cl, lt_in, lt_cl, lt_add, ix_one, vu_eq, vu_ne, arI_mk, arL_mk, arY_mZ, arY_mB, alen_mI, fld_sfl_ne, fld_sfl_same, Option.isSome_some, pok_i, b1z, b01, z10, b1o, Int32.zero_add, vu_vu, upd_eq, upd_ne, true_or, or_true, l1, c']
      exact fin _
    · have c' : (n.toInt < 1) = False := eq_false c
      by_cases c2 : 10 < n.toInt
      · have c2' : (10 < n.toInt) = True := eq_true c2
        simp (disch := first | omega | decide | assumption | exact Nat.le_of_ble_eq_true rfl) only [s130_0, s130_1, s130_2, s130_5, s130_6, s130_8, s130_19, s130_21, ow_some, true_and, and_true, and_self, if_true, if_false, not_true, not_false_eq_true, Bool.false_eq_true, eq_self, Option.toList, List.cons_append, List.nil_append, ix_in, ix_cl, lt_in, lt_cl, lt_add, ix_one, vu_eq, vu_ne, arI_mk, arL_mk, arY_mZ, arY_mB, alen_mI, fld_sfl_ne, fld_sfl_same, Option.isSome_some, pok_i, b1z, b01, z10, b1o, Int32.zero_add, vu_vu, upd_eq, upd_ne, true_or, or_true, l1, l2, c', c2']
        exact fin _
      · have c2' : (10 < n.toInt) = False := eq_false c2
        have a3 : (n.toInt ≤ (D : Int)) = False := eq_false (by omega)
        simp (disch := first | omega | decide | assumption | exact Nat.le_of_ble_eq_true rfl) only [s130_0, s130_1, s130_2, s130_5, s130_6, s130_8, s130_11, s130_12, s130_13, s130_16, s130_19, s130_21, ow_some, true_and, and_true, and_self, if_true, if_false, not_true, not_false_eq_true, Bool.false_eq_true, eq_self, Option.toList, List.cons_append, List.nil_append, ix_in, ix_cl, lt_in, lt_cl, lt_add, ix_one, vu_eq, vu_ne, arI_mk, arL_mk, arY_mZ, arY_mB, alen_mI, fld_sfl_ne, fld_sfl_same, Option.isSome_some, pok_i, b1z, b01, z10, b1o, Int32.zero_add, vu_vu, upd_eq, upd_ne, true_or, or_true, v8, h8, l1, l2, l3, c', c2', a3]
        exact fin _
end DEED

/-! the class: deeds asked from outside -/
/-- what a call of the class leaves -/
def QG (f : Nat → e_C) (N K : Nat) (s' : m_T) (B : Nat) (z : Value) : t_Q := fun f' n' k' v => n' = N ∧ k' = K ∧ (∀ b, 171 ≤ b ∧ b < 189 → f' b = f b) ∧ SCR f' ∧ (∃ S R P D t, ST f' N s' S R P D B t) ∧ v = some z
theorem SCR.d {f f' : Nat → e_C} (Y : SCR f) (h : ∀ b, (112 ≤ b ∧ b < 119) ∨ (127 ≤ b ∧ b < 171) → f' b = f b) (y2 : sc2 f') : SCR f' := by
  obtain ⟨a1, a2, a3, a4, a5, a6⟩ := Y
  exact ⟨sc1.fr a1 (fun b h1 h2 => h b (by omega)), y2, sc3.fr a3 (fun b h1 h2 => h b (by omega)), sc4.fr a4 (fun b h1 h2 => h b (by omega)), sc5.fr a5 (fun b h1 h2 => h b (by omega)), sc6.fr a6 (fun b h1 h2 => h b (by omega))⟩
section DEED
variable {X : Nat × (Nat → Int32)} {d N K : Nat} {f f' f'' : Nat → e_C} {t t' : Nat → Int32} {s : m_T} {S R P P2 D B B2 j : Nat} {all2 : Nat → Int32}
theorem ST.day (Z : ST f N s S R P D B t) : (s.1 56).toInt ≤ B := by
  obtain ⟨pl', w, x, v, r, C, -, -, -, -, m, -, hb⟩ := Z.2.1
  exact hb
theorem ST.is (Z : ST f N s S R P D B t) : IS s.1 S R P := by
  obtain ⟨pl', w, x, v, r, C, -, -, -, I, m, -, hb⟩ := Z.2.1
  exact I
theorem ST.mf (Z : ST f N s S R P D B t) : mfl s.1 S P := by
  obtain ⟨pl', w, x, v, r, C, -, -, -, I, m, -, hb⟩ := Z.2.1
  exact m
theorem ST.up {B' : Nat} (Z : ST f N s S R P D B t) (h : B ≤ B') : ST f N s S R P D B' t := Z.fr (Nat.le_refl _) h (fun _ _ => rfl)
theorem DW.sv {a pl : Nat} {sd wy : Int32} (h : DW f a pl all2 S R P sd wy) : ∃ w x, SV f a pl w x ∧ (w 1 = all2 52 ∧ w 6 = all2 53 ∧ w 9 = all2 54) ∧ ∀ k, k < 8 → x 5 k = all2 (84 + k) := by
  obtain ⟨w, x, v, r, C, y, L, D, V, W, G, I, hd⟩ := h
  exact ⟨w, x, V, ⟨G.w1, G.w6, G.w9⟩, fun k hk => G.x5 hk⟩
/-- a call that did nothing -/
theorem qg_no {pl : Nat} {sd wy : Int32} {B' : Nat} {z : Value} (Y : SCR f) (h1 : ∀ b, ¬ (23 ≤ b ∧ b < 78) → f' b = f b) (Z1 : ST f' N s S R P D B t) (h2 : SD 12 f' f'') (hp : okp N pl) (W2 : DW f'' 12 pl s.1 S R P sd wy) (hB : B ≤ B') : QG f N K s B' z f'' N K (some z) := by
  have hc : ∀ b, 112 ≤ b → ¬ (119 ≤ b ∧ b < 127) → f'' b = f b := fun b b1 b2 => by rw [h2 b (by omega) b2]; exact h1 b (by omega)
  exact ⟨rfl, rfl, fun b hb => hc b (by omega) (by omega), Y.d (fun b hb => hc b (by omega) (by omega)) W2.sc, ⟨S, R, P, D, t, (Z1.no h2 hp W2).up hB⟩, rfl⟩
theorem qg_yes {pl : Nat} {sd wy : Int32} {f3 : Nat → e_C} {s' : m_T} {z : Value} (Y : SCR f) (h1 : ∀ b, ¬ (23 ≤ b ∧ b < 78) → f' b = f b) (h2 : SD 12 f' f'') (W2 : DW f'' 12 pl all2 S R P2 sd wy) (h3 : SI 0 1 f'' f3) (h4 : ∃ t', ST f3 N s' S R P2 D B t') : QG f N K s' B z f3 N K (some z) := by
  have hc : ∀ b, 112 ≤ b → ¬ (119 ≤ b ∧ b < 127) → f3 b = f b := fun b b1 b2 => by rw [h3 b (by omega), h2 b (by omega) b2]; exact h1 b (by omega)
  obtain ⟨t', Z'⟩ := h4
  exact ⟨rfl, rfl, fun b hb => hc b (by omega) (by omega), Y.d (fun b hb => hc b (by omega) (by omega)) (W2.sc.fr (fun b _ _ => h3 b (by omega))), ⟨S, R, P2, D, t', Z'⟩, rfl⟩
theorem sp_seeC (Z : ST f N s S R P D B t) (Y : SCR f) {p : Int32} {u2 : Value} : TT X (d + 6) 123 0 [.ref 0, .int p, u2] [] f N K (QG f N K ((o_see s.1 S P D p).1, s.2) B (.int (o_see s.1 S P D p).2)) := by
  have I := Z.is
  simp (disch := first | omega | decide | assumption | exact Nat.le_of_ble_eq_true rfl) only [s123_0, ow_some, true_and, and_true, and_self, if_true, if_false, not_true, not_false_eq_true, Bool.false_eq_true, eq_self, Option.toList, List.cons_append, List.nil_append, ix_in, ix_cl, lt_in, lt_cl, lt_add, ix_one, vu_eq, vu_ne, arI_mk, arL_mk, arY_mZ, arY_mB, alen_mI, fld_sfl_ne, fld_sfl_same, Option.isSome_some, pok_i, b1z, b01, z10, b1o, Int32.zero_add, vu_vu, upd_eq, upd_ne, true_or, or_true]
  refine k123_1 Z.1.cn (Nat.le_of_ble_eq_true rfl) (sp_keepZ Z Y.2.1) ?_
  rintro f1 n1 k1 v1 ⟨rfl, rfl, rfl, hf1, Z1, j, hj, h7, hk, pl, sd, wy, hp, W1⟩
  have r4 := Z1.1.r4
  have r14 := Z1.1.r14
  simp (disch := first | omega | decide | assumption | exact Nat.le_of_ble_eq_true rfl) only [s123_4, s123_5, s123_8, s123_9, s123_12, ow_some, true_and, and_true, and_self, if_true, if_false, not_true, not_false_eq_true, Bool.false_eq_true, eq_self, Option.toList, List.cons_append, List.nil_append, ix_in, ix_cl, lt_in, lt_cl, lt_add, ix_one, vu_eq, vu_ne, arI_mk, arL_mk, arY_mZ, arY_mB, alen_mI, fld_sfl_ne, fld_sfl_same, Option.isSome_some, pok_i, b1z, b01, z10, b1o, Int32.zero_add, vu_vu, upd_eq, upd_ne, true_or, or_true, r4, r14]
  refine k123_13 W1.dv.cn (Nat.le_of_ble_eq_true rfl) (sp_seeOne W1) ?_
  rintro f2 n2 k2 v2 ⟨rfl, rfl, s2, W2, rfl⟩
  unfold o_see
  by_cases h0 : w_see s.1 P (nT s.1) p.toInt = 0
  · rw [if_pos h0] at W2 ⊢
    obtain ⟨I2, m2⟩ := I.see h0
    have H2 := Z1.1.fr (f' := f2) (s2 0 (by omega) (by omega))
    have r4' := H2.r4
    obtain ⟨w2, x2, V2, ⟨g1, g6, g9⟩, -⟩ := W2.sv
    have hT2 : nT (m_see s.1 S P (nT s.1) p.toInt.toNat) = clr (nT s.1) p.toInt.toNat := by rw [see_eq I.t5, fall_nT, see_nT I.t5]
    have g6' : w2 6 = nI (clr (nT s.1) p.toInt.toNat) := by rw [g6, I2.eT, hT2]
    simp (disch := first | omega | decide | assumption | exact Nat.le_of_ble_eq_true rfl) only [s123_16, s123_17, s123_18, s123_28, s123_29, s123_30, s123_33, ow_some, true_and, and_true, and_self, if_true, if_false, not_true, not_false_eq_true, Bool.false_eq_true, eq_self, Option.toList, List.cons_append, List.nil_append, ix_in, ix_cl, lt_in, lt_cl, lt_add, ix_one, vu_eq, vu_ne, arI_mk, arL_mk, arY_mZ, arY_mB, alen_mI, fld_sfl_ne, fld_sfl_same, Option.isSome_some, pok_i, b1z, b01, z10, b1o, Int32.zero_add, vu_vu, upd_eq, upd_ne, true_or, or_true, V2.v1, V2.v6, V2.v7, V2.v8, V2.v9, V2.i1, V2.i6, V2.i7, V2.i8, V2.i9, V2.r2, V2.r3, V2.r4, V2.r5, V2.pl, V2.a2, V2.a3, V2.a4, V2.a5, r4', h0, g6', ne_eq]
    rw [p123_36 (Nat.le_of_ble_eq_true rfl) (sp_bitCount (by rw [← hT2]; exact I2.t5))]
    have hday : (m_see s.1 S P (nT s.1) p.toInt.toNat 56).toInt ≤ B := by
      rw [m_see, fall_ne (by omega), upd_ne (by omega), upd_ne (by omega)]; exact Z.day
    refine k123_39 H2.cn (Nat.le_of_ble_eq_true rfl) (sp_didZ Z1 h7 hj hk s2 hp W2 m2 hday (Nat.le_refl _) (fun a ha => by rw [m_see, fall_ne (by omega), upd_ne (by omega), upd_ne (by omega)])) ?_
    rintro f3 n3 k3 v3 ⟨rfl, rfl, s3, rfl, Z3⟩
    simp (disch := first | omega | decide | assumption | exact Nat.le_of_ble_eq_true rfl) only [s123_42, ow_some, true_and, and_true, and_self, if_true, if_false, not_true, not_false_eq_true, Bool.false_eq_true, eq_self, Option.toList, List.cons_append, List.nil_append, ix_in, ix_cl, lt_in, lt_cl, lt_add, ix_one, vu_eq, vu_ne, arI_mk, arL_mk, arY_mZ, arY_mB, alen_mI, fld_sfl_ne, fld_sfl_same, Option.isSome_some, pok_i, b1z, b01, z10, b1o, Int32.zero_add, vu_vu, upd_eq, upd_ne, true_or, or_true]
    exact qg_yes Y hf1 s2 W2 s3 Z3
  · rw [if_neg h0] at W2 ⊢
    have h0' : (w_see s.1 P (nT s.1) p.toInt = 0) = False := eq_false h0
    simp (disch := first | omega | decide | assumption | exact Nat.le_of_ble_eq_true rfl) only [s123_16, s123_17, s123_18, s123_21, s123_23, s123_24, s123_25, s123_42, ow_some, true_and, and_true, and_self, if_true, if_false, not_true, not_false_eq_true, Bool.false_eq_true, eq_self, Option.toList, List.cons_append, List.nil_append, ix_in, ix_cl, lt_in, lt_cl, lt_add, ix_one, vu_eq, vu_ne, arI_mk, arL_mk, arY_mZ, arY_mB, alen_mI, fld_sfl_ne, fld_sfl_same, Option.isSome_some, pok_i, b1z, b01, z10, b1o, Int32.zero_add, vu_vu, upd_eq, upd_ne, true_or, or_true, h0', ne_eq]
    exact qg_no Y hf1 Z1 s2 hp W2 (Nat.le_refl _)
theorem sp_moveC (Z : ST f N s S R P D B t) (Y : SCR f) {p k : Int32} {u3 : Value} : TT X (d + 6) 127 0 [.ref 0, .int p, .int k, u3] [] f N K (QG f N K ((o_move s.1 S P D p k).1, s.2) B (.int (o_move s.1 S P D p k).2)) := by
  have I := Z.is
  simp (disch := first | omega | decide | assumption | exact Nat.le_of_ble_eq_true rfl) only [s127_0, ow_some, true_and, and_true, and_self, if_true, if_false, not_true, not_false_eq_true, Bool.false_eq_true, eq_self, Option.toList, List.cons_append, List.nil_append, ix_in, ix_cl, lt_in, lt_cl, lt_add, ix_one, vu_eq, vu_ne, arI_mk, arL_mk, arY_mZ, arY_mB, alen_mI, fld_sfl_ne, fld_sfl_same, Option.isSome_some, pok_i, b1z, b01, z10, b1o, Int32.zero_add, vu_vu, upd_eq, upd_ne, true_or, or_true]
  refine k127_1 Z.1.cn (Nat.le_of_ble_eq_true rfl) (sp_keepZ Z Y.2.1) ?_
  rintro f1 n1 k1 v1 ⟨rfl, rfl, rfl, hf1, Z1, j, hj, h7, hk, pl, sd, wy, hp, W1⟩
  have r4 := Z1.1.r4
  have r14 := Z1.1.r14
  simp (disch := first | omega | decide | assumption | exact Nat.le_of_ble_eq_true rfl) only [s127_4, s127_5, s127_8, s127_9, s127_12, s127_13, ow_some, true_and, and_true, and_self, if_true, if_false, not_true, not_false_eq_true, Bool.false_eq_true, eq_self, Option.toList, List.cons_append, List.nil_append, ix_in, ix_cl, lt_in, lt_cl, lt_add, ix_one, vu_eq, vu_ne, arI_mk, arL_mk, arY_mZ, arY_mB, alen_mI, fld_sfl_ne, fld_sfl_same, Option.isSome_some, pok_i, b1z, b01, z10, b1o, Int32.zero_add, vu_vu, upd_eq, upd_ne, true_or, or_true, r4, r14]
  refine k127_14 W1.dv.cn (Nat.le_of_ble_eq_true rfl) (sp_moveOne W1) ?_
  rintro f2 n2 k2 v2 ⟨rfl, rfl, s2, W2, rfl⟩
  unfold o_move
  have h9 := I.p9
  by_cases h0 : w_move s.1 S P (nT s.1) p.toInt k.toInt = 0
  · rw [if_pos h0] at W2 ⊢
    obtain ⟨I2, m2⟩ := I.move h0
    obtain ⟨⟨q1, q2⟩, -⟩ := w_move_f h0
    have H2 := Z1.1.fr (f' := f2) (s2 0 (by omega) (by omega))
    have r4' := H2.r4
    obtain ⟨w2, x2, V2, ⟨g1, g6, g9⟩, -⟩ := W2.sv
    have hday : (m_move s.1 S P (nT s.1) p.toInt.toNat k.toInt.toNat 56).toInt ≤ B := by
      rw [m_move, fall_ne (by omega), upd_ne (by omega)]; exact Z.day
    have he : ∀ a, a < 52 ∨ 92 ≤ a → m_move s.1 S P (nT s.1) p.toInt.toNat k.toInt.toNat a = s.1 a := fun a ha => by rw [m_move, fall_ne (by omega), upd_ne (by omega)]
    rcases I2.fl with z | z
    · have g9' : w2 9 = 0 := by rw [g9]; exact z
      simp (disch := first | omega | decide | assumption | exact Nat.le_of_ble_eq_true rfl) only [s127_17, s127_18, s127_19, s127_29, s127_30, s127_31, s127_34, s127_37, s127_44, ow_some, true_and, and_true, and_self, if_true, if_false, not_true, not_false_eq_true, Bool.false_eq_true, eq_self, Option.toList, List.cons_append, List.nil_append, ix_in, ix_cl, lt_in, lt_cl, lt_add, ix_one, vu_eq, vu_ne, arI_mk, arL_mk, arY_mZ, arY_mB, alen_mI, fld_sfl_ne, fld_sfl_same, Option.isSome_some, pok_i, b1z, b01, z10, b1o, Int32.zero_add, vu_vu, upd_eq, upd_ne, true_or, or_true, V2.v1, V2.v6, V2.v7, V2.v8, V2.v9, V2.i1, V2.i6, V2.i7, V2.i8, V2.i9, V2.r2, V2.r3, V2.r4, V2.r5, V2.pl, V2.a2, V2.a3, V2.a4, V2.a5, r4', h0, g9', ne_eq]
      rw [z]
      refine k127_45 H2.cn (Nat.le_of_ble_eq_true rfl) (sp_didZ Z1 h7 hj hk s2 hp W2 m2 hday (Nat.le_refl _) he) ?_
      rintro f3 n3 k3 v3 ⟨rfl, rfl, s3, rfl, Z3⟩
      simp (disch := first | omega | decide | assumption | exact Nat.le_of_ble_eq_true rfl) only [s127_48, ow_some, true_and, and_true, and_self, if_true, if_false, not_true, not_false_eq_true, Bool.false_eq_true, eq_self, Option.toList, List.cons_append, List.nil_append, ix_in, ix_cl, lt_in, lt_cl, lt_add, ix_one, vu_eq, vu_ne, arI_mk, arL_mk, arY_mZ, arY_mB, alen_mI, fld_sfl_ne, fld_sfl_same, Option.isSome_some, pok_i, b1z, b01, z10, b1o, Int32.zero_add, vu_vu, upd_eq, upd_ne, true_or, or_true]
      exact qg_yes Y hf1 s2 W2 s3 Z3
    · have g9' : w2 9 = 1 := by rw [g9]; exact z
      simp (disch := first | omega | decide | assumption | exact Nat.le_of_ble_eq_true rfl) only [s127_17, s127_18, s127_19, s127_29, s127_30, s127_31, s127_34, s127_37, s127_40, s127_41, ow_some, true_and, and_true, and_self, if_true, if_false, not_true, not_false_eq_true, Bool.false_eq_true, eq_self, Option.toList, List.cons_append, List.nil_append, ix_in, ix_cl, lt_in, lt_cl, lt_add, ix_one, vu_eq, vu_ne, arI_mk, arL_mk, arY_mZ, arY_mB, alen_mI, fld_sfl_ne, fld_sfl_same, Option.isSome_some, pok_i, b1z, b01, z10, b1o, Int32.zero_add, vu_vu, upd_eq, upd_ne, true_or, or_true, V2.v1, V2.v6, V2.v7, V2.v8, V2.v9, V2.i1, V2.i6, V2.i7, V2.i8, V2.i9, V2.r2, V2.r3, V2.r4, V2.r5, V2.pl, V2.a2, V2.a3, V2.a4, V2.a5, r4', h0, g9', ne_eq]
      rw [z]
      refine k127_45 H2.cn (Nat.le_of_ble_eq_true rfl) (sp_didZ Z1 h7 hj hk s2 hp W2 m2 hday (Nat.le_refl _) he) ?_
      rintro f3 n3 k3 v3 ⟨rfl, rfl, s3, rfl, Z3⟩
      simp (disch := first | omega | decide | assumption | exact Nat.le_of_ble_eq_true rfl) only [s127_48, ow_some, true_and, and_true, and_self, if_true, if_false, not_true, not_false_eq_true, Bool.false_eq_true, eq_self, Option.toList, List.cons_append, List.nil_append, ix_in, ix_cl, lt_in, lt_cl, lt_add, ix_one, vu_eq, vu_ne, arI_mk, arL_mk, arY_mZ, arY_mB, alen_mI, fld_sfl_ne, fld_sfl_same, Option.isSome_some, pok_i, b1z, b01, z10, b1o, Int32.zero_add, vu_vu, upd_eq, upd_ne, true_or, or_true]
      exact qg_yes Y hf1 s2 W2 s3 Z3
  · rw [if_neg h0] at W2 ⊢
    have h0' : (w_move s.1 S P (nT s.1) p.toInt k.toInt = 0) = False := eq_false h0
    simp (disch := first | omega | decide | assumption | exact Nat.le_of_ble_eq_true rfl) only [s127_17, s127_18, s127_19, s127_22, s127_24, s127_25, s127_26, s127_48, ow_some, true_and, and_true, and_self, if_true, if_false, not_true, not_false_eq_true, Bool.false_eq_true, eq_self, Option.toList, List.cons_append, List.nil_append, ix_in, ix_cl, lt_in, lt_cl, lt_add, ix_one, vu_eq, vu_ne, arI_mk, arL_mk, arY_mZ, arY_mB, alen_mI, fld_sfl_ne, fld_sfl_same, Option.isSome_some, pok_i, b1z, b01, z10, b1o, Int32.zero_add, vu_vu, upd_eq, upd_ne, true_or, or_true, h0', ne_eq]
    exact qg_no Y hf1 Z1 s2 hp W2 (Nat.le_refl _)
theorem sp_propC (Z : ST f N s S R P D B t) (Y : SCR f) {k : Int32} {u2 : Value} : TT X (d + 6) 128 0 [.ref 0, .int k, u2] [] f N K (QG f N K ((o_prop s.1 S P D k).1, s.2) B (.int (o_prop s.1 S P D k).2)) := by
  have I := Z.is
  simp (disch := first | omega | decide | assumption | exact Nat.le_of_ble_eq_true rfl) only [s128_0, ow_some, true_and, and_true, and_self, if_true, if_false, not_true, not_false_eq_true, Bool.false_eq_true, eq_self, Option.toList, List.cons_append, List.nil_append, ix_in, ix_cl, lt_in, lt_cl, lt_add, ix_one, vu_eq, vu_ne, arI_mk, arL_mk, arY_mZ, arY_mB, alen_mI, fld_sfl_ne, fld_sfl_same, Option.isSome_some, pok_i, b1z, b01, z10, b1o, Int32.zero_add, vu_vu, upd_eq, upd_ne, true_or, or_true]
  refine k128_1 Z.1.cn (Nat.le_of_ble_eq_true rfl) (sp_keepZ Z Y.2.1) ?_
  rintro f1 n1 k1 v1 ⟨rfl, rfl, rfl, hf1, Z1, j, hj, h7, hk, pl, sd, wy, hp, W1⟩
  have r4 := Z1.1.r4
  have r14 := Z1.1.r14
  simp (disch := first | omega | decide | assumption | exact Nat.le_of_ble_eq_true rfl) only [s128_4, s128_5, s128_8, s128_9, s128_12, ow_some, true_and, and_true, and_self, if_true, if_false, not_true, not_false_eq_true, Bool.false_eq_true, eq_self, Option.toList, List.cons_append, List.nil_append, ix_in, ix_cl, lt_in, lt_cl, lt_add, ix_one, vu_eq, vu_ne, arI_mk, arL_mk, arY_mZ, arY_mB, alen_mI, fld_sfl_ne, fld_sfl_same, Option.isSome_some, pok_i, b1z, b01, z10, b1o, Int32.zero_add, vu_vu, upd_eq, upd_ne, true_or, or_true, r4, r14]
  refine k128_13 W1.dv.cn (Nat.le_of_ble_eq_true rfl) (sp_propOne W1) ?_
  rintro f2 n2 k2 v2 ⟨rfl, rfl, s2, W2, rfl⟩
  unfold o_prop
  have h8 := I.s8
  by_cases h0 : w_prop s.1 S k.toInt = 0
  · rw [if_pos h0] at W2 ⊢
    obtain ⟨I2, m2⟩ := I.prop h0
    obtain ⟨⟨q1, q2⟩, -⟩ := w_prop_f h0
    obtain ⟨q, hq, rfl, hv⟩ := i9 (v := k) (N := 8) q1 (by omega) (by omega)
    have H2 := Z1.1.fr (f' := f2) (s2 0 (by omega) (by omega))
    have r4' := H2.r4
    obtain ⟨w2, x2, V2, ⟨g1, g6, g9⟩, g5⟩ := W2.sv
    have hday : (m_prop s.1 S P (nT s.1) (nI q).toInt.toNat 56).toInt ≤ B := by
      rw [m_prop, fall_ne (by omega), upd_ne (by omega)]; exact Z.day
    have he : ∀ a, a < 52 ∨ 92 ≤ a → m_prop s.1 S P (nT s.1) (nI q).toInt.toNat a = s.1 a := fun a ha => by rw [m_prop, fall_ne (by omega), upd_ne (by omega)]
    have e5 : x2 5 q = s.1 (84 + (nI q).toInt.toNat) + 1 := by
      rw [g5 q hq, hv, Int.toNat_natCast, m_prop, fall_ne (by omega), upd_eq]
    simp (disch := first | omega | decide | assumption | exact Nat.le_of_ble_eq_true rfl) only [s128_16, s128_17, s128_18, s128_28, s128_29, s128_30, s128_33, s128_36, s128_37, ow_some, true_and, and_true, and_self, if_true, if_false, not_true, not_false_eq_true, Bool.false_eq_true, eq_self, Option.toList, List.cons_append, List.nil_append, ix_in, ix_cl, lt_in, lt_cl, lt_add, ix_one, vu_eq, vu_ne, arI_mk, arL_mk, arY_mZ, arY_mB, alen_mI, fld_sfl_ne, fld_sfl_same, Option.isSome_some, pok_i, b1z, b01, z10, b1o, Int32.zero_add, vu_vu, upd_eq, upd_ne, true_or, or_true, V2.v1, V2.v6, V2.v7, V2.v8, V2.v9, V2.i1, V2.i6, V2.i7, V2.i8, V2.i9, V2.r2, V2.r3, V2.r4, V2.r5, V2.pl, V2.a2, V2.a3, V2.a4, V2.a5, r4', h0, e5, ne_eq]
    refine k128_38 H2.cn (Nat.le_of_ble_eq_true rfl) (sp_didZ Z1 h7 hj hk s2 hp W2 m2 hday (Nat.le_refl _) he) ?_
    rintro f3 n3 k3 v3 ⟨rfl, rfl, s3, rfl, Z3⟩
    simp (disch := first | omega | decide | assumption | exact Nat.le_of_ble_eq_true rfl) only [s128_41, ow_some, true_and, and_true, and_self, if_true, if_false, not_true, not_false_eq_true, Bool.false_eq_true, eq_self, Option.toList, List.cons_append, List.nil_append, ix_in, ix_cl, lt_in, lt_cl, lt_add, ix_one, vu_eq, vu_ne, arI_mk, arL_mk, arY_mZ, arY_mB, alen_mI, fld_sfl_ne, fld_sfl_same, Option.isSome_some, pok_i, b1z, b01, z10, b1o, Int32.zero_add, vu_vu, upd_eq, upd_ne, true_or, or_true]
    exact qg_yes Y hf1 s2 W2 s3 Z3
  · rw [if_neg h0] at W2 ⊢
    have h0' : (w_prop s.1 S k.toInt = 0) = False := eq_false h0
    simp (disch := first | omega | decide | assumption | exact Nat.le_of_ble_eq_true rfl) only [s128_16, s128_17, s128_18, s128_21, s128_23, s128_24, s128_25, s128_41, ow_some, true_and, and_true, and_self, if_true, if_false, not_true, not_false_eq_true, Bool.false_eq_true, eq_self, Option.toList, List.cons_append, List.nil_append, ix_in, ix_cl, lt_in, lt_cl, lt_add, ix_one, vu_eq, vu_ne, arI_mk, arL_mk, arY_mZ, arY_mB, alen_mI, fld_sfl_ne, fld_sfl_same, Option.isSome_some, pok_i, b1z, b01, z10, b1o, Int32.zero_add, vu_vu, upd_eq, upd_ne, true_or, or_true, h0', ne_eq]
    exact qg_no Y hf1 Z1 s2 hp W2 (Nat.le_refl _)
end DEED

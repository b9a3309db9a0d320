/-! the class: images, counts -/
section DEED
variable {X : Nat × (Nat → Int32)} {d N K : Nat} {f f' f'' : Nat → e_C} {t t' : Nat → Int32} {s : m_T} {S R P P2 D B B2 j : Nat} {all2 : Nat → Int32}
theorem put_lo {all : Nat → Int32} {i a : Nat} (h : a < 1394) : i_put all i 1394 a = all a := by
  unfold i_put; rw [if_neg (by omega)]
/-- an image was made -/
theorem ST.image {i : Nat} {im : Nat → Int32} (Z : ST f N s S R P D B t) (hi : i < 2) (hf : ∀ b, b < 112 ∨ (189 ≤ b ∧ b < N) → ¬ (79 + 5 * i ≤ b ∧ b < 84 + 5 * i) → b ≠ 89 → f' b = f b) (h : SR f' N (79 + 5 * i) s.1 S R P B) (ha : arZ (f' 89) = some (2, im)) (him : ∀ k, k < 2 → im k = upd s.2.2.2.1 i 1 k) : ST f' N (st_im (i_put s.1 i 1394, s.2) (upd s.2.2.2.1 i 1)) S R P D B t := by
  obtain ⟨a1, a2, a3, ⟨j', b1, b2, b3⟩, a5, a6, a7, a8, a9⟩ := Z
  have c4 : cg4 s.1 (i_put s.1 i 1394) := fun a ha => put_lo (by omega)
  refine ⟨a1.fr (hf 0 (by omega) (by omega) (by omega)), (a2.fr (Nat.le_refl _) (Nat.le_refl _) (fun b hb => hf b (by omega) (by omega) (by omega))).cb c4, a3.fr (fun b h1 h2 => hf b (by omega) (by omega) (by omega)), ⟨j', b1, b2, ?_⟩, ?_, a6.fr (fun b h1 h2 => hf b (by omega) (by omega) (by omega)), ?_, a8, ?_⟩
  · obtain ⟨c1, c2, c3, c4, c5, c6⟩ := b3
    refine ⟨by rw [hf 22 (by omega) (by omega) (by omega)]; exact c1, fun i hi => (c2 i hi).fr (fun b h1 h2 => hf b (by omega) (by omega) (by omega)), by show i_put s.1 i 1394 92 = _; rw [put_lo (by omega)]; exact c3, c4, c5, fun k hk => ?_⟩
    obtain ⟨P', h⟩ := c6 k hk
    have := Nat.mod_lt (j' + 10 - k) (show 11 > 0 by omega)
    exact ⟨P', (h.fr (Nat.le_refl _) (Nat.le_refl _) (fun b hb => hf b (by omega) (by omega) (by omega))).cb (brow_cg (fun q hq => put_lo (by omega)) (fun a ha => put_lo (by omega)))⟩
  · obtain ⟨c1, ⟨im0, c2, c2'⟩, c3, c4⟩ := a5
    refine ⟨by rw [hf 78 (by omega) (by omega) (by omega)]; exact c1, ⟨im, ha, fun k hk => ⟨him k hk, ?_⟩⟩, fun k hk => ?_, fun k hk hz => ?_⟩
    · rw [him k hk]
      by_cases e : k = i
      · subst e; rw [upd_eq]; exact Or.inr rfl
      · rw [upd_ne e, ← (c2' k hk).1]; exact (c2' k hk).2
    · by_cases e : k = i
      · subst e; exact h.an
      · exact (c3 k hk).fr (fun b h1 h2 => hf b (by omega) (by omega) (by omega))
    · by_cases e : k = i
      · subst e
        refine ⟨S, R, P, h.cb (fun a ha => ?_)⟩
        show i_put s.1 k 1394 (1394 * (k + 1) + a) = s.1 a
        unfold i_put
        rw [if_pos (by omega)]
        exact congrArg s.1 (by omega)
      · have hz' : upd s.2.2.2.1 i 1 k ≠ 0 := hz
        rw [upd_ne e] at hz'
        obtain ⟨S', R', P', h⟩ := c4 k hk hz'
        refine ⟨S', R', P', (h.fr (Nat.le_refl _) (Nat.le_refl _) (fun b hb => hf b (by omega) (by omega) (by omega))).cb (fun a ha => ?_)⟩
        show i_put s.1 i 1394 (1394 * (k + 1) + a) = s.1 (1394 * (k + 1) + a)
        unfold i_put
        rw [if_neg (by omega)]
  · unfold TP; rw [hf 1 (by omega) (by omega) (by omega)]; exact a7
  · unfold RDV; rw [hf 99 (by omega) (by omega) (by omega), hf 100 (by omega) (by omega) (by omega), hf 101 (by omega) (by omega) (by omega)]; exact a9
theorem l_02 {z : Int32} : ((z < (0 : Int32)) = (z.toInt < 0)) ∧ ((z < (2 : Int32)) = (z.toInt < 2)) := ⟨by rw [Int32.lt_iff_toInt_lt]; rfl, by rw [Int32.lt_iff_toInt_lt]; rfl⟩
theorem sp_imageC (Z : ST f N s S R P D B t) (Y : SCR f) {z : Int32} : TT X (d + 3) 165 0 [.ref 0, .int z] [] f N K (QG f N K (o_image s z).1 B (.int (o_image s z).2)) := by
  have I := Z.is
  have r4 := Z.1.r4
  have r9 := Z.1.r9
  obtain ⟨l2, l3⟩ := l_02 (z := z)
  have fin : ∀ z : Value, QG f N K s B z f N K (some z) := fun z => qg_q Z Y (fun _ _ => rfl)
  unfold o_image
  by_cases h1 : 0 ≤ z.toInt ∧ z.toInt ≤ 1
  · rw [if_pos h1]
    have a1 : (z.toInt < 0) = False := eq_false (by omega)
    have a2 : (z.toInt < 2) = True := eq_true (by omega)
    obtain ⟨i, hi, rfl, hv⟩ := i9 (v := z) (N := 2) h1.1 (by omega) (by omega)
    obtain ⟨⟨ga, hga, hgi⟩, ⟨im, him, himi⟩, hany, -⟩ := Z.2.2.2.2.1
    have gi := hgi i hi
    obtain ⟨pl, w0, x0, v0, r0, C, V, W, G, -, m, hp, hb⟩ := Z.2.1
    obtain ⟨plo, wo, xo, Vo⟩ := hany i hi
    have h9 : w0 9 = 0 ∨ w0 9 = 1 := by rw [G.w9]; exact I.fl
    simp (disch := first | omega | decide | assumption | exact Nat.le_of_ble_eq_true rfl) only [s165_0, s165_1, s165_4, s165_5, s165_6, s165_12, s165_13, s165_16, y165_17, s165_18, s165_19, ow_some, true_and, and_true, and_self, if_true, if_false, not_true, not_false_eq_true, Bool.false_eq_true, eq_self, Option.toList, List.cons_append, List.nil_append, ix_in, ix_cl, lt_in, lt_cl, lt_add, ix_one, vu_eq, vu_ne, arI_mk, arL_mk, arY_mZ, arY_mB, alen_mI, fld_sfl_ne, fld_sfl_same, Option.isSome_some, pok_i, b1z, b01, z10, b1o, Int32.zero_add, vu_vu, upd_eq, upd_ne, true_or, or_true, r4, r9, l2, l3, a1, a2, hga, gi, va_rf_s]
    refine k165_22 Vo.cn (Nat.le_of_ble_eq_true rfl) (sp_copyFrom Vo V (by omega) h9) ?_
    rintro f1 n1 k1 v1 ⟨rfl, rfl, rfl, s1, w2, x2, V2, e2⟩
    have r10 := (Z.1.fr (f' := f1) (s1 0 (by omega))).r10
    have hy : arY (f1 89) = some (.boolean, 2, im) := arY_Z (by rw [s1 89 (by omega)]; exact him)
    have n1' := nar_1
    simp (disch := first | omega | decide | assumption | exact Nat.le_of_ble_eq_true rfl) only [s165_25, s165_26, s165_29, s165_30, y165_31, s165_32, s165_33, ow_some, true_and, and_true, and_self, if_true, if_false, not_true, not_false_eq_true, Bool.false_eq_true, eq_self, Option.toList, List.cons_append, List.nil_append, ix_in, ix_cl, lt_in, lt_cl, lt_add, ix_one, vu_eq, vu_ne, arI_mk, arL_mk, arY_mZ, arY_mB, alen_mI, fld_sfl_ne, fld_sfl_same, Option.isSome_some, pok_i, b1z, b01, z10, b1o, Int32.zero_add, vu_vu, upd_eq, upd_ne, true_or, or_true, r10, hy, n1']
    rw [hv, Int.toNat_natCast]
    have hall : ∀ b, ¬ (79 + 5 * i ≤ b ∧ b < 84 + 5 * i) → b ≠ 89 → va_up f1 89 (.inl (.boolean, 2, .inl (upd im i 1))) b = f b := fun b h1 h2 => by rw [vu_ne h2]; exact s1 b (by omega)
    refine ⟨rfl, rfl, fun b hb => hall b (by omega) (by omega), Y.fr (fun b h1 h2 => hall b (by omega) (by omega)), ⟨S, R, P, D, t, Z.image hi (fun b h1 h2 h3 => hall b h2 h3) ?_ (im := upd im i 1) (by rw [vu_eq]; rfl) (fun k hk => ?_)⟩, rfl⟩
    · exact ⟨pl, w2, x2, v0, r0, C, V2.fr (fun b h1 h2 => vu_ne (by omega)), W.fr (fun b h1 h2 => hall b (by rcases hp with rfl | hp <;> omega) (by rcases hp with rfl | hp <;> omega)), G.same e2 I.p9, I, m, hp, hb⟩
    · by_cases e : k = i
      · subst e; rw [upd_eq, upd_eq]
      · rw [upd_ne e, upd_ne e]; exact (himi k hk).1
  · rw [if_neg h1]
    by_cases a1 : z.toInt < 0
    · have a1' : (z.toInt < 0) = True := eq_true a1
      simp (disch := first | omega | decide | assumption | exact Nat.le_of_ble_eq_true rfl) only [s165_0, s165_1, s165_9, s165_11, ow_some, true_and, and_true, and_self, if_true, if_false, not_true, not_false_eq_true, Bool.false_eq_true, eq_self, Option.toList, List.cons_append, List.nil_append, ix_in, ix_cl, lt_in, lt_cl, lt_add, ix_one, vu_eq, vu_ne, arI_mk, arL_mk, arY_mZ, arY_mB, alen_mI, fld_sfl_ne, fld_sfl_same, Option.isSome_some, pok_i, b1z, b01, z10, b1o, Int32.zero_add, vu_vu, upd_eq, upd_ne, true_or, or_true, l2, a1']
      exact fin _
    · have a1' : (z.toInt < 0) = False := eq_false a1
      have a2 : (z.toInt < 2) = False := eq_false (by omega)
      simp (disch := first | omega | decide | assumption | exact Nat.le_of_ble_eq_true rfl) only [s165_0, s165_1, s165_4, s165_5, s165_6, s165_9, s165_11, ow_some, true_and, and_true, and_self, if_true, if_false, not_true, not_false_eq_true, Bool.false_eq_true, eq_self, Option.toList, List.cons_append, List.nil_append, ix_in, ix_cl, lt_in, lt_cl, lt_add, ix_one, vu_eq, vu_ne, arI_mk, arL_mk, arY_mZ, arY_mB, alen_mI, fld_sfl_ne, fld_sfl_same, Option.isSome_some, pok_i, b1z, b01, z10, b1o, Int32.zero_add, vu_vu, upd_eq, upd_ne, true_or, or_true, l2, l3, a1', a2]
      exact fin _
theorem sp_restoreC (Z : ST f N s S R P D B t) (Y : SCR f) {z : Int32} : TT X (d + 3) 166 0 [.ref 0, .int z] [] f N K (QG f N K (o_restore s z).1 B (.int (o_restore s z).2)) := by
  have I := Z.is
  have r4 := Z.1.r4
  have r9 := Z.1.r9
  have r10 := Z.1.r10
  obtain ⟨j, hj, h7, h8, hD, h92⟩ := Z.jx
  obtain ⟨l2, l3⟩ := l_02 (z := z)
  have fin : ∀ z : Value, QG f N K s B z f N K (some z) := fun z => qg_q Z Y (fun _ _ => rfl)
  unfold o_restore
  by_cases h1 : 0 ≤ z.toInt ∧ z.toInt ≤ 1
  · rw [if_pos h1]
    have a1 : (z.toInt < 0) = False := eq_false (by omega)
    have a2 : (z.toInt < 2) = True := eq_true (by omega)
    obtain ⟨i, hi, rfl, hv⟩ := i9 (v := z) (N := 2) h1.1 (by omega) (by omega)
    simp only [hv, Int.toNat_natCast]
    obtain ⟨⟨ga, hga, hgi⟩, ⟨im, him, himi⟩, hany, himg⟩ := Z.2.2.2.2.1
    have gi := hgi i hi
    have hy := arY_Z him
    obtain ⟨e1, e2⟩ := himi i hi
    by_cases h0 : s.2.2.2.1 i = 0
    · rw [if_pos h0]
      have e0 : im i = 0 := by rw [e1]; exact h0
      simp (disch := first | omega | decide | assumption | exact Nat.le_of_ble_eq_true rfl) only [s166_0, s166_1, s166_4, s166_5, s166_6, s166_12, s166_13, s166_16, y166_17, s166_18, s166_21, s166_23, ow_some, true_and, and_true, and_self, if_true, if_false, not_true, not_false_eq_true, Bool.false_eq_true, eq_self, Option.toList, List.cons_append, List.nil_append, ix_in, ix_cl, lt_in, lt_cl, lt_add, ix_one, vu_eq, vu_ne, arI_mk, arL_mk, arY_mZ, arY_mB, alen_mI, fld_sfl_ne, fld_sfl_same, Option.isSome_some, pok_i, b1z, b01, z10, b1o, Int32.zero_add, vu_vu, upd_eq, upd_ne, true_or, or_true, r10, l2, l3, a1, a2, hy, e0, ne_eq]
      exact fin _
    · rw [if_neg h0]
      have e0 : (im i = 0) = False := eq_false (by rw [e1]; exact h0)
      obtain ⟨S', R', P', h⟩ := himg i hi h0
      obtain ⟨pl, w, x, v, r, C, V, W, G, I', m, hp, hb⟩ := h
      obtain ⟨plo, wo, xo, vo, ro, Co, Vo, -⟩ := Z.2.1
      have h9 : w 9 = 0 ∨ w 9 = 1 := by rw [G.w9]; exact I'.fl
      simp (disch := first | omega | decide | assumption | exact Nat.le_of_ble_eq_true rfl) only [s166_0, s166_1, s166_4, s166_5, s166_6, s166_12, s166_13, s166_16, y166_17, s166_18, s166_24, s166_25, s166_28, s166_29, s166_32, y166_33, ow_some, true_and, and_true, and_self, if_true, if_false, not_true, not_false_eq_true, Bool.false_eq_true, eq_self, Option.toList, List.cons_append, List.nil_append, ix_in, ix_cl, lt_in, lt_cl, lt_add, ix_one, vu_eq, vu_ne, arI_mk, arL_mk, arY_mZ, arY_mB, alen_mI, fld_sfl_ne, fld_sfl_same, Option.isSome_some, pok_i, b1z, b01, z10, b1o, Int32.zero_add, vu_vu, upd_eq, upd_ne, true_or, or_true, r4, r9, r10, l2, l3, a1, a2, hy, e0, hga, gi, va_rf_s, ne_eq]
      refine k166_34 Vo.cn (Nat.le_of_ble_eq_true rfl) (sp_copyFrom Vo V (by omega) h9) ?_
      rintro f1 n1 k1 v1 ⟨rfl, rfl, rfl, s1, w2, x2, V2, e2⟩
      have H1 := Z.1.fr (f' := f1) (s1 0 (by omega))
      have i8 := hv_p8 H1
      simp (disch := first | omega | decide | assumption | exact Nat.le_of_ble_eq_true rfl) only [s166_37, s166_38, s166_39, s166_42, s166_43, ow_some, true_and, and_true, and_self, if_true, if_false, not_true, not_false_eq_true, Bool.false_eq_true, eq_self, Option.toList, List.cons_append, List.nil_append, ix_in, ix_cl, lt_in, lt_cl, lt_add, ix_one, vu_eq, vu_ne, arI_mk, arL_mk, arY_mZ, arY_mB, alen_mI, fld_sfl_ne, fld_sfl_same, Option.isSome_some, pok_i, b1z, b01, z10, b1o, Int32.zero_add, vu_vu, upd_eq, upd_ne, true_or, or_true, i8]
      have H2 := H1.set (i := 8) (z := 0) (by decide)
      have hall : ∀ b, b ≠ 0 → ¬ (12 ≤ b ∧ b < 17) → va_up f1 0 (sfl (f1 0) 8 (.int 0)) b = f b := fun b h1 h2 => by rw [vu_ne h1]; exact s1 b (by omega)
      have hS3 : SR (va_up f1 0 (sfl (f1 0) 8 (.int 0))) n1 12 (fun a => s.1 (1394 * (i + 1) + a)) S' R' P' B := ⟨pl, w2, x2, v, r, C, V2.fr (fun b h1 h2 => vu_ne (by omega)), W.fr (fun b h1 h2 => hall b (by rcases hp with rfl | hp <;> omega) (by rcases hp with rfl | hp <;> omega)), G.same e2 I'.p9, I', m, hp, hb⟩
      have hm : cg4 (fun a => s.1 (1394 * (i + 1) + a)) (upd (i_get s.1 i 1394) 92 0) := fun a ha => by
        rw [upd_ne (by omega), i_get, if_pos (by omega)]
      obtain ⟨-, -, -, ⟨j', b1, b2, b3⟩, -⟩ := id Z
      refine ⟨rfl, rfl, fun b hb => hall b (by omega) (by omega), Y.fr (fun b h1 h2 => hall b (by omega) (by omega)), ⟨S', R', P', 0, _, Z.mk2 (j' := j) (fun b h1 h2 h3 => hall b h3 h2) (hS3.cb hm) (Nat.le_refl _) H2 ?_ (by rw [upd_ne (by decide)]; exact h7) upd_eq ⟨by rw [upd_ne (by decide)], by rw [upd_ne (by decide)], by rw [upd_ne (by decide)]⟩ (fun a ha => by rw [upd_ne (by omega), i_get, if_neg (by omega)])⟩, rfl⟩
      exact ⟨by rw [hall 22 (by omega) (by omega)]; exact b3.1, fun k hk => (b3.2.1 k hk).fr (fun b h1 h2 => hall b (by omega) (by omega)), upd_eq, by omega, hj, fun k hk => absurd hk (by omega)⟩
  · rw [if_neg h1]
    by_cases a1 : z.toInt < 0
    · have a1' : (z.toInt < 0) = True := eq_true a1
      simp (disch := first | omega | decide | assumption | exact Nat.le_of_ble_eq_true rfl) only [s166_0, s166_1, s166_9, s166_11, ow_some, true_and, and_true, and_self, if_true, if_false, not_true, not_false_eq_true, Bool.false_eq_true, eq_self, Option.toList, List.cons_append, List.nil_append, ix_in, ix_cl, lt_in, lt_cl, lt_add, ix_one, vu_eq, vu_ne, arI_mk, arL_mk, arY_mZ, arY_mB, alen_mI, fld_sfl_ne, fld_sfl_same, Option.isSome_some, pok_i, b1z, b01, z10, b1o, Int32.zero_add, vu_vu, upd_eq, upd_ne, true_or, or_true, l2, a1']
      exact fin _
    · have a1' : (z.toInt < 0) = False := eq_false a1
      have a2 : (z.toInt < 2) = False := eq_false (by omega)
      simp (disch := first | omega | decide | assumption | exact Nat.le_of_ble_eq_true rfl) only [s166_0, s166_1, s166_4, s166_5, s166_6, s166_9, s166_11, ow_some, true_and, and_true, and_self, if_true, if_false, not_true, not_false_eq_true, Bool.false_eq_true, eq_self, Option.toList, List.cons_append, List.nil_append, ix_in, ix_cl, lt_in, lt_cl, lt_add, ix_one, vu_eq, vu_ne, arI_mk, arL_mk, arY_mZ, arY_mB, alen_mI, fld_sfl_ne, fld_sfl_same, Option.isSome_some, pok_i, b1z, b01, z10, b1o, Int32.zero_add, vu_vu, upd_eq, upd_ne, true_or, or_true, l2, l3, a1', a2]
      exact fin _
end DEED

/-! the class: deeds told in a tray, years -/
section DEED
variable {X : Nat × (Nat → Int32)} {d N K : Nat} {f f' f'' : Nat → e_C} {t t' : Nat → Int32} {s : m_T} {S R P P2 D B B2 j : Nat} {all2 : Nat → Int32}
theorem sp_isTray {z : Int32} : PU X d 132 [.int z] f N K (some (.int (if 0 ≤ z.toInt ∧ z.toInt ≤ 3 then 1 else 0))) := by
  unfold PU
  have l1 : (z < (0 : Int32)) = (z.toInt < 0) := by rw [Int32.lt_iff_toInt_lt]; rfl
  have l2 : ((4 : Int32) ≤ z) = (4 ≤ z.toInt) := by rw [Int32.le_iff_toInt_le]; rfl
  by_cases c : z.toInt < 0
  · have c' : (z.toInt < 0) = True := eq_true c
    rw [if_neg (by omega)]
    simp (disch := first | omega | decide | assumption | exact Nat.le_of_ble_eq_true rfl) only [s132_0, s132_1, s132_13, s132_14, ow_some, true_and, and_true, and_self, if_true, if_false, not_true, not_false_eq_true, Bool.false_eq_true, eq_self, Option.toList, List.cons_append, List.nil_append, ix_in, ix_cl, lt_in, lt_cl, lt_add, ix_one, vu_eq, vu_ne, arI_mk, arL_mk, arY_mZ, arY_mB, alen_mI, fld_sfl_ne, fld_sfl_same, Option.isSome_some, pok_i, b1z, b01, z10, b1o, Int32.zero_add, vu_vu, upd_eq, upd_ne, true_or, or_true, l1, c']
  · have c' : (z.toInt < 0) = False := eq_false c
    by_cases c2 : 4 ≤ z.toInt
    · have c2' : (4 ≤ z.toInt) = True := eq_true c2
      rw [if_neg (by omega)]
      simp (disch := first | omega | decide | assumption | exact Nat.le_of_ble_eq_true rfl) only [s132_0, s132_1, s132_4, s132_5, s132_6, s132_13, s132_14, ow_some, true_and, and_true, and_self, if_true, if_false, not_true, not_false_eq_true, Bool.false_eq_true, eq_self, Option.toList, List.cons_append, List.nil_append, ix_in, ix_cl, lt_in, lt_cl, lt_add, ix_one, vu_eq, vu_ne, arI_mk, arL_mk, arY_mZ, arY_mB, alen_mI, fld_sfl_ne, fld_sfl_same, Option.isSome_some, pok_i, b1z, b01, z10, b1o, Int32.zero_add, vu_vu, upd_eq, upd_ne, true_or, or_true, l1, l2, c', c2']
    · have c2' : (4 ≤ z.toInt) = False := eq_false c2
      rw [if_pos (by omega)]
      simp (disch := first | omega | decide | assumption | exact Nat.le_of_ble_eq_true rfl) only [s132_0, s132_1, s132_4, s132_5, s132_6, s132_9, s132_10, s132_14, ow_some, true_and, and_true, and_self, if_true, if_false, not_true, not_false_eq_true, Bool.false_eq_true, eq_self, Option.toList, List.cons_append, List.nil_append, ix_in, ix_cl, lt_in, lt_cl, lt_add, ix_one, vu_eq, vu_ne, arI_mk, arL_mk, arY_mZ, arY_mB, alen_mI, fld_sfl_ne, fld_sfl_same, Option.isSome_some, pok_i, b1z, b01, z10, b1o, Int32.zero_add, vu_vu, upd_eq, upd_ne, true_or, or_true, l1, l2, c', c2']
theorem TR.rm (h : TR f s) : RM s := by
  intro i hi
  obtain ⟨so, sz, g, M, T, h1, h2, h3, h4⟩ := h.2 i hi
  unfold nM
  rw [h3, ix_cl (by omega)]
  exact ⟨h2, rfl⟩
theorem ST.rm (Z : ST f N s S R P D B t) : RM s := Z.2.2.2.2.2.1.rm
/-- what a tray is -/
theorem TR.at (h : TR f s) {i : Nat} (hi : i < 4) : ∃ so sz g, TV f (91 + 2 * i) so sz g ∧ vb so 4 ∧ nM s i ≤ 40 ∧ ((s.2.2.2.2.1 i = -1 ∧ sz = -1) ∨ (¬ s.2.2.2.2.1 i = -1 ∧ s.2.2.2.2.1 i = so ∧ sz = nI (nM s i) ∧ ∀ k, k < nM s i → g k = s.2.2.2.2.2.2 (40 * i + k))) := by
  obtain ⟨so, sz, g, M, T, h1, h2, h3, h4⟩ := h.2 i hi
  have e : nM s i = M := by unfold nM; rw [h3, ix_cl (by omega)]
  refine ⟨so, sz, g, T, h1, by rw [e]; exact h2, ?_⟩
  rcases h4 with h4 | ⟨h4, h5⟩
  · exact Or.inl h4
  · refine Or.inr ⟨?_, h4, by rw [e]; exact h5⟩
    obtain ⟨v, hv, rfl⟩ := h1
    rw [h4]
    exact fun z => (ne_m1 (m := v) (by omega)).mp z
theorem tell_lk {q : Nat → Int64} {S P : Nat} : ∀ (m k : Nat) (all : Nat → Int32), (m_tell q S P m k all).1 ≤ k + m ∧ k ≤ (m_tell q S P m k all).1 ∧ ((m_tell q S P m k all).2.1 = 0 ↔ (m_tell q S P m k all).1 = k + m) := by
  intro m
  induction m with
  | zero => intro k all; exact ⟨Nat.le_refl _, Nat.le_refl _, fun _ => rfl, fun _ => rfl⟩
  | succ m ih =>
    intro k all
    rw [tell_s]
    by_cases h : w_not all S P (nT all) (q k).toInt = 0
    · rw [if_pos h]
      obtain ⟨h1, h2, h3⟩ := ih (k + 1) (m_does all S P (q k).toInt)
      refine ⟨by omega, by omega, ?_⟩
      rw [h3]
      omega
    · rw [if_neg h]
      exact ⟨Nat.le_add_right _ _, Nat.le_refl _, fun z => absurd z h, fun z => by have : k = k + (m + 1) := z; omega⟩
theorem tell_0 {q : Nat → Int64} {S P : Nat} : ∀ (m k : Nat) (all : Nat → Int32), (m_tell q S P m k all).1 = k → (m_tell q S P m k all).2.2 = all := by
  intro m
  induction m with
  | zero => intro k all _; rfl
  | succ m ih =>
    intro k all
    rw [tell_s]
    by_cases h : w_not all S P (nT all) (q k).toInt = 0
    · rw [if_pos h]
      intro e
      have := (tell_lk (q := q) (S := S) (P := P) m (k + 1) (m_does all S P (q k).toInt)).2.1
      omega
    · rw [if_neg h]
      exact fun _ => rfl
theorem DW.tv {a pl : Nat} {sd wy : Int32} (h : DW f a pl all2 S R P sd wy) : ∃ w x, SV f a pl w x ∧ w 6 = all2 53 ∧ w 9 = all2 54 := by
  obtain ⟨w, x, h1, h2, -⟩ := h.sv
  exact ⟨w, x, h1, h2.2⟩
theorem sp_performC (Z : ST f N s S R P D B t) (Y : SCR f) (hB : B + 99 < 100000) {z : Int32} {u2 : Value} : TT X (d + 8) 133 0 [.ref 0, .int z, u2] [] f N K (QG f N K ((o_perf s S P D z).1, s.2) (B + 99) (.int (o_perf s S P D z).2)) := by
  have I := Z.is
  have r11 := Z.1.r11
  have fin : ∀ z : Value, QG f N K s (B + 99) z f N K (some z) := fun z => ⟨rfl, rfl, fun _ _ => rfl, Y, ⟨S, R, P, D, t, Z.up (by omega)⟩, rfl⟩
  unfold o_perf
  simp (disch := first | omega | decide | assumption | exact Nat.le_of_ble_eq_true rfl) only [s133_0, ow_some, true_and, and_true, and_self, if_true, if_false, not_true, not_false_eq_true, Bool.false_eq_true, eq_self, Option.toList, List.cons_append, List.nil_append, ix_in, ix_cl, lt_in, lt_cl, lt_add, ix_one, vu_eq, vu_ne, arI_mk, arL_mk, arY_mZ, arY_mB, alen_mI, fld_sfl_ne, fld_sfl_same, Option.isSome_some, pok_i, b1z, b01, z10, b1o, Int32.zero_add, vu_vu, upd_eq, upd_ne, true_or, or_true]
  rw [p133_1 (Nat.le_of_ble_eq_true rfl) sp_isTray]
  by_cases h1 : 0 ≤ z.toInt ∧ z.toInt ≤ 3
  · rw [if_pos h1, if_pos h1]
    obtain ⟨i, hi, rfl, hv⟩ := i9 (v := z) (N := 4) h1.1 (by omega) (by omega)
    simp only [hv, Int.toNat_natCast]
    obtain ⟨ga, hga, hgi⟩ := Z.2.2.2.2.2.1.1
    obtain ⟨so, sz, g, T, hso, hM, hT⟩ := Z.2.2.2.2.2.1.at hi
    have gi := hgi i hi
    have t1 := T.2.1
    have c1 : ((1 : Int32) = 0) = False := eq_false (by decide)
    rcases hT with ⟨q1, q2⟩ | ⟨q0, q1, q2, q3⟩
    · rw [if_pos q1]
      have c2 : ((0 : Int32) ≤ -1) = False := eq_false (by decide)
      simp (disch := first | omega | decide | assumption | exact Nat.le_of_ble_eq_true rfl) only [s133_4, s133_10, s133_11, s133_14, y133_15, s133_16, s133_19, s133_22, s133_24, ow_some, true_and, and_true, and_self, if_true, if_false, not_true, not_false_eq_true, Bool.false_eq_true, eq_self, Option.toList, List.cons_append, List.nil_append, ix_in, ix_cl, lt_in, lt_cl, lt_add, ix_one, vu_eq, vu_ne, arI_mk, arL_mk, arY_mZ, arY_mB, alen_mI, fld_sfl_ne, fld_sfl_same, Option.isSome_some, pok_i, b1z, b01, z10, b1o, Int32.zero_add, vu_vu, upd_eq, upd_ne, true_or, or_true, r11, hga, gi, va_rf_s, t1, q2, c1, c2, ne_eq]
      exact fin _
    · rw [if_neg q0]
      have c2 : ((0 : Int32) ≤ nI (nM s i)) = True := eq_true (by rw [Int32.le_iff_toInt_le, nI_toInt (by omega)]; show (0 : Int) ≤ _; omega)
      simp (disch := first | omega | decide | assumption | exact Nat.le_of_ble_eq_true rfl) only [s133_4, s133_10, s133_11, s133_14, y133_15, s133_16, s133_19, s133_25, ow_some, true_and, and_true, and_self, if_true, if_false, not_true, not_false_eq_true, Bool.false_eq_true, eq_self, Option.toList, List.cons_append, List.nil_append, ix_in, ix_cl, lt_in, lt_cl, lt_add, ix_one, vu_eq, vu_ne, arI_mk, arL_mk, arY_mZ, arY_mB, alen_mI, fld_sfl_ne, fld_sfl_same, Option.isSome_some, pok_i, b1z, b01, z10, b1o, Int32.zero_add, vu_vu, upd_eq, upd_ne, true_or, or_true, r11, hga, gi, va_rf_s, t1, q2, c1, c2, ne_eq]
      refine k133_26 Z.1.cn (Nat.le_of_ble_eq_true rfl) (sp_keepZ Z Y.2.1) ?_
      rintro f1 n1 k1 v1 ⟨rfl, rfl, rfl, hf1, Z1, j, hj, h7, hk, pl, sd, wy, hp, W1⟩
      have r4 := Z1.1.r4
      have r14 := Z1.1.r14
      have r11' := Z1.1.r11
      have hga' : arS (f1 90) = some (4, ga) := by rw [hf1 90 (by omega)]; exact hga
      simp (disch := first | omega | decide | assumption | exact Nat.le_of_ble_eq_true rfl) only [s133_29, s133_30, s133_33, s133_34, s133_37, s133_38, s133_41, y133_42, ow_some, true_and, and_true, and_self, if_true, if_false, not_true, not_false_eq_true, Bool.false_eq_true, eq_self, Option.toList, List.cons_append, List.nil_append, ix_in, ix_cl, lt_in, lt_cl, lt_add, ix_one, vu_eq, vu_ne, arI_mk, arL_mk, arY_mZ, arY_mB, alen_mI, fld_sfl_ne, fld_sfl_same, Option.isSome_some, pok_i, b1z, b01, z10, b1o, Int32.zero_add, vu_vu, upd_eq, upd_ne, true_or, or_true, r4, r14, r11', hga', gi, va_rf_s]
      have T1 : TV f1 (91 + 2 * i) so (nI (nM s i)) g := by
        rw [← q2]; exact T.fr (hf1 _ (by omega)) (hf1 _ (by omega))
      have hday := Z.day
      refine k133_43 W1.dv.cn (Nat.le_of_ble_eq_true rfl) (sp_doAll W1 T1 hM (by omega) (by omega) (by omega)) ?_
      rintro f2 n2 k2 v2 ⟨rfl, rfl, s2, W2, rfl⟩
      have et : m_tell g S P (nM s i) 0 s.1 = m_told s S P i := tell_cg _ _ _ (fun k _ hk => q3 k (by omega))
      rw [et] at W2 ⊢
      have hte : m_told s S P i = m_tell (fun k => s.2.2.2.2.2.2 (40 * i + k)) S P (nM s i) 0 s.1 := rfl
      obtain ⟨I2, m2, hd2, hmf⟩ := IS.tell (q := fun k => s.2.2.2.2.2.2 (40 * i + k)) (nM s i) 0 s.1 I (by omega)
      obtain ⟨hle, -, -⟩ := tell_lk (q := fun k => s.2.2.2.2.2.2 (40 * i + k)) (S := S) (P := P) (nM s i) 0 s.1
      have hhi : ∀ a, a < 52 ∨ 92 ≤ a → (m_told s S P i).2.2 a = s.1 a := fun a ha => tell_hi I.s8 I.p9 ha _ _ _
      rw [← hte] at I2 m2 hd2 hmf hle
      by_cases h0 : (m_told s S P i).1 = 0
      · have h0' : nI (m_told s S P i).1 = 0 := by rw [h0]; rfl
        have es : (m_told s S P i).2.2 = s.1 := tell_0 (q := fun k => s.2.2.2.2.2.2 (40 * i + k)) (S := S) (P := P) (nM s i) 0 s.1 h0
        rw [if_pos h0]
        simp (disch := first | omega | decide | assumption | exact Nat.le_of_ble_eq_true rfl) only [s133_46, s133_47, s133_48, s133_51, s133_52, s133_60, ow_some, true_and, and_true, and_self, if_true, if_false, not_true, not_false_eq_true, Bool.false_eq_true, eq_self, Option.toList, List.cons_append, List.nil_append, ix_in, ix_cl, lt_in, lt_cl, lt_add, ix_one, vu_eq, vu_ne, arI_mk, arL_mk, arY_mZ, arY_mB, alen_mI, fld_sfl_ne, fld_sfl_same, Option.isSome_some, pok_i, b1z, b01, z10, b1o, Int32.zero_add, vu_vu, upd_eq, upd_ne, true_or, or_true, h0', ne_eq]
        rw [es] at W2 ⊢
        exact qg_no Y hf1 Z1 s2 hp W2 (by omega)
      · have h0' : (nI (m_told s S P i).1 = 0) = False := eq_false (fun z => h0 (by
          have := congrArg Int32.toInt z
          rw [nI_toInt (by omega)] at this
          have e0 : (0 : Int32).toInt = 0 := by decide
          omega))
        rw [if_neg h0]
        have H2 := Z1.1.fr (f' := f2) (s2 0 (by omega) (by omega))
        simp (disch := first | omega | decide | assumption | exact Nat.le_of_ble_eq_true rfl) only [s133_46, s133_47, s133_48, s133_55, s133_56, ow_some, true_and, and_true, and_self, if_true, if_false, not_true, not_false_eq_true, Bool.false_eq_true, eq_self, Option.toList, List.cons_append, List.nil_append, ix_in, ix_cl, lt_in, lt_cl, lt_add, ix_one, vu_eq, vu_ne, arI_mk, arL_mk, arY_mZ, arY_mB, alen_mI, fld_sfl_ne, fld_sfl_same, Option.isSome_some, pok_i, b1z, b01, z10, b1o, Int32.zero_add, vu_vu, upd_eq, upd_ne, true_or, or_true, h0', ne_eq]
        refine k133_57 H2.cn (Nat.le_of_ble_eq_true rfl) (sp_didZ (B2 := B + 99) Z1 h7 hj hk s2 hp W2 (hmf Z.mf) (by omega) (by omega) hhi) ?_
        rintro f3 n3 k3 v3 ⟨rfl, rfl, s3, rfl, Z3⟩
        simp (disch := first | omega | decide | assumption | exact Nat.le_of_ble_eq_true rfl) only [s133_60, ow_some, true_and, and_true, and_self, if_true, if_false, not_true, not_false_eq_true, Bool.false_eq_true, eq_self, Option.toList, List.cons_append, List.nil_append, ix_in, ix_cl, lt_in, lt_cl, lt_add, ix_one, vu_eq, vu_ne, arI_mk, arL_mk, arY_mZ, arY_mB, alen_mI, fld_sfl_ne, fld_sfl_same, Option.isSome_some, pok_i, b1z, b01, z10, b1o, Int32.zero_add, vu_vu, upd_eq, upd_ne, true_or, or_true]
        exact qg_yes Y hf1 s2 W2 s3 Z3
  · rw [if_neg h1, if_neg h1]
    simp (disch := first | omega | decide | assumption | exact Nat.le_of_ble_eq_true rfl) only [s133_4, s133_7, s133_9, ow_some, true_and, and_true, and_self, if_true, if_false, not_true, not_false_eq_true, Bool.false_eq_true, eq_self, Option.toList, List.cons_append, List.nil_append, ix_in, ix_cl, lt_in, lt_cl, lt_add, ix_one, vu_eq, vu_ne, arI_mk, arL_mk, arY_mZ, arY_mB, alen_mI, fld_sfl_ne, fld_sfl_same, Option.isSome_some, pok_i, b1z, b01, z10, b1o, Int32.zero_add, vu_vu, upd_eq, upd_ne, true_or, or_true, ne_eq]
    exact fin _
end DEED

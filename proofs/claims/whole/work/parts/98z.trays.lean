/-! the class: bounds, trays -/
theorem updL_eq {g : Nat → Int64} {i : Nat} {v : Int64} : vp_updL g i v i = v := if_pos rfl
theorem updL_ne {g : Nat → Int64} {i j : Nat} {v : Int64} (h : j ≠ i) : vp_updL g i v j = g j := if_neg h
section DEED
variable {X : Nat × (Nat → Int32)} {d N K : Nat} {f f' f'' : Nat → e_C} {t t' : Nat → Int32} {s : m_T} {S R P P2 D B B2 j : Nat} {all2 : Nat → Int32}
theorem sp_boundC (Z : ST f N s S R P D B t) (Y : SCR f) {z p w : Int32} {u4 : Value} : TT X (d + 7) 152 0 [.ref 0, .int z, .int p, .int w, u4] [] f N K (QG f N K s B (.int (o_bound s S P z p w))) := by
  have I := Z.is
  have r4 := Z.1.r4
  have r11 := Z.1.r11
  have r17 := Z.1.r17
  obtain ⟨l2, l3⟩ := w_01 (z := w)
  unfold o_bound
  by_cases hw : 0 ≤ w.toInt ∧ w.toInt ≤ 1
  · rw [if_pos hw]
    have a1 : (w.toInt < 0) = False := eq_false (by omega)
    have a2 : (w.toInt ≤ 1) = True := eq_true hw.2
    simp (disch := first | omega | decide | assumption | exact Nat.le_of_ble_eq_true rfl) only [s152_0, s152_1, s152_4, s152_5, s152_6, s152_12, s152_13, s152_14, ow_some, true_and, and_true, and_self, if_true, if_false, not_true, not_false_eq_true, Bool.false_eq_true, eq_self, Option.toList, List.cons_append, List.nil_append, ix_in, ix_cl, lt_in, lt_cl, lt_add, ix_one, vu_eq, vu_ne, arI_mk, arL_mk, arY_mZ, arY_mB, alen_mI, fld_sfl_ne, fld_sfl_same, Option.isSome_some, pok_i, b1z, b01, z10, b1o, Int32.zero_add, vu_vu, upd_eq, upd_ne, true_or, or_true, l2, l3, a1, a2]
    rw [p152_15 Z.1.cn (Nat.le_of_ble_eq_true rfl) (sp_refRooms Z Y)]
    by_cases h0 : m_nt s P z p = 0
    · rw [if_pos h0]
      obtain ⟨i, q, hi, rfl, hq, rfl, hs, hok, e1, e2⟩ := nt_q h0
      rw [e1, e2]
      obtain ⟨pl, w0, x0, v0, r0, C, V, W, G, -, m, hp, hb⟩ := Z.2.1
      obtain ⟨ga, hga, hgi⟩ := Z.2.2.2.2.2.1.1
      obtain ⟨so, sz, g, T, hso, hM, hT⟩ := Z.2.2.2.2.2.1.at hi
      obtain ⟨q0, q1, q2, q3⟩ := hT.resolve_left (fun z => hs z.1)
      have gi := hgi i hi
      rw [q2] at T
      obtain ⟨y5, rm, ab, pb, L5, O5⟩ := Y.2.2.2.2.1
      simp (disch := first | omega | decide | assumption | exact Nat.le_of_ble_eq_true rfl) only [s152_18, s152_20, s152_22, s152_28, s152_29, s152_32, s152_33, s152_36, s152_37, s152_40, y152_41, s152_42, ow_some, true_and, and_true, and_self, if_true, if_false, not_true, not_false_eq_true, Bool.false_eq_true, eq_self, Option.toList, List.cons_append, List.nil_append, ix_in, ix_cl, lt_in, lt_cl, lt_add, ix_one, vu_eq, vu_ne, arI_mk, arL_mk, arY_mZ, arY_mB, alen_mI, fld_sfl_ne, fld_sfl_same, Option.isSome_some, pok_i, b1z, b01, z10, b1o, Int32.zero_add, vu_vu, upd_eq, upd_ne, true_or, or_true, r4, r17, r11, hga, gi, va_rf_s, h0, ne_eq]
      have hok' : ∀ k, k < nM s i → t_ok s.1 (g k) = true := fun k hk => by rw [q3 k hk]; exact allB_iff.mp hok k hk
      refine k152_43 O5.cn (Nat.le_of_ble_eq_true rfl) (sp_find L5 V W G I (hp.ad (by omega) (by omega)) O5 rfl T hM (by omega) (by omega) hok' hq) ?_
      rintro f1 n1 k1 v1 ⟨rfl, rfl, s1, ⟨y1, rm1, ab1, pb1, L1, O1, -, hr⟩, rfl⟩
      rw [fit_eq q3] at hr
      have fin := qg_q (K := k1) (z := .int (oI (m_bd (t_fit s S P i q) w 100))) Z (Y.e5 s1 ⟨y1, rm1, ab1, pb1, L1, O1⟩) (fun b hb => s1 b (by omega))
      have r17' := (Z.1.fr (f' := f1) (s1 0 (by omega))).r17
      rcases z_01 hw with rfl | rfl
      · simp (disch := first | omega | decide | assumption | exact Nat.le_of_ble_eq_true rfl) only [s152_46, s152_47, s152_48, s152_51, s152_52, ow_some, true_and, and_true, and_self, if_true, if_false, not_true, not_false_eq_true, Bool.false_eq_true, eq_self, Option.toList, List.cons_append, List.nil_append, ix_in, ix_cl, lt_in, lt_cl, lt_add, ix_one, vu_eq, vu_ne, arI_mk, arL_mk, arY_mZ, arY_mB, alen_mI, fld_sfl_ne, fld_sfl_same, Option.isSome_some, pok_i, b1z, b01, z10, b1o, Int32.zero_add, vu_vu, upd_eq, upd_ne, true_or, or_true, r17', ne_eq]
        rw [p152_55 O1.cn (Nat.le_of_ble_eq_true rfl) (sp_first O1 (fun b hb => (hr b hb).1))]
        simp (disch := first | omega | decide | assumption | exact Nat.le_of_ble_eq_true rfl) only [s152_58, s152_68, ow_some, true_and, and_true, and_self, if_true, if_false, not_true, not_false_eq_true, Bool.false_eq_true, eq_self, Option.toList, List.cons_append, List.nil_append, ix_in, ix_cl, lt_in, lt_cl, lt_add, ix_one, vu_eq, vu_ne, arI_mk, arL_mk, arY_mZ, arY_mB, alen_mI, fld_sfl_ne, fld_sfl_same, Option.isSome_some, pok_i, b1z, b01, z10, b1o, Int32.zero_add, vu_vu, upd_eq, upd_ne, true_or, or_true]
        rw [fi_bd] at fin ⊢
        exact fin
      · have c1 : ((1 : Int32) = 0) = False := eq_false (by decide)
        simp (disch := first | omega | decide | assumption | exact Nat.le_of_ble_eq_true rfl) only [s152_46, s152_47, s152_48, s152_61, s152_62, ow_some, true_and, and_true, and_self, if_true, if_false, not_true, not_false_eq_true, Bool.false_eq_true, eq_self, Option.toList, List.cons_append, List.nil_append, ix_in, ix_cl, lt_in, lt_cl, lt_add, ix_one, vu_eq, vu_ne, arI_mk, arL_mk, arY_mZ, arY_mB, alen_mI, fld_sfl_ne, fld_sfl_same, Option.isSome_some, pok_i, b1z, b01, z10, b1o, Int32.zero_add, vu_vu, upd_eq, upd_ne, true_or, or_true, r17', c1, ne_eq]
        rw [p152_65 O1.cn (Nat.le_of_ble_eq_true rfl) (sp_last O1 (fun b hb => (hr b hb).1))]
        simp (disch := first | omega | decide | assumption | exact Nat.le_of_ble_eq_true rfl) only [s152_68, ow_some, true_and, and_true, and_self, if_true, if_false, not_true, not_false_eq_true, Bool.false_eq_true, eq_self, Option.toList, List.cons_append, List.nil_append, ix_in, ix_cl, lt_in, lt_cl, lt_add, ix_one, vu_eq, vu_ne, arI_mk, arL_mk, arY_mZ, arY_mB, alen_mI, fld_sfl_ne, fld_sfl_same, Option.isSome_some, pok_i, b1z, b01, z10, b1o, Int32.zero_add, vu_vu, upd_eq, upd_ne, true_or, or_true]
        exact fin
    · rw [if_neg h0]
      have h0' : (m_nt s P z p = 0) = False := eq_false h0
      simp (disch := first | omega | decide | assumption | exact Nat.le_of_ble_eq_true rfl) only [s152_18, s152_20, s152_22, s152_25, s152_27, ow_some, true_and, and_true, and_self, if_true, if_false, not_true, not_false_eq_true, Bool.false_eq_true, eq_self, Option.toList, List.cons_append, List.nil_append, ix_in, ix_cl, lt_in, lt_cl, lt_add, ix_one, vu_eq, vu_ne, arI_mk, arL_mk, arY_mZ, arY_mB, alen_mI, fld_sfl_ne, fld_sfl_same, Option.isSome_some, pok_i, b1z, b01, z10, b1o, Int32.zero_add, vu_vu, upd_eq, upd_ne, true_or, or_true, h0', ne_eq]
      exact qg_q Z Y (fun _ _ => rfl)
  · rw [if_neg hw]
    by_cases a1 : w.toInt < 0
    · have a1' : (w.toInt < 0) = True := eq_true a1
      simp (disch := first | omega | decide | assumption | exact Nat.le_of_ble_eq_true rfl) only [s152_0, s152_1, s152_9, s152_11, ow_some, true_and, and_true, and_self, if_true, if_false, not_true, not_false_eq_true, Bool.false_eq_true, eq_self, Option.toList, List.cons_append, List.nil_append, ix_in, ix_cl, lt_in, lt_cl, lt_add, ix_one, vu_eq, vu_ne, arI_mk, arL_mk, arY_mZ, arY_mB, alen_mI, fld_sfl_ne, fld_sfl_same, Option.isSome_some, pok_i, b1z, b01, z10, b1o, Int32.zero_add, vu_vu, upd_eq, upd_ne, true_or, or_true, l2, a1']
      exact qg_q Z Y (fun _ _ => rfl)
    · have a1' : (w.toInt < 0) = False := eq_false a1
      have a2 : (w.toInt ≤ 1) = False := eq_false (by omega)
      simp (disch := first | omega | decide | assumption | exact Nat.le_of_ble_eq_true rfl) only [s152_0, s152_1, s152_4, s152_5, s152_6, s152_9, s152_11, ow_some, true_and, and_true, and_self, if_true, if_false, not_true, not_false_eq_true, Bool.false_eq_true, eq_self, Option.toList, List.cons_append, List.nil_append, ix_in, ix_cl, lt_in, lt_cl, lt_add, ix_one, vu_eq, vu_ne, arI_mk, arL_mk, arY_mZ, arY_mB, alen_mI, fld_sfl_ne, fld_sfl_same, Option.isSome_some, pok_i, b1z, b01, z10, b1o, Int32.zero_add, vu_vu, upd_eq, upd_ne, true_or, or_true, l2, l3, a1', a2]
      exact qg_q Z Y (fun _ _ => rfl)
/-- one tray is another one -/
theorem TR.set {i M : Nat} {so sz : Int32} {g : Nat → Int64} {a b : Nat → Int32} {c : Nat → Int64} (h : TR f s) (hi : i < 4) (hf : SI (91 + 2 * i) (91 + 2 * i + 2) f f') (T : TV f' (91 + 2 * i) so sz g) (h1 : vb so 4) (h2 : M ≤ 40) (h3 : b i = nI M) (h4 : a i = so) (h5 : sz = nI M) (h6 : ∀ k, k < M → g k = c (40 * i + k)) (h7 : ∀ j, j < 4 → j ≠ i → a j = s.2.2.2.2.1 j ∧ b j = s.2.2.2.2.2.1 j ∧ ∀ k, k < 40 → c (40 * j + k) = s.2.2.2.2.2.2 (40 * j + k)) : TR f' (s.1, s.2.1, s.2.2.1, s.2.2.2.1, a, b, c) := by
  refine ⟨by rw [hf 90 (by omega)]; exact h.1, fun j hj => ?_⟩
  by_cases e : j = i
  · subst e
    exact ⟨so, sz, g, M, T, h1, h2, h3, Or.inr ⟨h4, h5, h6⟩⟩
  · obtain ⟨so', sz', g', M', T', k1, k2, k3, k4⟩ := h.2 j hj
    obtain ⟨e1, e2, e3⟩ := h7 j hj e
    refine ⟨so', sz', g', M', T'.fr (hf _ (by omega)) (hf _ (by omega)), k1, k2, by show b j = _; rw [e2]; exact k3, ?_⟩
    rcases k4 with k4 | ⟨k4, k5, k6⟩
    · exact Or.inl ⟨by show a j = _; rw [e1]; exact k4.1, k4.2⟩
    · exact Or.inr ⟨by show a j = _; rw [e1]; exact k4, k5, fun k hk => by show _ = c _; rw [e3 k (by omega)]; exact k6 k hk⟩
theorem ST.tray {a b : Nat → Int32} {c : Nat → Int64} (Z : ST f N s S R P D B t) (hf : ∀ b, b < 112 ∨ (189 ≤ b ∧ b < N) → ¬ (91 ≤ b ∧ b < 99) → f' b = f b) (T : TR f' (s.1, s.2.1, s.2.2.1, s.2.2.2.1, a, b, c)) : ST f' N (s.1, s.2.1, s.2.2.1, s.2.2.2.1, a, b, c) S R P D B t := by
  obtain ⟨a1, a2, a3, ⟨j', b1, b2, b3⟩, a5, a6, a7, a8, a9⟩ := Z
  refine ⟨a1.fr (hf 0 (by omega) (by omega)), a2.fr (Nat.le_refl _) (Nat.le_refl _) (fun b hb => hf b (by omega) (by omega)), a3.fr (fun b h1 h2 => hf b (by omega) (by omega)), ⟨j', b1, b2, ?_⟩, ?_, T, ?_, a8, ?_⟩
  · obtain ⟨c1, c2, c3, c4, c5, c6⟩ := b3
    refine ⟨by rw [hf 22 (by omega) (by omega)]; exact c1, fun i hi => (c2 i hi).fr (fun b h1 h2 => hf b (by omega) (by omega)), c3, c4, c5, fun i hi => ?_⟩
    obtain ⟨P', h⟩ := c6 i hi
    have := Nat.mod_lt (j' + 10 - i) (show 11 > 0 by omega)
    exact ⟨P', h.fr (Nat.le_refl _) (Nat.le_refl _) (fun b hb => hf b (by omega) (by omega))⟩
  · obtain ⟨c1, c2, c3, c4⟩ := a5
    refine ⟨by rw [hf 78 (by omega) (by omega)]; exact c1, by rw [hf 89 (by omega) (by omega)]; exact c2, fun i hi => (c3 i hi).fr (fun b h1 h2 => hf b (by omega) (by omega)), fun i hi hz => ?_⟩
    obtain ⟨S', R', P', h⟩ := c4 i hi hz
    exact ⟨S', R', P', h.fr (Nat.le_refl _) (Nat.le_refl _) (fun b hb => hf b (by omega) (by omega))⟩
  · unfold TP; rw [hf 1 (by omega) (by omega)]; exact a7
  · unfold RDV; rw [hf 99 (by omega) (by omega), hf 100 (by omega) (by omega), hf 101 (by omega) (by omega)]; exact a9
theorem sp_numbersC (Z : ST f N s S R P D B t) (Y : SCR f) {z q n : Int32} : TT X (d + 3) 162 0 [.ref 0, .int z, .int q, .int n] [] f N K (QG f N K (o_numbers s z q n).1 B (.int (o_numbers s z q n).2)) := by
  have r11 := Z.1.r11
  have c1 : ((1 : Int32) = 0) = False := eq_false (by decide)
  have l1 : (q < (0 : Int32)) = (q.toInt < 0) := by rw [Int32.lt_iff_toInt_lt]; rfl
  have l2 : (q ≤ (3 : Int32)) = (q.toInt ≤ 3) := by rw [Int32.le_iff_toInt_le]; rfl
  have l3 : (n < (0 : Int32)) = (n.toInt < 0) := by rw [Int32.lt_iff_toInt_lt]; rfl
  have l4 : (n ≤ (40 : Int32)) = (n.toInt ≤ 40) := by rw [Int32.le_iff_toInt_le]; rfl
  have fin : ∀ z : Value, QG f N K s B z f N K (some z) := fun z => qg_q Z Y (fun _ _ => rfl)
  unfold o_numbers
  simp (disch := first | omega | decide | assumption | exact Nat.le_of_ble_eq_true rfl) only [s162_0, ow_some, true_and, and_true, and_self, if_true, if_false, not_true, not_false_eq_true, Bool.false_eq_true, eq_self, Option.toList, List.cons_append, List.nil_append, ix_in, ix_cl, lt_in, lt_cl, lt_add, ix_one, vu_eq, vu_ne, arI_mk, arL_mk, arY_mZ, arY_mB, alen_mI, fld_sfl_ne, fld_sfl_same, Option.isSome_some, pok_i, b1z, b01, z10, b1o, Int32.zero_add, vu_vu, upd_eq, upd_ne, true_or, or_true]
  rw [p162_1 (Nat.le_of_ble_eq_true rfl) sp_isTray]
  by_cases h1 : 0 ≤ z.toInt ∧ z.toInt ≤ 3
  · rw [if_pos h1]
    by_cases h2 : 0 ≤ q.toInt ∧ q.toInt ≤ 3
    · rw [if_pos ⟨h1, h2⟩]
      have a1 : (q.toInt < 0) = False := eq_false (by omega)
      have a2 : (q.toInt ≤ 3) = True := eq_true h2.2
      by_cases h3 : 0 ≤ n.toInt ∧ n.toInt ≤ 40
      · rw [if_pos h3]
        have a3 : (n.toInt < 0) = False := eq_false (by omega)
        have a4 : (n.toInt ≤ 40) = True := eq_true h3.2
        obtain ⟨i, hi, rfl, hv⟩ := i9 (v := z) (N := 4) h1.1 (by omega) (by omega)
        obtain ⟨qq, hqq, rfl, hqv⟩ := i9 (v := q) (N := 4) h2.1 (by omega) (by omega)
        obtain ⟨M, hM, rfl, hnv⟩ := i9 (v := n) (N := 41) h3.1 (by omega) (by omega)
        rw [hv, hnv, Int.toNat_natCast, Int.toNat_natCast]
        obtain ⟨ga, hga, hgi⟩ := Z.2.2.2.2.2.1.1
        obtain ⟨so, sz, g, T, hso, -, -⟩ := Z.2.2.2.2.2.1.at hi
        have gi := hgi i hi
        simp (disch := first | omega | decide | assumption | exact Nat.le_of_ble_eq_true rfl) only [s162_4, s162_7, s162_8, s162_11, s162_12, s162_13, s162_19, s162_20, s162_23, s162_24, s162_26, s162_32, s162_33, s162_36, y162_37, s162_38, s162_39, ow_some, true_and, and_true, and_self, if_true, if_false, not_true, not_false_eq_true, Bool.false_eq_true, eq_self, Option.toList, List.cons_append, List.nil_append, ix_in, ix_cl, lt_in, lt_cl, lt_add, ix_one, vu_eq, vu_ne, arI_mk, arL_mk, arY_mZ, arY_mB, alen_mI, fld_sfl_ne, fld_sfl_same, Option.isSome_some, pok_i, b1z, b01, z10, b1o, Int32.zero_add, vu_vu, upd_eq, upd_ne, true_or, or_true, r11, hga, gi, va_rf_s, c1, l1, l2, l3, l4, a1, a2, a3, a4, ne_eq]
        refine k162_40 T.cn (Nat.le_of_ble_eq_true rfl) (sp_begT T) ?_
        rintro f1 n1 k1 v1 ⟨rfl, rfl, rfl, s1, g', T1, hz⟩
        simp (disch := first | omega | decide | assumption | exact Nat.le_of_ble_eq_true rfl) only [s162_43, s162_44, ow_some, true_and, and_true, and_self, if_true, if_false, not_true, not_false_eq_true, Bool.false_eq_true, eq_self, Option.toList, List.cons_append, List.nil_append, ix_in, ix_cl, lt_in, lt_cl, lt_add, ix_one, vu_eq, vu_ne, arI_mk, arL_mk, arY_mZ, arY_mB, alen_mI, fld_sfl_ne, fld_sfl_same, Option.isSome_some, pok_i, b1z, b01, z10, b1o, Int32.zero_add, vu_vu, upd_eq, upd_ne, true_or, or_true]
        refine ⟨rfl, rfl, fun b hb => s1 b (by omega), Y.fr (fun b h1 h2 => s1 b (by omega)), ⟨S, R, P, D, t, Z.tray (fun b h1 h2 => s1 b (by omega)) (Z.2.2.2.2.2.1.set hi s1 T1 ⟨qq, hqq, rfl⟩ (show M ≤ 40 by omega) upd_eq upd_eq rfl (fun k hk => ?_) (fun j hj hji => ⟨upd_ne hji, upd_ne hji, fun k hk => ?_⟩))⟩, rfl⟩
        · rw [hz k (by omega), n_l, if_pos (by omega)]
        · rw [n_l, if_neg (by omega)]
      · rw [if_neg h3]
        by_cases c : n.toInt < 0
        · have c' : (n.toInt < 0) = True := eq_true c
          simp (disch := first | omega | decide | assumption | exact Nat.le_of_ble_eq_true rfl) only [s162_4, s162_7, s162_8, s162_11, s162_12, s162_13, s162_19, s162_20, s162_29, s162_31, ow_some, true_and, and_true, and_self, if_true, if_false, not_true, not_false_eq_true, Bool.false_eq_true, eq_self, Option.toList, List.cons_append, List.nil_append, ix_in, ix_cl, lt_in, lt_cl, lt_add, ix_one, vu_eq, vu_ne, arI_mk, arL_mk, arY_mZ, arY_mB, alen_mI, fld_sfl_ne, fld_sfl_same, Option.isSome_some, pok_i, b1z, b01, z10, b1o, Int32.zero_add, vu_vu, upd_eq, upd_ne, true_or, or_true, c1, l1, l2, l3, a1, a2, c', ne_eq]
          exact fin _
        · have c' : (n.toInt < 0) = False := eq_false c
          have a4 : (n.toInt ≤ 40) = False := eq_false (by omega)
          simp (disch := first | omega | decide | assumption | exact Nat.le_of_ble_eq_true rfl) only [s162_4, s162_7, s162_8, s162_11, s162_12, s162_13, s162_19, s162_20, s162_23, s162_24, s162_26, s162_29, s162_31, ow_some, true_and, and_true, and_self, if_true, if_false, not_true, not_false_eq_true, Bool.false_eq_true, eq_self, Option.toList, List.cons_append, List.nil_append, ix_in, ix_cl, lt_in, lt_cl, lt_add, ix_one, vu_eq, vu_ne, arI_mk, arL_mk, arY_mZ, arY_mB, alen_mI, fld_sfl_ne, fld_sfl_same, Option.isSome_some, pok_i, b1z, b01, z10, b1o, Int32.zero_add, vu_vu, upd_eq, upd_ne, true_or, or_true, c1, l1, l2, l3, l4, a1, a2, c', a4, ne_eq]
          exact fin _
    · rw [if_neg (fun z => h2 z.2)]
      by_cases c : q.toInt < 0
      · have c' : (q.toInt < 0) = True := eq_true c
        simp (disch := first | omega | decide | assumption | exact Nat.le_of_ble_eq_true rfl) only [s162_4, s162_7, s162_8, s162_16, s162_18, ow_some, true_and, and_true, and_self, if_true, if_false, not_true, not_false_eq_true, Bool.false_eq_true, eq_self, Option.toList, List.cons_append, List.nil_append, ix_in, ix_cl, lt_in, lt_cl, lt_add, ix_one, vu_eq, vu_ne, arI_mk, arL_mk, arY_mZ, arY_mB, alen_mI, fld_sfl_ne, fld_sfl_same, Option.isSome_some, pok_i, b1z, b01, z10, b1o, Int32.zero_add, vu_vu, upd_eq, upd_ne, true_or, or_true, c1, l1, c', ne_eq]
        exact fin _
      · have c' : (q.toInt < 0) = False := eq_false c
        have a2 : (q.toInt ≤ 3) = False := eq_false (by omega)
        simp (disch := first | omega | decide | assumption | exact Nat.le_of_ble_eq_true rfl) only [s162_4, s162_7, s162_8, s162_11, s162_12, s162_13, s162_16, s162_18, ow_some, true_and, and_true, and_self, if_true, if_false, not_true, not_false_eq_true, Bool.false_eq_true, eq_self, Option.toList, List.cons_append, List.nil_append, ix_in, ix_cl, lt_in, lt_cl, lt_add, ix_one, vu_eq, vu_ne, arI_mk, arL_mk, arY_mZ, arY_mB, alen_mI, fld_sfl_ne, fld_sfl_same, Option.isSome_some, pok_i, b1z, b01, z10, b1o, Int32.zero_add, vu_vu, upd_eq, upd_ne, true_or, or_true, c1, l1, l2, c', a2, ne_eq]
        exact fin _
  · rw [if_neg h1, if_neg (fun z => h1 z.1)]
    simp (disch := first | omega | decide | assumption | exact Nat.le_of_ble_eq_true rfl) only [s162_4, s162_16, s162_18, ow_some, true_and, and_true, and_self, if_true, if_false, not_true, not_false_eq_true, Bool.false_eq_true, eq_self, Option.toList, List.cons_append, List.nil_append, ix_in, ix_cl, lt_in, lt_cl, lt_add, ix_one, vu_eq, vu_ne, arI_mk, arL_mk, arY_mZ, arY_mB, alen_mI, fld_sfl_ne, fld_sfl_same, Option.isSome_some, pok_i, b1z, b01, z10, b1o, Int32.zero_add, vu_vu, upd_eq, upd_ne, true_or, or_true, ne_eq]
    exact fin _
theorem sp_writeC (Z : ST f N s S R P D B t) (Y : SCR f) {z i : Int32} {v : Int64} {u : UInt64} : TT X (d + 3) 163 0 [.ref 0, .int z, .int i, .long v, .double u] [] f N K (QG f N K (o_write s z i v).1 B (.long (o_write s z i v).2)) := by
  have r11 := Z.1.r11
  have c1 : ((1 : Int32) = 0) = False := eq_false (by decide)
  have l1 : (i < (0 : Int32)) = (i.toInt < 0) := by rw [Int32.lt_iff_toInt_lt]; rfl
  have fin : ∀ z : Value, QG f N K s B z f N K (some z) := fun z => qg_q Z Y (fun _ _ => rfl)
  unfold o_write
  simp (disch := first | omega | decide | assumption | exact Nat.le_of_ble_eq_true rfl) only [s163_0, ow_some, true_and, and_true, and_self, if_true, if_false, not_true, not_false_eq_true, Bool.false_eq_true, eq_self, Option.toList, List.cons_append, List.nil_append, ix_in, ix_cl, lt_in, lt_cl, lt_add, ix_one, vu_eq, vu_ne, arI_mk, arL_mk, arY_mZ, arY_mB, alen_mI, fld_sfl_ne, fld_sfl_same, Option.isSome_some, pok_i, b1z, b01, z10, b1o, Int32.zero_add, vu_vu, upd_eq, upd_ne, true_or, or_true]
  rw [p163_1 (Nat.le_of_ble_eq_true rfl) sp_isTray]
  by_cases h1 : 0 ≤ z.toInt ∧ z.toInt ≤ 3
  · rw [if_pos h1, if_pos h1]
    obtain ⟨q, hq, rfl, hv⟩ := i9 (v := z) (N := 4) h1.1 (by omega) (by omega)
    simp only [hv, Int.toNat_natCast]
    obtain ⟨ga, hga, hgi⟩ := Z.2.2.2.2.2.1.1
    obtain ⟨so, sz, g, T, hso, hM, hT⟩ := Z.2.2.2.2.2.1.at hq
    have gi := hgi q hq
    have t1 := T.2.1
    rcases hT with ⟨q1, q2⟩ | ⟨q0, q1, q2, q3⟩
    · rw [if_pos q1]
      have c2 : ((0 : Int32) ≤ -1) = False := eq_false (by decide)
      simp (disch := first | omega | decide | assumption | exact Nat.le_of_ble_eq_true rfl) only [s163_4, s163_11, s163_12, s163_15, y163_16, s163_17, s163_20, s163_23, s163_26, ow_some, true_and, and_true, and_self, if_true, if_false, not_true, not_false_eq_true, Bool.false_eq_true, eq_self, Option.toList, List.cons_append, List.nil_append, ix_in, ix_cl, lt_in, lt_cl, lt_add, ix_one, vu_eq, vu_ne, arI_mk, arL_mk, arY_mZ, arY_mB, alen_mI, fld_sfl_ne, fld_sfl_same, Option.isSome_some, pok_i, b1z, b01, z10, b1o, Int32.zero_add, vu_vu, upd_eq, upd_ne, true_or, or_true, r11, hga, gi, va_rf_s, t1, q2, c1, c2, ne_eq]
      exact fin _
    · rw [if_neg q0]
      have c2 : ((0 : Int32) ≤ nI (nM s q)) = True := eq_true (by rw [Int32.le_iff_toInt_le, nI_toInt (by omega)]; show (0 : Int) ≤ _; omega)
      have l2 : (i < nI (nM s q)) = (i.toInt < nM s q) := by rw [Int32.lt_iff_toInt_lt, nI_toInt (by omega)]
      by_cases h2 : 0 ≤ i.toInt ∧ i.toInt < nM s q
      · rw [if_pos h2]
        have a1 : (i.toInt < 0) = False := eq_false (by omega)
        have a2 : (i.toInt < (nM s q : Int)) = True := eq_true h2.2
        simp (disch := first | omega | decide | assumption | exact Nat.le_of_ble_eq_true rfl) only [s163_4, s163_11, s163_12, s163_15, y163_16, s163_17, s163_20, s163_27, s163_28, s163_31, s163_32, s163_33, s163_36, y163_37, s163_38, s163_41, s163_48, s163_49, s163_52, y163_53, s163_54, s163_55, ow_some, true_and, and_true, and_self, if_true, if_false, not_true, not_false_eq_true, Bool.false_eq_true, eq_self, Option.toList, List.cons_append, List.nil_append, ix_in, ix_cl, lt_in, lt_cl, lt_add, ix_one, vu_eq, vu_ne, arI_mk, arL_mk, arY_mZ, arY_mB, alen_mI, fld_sfl_ne, fld_sfl_same, Option.isSome_some, pok_i, b1z, b01, z10, b1o, Int32.zero_add, vu_vu, upd_eq, upd_ne, true_or, or_true, r11, hga, gi, va_rf_s, t1, q2, c1, c2, l1, l2, a1, a2, ne_eq]
        obtain ⟨k, hk, rfl, hkv⟩ := i9 (v := i) (N := 40) h2.1 (by omega) (by omega)
        rw [q2] at T
        obtain ⟨s4, hs4, es4⟩ := id hso
        refine k163_56 T.cn (Nat.le_of_ble_eq_true rfl) (sp_put T ⟨s4, hs4, es4⟩ hk) ?_
        rintro f1 n1 k1 v1 ⟨rfl, rfl, s1, T1, rfl⟩
        simp (disch := first | omega | decide | assumption | exact Nat.le_of_ble_eq_true rfl) only [s163_59, ow_some, true_and, and_true, and_self, if_true, if_false, not_true, not_false_eq_true, Bool.false_eq_true, eq_self, Option.toList, List.cons_append, List.nil_append, ix_in, ix_cl, lt_in, lt_cl, lt_add, ix_one, vu_eq, vu_ne, arI_mk, arL_mk, arY_mZ, arY_mB, alen_mI, fld_sfl_ne, fld_sfl_same, Option.isSome_some, pok_i, b1z, b01, z10, b1o, Int32.zero_add, vu_vu, upd_eq, upd_ne, true_or, or_true]
        rw [hkv, Int.toNat_natCast, q1]
        have hk2 : k < nM s q := by omega
        have hmany := (Z.rm q hq).2
        refine ⟨rfl, rfl, fun b hb => s1 b (by omega), Y.fr (fun b h1 h2 => s1 b (by omega)), ⟨S, R, P, D, t, Z.tray (fun b h1 h2 => s1 b (by omega)) (Z.2.2.2.2.2.1.set hq (s1.wd (by omega) (by omega)) T1 hso hM hmany q1 rfl (fun k' hk' => ?_) (fun j hj hji => ⟨rfl, rfl, fun k' hk' => ?_⟩))⟩, rfl⟩
        · by_cases e : k' = k
          · subst e; rw [updL_eq, updL_eq]
          · rw [updL_ne e, updL_ne (by omega)]; exact q3 k' hk'
        · rw [updL_ne (by omega)]
      · rw [if_neg h2]
        by_cases c : i.toInt < 0
        · have c' : (i.toInt < 0) = True := eq_true c
          simp (disch := first | omega | decide | assumption | exact Nat.le_of_ble_eq_true rfl) only [s163_4, s163_11, s163_12, s163_15, y163_16, s163_17, s163_20, s163_27, s163_28, s163_44, s163_47, ow_some, true_and, and_true, and_self, if_true, if_false, not_true, not_false_eq_true, Bool.false_eq_true, eq_self, Option.toList, List.cons_append, List.nil_append, ix_in, ix_cl, lt_in, lt_cl, lt_add, ix_one, vu_eq, vu_ne, arI_mk, arL_mk, arY_mZ, arY_mB, alen_mI, fld_sfl_ne, fld_sfl_same, Option.isSome_some, pok_i, b1z, b01, z10, b1o, Int32.zero_add, vu_vu, upd_eq, upd_ne, true_or, or_true, r11, hga, gi, va_rf_s, t1, q2, c1, c2, l1, c', ne_eq]
          exact fin _
        · have c' : (i.toInt < 0) = False := eq_false c
          have a2 : (i.toInt < (nM s q : Int)) = False := eq_false (by omega)
          simp (disch := first | omega | decide | assumption | exact Nat.le_of_ble_eq_true rfl) only [s163_4, s163_11, s163_12, s163_15, y163_16, s163_17, s163_20, s163_27, s163_28, s163_31, s163_32, s163_33, s163_36, y163_37, s163_38, s163_41, s163_44, s163_47, ow_some, true_and, and_true, and_self, if_true, if_false, not_true, not_false_eq_true, Bool.false_eq_true, eq_self, Option.toList, List.cons_append, List.nil_append, ix_in, ix_cl, lt_in, lt_cl, lt_add, ix_one, vu_eq, vu_ne, arI_mk, arL_mk, arY_mZ, arY_mB, alen_mI, fld_sfl_ne, fld_sfl_same, Option.isSome_some, pok_i, b1z, b01, z10, b1o, Int32.zero_add, vu_vu, upd_eq, upd_ne, true_or, or_true, r11, hga, gi, va_rf_s, t1, q2, c1, c2, l1, l2, c', a2, ne_eq]
          exact fin _
  · rw [if_neg h1, if_neg h1]
    simp (disch := first | omega | decide | assumption | exact Nat.le_of_ble_eq_true rfl) only [s163_4, s163_7, s163_10, ow_some, true_and, and_true, and_self, if_true, if_false, not_true, not_false_eq_true, Bool.false_eq_true, eq_self, Option.toList, List.cons_append, List.nil_append, ix_in, ix_cl, lt_in, lt_cl, lt_add, ix_one, vu_eq, vu_ne, arI_mk, arL_mk, arY_mZ, arY_mB, alen_mI, fld_sfl_ne, fld_sfl_same, Option.isSome_some, pok_i, b1z, b01, z10, b1o, Int32.zero_add, vu_vu, upd_eq, upd_ne, true_or, or_true, ne_eq]
    exact fin _
end DEED

/-! the class: builds by trials -/
theorem allB_cg {c c' : Nat → Bool} {n : Nat} (h : ∀ j, j < n → c j = c' j) : allB c n = allB c' n := by
  have : (allB c n = true) ↔ (allB c' n = true) := by
    rw [allB_iff, allB_iff]
    exact ⟨fun a j hj => by rw [← h j hj]; exact a j hj, fun a j hj => by rw [h j hj]; exact a j hj⟩
  cases h1 : allB c n <;> cases h2 : allB c' n <;> simp_all
section DEED
variable {X : Nat × (Nat → Int32)} {d N K : Nat} {f f' f'' : Nat → e_C} {t t' : Nat → Int32} {s : m_T} {S R P P2 D B B2 j : Nat} {all2 : Nat → Int32}
theorem qg_q {z : Value} (Z : ST f N s S R P D B t) (Y : SCR f') (hf : ∀ b, b < 112 ∨ 171 ≤ b → f' b = f b) : QG f N K s B z f' N K (some z) :=
  ⟨rfl, rfl, fun b hb => hf b (by omega), Y, ⟨S, R, P, D, t, Z.fr (Nat.le_refl _) (Nat.le_refl _) (fun b hb => hf b (by omega))⟩, rfl⟩
theorem SCR.e5 (Y : SCR f) (h : SI 151 159 f f') (y : sc5 f') : SCR f' := by
  obtain ⟨a1, a2, a3, a4, a5, a6⟩ := Y
  exact ⟨sc1.fr a1 (fun b h1 h2 => h b (by omega)), sc2.fr a2 (fun b h1 h2 => h b (by omega)), sc3.fr a3 (fun b h1 h2 => h b (by omega)), sc4.fr a4 (fun b h1 h2 => h b (by omega)), y, sc6.fr a6 (fun b h1 h2 => h b (by omega))⟩
theorem fit_eq {g : Nat → Int64} {i p : Nat} (h : ∀ k, k < nM s i → g k = s.2.2.2.2.2.2 (40 * i + k)) : c_fit s.1 S P g (nM s i) p = t_fit s S P i p := by
  funext b
  unfold c_fit t_fit
  exact allB_cg (fun k hk => by unfold c_c t_c t_q; rw [h k hk])
theorem cv_eq {g : Nat → Int64} {i p : Nat} (h : ∀ k, k < nM s i → g k = s.2.2.2.2.2.2 (40 * i + k)) : c_v s.1 S P g (nM s i) p = t_v s S P i p := by
  funext o
  have e : c_st2 s.1 S P g (nM s i) p o = t_st s S P i p o := by
    funext b
    unfold c_st2 t_st
    rw [fit_eq h]
  unfold c_v t_v
  rw [fit_eq h, e]
/-- the tray and the person, where nothing is refused -/
theorem sp_refRooms (Z : ST f N s S R P D B t) (Y : SCR f) {z p : Int32} : PU X (d + 3) 151 [.ref 0, .int z, .int p] f N K (some (.int (m_nt s P z p))) := by
  unfold PU m_nt
  have I := Z.is
  have h9 := I.p9
  have r4 := Z.1.r4
  have r11 := Z.1.r11
  have r17 := Z.1.r17
  obtain ⟨pl, w0, x0, v0, r0, C, V, W, G, -, m, hp, hb⟩ := Z.2.1
  have hP : w0 1 = nI P := by rw [G.w1]; exact I.eP
  have c1 : ((1 : Int32) = 0) = False := eq_false (by decide)
  simp (disch := first | omega | decide | assumption | exact Nat.le_of_ble_eq_true rfl) only [s151_0, ow_some, true_and, and_true, and_self, if_true, if_false, not_true, not_false_eq_true, Bool.false_eq_true, eq_self, Option.toList, List.cons_append, List.nil_append, ix_in, ix_cl, lt_in, lt_cl, lt_add, ix_one, vu_eq, vu_ne, arI_mk, arL_mk, arY_mZ, arY_mB, alen_mI, fld_sfl_ne, fld_sfl_same, Option.isSome_some, pok_i, b1z, b01, z10, b1o, Int32.zero_add, vu_vu, upd_eq, upd_ne, true_or, or_true]
  rw [p151_1 (Nat.le_of_ble_eq_true rfl) sp_isTray]
  by_cases h1 : 0 ≤ z.toInt ∧ z.toInt ≤ 3
  · rw [if_pos h1]
    simp (disch := first | omega | decide | assumption | exact Nat.le_of_ble_eq_true rfl) only [s151_4, s151_7, s151_8, s151_11, ow_some, true_and, and_true, and_self, if_true, if_false, not_true, not_false_eq_true, Bool.false_eq_true, eq_self, Option.toList, List.cons_append, List.nil_append, ix_in, ix_cl, lt_in, lt_cl, lt_add, ix_one, vu_eq, vu_ne, arI_mk, arL_mk, arY_mZ, arY_mB, alen_mI, fld_sfl_ne, fld_sfl_same, Option.isSome_some, pok_i, b1z, b01, z10, b1o, Int32.zero_add, vu_vu, upd_eq, upd_ne, true_or, or_true, r4, c1, ne_eq]
    rw [p151_12 V.cn (Nat.le_of_ble_eq_true rfl) (sp_isTold V hP h9)]
    by_cases h2 : 0 ≤ p.toInt ∧ p.toInt < P
    · rw [if_pos h2, if_pos ⟨h1, h2⟩]
      obtain ⟨i, hi, rfl, hv⟩ := i9 (v := z) (N := 4) h1.1 (by omega) (by omega)
      obtain ⟨q, hq, rfl, hqv⟩ := i9 (v := p) (N := 9) h2.1 (by omega) (by omega)
      simp only [hv, hqv, Int.toNat_natCast]
      obtain ⟨ga, hga, hgi⟩ := Z.2.2.2.2.2.1.1
      obtain ⟨so, sz, g, T, hso, hM, hT⟩ := Z.2.2.2.2.2.1.at hi
      have gi := hgi i hi
      have t1 := T.2.1
      rcases hT with ⟨q1, q2⟩ | ⟨q0, q1, q2, q3⟩
      · rw [if_pos q1]
        have c2 : ((0 : Int32) ≤ -1) = False := eq_false (by decide)
        simp (disch := first | omega | decide | assumption | exact Nat.le_of_ble_eq_true rfl) only [s151_15, s151_21, s151_22, s151_25, y151_26, s151_27, s151_30, s151_33, s151_35, ow_some, true_and, and_true, and_self, if_true, if_false, not_true, not_false_eq_true, Bool.false_eq_true, eq_self, Option.toList, List.cons_append, List.nil_append, ix_in, ix_cl, lt_in, lt_cl, lt_add, ix_one, vu_eq, vu_ne, arI_mk, arL_mk, arY_mZ, arY_mB, alen_mI, fld_sfl_ne, fld_sfl_same, Option.isSome_some, pok_i, b1z, b01, z10, b1o, Int32.zero_add, vu_vu, upd_eq, upd_ne, true_or, or_true, r11, hga, gi, va_rf_s, t1, q2, c1, c2, ne_eq]
      · rw [if_neg q0]
        have c2 : ((0 : Int32) ≤ nI (nM s i)) = True := eq_true (by rw [Int32.le_iff_toInt_le, nI_toInt (by omega)]; show (0 : Int) ≤ _; omega)
        simp (disch := first | omega | decide | assumption | exact Nat.le_of_ble_eq_true rfl) only [s151_15, s151_21, s151_22, s151_25, y151_26, s151_27, s151_30, s151_36, s151_37, s151_40, s151_41, s151_44, s151_45, s151_48, y151_49, s151_50, ow_some, true_and, and_true, and_self, if_true, if_false, not_true, not_false_eq_true, Bool.false_eq_true, eq_self, Option.toList, List.cons_append, List.nil_append, ix_in, ix_cl, lt_in, lt_cl, lt_add, ix_one, vu_eq, vu_ne, arI_mk, arL_mk, arY_mZ, arY_mB, alen_mI, fld_sfl_ne, fld_sfl_same, Option.isSome_some, pok_i, b1z, b01, z10, b1o, Int32.zero_add, vu_vu, upd_eq, upd_ne, true_or, or_true, r4, r17, r11, hga, gi, va_rf_s, t1, q2, c1, c2, ne_eq]
        rw [q2] at T
        obtain ⟨y5, rm, ab, pb, L5, O5⟩ := Y.2.2.2.2.1
        rw [p151_51 O5.cn (Nat.le_of_ble_eq_true rfl) (sp_refusal V G I T hM (show q < P by omega))]
        simp (disch := first | omega | decide | assumption | exact Nat.le_of_ble_eq_true rfl) only [s151_54, ow_some, true_and, and_true, and_self, if_true, if_false, not_true, not_false_eq_true, Bool.false_eq_true, eq_self, Option.toList, List.cons_append, List.nil_append, ix_in, ix_cl, lt_in, lt_cl, lt_add, ix_one, vu_eq, vu_ne, arI_mk, arL_mk, arY_mZ, arY_mB, alen_mI, fld_sfl_ne, fld_sfl_same, Option.isSome_some, pok_i, b1z, b01, z10, b1o, Int32.zero_add, vu_vu, upd_eq, upd_ne, true_or, or_true]
        unfold c_ref
        rw [allB_cg (c := fun k => t_ok s.1 (g k)) (c' := fun k => t_ok s.1 (t_q s i k)) (fun k hk => by show t_ok s.1 (g k) = _; rw [q3 k hk]; rfl)]
    · rw [if_neg h2, if_neg (fun z => h2 z.2)]
      simp (disch := first | omega | decide | assumption | exact Nat.le_of_ble_eq_true rfl) only [s151_15, s151_18, s151_20, ow_some, true_and, and_true, and_self, if_true, if_false, not_true, not_false_eq_true, Bool.false_eq_true, eq_self, Option.toList, List.cons_append, List.nil_append, ix_in, ix_cl, lt_in, lt_cl, lt_add, ix_one, vu_eq, vu_ne, arI_mk, arL_mk, arY_mZ, arY_mB, alen_mI, fld_sfl_ne, fld_sfl_same, Option.isSome_some, pok_i, b1z, b01, z10, b1o, Int32.zero_add, vu_vu, upd_eq, upd_ne, true_or, or_true, ne_eq]
  · rw [if_neg h1, if_neg (fun z => h1 z.1)]
    simp (disch := first | omega | decide | assumption | exact Nat.le_of_ble_eq_true rfl) only [s151_4, s151_18, s151_20, ow_some, true_and, and_true, and_self, if_true, if_false, not_true, not_false_eq_true, Bool.false_eq_true, eq_self, Option.toList, List.cons_append, List.nil_append, ix_in, ix_cl, lt_in, lt_cl, lt_add, ix_one, vu_eq, vu_ne, arI_mk, arL_mk, arY_mZ, arY_mB, alen_mI, fld_sfl_ne, fld_sfl_same, Option.isSome_some, pok_i, b1z, b01, z10, b1o, Int32.zero_add, vu_vu, upd_eq, upd_ne, true_or, or_true, ne_eq]
theorem nt_q {z p : Int32} (h : m_nt s P z p = 0) : ∃ i q, i < 4 ∧ z = nI i ∧ q < P ∧ p = nI q ∧ ¬ s.2.2.2.2.1 i = -1 ∧ allB (fun k => t_ok s.1 (t_q s i k)) (nM s i) = true ∧ z.toInt.toNat = i ∧ p.toInt.toNat = q := by
  unfold m_nt at h
  by_cases h1 : (0 ≤ z.toInt ∧ z.toInt ≤ 3) ∧ (0 ≤ p.toInt ∧ p.toInt < P)
  · rw [if_pos h1] at h
    by_cases h2 : s.2.2.2.2.1 z.toInt.toNat = -1
    · rw [if_pos h2] at h; exact absurd h (by decide)
    · rw [if_neg h2] at h
      by_cases h3 : 1 ≤ nM s z.toInt.toNat ∧ nM s z.toInt.toNat ≤ 10
      · rw [if_pos h3] at h
        by_cases h4 : allB (fun i => t_ok s.1 (t_q s z.toInt.toNat i)) (nM s z.toInt.toNat) = true
        · refine ⟨z.toInt.toNat, p.toInt.toNat, by omega, ?_, by omega, ?_, h2, h4, rfl, rfl⟩
          · exact Int32.toInt_inj.mp (by rw [nI_toInt (by omega)]; omega)
          · have := Int32.toInt_lt p
            exact Int32.toInt_inj.mp (by rw [nI_toInt (by omega)]; omega)
        · rw [if_neg h4] at h; exact absurd h (by decide)
      · rw [if_neg h3] at h; exact absurd h (by decide)
  · rw [if_neg h1] at h; exact absurd h (by decide)
theorem sp_buildsC (Z : ST f N s S R P D B t) (Y : SCR f) {z p : Int32} {u3 : Value} : TT X (d + 7) 150 0 [.ref 0, .int z, .int p, u3] [] f N K (QG f N K s B (.int (o_builds s S P z p))) := by
  have I := Z.is
  have r4 := Z.1.r4
  have r11 := Z.1.r11
  have r17 := Z.1.r17
  simp (disch := first | omega | decide | assumption | exact Nat.le_of_ble_eq_true rfl) only [s150_0, s150_1, s150_2, ow_some, true_and, and_true, and_self, if_true, if_false, not_true, not_false_eq_true, Bool.false_eq_true, eq_self, Option.toList, List.cons_append, List.nil_append, ix_in, ix_cl, lt_in, lt_cl, lt_add, ix_one, vu_eq, vu_ne, arI_mk, arL_mk, arY_mZ, arY_mB, alen_mI, fld_sfl_ne, fld_sfl_same, Option.isSome_some, pok_i, b1z, b01, z10, b1o, Int32.zero_add, vu_vu, upd_eq, upd_ne, true_or, or_true]
  rw [p150_3 Z.1.cn (Nat.le_of_ble_eq_true rfl) (sp_refRooms Z Y)]
  unfold o_builds
  by_cases h0 : m_nt s P z p = 0
  · rw [if_pos h0]
    obtain ⟨i, q, hi, rfl, hq, rfl, hs, hok, e1, e2⟩ := nt_q h0
    rw [e1, e2]
    obtain ⟨pl, w0, x0, v0, r0, C, V, W, G, -, m, hp, hb⟩ := Z.2.1
    obtain ⟨ga, hga, hgi⟩ := Z.2.2.2.2.2.1.1
    obtain ⟨so, sz, g, T, hso, hM, hT⟩ := Z.2.2.2.2.2.1.at hi
    obtain ⟨q0, q1, q2, q3⟩ := hT.resolve_left (fun z => hs z.1)
    have gi := hgi i hi
    rw [q2] at T
    obtain ⟨y5, rm, ab, pb, L5, O5⟩ := Y.2.2.2.2.1
    simp (disch := first | omega | decide | assumption | exact Nat.le_of_ble_eq_true rfl) only [s150_6, s150_7, s150_8, s150_15, s150_16, s150_19, s150_20, s150_23, s150_24, s150_27, y150_28, s150_29, ow_some, true_and, and_true, and_self, if_true, if_false, not_true, not_false_eq_true, Bool.false_eq_true, eq_self, Option.toList, List.cons_append, List.nil_append, ix_in, ix_cl, lt_in, lt_cl, lt_add, ix_one, vu_eq, vu_ne, arI_mk, arL_mk, arY_mZ, arY_mB, alen_mI, fld_sfl_ne, fld_sfl_same, Option.isSome_some, pok_i, b1z, b01, z10, b1o, Int32.zero_add, vu_vu, upd_eq, upd_ne, true_or, or_true, r4, r17, r11, hga, gi, va_rf_s, h0, ne_eq]
    have hok' : ∀ k, k < nM s i → t_ok s.1 (g k) = true := fun k hk => by rw [q3 k hk]; exact allB_iff.mp hok k hk
    refine k150_30 O5.cn (Nat.le_of_ble_eq_true rfl) (sp_find L5 V W G I (hp.ad (by omega) (by omega)) O5 rfl T hM (by omega) (by omega) hok' hq) ?_
    rintro f1 n1 k1 v1 ⟨rfl, rfl, s1, ⟨y1, rm1, ab1, pb1, L1, O1, -⟩, rfl⟩
    simp (disch := first | omega | decide | assumption | exact Nat.le_of_ble_eq_true rfl) only [s150_33, ow_some, true_and, and_true, and_self, if_true, if_false, not_true, not_false_eq_true, Bool.false_eq_true, eq_self, Option.toList, List.cons_append, List.nil_append, ix_in, ix_cl, lt_in, lt_cl, lt_add, ix_one, vu_eq, vu_ne, arI_mk, arL_mk, arY_mZ, arY_mB, alen_mI, fld_sfl_ne, fld_sfl_same, Option.isSome_some, pok_i, b1z, b01, z10, b1o, Int32.zero_add, vu_vu, upd_eq, upd_ne, true_or, or_true]
    rw [fit_eq q3]
    exact qg_q Z (Y.e5 s1 ⟨y1, rm1, ab1, pb1, L1, O1⟩) (fun b hb => s1 b (by omega))
  · rw [if_neg h0]
    have h0' : (m_nt s P z p = 0) = False := eq_false h0
    simp (disch := first | omega | decide | assumption | exact Nat.le_of_ble_eq_true rfl) only [s150_6, s150_7, s150_8, s150_11, s150_12, s150_33, ow_some, true_and, and_true, and_self, if_true, if_false, not_true, not_false_eq_true, Bool.false_eq_true, eq_self, Option.toList, List.cons_append, List.nil_append, ix_in, ix_cl, lt_in, lt_cl, lt_add, ix_one, vu_eq, vu_ne, arI_mk, arL_mk, arY_mZ, arY_mB, alen_mI, fld_sfl_ne, fld_sfl_same, Option.isSome_some, pok_i, b1z, b01, z10, b1o, Int32.zero_add, vu_vu, upd_eq, upd_ne, true_or, or_true, h0', ne_eq]
    exact qg_q Z Y (fun _ _ => rfl)
theorem sp_trialC (Z : ST f N s S R P D B t) (Y : SCR f) {z p : Int32} {u3 : Value} : TT X (d + 7) 153 0 [.ref 0, .int z, .int p, u3] [] f N K (QG f N K s B (.int (o_trial s S P z p))) := by
  have I := Z.is
  have r4 := Z.1.r4
  have r11 := Z.1.r11
  have r17 := Z.1.r17
  simp (disch := first | omega | decide | assumption | exact Nat.le_of_ble_eq_true rfl) only [s153_0, s153_1, s153_2, ow_some, true_and, and_true, and_self, if_true, if_false, not_true, not_false_eq_true, Bool.false_eq_true, eq_self, Option.toList, List.cons_append, List.nil_append, ix_in, ix_cl, lt_in, lt_cl, lt_add, ix_one, vu_eq, vu_ne, arI_mk, arL_mk, arY_mZ, arY_mB, alen_mI, fld_sfl_ne, fld_sfl_same, Option.isSome_some, pok_i, b1z, b01, z10, b1o, Int32.zero_add, vu_vu, upd_eq, upd_ne, true_or, or_true]
  rw [p153_3 Z.1.cn (Nat.le_of_ble_eq_true rfl) (sp_refRooms Z Y)]
  unfold o_trial
  by_cases h0 : m_nt s P z p = 0
  · rw [if_pos h0]
    obtain ⟨i, q, hi, rfl, hq, rfl, hs, hok, e1, e2⟩ := nt_q h0
    rw [e1, e2]
    obtain ⟨pl, w0, x0, v0, r0, C, V, W, G, -, m, hp, hb⟩ := Z.2.1
    obtain ⟨ga, hga, hgi⟩ := Z.2.2.2.2.2.1.1
    obtain ⟨so, sz, g, T, hso, hM, hT⟩ := Z.2.2.2.2.2.1.at hi
    obtain ⟨q0, q1, q2, q3⟩ := hT.resolve_left (fun z => hs z.1)
    have gi := hgi i hi
    rw [q2] at T
    obtain ⟨y5, rm, ab, pb, L5, O5⟩ := Y.2.2.2.2.1
    simp (disch := first | omega | decide | assumption | exact Nat.le_of_ble_eq_true rfl) only [s153_6, s153_7, s153_8, s153_15, s153_16, s153_19, s153_20, s153_23, s153_24, s153_27, y153_28, s153_29, ow_some, true_and, and_true, and_self, if_true, if_false, not_true, not_false_eq_true, Bool.false_eq_true, eq_self, Option.toList, List.cons_append, List.nil_append, ix_in, ix_cl, lt_in, lt_cl, lt_add, ix_one, vu_eq, vu_ne, arI_mk, arL_mk, arY_mZ, arY_mB, alen_mI, fld_sfl_ne, fld_sfl_same, Option.isSome_some, pok_i, b1z, b01, z10, b1o, Int32.zero_add, vu_vu, upd_eq, upd_ne, true_or, or_true, r4, r17, r11, hga, gi, va_rf_s, h0, ne_eq]
    have hok' : ∀ k, k < nM s i → t_ok s.1 (g k) = true := fun k hk => by rw [q3 k hk]; exact allB_iff.mp hok k hk
    refine k153_30 O5.cn (Nat.le_of_ble_eq_true rfl) (sp_nextOut L5 V W G I (hp.ad (by omega) (by omega)) O5 rfl T hM (by omega) (by omega) hok' hq) ?_
    rintro f1 n1 k1 v1 ⟨rfl, rfl, s1, ⟨y1, rm1, ab1, pb1, L1, O1, -⟩, rfl⟩
    simp (disch := first | omega | decide | assumption | exact Nat.le_of_ble_eq_true rfl) only [s153_33, ow_some, true_and, and_true, and_self, if_true, if_false, not_true, not_false_eq_true, Bool.false_eq_true, eq_self, Option.toList, List.cons_append, List.nil_append, ix_in, ix_cl, lt_in, lt_cl, lt_add, ix_one, vu_eq, vu_ne, arI_mk, arL_mk, arY_mZ, arY_mB, alen_mI, fld_sfl_ne, fld_sfl_same, Option.isSome_some, pok_i, b1z, b01, z10, b1o, Int32.zero_add, vu_vu, upd_eq, upd_ne, true_or, or_true]
    rw [fit_eq q3, cv_eq q3]
    exact qg_q Z (Y.e5 s1 ⟨y1, rm1, ab1, pb1, L1, O1⟩) (fun b hb => s1 b (by omega))
  · rw [if_neg h0]
    have h0' : (m_nt s P z p = 0) = False := eq_false h0
    simp (disch := first | omega | decide | assumption | exact Nat.le_of_ble_eq_true rfl) only [s153_6, s153_7, s153_8, s153_11, s153_12, s153_33, ow_some, true_and, and_true, and_self, if_true, if_false, not_true, not_false_eq_true, Bool.false_eq_true, eq_self, Option.toList, List.cons_append, List.nil_append, ix_in, ix_cl, lt_in, lt_cl, lt_add, ix_one, vu_eq, vu_ne, arI_mk, arL_mk, arY_mZ, arY_mB, alen_mI, fld_sfl_ne, fld_sfl_same, Option.isSome_some, pok_i, b1z, b01, z10, b1o, Int32.zero_add, vu_vu, upd_eq, upd_ne, true_or, or_true, h0', ne_eq]
    exact qg_q Z Y (fun _ _ => rfl)
end DEED

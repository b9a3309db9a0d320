/-! the class: lists, images, counts -/
section DEED
variable {X : Nat × (Nat → Int32)} {d N K : Nat} {f f' f'' : Nat → e_C} {t t' : Nat → Int32} {s : m_T} {S R P P2 D B B2 j : Nat} {all2 : Nat → Int32}
theorem SCR.e1 (Y : SCR f) (h : SI 114 119 f f') (y : sc1 f') : SCR f' := by
  obtain ⟨a1, a2, a3, a4, a5, a6⟩ := Y
  exact ⟨y, sc2.fr a2 (fun b h1 h2 => h b (by omega)), sc3.fr a3 (fun b h1 h2 => h b (by omega)), sc4.fr a4 (fun b h1 h2 => h b (by omega)), sc5.fr a5 (fun b h1 h2 => h b (by omega)), sc6.fr a6 (fun b h1 h2 => h b (by omega))⟩
theorem mn_le {a b : Nat} (ha : a < 65536) (hb : b < 65536) : mnI (nI a) (nI b) = nI (min a b) := by
  unfold mnI
  by_cases h : a ≤ b
  · rw [if_neg (by rw [Int32.lt_iff_toInt_lt, nI_toInt (by omega), nI_toInt (by omega)]; omega), show min a b = a by omega]
  · rw [if_pos (by rw [Int32.lt_iff_toInt_lt, nI_toInt (by omega), nI_toInt (by omega)]; omega), show min a b = b by omega]
theorem sp_listsC (Z : ST f N s S R P D B t) (Y : SCR f) {z : Int32} {u2 u3 : Value} : TT X (d + 4) 164 0 [.ref 0, .int z, u2, u3] [] f N K (QG f N K (o_lists s S P z).1 B (.int (o_lists s S P z).2)) := by
  have I := Z.is
  have h8 := I.s8
  have r4 := Z.1.r4
  have r11 := Z.1.r11
  have r13 := Z.1.r13
  have c1 : ((1 : Int32) = 0) = False := eq_false (by decide)
  have fin : ∀ z : Value, QG f N K s B z f N K (some z) := fun z => qg_q Z Y (fun _ _ => rfl)
  unfold o_lists
  simp (disch := first | omega | decide | assumption | exact Nat.le_of_ble_eq_true rfl) only [s164_0, ow_some, true_and, and_true, and_self, if_true, if_false, not_true, not_false_eq_true, Bool.false_eq_true, eq_self, Option.toList, List.cons_append, List.nil_append, ix_in, ix_cl, lt_in, lt_cl, lt_add, ix_one, vu_eq, vu_ne, arI_mk, arL_mk, arY_mZ, arY_mB, alen_mI, fld_sfl_ne, fld_sfl_same, Option.isSome_some, pok_i, b1z, b01, z10, b1o, Int32.zero_add, vu_vu, upd_eq, upd_ne, true_or, or_true]
  rw [p164_1 (Nat.le_of_ble_eq_true rfl) sp_isTray]
  by_cases h1 : 0 ≤ z.toInt ∧ z.toInt ≤ 3
  · rw [if_pos h1, if_pos h1]
    obtain ⟨q, hq, rfl, hv⟩ := i9 (v := z) (N := 4) h1.1 (by omega) (by omega)
    simp only [hv, Int.toNat_natCast]
    obtain ⟨ga, hga, hgi⟩ := Z.2.2.2.2.2.1.1
    obtain ⟨so, sz, g, T, hso, hM, hT⟩ := Z.2.2.2.2.2.1.at hq
    have gi := hgi q hq
    have t1 := T.2.1
    rcases hT with ⟨q1, q2⟩ | ⟨q0, q1, q2, q3⟩
    · rw [if_pos q1]
      have c2 : ((0 : Int32) ≤ -1) = False := eq_false (by decide)
      simp (disch := first | omega | decide | assumption | exact Nat.le_of_ble_eq_true rfl) only [s164_4, s164_10, s164_11, s164_14, y164_15, s164_16, s164_19, s164_22, s164_24, ow_some, true_and, and_true, and_self, if_true, if_false, not_true, not_false_eq_true, Bool.false_eq_true, eq_self, Option.toList, List.cons_append, List.nil_append, ix_in, ix_cl, lt_in, lt_cl, lt_add, ix_one, vu_eq, vu_ne, arI_mk, arL_mk, arY_mZ, arY_mB, alen_mI, fld_sfl_ne, fld_sfl_same, Option.isSome_some, pok_i, b1z, b01, z10, b1o, Int32.zero_add, vu_vu, upd_eq, upd_ne, true_or, or_true, r11, hga, gi, va_rf_s, t1, q2, c1, c2, ne_eq]
      exact fin _
    · rw [if_neg q0]
      have c2 : ((0 : Int32) ≤ nI (nM s q)) = True := eq_true (by rw [Int32.le_iff_toInt_le, nI_toInt (by omega)]; show (0 : Int) ≤ _; omega)
      simp (disch := first | omega | decide | assumption | exact Nat.le_of_ble_eq_true rfl) only [s164_4, s164_10, s164_11, s164_14, y164_15, s164_16, s164_19, s164_25, s164_26, s164_29, s164_30, s164_33, ow_some, true_and, and_true, and_self, if_true, if_false, not_true, not_false_eq_true, Bool.false_eq_true, eq_self, Option.toList, List.cons_append, List.nil_append, ix_in, ix_cl, lt_in, lt_cl, lt_add, ix_one, vu_eq, vu_ne, arI_mk, arL_mk, arY_mZ, arY_mB, alen_mI, fld_sfl_ne, fld_sfl_same, Option.isSome_some, pok_i, b1z, b01, z10, b1o, Int32.zero_add, vu_vu, upd_eq, upd_ne, true_or, or_true, r4, r13, r11, hga, gi, va_rf_s, t1, q2, c1, c2, ne_eq]
      obtain ⟨pl, w0, x0, v0, r0, C, V, W, G, -, m, hp, hb⟩ := Z.2.1
      obtain ⟨y1, L1⟩ := Y.1
      refine k164_34 L1.cn (Nat.le_of_ble_eq_true rfl) (sp_later L1 V W G I (hp.ad (by omega) (by omega)) (n := 0) (by decide)) ?_
      rintro f1 n1 k1 v1 ⟨rfl, rfl, s1, ⟨y2, L2, -, h4⟩, rfl⟩
      rw [lat_0] at h4
      have hS : v0 0 = nI S := by rw [G.v0]; exact I.eS
      have H1 := Z.1.fr (f' := f1) (s1 0 (by omega))
      have V1 := V.fr (f' := f1) (fun b h1 h2 => s1 b (by omega))
      have W1 := W.fr (f' := f1) (fun b h1 h2 => s1 b (by rcases hp with rfl | hp <;> omega))
      have r4' := H1.r4
      have r11' := H1.r11
      have hga' : arS (f1 90) = some (4, ga) := by rw [s1 90 (by omega)]; exact hga
      have t1' : fld (f1 (91 + 2 * q)) 9 1 = some (.int (nI (nM s q))) := by rw [s1 _ (by omega), t1, q2]
      simp (disch := first | omega | decide | assumption | exact Nat.le_of_ble_eq_true rfl) only [s164_37, s164_38, s164_39, s164_42, s164_45, s164_48, s164_49, s164_52, y164_53, s164_54, ow_some, true_and, and_true, and_self, if_true, if_false, not_true, not_false_eq_true, Bool.false_eq_true, eq_self, Option.toList, List.cons_append, List.nil_append, ix_in, ix_cl, lt_in, lt_cl, lt_add, ix_one, vu_eq, vu_ne, arI_mk, arL_mk, arY_mZ, arY_mB, alen_mI, fld_sfl_ne, fld_sfl_same, Option.isSome_some, pok_i, b1z, b01, z10, b1o, Int32.zero_add, vu_vu, upd_eq, upd_ne, true_or, or_true, V1.v1, V1.v6, V1.v7, V1.v8, V1.v9, V1.i1, V1.i6, V1.i7, V1.i8, V1.i9, V1.r2, V1.r3, V1.r4, V1.r5, V1.pl, V1.a2, V1.a3, V1.a4, V1.a5, W1.v0, W1.v3, W1.v10, W1.v11, W1.v12, W1.v14, W1.v15, W1.v16, W1.v17, W1.v18, W1.r1, W1.r2, W1.r4, W1.r5, W1.r6, W1.r7, W1.r8, W1.r9, W1.r13, W1.a1, W1.a2, W1.a4, W1.a5, W1.a6, W1.a7, W1.a8, W1.a9, W1.a13, r4', r11', hS, hga', gi, va_rf_s, t1']
      rw [p164_57 (Nat.le_of_ble_eq_true rfl) sp_min, mn_le (by omega) (by omega)]
      simp (disch := first | omega | decide | assumption | exact Nat.le_of_ble_eq_true rfl) only [s164_60, s164_61, h164_62, ow_some, true_and, and_true, and_self, if_true, if_false, not_true, not_false_eq_true, Bool.false_eq_true, eq_self, Option.toList, List.cons_append, List.nil_append, ix_in, ix_cl, lt_in, lt_cl, lt_add, ix_one, vu_eq, vu_ne, arI_mk, arL_mk, arY_mZ, arY_mB, alen_mI, fld_sfl_ne, fld_sfl_same, Option.isSome_some, pok_i, b1z, b01, z10, b1o, Int32.zero_add, vu_vu, upd_eq, upd_ne, true_or, or_true]
      have T1 : TV f1 (91 + 2 * q) so (nI (nM s q)) g := by rw [← q2]; exact T.fr (s1 _ (by omega)) (s1 _ (by omega))
      have Y1 := Y.e1 s1 ⟨y2, L2⟩
      obtain ⟨s4, hs4, es4⟩ := id hso
      have hmin : min S (nM s q) ≤ 8 := by omega
      refine lp (fun k e (h : Nat → Int64) => SI (91 + 2 * q) (91 + 2 * q + 2) f1 e ∧ TV e (91 + 2 * q) so (nI (nM s q)) h ∧ ∀ i, i < 40 → h i = if i < k then m_cut (m_bo s.1 (nT s.1) P i).toInt64 so else g i) (fun k _ => [.ref 0, .int (nI q), .int (nI (min S (nM s q))), .int (nI k)]) (min S (nM s q)) ?_ ?_ 0 f1 g (by omega) ⟨SI.rf, T1, fun i _ => by rw [if_neg (by omega)]⟩
      · rintro k e h hk ⟨se, Te, he⟩ hI
        have hc : (min S (nM s q) ≤ k) = False := eq_false (by omega)
        have He := H1.fr (f' := e) (se 0 (by omega))
        have Le := L2.fr (f' := e) (fun b h1 h2 => se b (by omega))
        have r11e := He.r11
        have r13e := He.r13
        have hgae : arS (e 90) = some (4, ga) := by rw [se 90 (by omega)]; exact hga'
        have e4 := h4 k (by omega)
        have k8 : k < 8 := by omega
        simp (disch := first | omega | decide | assumption | exact Nat.le_of_ble_eq_true rfl) only [s164_63, s164_64, s164_65, s164_68, s164_69, s164_72, y164_73, s164_74, s164_75, s164_76, s164_79, s164_82, s164_83, s164_84, ow_some, true_and, and_true, and_self, if_true, if_false, not_true, not_false_eq_true, Bool.false_eq_true, eq_self, Option.toList, List.cons_append, List.nil_append, ix_in, ix_cl, lt_in, lt_cl, lt_add, ix_one, vu_eq, vu_ne, arI_mk, arL_mk, arY_mZ, arY_mB, alen_mI, fld_sfl_ne, fld_sfl_same, Option.isSome_some, pok_i, b1z, b01, z10, b1o, Int32.zero_add, vu_vu, upd_eq, upd_ne, true_or, or_true, Le.r0, Le.r1, Le.r2, Le.r3, Le.l0, Le.l1, Le.a0, Le.a1, Le.a2, Le.a3, Le.a4, ix_le, hc, r11e, r13e, hgae, gi, va_rf_s, e4]
        refine k164_85 Te.cn (Nat.le_of_ble_eq_true rfl) (sp_put Te ⟨s4, hs4, es4⟩ (show k < 40 by omega)) ?_
        rintro f2 n2 k2 v2 ⟨rfl, rfl, s2, T2, rfl⟩
        simp (disch := first | omega | decide | assumption | exact Nat.le_of_ble_eq_true rfl) only [s164_88, s164_89, h164_92, ow_some, true_and, and_true, and_self, if_true, if_false, not_true, not_false_eq_true, Bool.false_eq_true, eq_self, Option.toList, List.cons_append, List.nil_append, ix_in, ix_cl, lt_in, lt_cl, lt_add, ix_one, vu_eq, vu_ne, arI_mk, arL_mk, arY_mZ, arY_mB, alen_mI, fld_sfl_ne, fld_sfl_same, Option.isSome_some, pok_i, b1z, b01, z10, b1o, Int32.zero_add, vu_vu, upd_eq, upd_ne, true_or, or_true]
        refine hI _ _ ⟨se.tr (s2.wd (by omega) (by omega)), T2, fun i hi => ?_⟩
        by_cases ei : i = k
        · subst ei; rw [updL_eq, if_pos (by omega)]
        · rw [updL_ne ei, he i hi]
          by_cases hh : i < k
          · rw [if_pos hh, if_pos (by omega)]
          · rw [if_neg hh, if_neg (by omega)]
      · rintro e h ⟨se, Te, he⟩
        simp (disch := first | omega | decide | assumption | exact Nat.le_of_ble_eq_true rfl) only [s164_63, s164_64, s164_65, s164_95, s164_96, ow_some, true_and, and_true, and_self, if_true, if_false, not_true, not_false_eq_true, Bool.false_eq_true, eq_self, Option.toList, List.cons_append, List.nil_append, ix_in, ix_cl, lt_in, lt_cl, lt_add, ix_one, vu_eq, vu_ne, arI_mk, arL_mk, arY_mZ, arY_mB, alen_mI, fld_sfl_ne, fld_sfl_same, Option.isSome_some, pok_i, b1z, b01, z10, b1o, Int32.zero_add, vu_vu, upd_eq, upd_ne, true_or, or_true, ix_le, Nat.le_refl]
        rw [q1]
        have hmany := (Z.rm q hq).2
        have Z1 := Z.fr (f' := f1) (Nat.le_refl _) (Nat.le_refl _) (fun b hb => s1 b (by omega))
        refine ⟨rfl, rfl, fun b hb => by rw [se b (by omega)]; exact s1 b (by omega), Y1.fr (fun b h1 h2 => se b (by omega)), ⟨S, R, P, D, t, Z1.tray (fun b h1 h2 => se b (by omega)) (Z1.2.2.2.2.2.1.set hq se Te hso hM hmany q1 rfl (fun k' hk' => ?_) (fun j hj hji => ⟨rfl, rfl, fun k' hk' => ?_⟩))⟩, rfl⟩
        · rw [he k' (by omega), n_l]
          by_cases hh : k' < min S (nM s q)
          · rw [if_pos hh, if_pos (by omega), Nat.add_sub_cancel_left]
          · rw [if_neg hh, if_neg (by omega)]; exact q3 k' hk'
        · rw [n_l, if_neg (by omega)]
  · rw [if_neg h1, if_neg h1]
    simp (disch := first | omega | decide | assumption | exact Nat.le_of_ble_eq_true rfl) only [s164_4, s164_7, s164_9, ow_some, true_and, and_true, and_self, if_true, if_false, not_true, not_false_eq_true, Bool.false_eq_true, eq_self, Option.toList, List.cons_append, List.nil_append, ix_in, ix_cl, lt_in, lt_cl, lt_add, ix_one, vu_eq, vu_ne, arI_mk, arL_mk, arY_mZ, arY_mB, alen_mI, fld_sfl_ne, fld_sfl_same, Option.isSome_some, pok_i, b1z, b01, z10, b1o, Int32.zero_add, vu_vu, upd_eq, upd_ne, true_or, or_true, ne_eq]
    exact fin _
end DEED

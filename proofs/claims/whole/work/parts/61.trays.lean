/-! the reference: trays, images, counts -/
def st_so (s : m_T) (g : Nat → Int32) : m_T := (s.1, s.2.1, s.2.2.1, s.2.2.2.1, g, s.2.2.2.2.2.1, s.2.2.2.2.2.2)
def st_ma (s : m_T) (g : Nat → Int32) : m_T := (s.1, s.2.1, s.2.2.1, s.2.2.2.1, s.2.2.2.2.1, g, s.2.2.2.2.2.2)
def st_nu (s : m_T) (g : Nat → Int64) : m_T := (s.1, s.2.1, s.2.2.1, s.2.2.2.1, s.2.2.2.2.1, s.2.2.2.2.2.1, g)
def st_im (s : m_T) (g : Nat → Int32) : m_T := (s.1, s.2.1, s.2.2.1, g, s.2.2.2.2.1, s.2.2.2.2.2.1, s.2.2.2.2.2.2)
theorem MV.so {f : Nat → e_C} {s : m_T} {g : Nat → Int32} (h : MV f s) : MV (va_up f 186 (.inl (.int, 4, .inl g))) (st_so s g) := by
  intro b h1 h2
  by_cases hb : b = 186
  · subst hb; rw [vu_eq]; rfl
  · rw [vu_ne hb]
    have := h b h1 h2
    unfold mcell at this ⊢
    simp only [hb, if_false] at this ⊢
    exact this
theorem MV.ma {f : Nat → e_C} {s : m_T} {g : Nat → Int32} (h : MV f s) : MV (va_up f 187 (.inl (.int, 4, .inl g))) (st_ma s g) := by
  intro b h1 h2
  by_cases hb : b = 187
  · subst hb; rw [vu_eq]; rfl
  · rw [vu_ne hb]
    have := h b h1 h2
    unfold mcell at this ⊢
    simp only [hb, if_false] at this ⊢
    exact this
theorem MV.nu {f : Nat → e_C} {s : m_T} {g : Nat → Int64} (h : MV f s) : MV (va_up f 188 (.inl (.long, 160, .inr (.inl g)))) (st_nu s g) := by
  intro b h1 h2
  by_cases hb : b = 188
  · subst hb; rw [vu_eq]; rfl
  · rw [vu_ne hb]
    have := h b h1 h2
    have hb2 : b < 188 := by omega
    rcases (show b = 171 ∨ b = 172 ∨ b = 173 ∨ b = 174 ∨ b = 175 ∨ b = 176 ∨ b = 177 ∨ b = 178 ∨ b = 179 ∨ b = 180 ∨ b = 181 ∨ b = 182 ∨ b = 183 ∨ b = 184 ∨ b = 185 ∨ b = 186 ∨ b = 187 by omega) with rfl | rfl | rfl | rfl | rfl | rfl | rfl | rfl | rfl | rfl | rfl | rfl | rfl | rfl | rfl | rfl | rfl <;> exact this
theorem MV.im {f : Nat → e_C} {s : m_T} {g : Nat → Int32} (h : MV f s) : MV (va_up f 173 (.inl (.boolean, 2, .inl g))) (st_im s g) := by
  intro b h1 h2
  by_cases hb : b = 173
  · subst hb; rw [vu_eq]; rfl
  · rw [vu_ne hb]
    have := h b h1 h2
    unfold mcell at this ⊢
    simp only [hb, if_false] at this ⊢
    exact this
abbrev MY (N K : Nat) (f : Nat → e_C) (s' : m_T) (v0 : Value) : t_Q := fun f' n' k' v => n' = N ∧ k' = K ∧ SW f f' ∧ MV f' s' ∧ v = some v0
def m_cut (v : Int64) (so : Int32) : Int64 := if so = 0 then v.toInt32.toInt8.toInt32.toInt64 else if so = 1 then v.toInt32.toInt16.toInt32.toInt64 else if so = 2 then v.toInt32.toInt64 else v
theorem sp_cut {X : Nat × (Nat → Int32)} {d N K : Nat} {f : Nat → e_C} {v : Int64} {u : UInt64} {so : Int32} : PU X d 295 [.long v, .double u, .int so] f N K (some (.long (m_cut v so))) := by
  unfold PU m_cut
  by_cases h0 : so = 0
  · simp (disch := first | omega | decide | assumption | exact Nat.le_of_ble_eq_true rfl) only [s295_0, s295_1, s295_4, s295_5, s295_6, s295_7, s295_8, s295_11, s295_12, s295_13, s295_16, s295_17, s295_18, s295_19, s295_20, s295_23, s295_24, s295_25, s295_28, s295_29, s295_30, s295_31, s295_34, s295_35, ow_some, true_and, and_true, and_self, if_true, if_false, not_true, not_false_eq_true, Bool.false_eq_true, eq_self, Option.toList, List.cons_append, List.nil_append, ix_in, ix_cl, lt_in, lt_cl, lt_add, ix_one, vu_eq, vu_ne, arI_mk, arL_mk, arY_mZ, arY_mB, alen_mI, fld_sfl_ne, fld_sfl_same, Option.isSome_some, pok_i, b1z, b01, z10, b1o, Int32.zero_add, vu_vu, upd_eq, upd_ne, true_or, or_true, h0]
  · by_cases h1 : so = 1
    · simp (disch := first | omega | decide | assumption | exact Nat.le_of_ble_eq_true rfl) only [s295_0, s295_1, s295_4, s295_5, s295_6, s295_7, s295_8, s295_11, s295_12, s295_13, s295_16, s295_17, s295_18, s295_19, s295_20, s295_23, s295_24, s295_25, s295_28, s295_29, s295_30, s295_31, s295_34, s295_35, ow_some, true_and, and_true, and_self, if_true, if_false, not_true, not_false_eq_true, Bool.false_eq_true, eq_self, Option.toList, List.cons_append, List.nil_append, ix_in, ix_cl, lt_in, lt_cl, lt_add, ix_one, vu_eq, vu_ne, arI_mk, arL_mk, arY_mZ, arY_mB, alen_mI, fld_sfl_ne, fld_sfl_same, Option.isSome_some, pok_i, b1z, b01, z10, b1o, Int32.zero_add, vu_vu, upd_eq, upd_ne, true_or, or_true, h0, h1]
    · by_cases h2 : so = 2
      · simp (disch := first | omega | decide | assumption | exact Nat.le_of_ble_eq_true rfl) only [s295_0, s295_1, s295_4, s295_5, s295_6, s295_7, s295_8, s295_11, s295_12, s295_13, s295_16, s295_17, s295_18, s295_19, s295_20, s295_23, s295_24, s295_25, s295_28, s295_29, s295_30, s295_31, s295_34, s295_35, ow_some, true_and, and_true, and_self, if_true, if_false, not_true, not_false_eq_true, Bool.false_eq_true, eq_self, Option.toList, List.cons_append, List.nil_append, ix_in, ix_cl, lt_in, lt_cl, lt_add, ix_one, vu_eq, vu_ne, arI_mk, arL_mk, arY_mZ, arY_mB, alen_mI, fld_sfl_ne, fld_sfl_same, Option.isSome_some, pok_i, b1z, b01, z10, b1o, Int32.zero_add, vu_vu, upd_eq, upd_ne, true_or, or_true, h0, h1, h2]
        have t1 : ((2 : Int32) = 0) = False := eq_false (by decide)
        have t2 : ((2 : Int32) = 1) = False := eq_false (by decide)
        simp only [t1, t2, if_false, not_false_eq_true, if_true]
      · simp (disch := first | omega | decide | assumption | exact Nat.le_of_ble_eq_true rfl) only [s295_0, s295_1, s295_4, s295_5, s295_6, s295_7, s295_8, s295_11, s295_12, s295_13, s295_16, s295_17, s295_18, s295_19, s295_20, s295_23, s295_24, s295_25, s295_28, s295_29, s295_30, s295_31, s295_34, s295_35, ow_some, true_and, and_true, and_self, if_true, if_false, not_true, not_false_eq_true, Bool.false_eq_true, eq_self, Option.toList, List.cons_append, List.nil_append, ix_in, ix_cl, lt_in, lt_cl, lt_add, ix_one, vu_eq, vu_ne, arI_mk, arL_mk, arY_mZ, arY_mB, alen_mI, fld_sfl_ne, fld_sfl_same, Option.isSome_some, pok_i, b1z, b01, z10, b1o, Int32.zero_add, vu_vu, upd_eq, upd_ne, true_or, or_true, h0, h1, h2]
theorem ul_eq {g : Nat → Int64} {a : Nat} {x : Int64} : vp_updL g a x a = x := by simp [vp_updL]
theorem ul_ne {g : Nat → Int64} {a b : Nat} {x : Int64} (h : b ≠ a) : vp_updL g a x b = g b := by simp [vp_updL, h]
def n_l (q : Nat → Int64) (t n : Nat) (g : Nat → Int64) : Nat → Int64 := fun i => if 40 * t ≤ i ∧ i < 40 * t + n then g (i - 40 * t) else q i
theorem n_l_s {q g : Nat → Int64} {t n : Nat} : vp_updL (n_l q t n g) (40 * t + n) (g n) = n_l q t (n + 1) g := by
  funext i
  by_cases h : i = 40 * t + n
  · subst h; rw [ul_eq, n_l, if_pos (by omega)]; congr 1; omega
  · rw [ul_ne h, n_l, n_l]
    by_cases h2 : 40 * t ≤ i ∧ i < 40 * t + n
    · rw [if_pos h2, if_pos (by omega)]
    · rw [if_neg h2, if_neg (by omega)]
theorem n_l_0 {q g : Nat → Int64} {t : Nat} : n_l q t 0 g = q := by
  funext i; rw [n_l, if_neg (by omega)]
def o_numbers (s : m_T) (t so n : Int32) : m_T × Int32 := if (0 ≤ t.toInt ∧ t.toInt ≤ 3) ∧ (0 ≤ so.toInt ∧ so.toInt ≤ 3) then (if 0 ≤ n.toInt ∧ n.toInt ≤ 40 then (st_nu (st_ma (st_so s (upd s.2.2.2.2.1 t.toInt.toNat so)) (upd s.2.2.2.2.2.1 t.toInt.toNat n)) (n_l s.2.2.2.2.2.2 t.toInt.toNat n.toInt.toNat (fun _ => 0)), 0) else (s, -3)) else (s, -2)
theorem sp_numbers {X : Nat × (Nat → Int32)} {d N K : Nat} {f : Nat → e_C} {s : m_T} (V : MV f s) {t so n : Int32} {a4 : Value} : TT X (d + 8) 293 0 [.ref 171, .int t, .int so, .int n, a4] [] f N K (MY N K f (o_numbers s t so n).1 (.int (o_numbers s t so n).2)) := by
  simp only [s293_0, s293_1, s293_2, V.i0, pok_i, true_and]
  have sm0 : SM f (va_up f 171 (sfl (f 171) 0 (.int 0))) := SM.up (by omega) (by omega)
  have V0 := V.num (j := 0) (x := 0) (by decide)
  generalize va_up f 171 (sfl (f 171) 0 (.int 0)) = f0 at sm0 V0 ⊢
  simp (disch := first | omega | decide | assumption | exact Nat.le_of_ble_eq_true rfl) only [s293_5, s293_6, s293_7, s293_8, ow_some, true_and, and_true, and_self, if_true, if_false, not_true, not_false_eq_true, Bool.false_eq_true, eq_self, Option.toList, List.cons_append, List.nil_append, ix_in, ix_cl, lt_in, lt_cl, lt_add, ix_one, vu_eq, vu_ne, arI_mk, arL_mk, arY_mZ, arY_mB, alen_mI, fld_sfl_ne, fld_sfl_same, Option.isSome_some, pok_i, b1z, b01, z10, b1o, Int32.zero_add, vu_vu, upd_eq, upd_ne, true_or, or_true, V0.r1, V0.r2, V0.r3, V0.r4, V0.r16, V0.r17, V0.r18, V0.r19, V0.r20, V0.r23, V0.r24, V0.r25, V0.r26, V0.r27, V0.r28, V0.r29, V0.r30, V0.c172, V0.c173, V0.c174, V0.c186, V0.c187, V0.c188, V0.n5, V0.n13, V0.n14, V0.i0, V0.i5, V0.i6, V0.i7, V0.i8, V0.i9, V0.i10, V0.i11, V0.i12, V0.i13, V0.i14, V0.i15, V0.i21, V0.i22]
  rw [p293_11 (Nat.le_of_ble_eq_true rfl) sp_within]
  have e : ∀ t : Int32, (0 ≤ t.toInt64 ∧ t.toInt64 ≤ 3) = (0 ≤ t.toInt ∧ t.toInt ≤ 3) := fun t => wth (a := 0) (b := 3) (by decide) (by decide)
  have e4 : (0 ≤ n.toInt64 ∧ n.toInt64 ≤ 40) = (0 ≤ n.toInt ∧ n.toInt ≤ 40) := wth (a := 0) (b := 40) (by decide) (by decide)
  simp only [e]
  unfold o_numbers
  by_cases h1 : 0 ≤ t.toInt ∧ t.toInt ≤ 3
  · simp (disch := first | omega | decide | assumption | exact Nat.le_of_ble_eq_true rfl) only [s293_14, s293_17, s293_18, s293_19, s293_20, ow_some, true_and, and_true, and_self, if_true, if_false, not_true, not_false_eq_true, Bool.false_eq_true, eq_self, Option.toList, List.cons_append, List.nil_append, ix_in, ix_cl, lt_in, lt_cl, lt_add, ix_one, vu_eq, vu_ne, arI_mk, arL_mk, arY_mZ, arY_mB, alen_mI, fld_sfl_ne, fld_sfl_same, Option.isSome_some, pok_i, b1z, b01, z10, b1o, Int32.zero_add, vu_vu, upd_eq, upd_ne, true_or, or_true, V0.r1, V0.r2, V0.r3, V0.r4, V0.r16, V0.r17, V0.r18, V0.r19, V0.r20, V0.r23, V0.r24, V0.r25, V0.r26, V0.r27, V0.r28, V0.r29, V0.r30, V0.c172, V0.c173, V0.c174, V0.c186, V0.c187, V0.c188, V0.n5, V0.n13, V0.n14, V0.i0, V0.i5, V0.i6, V0.i7, V0.i8, V0.i9, V0.i10, V0.i11, V0.i12, V0.i13, V0.i14, V0.i15, V0.i21, V0.i22, h1]
    rw [p293_23 (Nat.le_of_ble_eq_true rfl) sp_within]
    simp only [e]
    by_cases h2 : 0 ≤ so.toInt ∧ so.toInt ≤ 3
    · simp (disch := first | omega | decide | assumption | exact Nat.le_of_ble_eq_true rfl) only [s293_26, s293_29, s293_31, s293_32, s293_33, s293_34, s293_35, ow_some, true_and, and_true, and_self, if_true, if_false, not_true, not_false_eq_true, Bool.false_eq_true, eq_self, Option.toList, List.cons_append, List.nil_append, ix_in, ix_cl, lt_in, lt_cl, lt_add, ix_one, vu_eq, vu_ne, arI_mk, arL_mk, arY_mZ, arY_mB, alen_mI, fld_sfl_ne, fld_sfl_same, Option.isSome_some, pok_i, b1z, b01, z10, b1o, Int32.zero_add, vu_vu, upd_eq, upd_ne, true_or, or_true, V0.r1, V0.r2, V0.r3, V0.r4, V0.r16, V0.r17, V0.r18, V0.r19, V0.r20, V0.r23, V0.r24, V0.r25, V0.r26, V0.r27, V0.r28, V0.r29, V0.r30, V0.c172, V0.c173, V0.c174, V0.c186, V0.c187, V0.c188, V0.n5, V0.n13, V0.n14, V0.i0, V0.i5, V0.i6, V0.i7, V0.i8, V0.i9, V0.i10, V0.i11, V0.i12, V0.i13, V0.i14, V0.i15, V0.i21, V0.i22, h2]
      rw [p293_38 (Nat.le_of_ble_eq_true rfl) sp_within]
      simp only [e4]
      by_cases h3 : 0 ≤ n.toInt ∧ n.toInt ≤ 40
      · obtain ⟨j, hj, rfl, hv⟩ := i9 (v := t) (N := 4) (by omega) (by omega) (by omega)
        obtain ⟨m, hm, rfl, hw⟩ := i9 (v := n) (N := 41) (by omega) (by omega) (by omega)
        have h1' : (0 ≤ (nI j).toInt ∧ (nI j).toInt ≤ 3) = True := eq_true h1
        have h2' : (0 ≤ so.toInt ∧ so.toInt ≤ 3) = True := eq_true h2
        have h3' : (0 ≤ (nI m).toInt ∧ (nI m).toInt ≤ 40) = True := eq_true h3
        simp (disch := first | omega | decide | assumption | exact Nat.le_of_ble_eq_true rfl) only [s293_41, s293_44, s293_46, s293_47, s293_48, s293_51, s293_52, s293_53, s293_54, s293_55, s293_58, s293_59, s293_60, s293_61, h293_62, ow_some, true_and, and_true, and_self, if_true, if_false, not_true, not_false_eq_true, Bool.false_eq_true, eq_self, Option.toList, List.cons_append, List.nil_append, ix_in, ix_cl, lt_in, lt_cl, lt_add, ix_one, vu_eq, vu_ne, arI_mk, arL_mk, arY_mZ, arY_mB, alen_mI, fld_sfl_ne, fld_sfl_same, Option.isSome_some, pok_i, b1z, b01, z10, b1o, Int32.zero_add, vu_vu, upd_eq, upd_ne, true_or, or_true, V0.r1, V0.r2, V0.r3, V0.r4, V0.r16, V0.r17, V0.r18, V0.r19, V0.r20, V0.r23, V0.r24, V0.r25, V0.r26, V0.r27, V0.r28, V0.r29, V0.r30, V0.c172, V0.c173, V0.c174, V0.c186, V0.c187, V0.c188, V0.n5, V0.n13, V0.n14, V0.i0, V0.i5, V0.i6, V0.i7, V0.i8, V0.i9, V0.i10, V0.i11, V0.i12, V0.i13, V0.i14, V0.i15, V0.i21, V0.i22, h1', h2', h3']
        simp only [hv, hw, Int.toNat_natCast]
        have V1 := (V0.so (g := upd s.2.2.2.2.1 j so)).ma (g := upd s.2.2.2.2.2.1 j (nI m))
        have sw1 : SW f (va_up (va_up f0 186 (.inl (.int, 4, .inl (upd s.2.2.2.2.1 j so)))) 187 (.inl (.int, 4, .inl (upd s.2.2.2.2.2.1 j (nI m))))) := (sm0.w.tr (SW.up (by omega) (by omega))).tr (SW.up (by omega) (by omega))
        generalize va_up (va_up f0 186 (.inl (.int, 4, .inl (upd s.2.2.2.2.1 j so)))) 187 (.inl (.int, 4, .inl (upd s.2.2.2.2.2.1 j (nI m)))) = f1 at V1 sw1 ⊢
        have hnu : (st_ma (st_so s (upd s.2.2.2.2.1 j so)) (upd s.2.2.2.2.2.1 j (nI m))).2.2.2.2.2.2 = s.2.2.2.2.2.2 := rfl
        generalize st_ma (st_so s (upd s.2.2.2.2.1 j so)) (upd s.2.2.2.2.2.1 j (nI m)) = s1 at V1 hnu ⊢
        have e40 : (40 : Int32) * nI j = nI (40 * j) := by rw [lit_nI 40, pk_mul]
        refine lp (fun k g (_ : Unit) => SW f g ∧ MV g (st_nu s1 (n_l s.2.2.2.2.2.2 j k (fun _ => 0)))) (fun k _ => [.ref 171, .int (nI j), .int so, .int (nI m), .int (nI k)]) m ?_ ?_ 0 f1 () (by omega) ⟨sw1, ?_⟩
        · rintro k g _ hk ⟨sw, V2⟩ hI
          have hc : (m ≤ k) = False := eq_false (by omega)
          simp (disch := first | omega | decide | assumption | exact Nat.le_of_ble_eq_true rfl) only [s293_64, s293_66, s293_67, s293_70, s293_71, s293_74, s293_76, s293_77, s293_78, s293_80, s293_81, s293_82, s293_83, h293_86, ow_some, true_and, and_true, and_self, if_true, if_false, not_true, not_false_eq_true, Bool.false_eq_true, eq_self, Option.toList, List.cons_append, List.nil_append, ix_in, ix_cl, lt_in, lt_cl, lt_add, ix_one, vu_eq, vu_ne, arI_mk, arL_mk, arY_mZ, arY_mB, alen_mI, fld_sfl_ne, fld_sfl_same, Option.isSome_some, pok_i, b1z, b01, z10, b1o, Int32.zero_add, vu_vu, upd_eq, upd_ne, true_or, or_true, V2.r1, V2.r2, V2.r3, V2.r4, V2.r16, V2.r17, V2.r18, V2.r19, V2.r20, V2.r23, V2.r24, V2.r25, V2.r26, V2.r27, V2.r28, V2.r29, V2.r30, V2.c172, V2.c173, V2.c174, V2.c186, V2.c187, V2.c188, V2.n5, V2.n13, V2.n14, V2.i0, V2.i5, V2.i6, V2.i7, V2.i8, V2.i9, V2.i10, V2.i11, V2.i12, V2.i13, V2.i14, V2.i15, V2.i21, V2.i22, ix_le, hc, e40, nI_add]
          refine hI _ () ⟨sw.tr (SW.up (by omega) (by omega)), ?_⟩
          rw [← n_l_s]
          exact V2.nu
        · rintro g _ ⟨sw, V2⟩
          simp (disch := first | omega | decide | assumption | exact Nat.le_of_ble_eq_true rfl) only [s293_64, s293_66, s293_67, s293_89, s293_90, ow_some, true_and, and_true, and_self, if_true, if_false, not_true, not_false_eq_true, Bool.false_eq_true, eq_self, Option.toList, List.cons_append, List.nil_append, ix_in, ix_cl, lt_in, lt_cl, lt_add, ix_one, vu_eq, vu_ne, arI_mk, arL_mk, arY_mZ, arY_mB, alen_mI, fld_sfl_ne, fld_sfl_same, Option.isSome_some, pok_i, b1z, b01, z10, b1o, Int32.zero_add, vu_vu, upd_eq, upd_ne, true_or, or_true, V2.r1, V2.r2, V2.r3, V2.r4, V2.r16, V2.r17, V2.r18, V2.r19, V2.r20, V2.r23, V2.r24, V2.r25, V2.r26, V2.r27, V2.r28, V2.r29, V2.r30, V2.c172, V2.c173, V2.c174, V2.c186, V2.c187, V2.c188, V2.n5, V2.n13, V2.n14, V2.i0, V2.i5, V2.i6, V2.i7, V2.i8, V2.i9, V2.i10, V2.i11, V2.i12, V2.i13, V2.i14, V2.i15, V2.i21, V2.i22, ix_le, Nat.le_refl]
          exact ⟨rfl, rfl, sw, V2, rfl⟩
        · rw [n_l_0, ← hnu]
          exact V1
      · simp (disch := first | omega | decide | assumption | exact Nat.le_of_ble_eq_true rfl) only [s293_41, s293_44, s293_46, ow_some, true_and, and_true, and_self, if_true, if_false, not_true, not_false_eq_true, Bool.false_eq_true, eq_self, Option.toList, List.cons_append, List.nil_append, ix_in, ix_cl, lt_in, lt_cl, lt_add, ix_one, vu_eq, vu_ne, arI_mk, arL_mk, arY_mZ, arY_mB, alen_mI, fld_sfl_ne, fld_sfl_same, Option.isSome_some, pok_i, b1z, b01, z10, b1o, Int32.zero_add, vu_vu, upd_eq, upd_ne, true_or, or_true, V0.r1, V0.r2, V0.r3, V0.r4, V0.r16, V0.r17, V0.r18, V0.r19, V0.r20, V0.r23, V0.r24, V0.r25, V0.r26, V0.r27, V0.r28, V0.r29, V0.r30, V0.c172, V0.c173, V0.c174, V0.c186, V0.c187, V0.c188, V0.n5, V0.n13, V0.n14, V0.i0, V0.i5, V0.i6, V0.i7, V0.i8, V0.i9, V0.i10, V0.i11, V0.i12, V0.i13, V0.i14, V0.i15, V0.i21, V0.i22, h1, h2, h3]
        exact ⟨rfl, rfl, sm0.w, V0, rfl⟩
    · simp (disch := first | omega | decide | assumption | exact Nat.le_of_ble_eq_true rfl) only [s293_26, s293_29, s293_31, ow_some, true_and, and_true, and_self, if_true, if_false, not_true, not_false_eq_true, Bool.false_eq_true, eq_self, Option.toList, List.cons_append, List.nil_append, ix_in, ix_cl, lt_in, lt_cl, lt_add, ix_one, vu_eq, vu_ne, arI_mk, arL_mk, arY_mZ, arY_mB, alen_mI, fld_sfl_ne, fld_sfl_same, Option.isSome_some, pok_i, b1z, b01, z10, b1o, Int32.zero_add, vu_vu, upd_eq, upd_ne, true_or, or_true, V0.r1, V0.r2, V0.r3, V0.r4, V0.r16, V0.r17, V0.r18, V0.r19, V0.r20, V0.r23, V0.r24, V0.r25, V0.r26, V0.r27, V0.r28, V0.r29, V0.r30, V0.c172, V0.c173, V0.c174, V0.c186, V0.c187, V0.c188, V0.n5, V0.n13, V0.n14, V0.i0, V0.i5, V0.i6, V0.i7, V0.i8, V0.i9, V0.i10, V0.i11, V0.i12, V0.i13, V0.i14, V0.i15, V0.i21, V0.i22, h2, and_false]
      exact ⟨rfl, rfl, sm0.w, V0, rfl⟩
  · simp (disch := first | omega | decide | assumption | exact Nat.le_of_ble_eq_true rfl) only [s293_14, s293_29, s293_31, ow_some, true_and, and_true, and_self, if_true, if_false, not_true, not_false_eq_true, Bool.false_eq_true, eq_self, Option.toList, List.cons_append, List.nil_append, ix_in, ix_cl, lt_in, lt_cl, lt_add, ix_one, vu_eq, vu_ne, arI_mk, arL_mk, arY_mZ, arY_mB, alen_mI, fld_sfl_ne, fld_sfl_same, Option.isSome_some, pok_i, b1z, b01, z10, b1o, Int32.zero_add, vu_vu, upd_eq, upd_ne, true_or, or_true, V0.r1, V0.r2, V0.r3, V0.r4, V0.r16, V0.r17, V0.r18, V0.r19, V0.r20, V0.r23, V0.r24, V0.r25, V0.r26, V0.r27, V0.r28, V0.r29, V0.r30, V0.c172, V0.c173, V0.c174, V0.c186, V0.c187, V0.c188, V0.n5, V0.n13, V0.n14, V0.i0, V0.i5, V0.i6, V0.i7, V0.i8, V0.i9, V0.i10, V0.i11, V0.i12, V0.i13, V0.i14, V0.i15, V0.i21, V0.i22, h1, false_and]
    exact ⟨rfl, rfl, sm0.w, V0, rfl⟩
def o_write (s : m_T) (t i : Int32) (v : Int64) : m_T × Int64 := if 0 ≤ t.toInt ∧ t.toInt ≤ 3 then (if s.2.2.2.2.1 t.toInt.toNat = -1 then (s, -6) else if 0 ≤ i.toInt ∧ i.toInt < nM s t.toInt.toNat then (st_nu s (vp_updL s.2.2.2.2.2.2 (40 * t.toInt.toNat + i.toInt.toNat) (m_cut v (s.2.2.2.2.1 t.toInt.toNat))), m_cut v (s.2.2.2.2.1 t.toInt.toNat)) else (s, -7)) else (s, -2)
theorem sp_write {X : Nat × (Nat → Int32)} {d N K : Nat} {f : Nat → e_C} {s : m_T} (V : MV f s) (hR : RM s) {t i : Int32} {v : Int64} {u : UInt64} {a5 : Value} : TT X (d + 8) 294 0 [.ref 171, .int t, .int i, .long v, .double u, a5] [] f N K (MY N K f (o_write s t i v).1 (.long (o_write s t i v).2)) := by
  simp only [s294_0, s294_1, s294_2, V.i0, pok_i, true_and]
  have sm0 : SM f (va_up f 171 (sfl (f 171) 0 (.int 0))) := SM.up (by omega) (by omega)
  have V0 := V.num (j := 0) (x := 0) (by decide)
  generalize va_up f 171 (sfl (f 171) 0 (.int 0)) = f0 at sm0 V0 ⊢
  simp (disch := first | omega | decide | assumption | exact Nat.le_of_ble_eq_true rfl) only [s294_5, s294_6, ow_some, true_and, and_true, and_self, if_true, if_false, not_true, not_false_eq_true, Bool.false_eq_true, eq_self, Option.toList, List.cons_append, List.nil_append, ix_in, ix_cl, lt_in, lt_cl, lt_add, ix_one, vu_eq, vu_ne, arI_mk, arL_mk, arY_mZ, arY_mB, alen_mI, fld_sfl_ne, fld_sfl_same, Option.isSome_some, pok_i, b1z, b01, z10, b1o, Int32.zero_add, vu_vu, upd_eq, upd_ne, true_or, or_true, V0.r1, V0.r2, V0.r3, V0.r4, V0.r16, V0.r17, V0.r18, V0.r19, V0.r20, V0.r23, V0.r24, V0.r25, V0.r26, V0.r27, V0.r28, V0.r29, V0.r30, V0.c172, V0.c173, V0.c174, V0.c186, V0.c187, V0.c188, V0.n5, V0.n13, V0.n14, V0.i0, V0.i5, V0.i6, V0.i7, V0.i8, V0.i9, V0.i10, V0.i11, V0.i12, V0.i13, V0.i14, V0.i15, V0.i21, V0.i22]
  rw [p294_7 (cno_MR V0.mr) (Nat.le_of_ble_eq_true rfl) (sp_noTray V0)]
  unfold o_write
  simp only [t03]
  have m60 : ((-6 : Int32) = 0) = False := eq_false (by decide)
  have m20 : ((-2 : Int32) = 0) = False := eq_false (by decide)
  by_cases h2 : 0 ≤ t.toInt ∧ t.toInt ≤ 3
  · obtain ⟨j, hj, rfl, hv⟩ := i9 (v := t) (N := 4) (by omega) (by omega) (by omega)
    have hcl : (nI j).toNatClampNeg = j := ix_cl (by omega)
    have hM := hR j hj
    simp only [hv] at h2
    simp only [hv, h2, and_self, if_true, hcl, Int.toNat_natCast]
    by_cases h3 : s.2.2.2.2.1 j = -1
    · simp (disch := first | omega | decide | assumption | exact Nat.le_of_ble_eq_true rfl) only [s294_10, s294_12, s294_14, s294_17, s294_19, s294_20, ow_some, true_and, and_true, and_self, if_true, if_false, not_true, not_false_eq_true, Bool.false_eq_true, eq_self, Option.toList, List.cons_append, List.nil_append, ix_in, ix_cl, lt_in, lt_cl, lt_add, ix_one, vu_eq, vu_ne, arI_mk, arL_mk, arY_mZ, arY_mB, alen_mI, fld_sfl_ne, fld_sfl_same, Option.isSome_some, pok_i, b1z, b01, z10, b1o, Int32.zero_add, vu_vu, upd_eq, upd_ne, true_or, or_true, V0.r1, V0.r2, V0.r3, V0.r4, V0.r16, V0.r17, V0.r18, V0.r19, V0.r20, V0.r23, V0.r24, V0.r25, V0.r26, V0.r27, V0.r28, V0.r29, V0.r30, V0.c172, V0.c173, V0.c174, V0.c186, V0.c187, V0.c188, V0.n5, V0.n13, V0.n14, V0.i0, V0.i5, V0.i6, V0.i7, V0.i8, V0.i9, V0.i10, V0.i11, V0.i12, V0.i13, V0.i14, V0.i15, V0.i21, V0.i22, h3, m60]
      exact ⟨rfl, rfl, sm0.w, V0, rfl⟩
    · simp (disch := first | omega | decide | assumption | exact Nat.le_of_ble_eq_true rfl) only [s294_10, s294_12, s294_14, s294_17, s294_19, s294_20, s294_21, s294_22, s294_23, s294_24, s294_25, s294_28, s294_29, s294_30, s294_31, s294_32, ow_some, true_and, and_true, and_self, if_true, if_false, not_true, not_false_eq_true, Bool.false_eq_true, eq_self, Option.toList, List.cons_append, List.nil_append, ix_in, ix_cl, lt_in, lt_cl, lt_add, ix_one, vu_eq, vu_ne, arI_mk, arL_mk, arY_mZ, arY_mB, alen_mI, fld_sfl_ne, fld_sfl_same, Option.isSome_some, pok_i, b1z, b01, z10, b1o, Int32.zero_add, vu_vu, upd_eq, upd_ne, true_or, or_true, V0.r1, V0.r2, V0.r3, V0.r4, V0.r16, V0.r17, V0.r18, V0.r19, V0.r20, V0.r23, V0.r24, V0.r25, V0.r26, V0.r27, V0.r28, V0.r29, V0.r30, V0.c172, V0.c173, V0.c174, V0.c186, V0.c187, V0.c188, V0.n5, V0.n13, V0.n14, V0.i0, V0.i5, V0.i6, V0.i7, V0.i8, V0.i9, V0.i10, V0.i11, V0.i12, V0.i13, V0.i14, V0.i15, V0.i21, V0.i22, h3]
      rw [p294_33 (Nat.le_of_ble_eq_true rfl) sp_within]
      have e : (0 ≤ i.toInt64 ∧ i.toInt64 ≤ (s.2.2.2.2.2.1 j - 1).toInt64) = (0 ≤ i.toInt ∧ i.toInt < nM s j) := by
        rw [Int64.le_iff_toInt_le, Int64.le_iff_toInt_le, Int32.toInt_toInt64, Int32.toInt_toInt64, hM.2]
        have h40 : ∀ m, m ≤ 40 → (nI m - 1).toInt = (m : Int) - 1 := by decide
        rw [h40 _ hM.1]
        have : (0 : Int64).toInt = 0 := by decide
        rw [this]
        apply propext; omega
      simp only [e]
      by_cases h4 : 0 ≤ i.toInt ∧ i.toInt < nM s j
      · obtain ⟨q, hq, rfl, hw⟩ := i9 h4.1 h4.2 (by omega)
        have e40 : (40 : Int32) * nI j = nI (40 * j) := by rw [lit_nI 40, pk_mul]
        have h4' : (0 ≤ (nI q).toInt ∧ (nI q).toInt < nM s j) = True := eq_true h4
        simp (disch := first | omega | decide | assumption | exact Nat.le_of_ble_eq_true rfl) only [s294_36, s294_39, s294_42, s294_43, s294_44, s294_47, s294_49, s294_50, s294_51, s294_52, s294_53, s294_54, s294_55, s294_58, s294_59, ow_some, true_and, and_true, and_self, if_true, if_false, not_true, not_false_eq_true, Bool.false_eq_true, eq_self, Option.toList, List.cons_append, List.nil_append, ix_in, ix_cl, lt_in, lt_cl, lt_add, ix_one, vu_eq, vu_ne, arI_mk, arL_mk, arY_mZ, arY_mB, alen_mI, fld_sfl_ne, fld_sfl_same, Option.isSome_some, pok_i, b1z, b01, z10, b1o, Int32.zero_add, vu_vu, upd_eq, upd_ne, true_or, or_true, V0.r1, V0.r2, V0.r3, V0.r4, V0.r16, V0.r17, V0.r18, V0.r19, V0.r20, V0.r23, V0.r24, V0.r25, V0.r26, V0.r27, V0.r28, V0.r29, V0.r30, V0.c172, V0.c173, V0.c174, V0.c186, V0.c187, V0.c188, V0.n5, V0.n13, V0.n14, V0.i0, V0.i5, V0.i6, V0.i7, V0.i8, V0.i9, V0.i10, V0.i11, V0.i12, V0.i13, V0.i14, V0.i15, V0.i21, V0.i22, h4', e40, nI_add]
        rw [p294_60 (Nat.le_of_ble_eq_true rfl) sp_cut]
        have V1 := V0.nu (g := vp_updL s.2.2.2.2.2.2 (40 * j + q) (m_cut v (s.2.2.2.2.1 j)))
        simp (disch := first | omega | decide | assumption | exact Nat.le_of_ble_eq_true rfl) only [s294_63, s294_64, s294_65, s294_68, s294_70, s294_71, s294_72, s294_73, s294_74, s294_75, ow_some, true_and, and_true, and_self, if_true, if_false, not_true, not_false_eq_true, Bool.false_eq_true, eq_self, Option.toList, List.cons_append, List.nil_append, ix_in, ix_cl, lt_in, lt_cl, lt_add, ix_one, vu_eq, vu_ne, arI_mk, arL_mk, arY_mZ, arY_mB, alen_mI, fld_sfl_ne, fld_sfl_same, Option.isSome_some, pok_i, b1z, b01, z10, b1o, Int32.zero_add, vu_vu, upd_eq, upd_ne, true_or, or_true, V0.r1, V0.r2, V0.r3, V0.r4, V0.r16, V0.r17, V0.r18, V0.r19, V0.r20, V0.r23, V0.r24, V0.r25, V0.r26, V0.r27, V0.r28, V0.r29, V0.r30, V0.c172, V0.c173, V0.c174, V0.c186, V0.c187, V0.c188, V0.n5, V0.n13, V0.n14, V0.i0, V0.i5, V0.i6, V0.i7, V0.i8, V0.i9, V0.i10, V0.i11, V0.i12, V0.i13, V0.i14, V0.i15, V0.i21, V0.i22, e40, nI_add, ul_eq]
        simp only [hw, Int.toNat_natCast]
        exact ⟨rfl, rfl, sm0.w.tr (SW.up (by omega) (by omega)), V1, rfl⟩
      · simp (disch := first | omega | decide | assumption | exact Nat.le_of_ble_eq_true rfl) only [s294_36, s294_39, s294_42, ow_some, true_and, and_true, and_self, if_true, if_false, not_true, not_false_eq_true, Bool.false_eq_true, eq_self, Option.toList, List.cons_append, List.nil_append, ix_in, ix_cl, lt_in, lt_cl, lt_add, ix_one, vu_eq, vu_ne, arI_mk, arL_mk, arY_mZ, arY_mB, alen_mI, fld_sfl_ne, fld_sfl_same, Option.isSome_some, pok_i, b1z, b01, z10, b1o, Int32.zero_add, vu_vu, upd_eq, upd_ne, true_or, or_true, V0.r1, V0.r2, V0.r3, V0.r4, V0.r16, V0.r17, V0.r18, V0.r19, V0.r20, V0.r23, V0.r24, V0.r25, V0.r26, V0.r27, V0.r28, V0.r29, V0.r30, V0.c172, V0.c173, V0.c174, V0.c186, V0.c187, V0.c188, V0.n5, V0.n13, V0.n14, V0.i0, V0.i5, V0.i6, V0.i7, V0.i8, V0.i9, V0.i10, V0.i11, V0.i12, V0.i13, V0.i14, V0.i15, V0.i21, V0.i22, h4]
        exact ⟨rfl, rfl, sm0.w, V0, rfl⟩
  · simp only [h2, if_false]
    simp (disch := first | omega | decide | assumption | exact Nat.le_of_ble_eq_true rfl) only [s294_10, s294_12, s294_14, s294_17, s294_19, s294_20, ow_some, true_and, and_true, and_self, if_true, if_false, not_true, not_false_eq_true, Bool.false_eq_true, eq_self, Option.toList, List.cons_append, List.nil_append, ix_in, ix_cl, lt_in, lt_cl, lt_add, ix_one, vu_eq, vu_ne, arI_mk, arL_mk, arY_mZ, arY_mB, alen_mI, fld_sfl_ne, fld_sfl_same, Option.isSome_some, pok_i, b1z, b01, z10, b1o, Int32.zero_add, vu_vu, upd_eq, upd_ne, true_or, or_true, V0.r1, V0.r2, V0.r3, V0.r4, V0.r16, V0.r17, V0.r18, V0.r19, V0.r20, V0.r23, V0.r24, V0.r25, V0.r26, V0.r27, V0.r28, V0.r29, V0.r30, V0.c172, V0.c173, V0.c174, V0.c186, V0.c187, V0.c188, V0.n5, V0.n13, V0.n14, V0.i0, V0.i5, V0.i6, V0.i7, V0.i8, V0.i9, V0.i10, V0.i11, V0.i12, V0.i13, V0.i14, V0.i15, V0.i21, V0.i22, m20]
    exact ⟨rfl, rfl, sm0.w, V0, rfl⟩
def o_lists (s : m_T) (S P : Nat) (t : Int32) : m_T × Int32 := if 0 ≤ t.toInt ∧ t.toInt ≤ 3 then (if s.2.2.2.2.1 t.toInt.toNat = -1 then (s, -6) else (st_nu s (n_l s.2.2.2.2.2.2 t.toInt.toNat (min S (nM s t.toInt.toNat)) (fun k => m_cut (m_bo s.1 (nT s.1) P k).toInt64 (s.2.2.2.2.1 t.toInt.toNat))), nI (min S (nM s t.toInt.toNat)))) else (s, -2)
theorem sp_lists {X : Nat × (Nat → Int32)} {d N K : Nat} {f : Nat → e_C} {s : m_T} {S P : Nat} (V : MV f s) (W : WF s.1 S P) (hR : RM s) {t : Int32} {a2 a3 a4 : Value} : TT X (d + 8) 296 0 [.ref 171, .int t, a2, a3, a4] [] f N K (MY N K f (o_lists s S P t).1 (.int (o_lists s S P t).2)) := by
  simp only [s296_0, s296_1, s296_2, V.i0, pok_i, true_and]
  have sm0 : SM f (va_up f 171 (sfl (f 171) 0 (.int 0))) := SM.up (by omega) (by omega)
  have V0 := V.num (j := 0) (x := 0) (by decide)
  generalize va_up f 171 (sfl (f 171) 0 (.int 0)) = f0 at sm0 V0 ⊢
  simp (disch := first | omega | decide | assumption | exact Nat.le_of_ble_eq_true rfl) only [s296_5, s296_6, ow_some, true_and, and_true, and_self, if_true, if_false, not_true, not_false_eq_true, Bool.false_eq_true, eq_self, Option.toList, List.cons_append, List.nil_append, ix_in, ix_cl, lt_in, lt_cl, lt_add, ix_one, vu_eq, vu_ne, arI_mk, arL_mk, arY_mZ, arY_mB, alen_mI, fld_sfl_ne, fld_sfl_same, Option.isSome_some, pok_i, b1z, b01, z10, b1o, Int32.zero_add, vu_vu, upd_eq, upd_ne, true_or, or_true, V0.r1, V0.r2, V0.r3, V0.r4, V0.r16, V0.r17, V0.r18, V0.r19, V0.r20, V0.r23, V0.r24, V0.r25, V0.r26, V0.r27, V0.r28, V0.r29, V0.r30, V0.c172, V0.c173, V0.c174, V0.c186, V0.c187, V0.c188, V0.n5, V0.n13, V0.n14, V0.i0, V0.i5, V0.i6, V0.i7, V0.i8, V0.i9, V0.i10, V0.i11, V0.i12, V0.i13, V0.i14, V0.i15, V0.i21, V0.i22]
  rw [p296_7 (cno_MR V0.mr) (Nat.le_of_ble_eq_true rfl) (sp_noTray V0)]
  unfold o_lists
  simp only [t03]
  have m60 : ((-6 : Int32) = 0) = False := eq_false (by decide)
  have m20 : ((-2 : Int32) = 0) = False := eq_false (by decide)
  have h8 := W.1.2.2.1
  have A1 := W.1.1
  by_cases h2 : 0 ≤ t.toInt ∧ t.toInt ≤ 3
  · obtain ⟨j, hj, rfl, hv⟩ := i9 (v := t) (N := 4) (by omega) (by omega) (by omega)
    have hcl : (nI j).toNatClampNeg = j := ix_cl (by omega)
    have hM := hR j hj
    simp only [hv] at h2
    simp only [hv, h2, and_self, if_true, hcl, Int.toNat_natCast]
    by_cases h3 : s.2.2.2.2.1 j = -1
    · simp (disch := first | omega | decide | assumption | exact Nat.le_of_ble_eq_true rfl) only [s296_10, s296_11, s296_12, s296_15, s296_16, ow_some, true_and, and_true, and_self, if_true, if_false, not_true, not_false_eq_true, Bool.false_eq_true, eq_self, Option.toList, List.cons_append, List.nil_append, ix_in, ix_cl, lt_in, lt_cl, lt_add, ix_one, vu_eq, vu_ne, arI_mk, arL_mk, arY_mZ, arY_mB, alen_mI, fld_sfl_ne, fld_sfl_same, Option.isSome_some, pok_i, b1z, b01, z10, b1o, Int32.zero_add, vu_vu, upd_eq, upd_ne, true_or, or_true, V0.r1, V0.r2, V0.r3, V0.r4, V0.r16, V0.r17, V0.r18, V0.r19, V0.r20, V0.r23, V0.r24, V0.r25, V0.r26, V0.r27, V0.r28, V0.r29, V0.r30, V0.c172, V0.c173, V0.c174, V0.c186, V0.c187, V0.c188, V0.n5, V0.n13, V0.n14, V0.i0, V0.i5, V0.i6, V0.i7, V0.i8, V0.i9, V0.i10, V0.i11, V0.i12, V0.i13, V0.i14, V0.i15, V0.i21, V0.i22, h3, m60]
      exact ⟨rfl, rfl, sm0.w, V0, rfl⟩
    · simp (disch := first | omega | decide | assumption | exact Nat.le_of_ble_eq_true rfl) only [s296_10, s296_11, s296_12, s296_15, s296_16, s296_17, s296_18, s296_19, s296_22, s296_24, ow_some, true_and, and_true, and_self, if_true, if_false, not_true, not_false_eq_true, Bool.false_eq_true, eq_self, Option.toList, List.cons_append, List.nil_append, ix_in, ix_cl, lt_in, lt_cl, lt_add, ix_one, vu_eq, vu_ne, arI_mk, arL_mk, arY_mZ, arY_mB, alen_mI, fld_sfl_ne, fld_sfl_same, Option.isSome_some, pok_i, b1z, b01, z10, b1o, Int32.zero_add, vu_vu, upd_eq, upd_ne, true_or, or_true, V0.r1, V0.r2, V0.r3, V0.r4, V0.r16, V0.r17, V0.r18, V0.r19, V0.r20, V0.r23, V0.r24, V0.r25, V0.r26, V0.r27, V0.r28, V0.r29, V0.r30, V0.c172, V0.c173, V0.c174, V0.c186, V0.c187, V0.c188, V0.n5, V0.n13, V0.n14, V0.i0, V0.i5, V0.i6, V0.i7, V0.i8, V0.i9, V0.i10, V0.i11, V0.i12, V0.i13, V0.i14, V0.i15, V0.i21, V0.i22, h3, W.2.1]
      refine k296_25 (cno_MR V0.mr) (Nat.le_of_ble_eq_true rfl) (vb_lays V0 W W.T) ?_
      rintro f1 n1 k1 v1 ⟨rfl, rfl, rfl, sm1, V1, b, hb, hbv⟩
      have e40 : (40 : Int32) * nI j = nI (40 * j) := by rw [lit_nI 40, pk_mul]
      have main : ∀ u3 u4 : Value, TT X (d + 8) 296 58 [.ref 171, .int (nI j), .int 0, u3, u4] [.int (nI (min S (nM s j)))] f1 n1 k1 (MY n1 k1 f (st_nu s (n_l s.2.2.2.2.2.2 j (min S (nM s j)) (fun k => m_cut (m_bo s.1 (nT s.1) P k).toInt64 (s.2.2.2.2.1 j)))) (.int (nI (min S (nM s j))))) := by
        intro u3 u4
        have hmin : min S (nM s j) ≤ S := Nat.min_le_left _ _
        generalize min S (nM s j) = M at hmin ⊢
        simp (disch := first | omega | decide | assumption | exact Nat.le_of_ble_eq_true rfl) only [s296_58, s296_59, h296_60, ow_some, true_and, and_true, and_self, if_true, if_false, not_true, not_false_eq_true, Bool.false_eq_true, eq_self, Option.toList, List.cons_append, List.nil_append, ix_in, ix_cl, lt_in, lt_cl, lt_add, ix_one, vu_eq, vu_ne, arI_mk, arL_mk, arY_mZ, arY_mB, alen_mI, fld_sfl_ne, fld_sfl_same, Option.isSome_some, pok_i, b1z, b01, z10, b1o, Int32.zero_add, vu_vu, upd_eq, upd_ne, true_or, or_true, V1.r1, V1.r2, V1.r3, V1.r4, V1.r16, V1.r17, V1.r18, V1.r19, V1.r20, V1.r23, V1.r24, V1.r25, V1.r26, V1.r27, V1.r28, V1.r29, V1.r30, V1.c172, V1.c173, V1.c174, V1.c186, V1.c187, V1.c188, V1.n5, V1.n13, V1.n14, V1.i0, V1.i5, V1.i6, V1.i7, V1.i8, V1.i9, V1.i10, V1.i11, V1.i12, V1.i13, V1.i14, V1.i15, V1.i21, V1.i22]
        refine lp (fun k g (_ : Unit) => SW f g ∧ MV g (st_nu s (n_l s.2.2.2.2.2.2 j k (fun k => m_cut (m_bo s.1 (nT s.1) P k).toInt64 (s.2.2.2.2.1 j)))) ∧ arI (g 179) = some (8, b)) (fun k _ => [.ref 171, .int (nI j), .int 0, .int (nI M), .int (nI k)]) M ?_ ?_ 0 f1 () (by omega) ⟨(sm0.tr sm1).w, by rw [n_l_0]; exact V1, hb⟩
        · rintro k g _ hk ⟨sw, V2, hb2⟩ hI
          have hc : (M ≤ k) = False := eq_false (by omega)
          have hbk := hbv k (by omega)
          have c186 : arI (g 186) = some (4, s.2.2.2.2.1) := V2.c186
          simp (disch := first | omega | decide | assumption | exact Nat.le_of_ble_eq_true rfl) only [s296_62, s296_64, s296_65, s296_68, s296_69, s296_72, s296_74, s296_75, s296_76, s296_78, s296_79, s296_80, s296_83, s296_85, s296_86, s296_87, s296_88, s296_91, s296_92, ow_some, true_and, and_true, and_self, if_true, if_false, not_true, not_false_eq_true, Bool.false_eq_true, eq_self, Option.toList, List.cons_append, List.nil_append, ix_in, ix_cl, lt_in, lt_cl, lt_add, ix_one, vu_eq, vu_ne, arI_mk, arL_mk, arY_mZ, arY_mB, alen_mI, fld_sfl_ne, fld_sfl_same, Option.isSome_some, pok_i, b1z, b01, z10, b1o, Int32.zero_add, vu_vu, upd_eq, upd_ne, true_or, or_true, V2.r1, V2.r2, V2.r3, V2.r4, V2.r16, V2.r17, V2.r18, V2.r19, V2.r20, V2.r23, V2.r24, V2.r25, V2.r26, V2.r27, V2.r28, V2.r29, V2.r30, V2.c172, V2.c173, V2.c174, V2.c186, V2.c187, V2.c188, V2.n5, V2.n13, V2.n14, V2.i0, V2.i5, V2.i6, V2.i7, V2.i8, V2.i9, V2.i10, V2.i11, V2.i12, V2.i13, V2.i14, V2.i15, V2.i21, V2.i22, ix_le, hc, e40, nI_add, hb2, hbk, c186]
          rw [p296_93 (Nat.le_of_ble_eq_true rfl) sp_cut]
          simp (disch := first | omega | decide | assumption | exact Nat.le_of_ble_eq_true rfl) only [s296_96, s296_97, h296_100, ow_some, true_and, and_true, and_self, if_true, if_false, not_true, not_false_eq_true, Bool.false_eq_true, eq_self, Option.toList, List.cons_append, List.nil_append, ix_in, ix_cl, lt_in, lt_cl, lt_add, ix_one, vu_eq, vu_ne, arI_mk, arL_mk, arY_mZ, arY_mB, alen_mI, fld_sfl_ne, fld_sfl_same, Option.isSome_some, pok_i, b1z, b01, z10, b1o, Int32.zero_add, vu_vu, upd_eq, upd_ne, true_or, or_true, V2.r1, V2.r2, V2.r3, V2.r4, V2.r16, V2.r17, V2.r18, V2.r19, V2.r20, V2.r23, V2.r24, V2.r25, V2.r26, V2.r27, V2.r28, V2.r29, V2.r30, V2.c172, V2.c173, V2.c174, V2.c186, V2.c187, V2.c188, V2.n5, V2.n13, V2.n14, V2.i0, V2.i5, V2.i6, V2.i7, V2.i8, V2.i9, V2.i10, V2.i11, V2.i12, V2.i13, V2.i14, V2.i15, V2.i21, V2.i22]
          refine hI _ () ⟨sw.tr (SW.up (by omega) (by omega)), ?_, by rw [vu_ne (by decide)]; exact hb2⟩
          have := V2.nu (g := vp_updL (n_l s.2.2.2.2.2.2 j k (fun k => m_cut (m_bo s.1 (nT s.1) P k).toInt64 (s.2.2.2.2.1 j))) (40 * j + k) (m_cut (m_bo s.1 (nT s.1) P k).toInt64 (s.2.2.2.2.1 j)))
          rw [n_l_s (g := fun k => m_cut (m_bo s.1 (nT s.1) P k).toInt64 (s.2.2.2.2.1 j))] at this
          rw [← n_l_s] at *
          exact this
        · rintro g _ ⟨sw, V2, hb2⟩
          simp (disch := first | omega | decide | assumption | exact Nat.le_of_ble_eq_true rfl) only [s296_62, s296_64, s296_65, s296_103, s296_104, ow_some, true_and, and_true, and_self, if_true, if_false, not_true, not_false_eq_true, Bool.false_eq_true, eq_self, Option.toList, List.cons_append, List.nil_append, ix_in, ix_cl, lt_in, lt_cl, lt_add, ix_one, vu_eq, vu_ne, arI_mk, arL_mk, arY_mZ, arY_mB, alen_mI, fld_sfl_ne, fld_sfl_same, Option.isSome_some, pok_i, b1z, b01, z10, b1o, Int32.zero_add, vu_vu, upd_eq, upd_ne, true_or, or_true, V2.r1, V2.r2, V2.r3, V2.r4, V2.r16, V2.r17, V2.r18, V2.r19, V2.r20, V2.r23, V2.r24, V2.r25, V2.r26, V2.r27, V2.r28, V2.r29, V2.r30, V2.c172, V2.c173, V2.c174, V2.c186, V2.c187, V2.c188, V2.n5, V2.n13, V2.n14, V2.i0, V2.i5, V2.i6, V2.i7, V2.i8, V2.i9, V2.i10, V2.i11, V2.i12, V2.i13, V2.i14, V2.i15, V2.i21, V2.i22, ix_le, Nat.le_refl]
          exact ⟨rfl, rfl, sw, V2, rfl⟩
      by_cases h5 : nM s j ≤ S
      · have hmn : min S (nM s j) = nM s j := Nat.min_eq_right h5
        rw [hmn] at main ⊢
        simp (disch := first | omega | decide | assumption | exact Nat.le_of_ble_eq_true rfl) only [s296_28, s296_29, s296_32, s296_33, s296_34, s296_35, s296_38, s296_39, s296_40, s296_43, s296_44, s296_47, s296_48, s296_49, s296_52, s296_53, s296_56, s296_57, ow_some, true_and, and_true, and_self, if_true, if_false, not_true, not_false_eq_true, Bool.false_eq_true, eq_self, Option.toList, List.cons_append, List.nil_append, ix_in, ix_cl, lt_in, lt_cl, lt_add, ix_one, vu_eq, vu_ne, arI_mk, arL_mk, arY_mZ, arY_mB, alen_mI, fld_sfl_ne, fld_sfl_same, Option.isSome_some, pok_i, b1z, b01, z10, b1o, Int32.zero_add, vu_vu, upd_eq, upd_ne, true_or, or_true, V1.r1, V1.r2, V1.r3, V1.r4, V1.r16, V1.r17, V1.r18, V1.r19, V1.r20, V1.r23, V1.r24, V1.r25, V1.r26, V1.r27, V1.r28, V1.r29, V1.r30, V1.c172, V1.c173, V1.c174, V1.c186, V1.c187, V1.c188, V1.n5, V1.n13, V1.n14, V1.i0, V1.i5, V1.i6, V1.i7, V1.i8, V1.i9, V1.i10, V1.i11, V1.i12, V1.i13, V1.i14, V1.i15, V1.i21, V1.i22, A1, hM.2, ix_le, h5]
        exact main _ _
      · have hmn : min S (nM s j) = S := Nat.min_eq_left (by omega)
        rw [hmn] at main ⊢
        simp (disch := first | omega | decide | assumption | exact Nat.le_of_ble_eq_true rfl) only [s296_28, s296_29, s296_32, s296_33, s296_34, s296_35, s296_38, s296_39, s296_40, s296_43, s296_44, s296_47, s296_48, s296_49, ow_some, true_and, and_true, and_self, if_true, if_false, not_true, not_false_eq_true, Bool.false_eq_true, eq_self, Option.toList, List.cons_append, List.nil_append, ix_in, ix_cl, lt_in, lt_cl, lt_add, ix_one, vu_eq, vu_ne, arI_mk, arL_mk, arY_mZ, arY_mB, alen_mI, fld_sfl_ne, fld_sfl_same, Option.isSome_some, pok_i, b1z, b01, z10, b1o, Int32.zero_add, vu_vu, upd_eq, upd_ne, true_or, or_true, V1.r1, V1.r2, V1.r3, V1.r4, V1.r16, V1.r17, V1.r18, V1.r19, V1.r20, V1.r23, V1.r24, V1.r25, V1.r26, V1.r27, V1.r28, V1.r29, V1.r30, V1.c172, V1.c173, V1.c174, V1.c186, V1.c187, V1.c188, V1.n5, V1.n13, V1.n14, V1.i0, V1.i5, V1.i6, V1.i7, V1.i8, V1.i9, V1.i10, V1.i11, V1.i12, V1.i13, V1.i14, V1.i15, V1.i21, V1.i22, A1, hM.2, ix_le, h5]
        exact main _ _
  · simp only [h2, if_false]
    simp (disch := first | omega | decide | assumption | exact Nat.le_of_ble_eq_true rfl) only [s296_10, s296_11, s296_12, s296_15, s296_16, ow_some, true_and, and_true, and_self, if_true, if_false, not_true, not_false_eq_true, Bool.false_eq_true, eq_self, Option.toList, List.cons_append, List.nil_append, ix_in, ix_cl, lt_in, lt_cl, lt_add, ix_one, vu_eq, vu_ne, arI_mk, arL_mk, arY_mZ, arY_mB, alen_mI, fld_sfl_ne, fld_sfl_same, Option.isSome_some, pok_i, b1z, b01, z10, b1o, Int32.zero_add, vu_vu, upd_eq, upd_ne, true_or, or_true, V0.r1, V0.r2, V0.r3, V0.r4, V0.r16, V0.r17, V0.r18, V0.r19, V0.r20, V0.r23, V0.r24, V0.r25, V0.r26, V0.r27, V0.r28, V0.r29, V0.r30, V0.c172, V0.c173, V0.c174, V0.c186, V0.c187, V0.c188, V0.n5, V0.n13, V0.n14, V0.i0, V0.i5, V0.i6, V0.i7, V0.i8, V0.i9, V0.i10, V0.i11, V0.i12, V0.i13, V0.i14, V0.i15, V0.i21, V0.i22, m20]
    exact ⟨rfl, rfl, sm0.w, V0, rfl⟩
def i_put (all : Nat → Int32) (i m : Nat) : Nat → Int32 := fun a => if 1394 * (i + 1) ≤ a ∧ a < 1394 * (i + 1) + m then all (a - 1394 * (i + 1)) else all a
theorem i_put_s {all : Nat → Int32} {i m : Nat} : upd (i_put all i m) (1394 * (i + 1) + m) (all m) = i_put all i (m + 1) := by
  funext a
  by_cases h : a = 1394 * (i + 1) + m
  · subst h; rw [upd_eq, i_put, if_pos (by omega), Nat.add_sub_cancel_left]
  · rw [upd_ne h, i_put, i_put]
    by_cases h2 : 1394 * (i + 1) ≤ a ∧ a < 1394 * (i + 1) + m
    · rw [if_pos h2, if_pos (by omega)]
    · rw [if_neg h2, if_neg (by omega)]
def o_image (s : m_T) (i : Int32) : m_T × Int32 := if 0 ≤ i.toInt ∧ i.toInt ≤ 1 then (st_im (i_put s.1 i.toInt.toNat 1394, s.2) (upd s.2.2.2.1 i.toInt.toNat 1), 0) else (s, -2)
theorem sp_image {X : Nat × (Nat → Int32)} {d N K : Nat} {f : Nat → e_C} {s : m_T} (V : MV f s) {i : Int32} {a2 : Value} : TT X (d + 8) 297 0 [.ref 171, .int i, a2] [] f N K (MY N K f (o_image s i).1 (.int (o_image s i).2)) := by
  simp only [s297_0, s297_1, s297_2, V.i0, pok_i, true_and]
  have sm0 : SM f (va_up f 171 (sfl (f 171) 0 (.int 0))) := SM.up (by omega) (by omega)
  have V0 := V.num (j := 0) (x := 0) (by decide)
  generalize va_up f 171 (sfl (f 171) 0 (.int 0)) = f0 at sm0 V0 ⊢
  simp (disch := first | omega | decide | assumption | exact Nat.le_of_ble_eq_true rfl) only [s297_5, s297_6, s297_7, s297_8, ow_some, true_and, and_true, and_self, if_true, if_false, not_true, not_false_eq_true, Bool.false_eq_true, eq_self, Option.toList, List.cons_append, List.nil_append, ix_in, ix_cl, lt_in, lt_cl, lt_add, ix_one, vu_eq, vu_ne, arI_mk, arL_mk, arY_mZ, arY_mB, alen_mI, fld_sfl_ne, fld_sfl_same, Option.isSome_some, pok_i, b1z, b01, z10, b1o, Int32.zero_add, vu_vu, upd_eq, upd_ne, true_or, or_true, V0.r1, V0.r2, V0.r3, V0.r4, V0.r16, V0.r17, V0.r18, V0.r19, V0.r20, V0.r23, V0.r24, V0.r25, V0.r26, V0.r27, V0.r28, V0.r29, V0.r30, V0.c172, V0.c173, V0.c174, V0.c186, V0.c187, V0.c188, V0.n5, V0.n13, V0.n14, V0.i0, V0.i5, V0.i6, V0.i7, V0.i8, V0.i9, V0.i10, V0.i11, V0.i12, V0.i13, V0.i14, V0.i15, V0.i21, V0.i22]
  rw [p297_9 (Nat.le_of_ble_eq_true rfl) sp_within]
  simp only [wh1]
  unfold o_image
  by_cases h1 : 0 ≤ i.toInt ∧ i.toInt ≤ 1
  · obtain ⟨j, hj, rfl, hv⟩ := i9 (v := i) (N := 2) (by omega) (by omega) (by omega)
    have h1' : (0 ≤ (nI j).toInt ∧ (nI j).toInt ≤ 1) = True := eq_true h1
    have em : (1394 : Int32) * nI (j + 1) = nI (1394 * (j + 1)) := by rw [lit_nI 1394, pk_mul]
    simp (disch := first | omega | decide | assumption | exact Nat.le_of_ble_eq_true rfl) only [s297_12, s297_15, s297_17, s297_18, h297_19, ow_some, true_and, and_true, and_self, if_true, if_false, not_true, not_false_eq_true, Bool.false_eq_true, eq_self, Option.toList, List.cons_append, List.nil_append, ix_in, ix_cl, lt_in, lt_cl, lt_add, ix_one, vu_eq, vu_ne, arI_mk, arL_mk, arY_mZ, arY_mB, alen_mI, fld_sfl_ne, fld_sfl_same, Option.isSome_some, pok_i, b1z, b01, z10, b1o, Int32.zero_add, vu_vu, upd_eq, upd_ne, true_or, or_true, V0.r1, V0.r2, V0.r3, V0.r4, V0.r16, V0.r17, V0.r18, V0.r19, V0.r20, V0.r23, V0.r24, V0.r25, V0.r26, V0.r27, V0.r28, V0.r29, V0.r30, V0.c172, V0.c173, V0.c174, V0.c186, V0.c187, V0.c188, V0.n5, V0.n13, V0.n14, V0.i0, V0.i5, V0.i6, V0.i7, V0.i8, V0.i9, V0.i10, V0.i11, V0.i12, V0.i13, V0.i14, V0.i15, V0.i21, V0.i22, h1']
    simp only [hv, Int.toNat_natCast]
    refine lp (fun k g (_ : Unit) => SM f g ∧ MV g (i_put s.1 j k, s.2)) (fun k _ => [.ref 171, .int (nI j), .int (nI k)]) 1394 ?_ ?_ 0 f0 () (by omega) ⟨sm0, ?_⟩
    · rintro k g _ hk ⟨sm, V1⟩ hI
      have hc : (1394 ≤ k) = False := eq_false (by omega)
      have hk2 : i_put s.1 j k k = s.1 k := by rw [i_put, if_neg (by omega)]
      simp (disch := first | omega | decide | assumption | exact Nat.le_of_ble_eq_true rfl) only [s297_20, s297_21, s297_24, s297_27, s297_28, s297_31, s297_34, s297_35, s297_36, s297_37, s297_38, s297_39, s297_40, s297_41, s297_44, s297_45, s297_46, s297_47, h297_50, ow_some, true_and, and_true, and_self, if_true, if_false, not_true, not_false_eq_true, Bool.false_eq_true, eq_self, Option.toList, List.cons_append, List.nil_append, ix_in, ix_cl, lt_in, lt_cl, lt_add, ix_one, vu_eq, vu_ne, arI_mk, arL_mk, arY_mZ, arY_mB, alen_mI, fld_sfl_ne, fld_sfl_same, Option.isSome_some, pok_i, b1z, b01, z10, b1o, Int32.zero_add, vu_vu, upd_eq, upd_ne, true_or, or_true, V1.r1, V1.r2, V1.r3, V1.r4, V1.r16, V1.r17, V1.r18, V1.r19, V1.r20, V1.r23, V1.r24, V1.r25, V1.r26, V1.r27, V1.r28, V1.r29, V1.r30, V1.c172, V1.c173, V1.c174, V1.c186, V1.c187, V1.c188, V1.n5, V1.n13, V1.n14, V1.i0, V1.i5, V1.i6, V1.i7, V1.i8, V1.i9, V1.i10, V1.i11, V1.i12, V1.i13, V1.i14, V1.i15, V1.i21, V1.i22, lt_le, hc, em, nI_add, hk2]
      refine hI _ () ⟨sm.tr (SM.up (by omega) (by omega)), ?_⟩
      rw [← i_put_s]
      exact V1.all
    · rintro g _ ⟨sm, V1⟩
      simp (disch := first | omega | decide | assumption | exact Nat.le_of_ble_eq_true rfl) only [s297_20, s297_21, s297_24, s297_53, s297_54, s297_57, s297_58, y297_59, s297_60, s297_61, ow_some, true_and, and_true, and_self, if_true, if_false, not_true, not_false_eq_true, Bool.false_eq_true, eq_self, Option.toList, List.cons_append, List.nil_append, ix_in, ix_cl, lt_in, lt_cl, lt_add, ix_one, vu_eq, vu_ne, arI_mk, arL_mk, arY_mZ, arY_mB, alen_mI, fld_sfl_ne, fld_sfl_same, Option.isSome_some, pok_i, b1z, b01, z10, b1o, Int32.zero_add, vu_vu, upd_eq, upd_ne, true_or, or_true, V1.r1, V1.r2, V1.r3, V1.r4, V1.r16, V1.r17, V1.r18, V1.r19, V1.r20, V1.r23, V1.r24, V1.r25, V1.r26, V1.r27, V1.r28, V1.r29, V1.r30, V1.c172, V1.c173, V1.c174, V1.c186, V1.c187, V1.c188, V1.n5, V1.n13, V1.n14, V1.i0, V1.i5, V1.i6, V1.i7, V1.i8, V1.i9, V1.i10, V1.i11, V1.i12, V1.i13, V1.i14, V1.i15, V1.i21, V1.i22, lt_le, Nat.le_refl, nar_1]
      exact ⟨rfl, rfl, sm.w.tr (SW.up (by omega) (by omega)), V1.im, rfl⟩
    · have : i_put s.1 j 0 = s.1 := by funext a; rw [i_put, if_neg (by omega)]
      rw [this]; exact V0
  · simp (disch := first | omega | decide | assumption | exact Nat.le_of_ble_eq_true rfl) only [s297_12, s297_15, s297_17, ow_some, true_and, and_true, and_self, if_true, if_false, not_true, not_false_eq_true, Bool.false_eq_true, eq_self, Option.toList, List.cons_append, List.nil_append, ix_in, ix_cl, lt_in, lt_cl, lt_add, ix_one, vu_eq, vu_ne, arI_mk, arL_mk, arY_mZ, arY_mB, alen_mI, fld_sfl_ne, fld_sfl_same, Option.isSome_some, pok_i, b1z, b01, z10, b1o, Int32.zero_add, vu_vu, upd_eq, upd_ne, true_or, or_true, V0.r1, V0.r2, V0.r3, V0.r4, V0.r16, V0.r17, V0.r18, V0.r19, V0.r20, V0.r23, V0.r24, V0.r25, V0.r26, V0.r27, V0.r28, V0.r29, V0.r30, V0.c172, V0.c173, V0.c174, V0.c186, V0.c187, V0.c188, V0.n5, V0.n13, V0.n14, V0.i0, V0.i5, V0.i6, V0.i7, V0.i8, V0.i9, V0.i10, V0.i11, V0.i12, V0.i13, V0.i14, V0.i15, V0.i21, V0.i22, h1]
    exact ⟨rfl, rfl, sm0.w, V0, rfl⟩
def i_get (all : Nat → Int32) (i m : Nat) : Nat → Int32 := fun a => if a < m then all (1394 * (i + 1) + a) else all a
theorem i_get_s {all : Nat → Int32} {i m : Nat} : upd (i_get all i m) m (all (1394 * (i + 1) + m)) = i_get all i (m + 1) := by
  funext a
  by_cases h : a = m
  · subst h; rw [upd_eq, i_get, if_pos (by omega)]
  · rw [upd_ne h, i_get, i_get]
    by_cases h2 : a < m
    · rw [if_pos h2, if_pos (by omega)]
    · rw [if_neg h2, if_neg (by omega)]
def o_restore (s : m_T) (i : Int32) : m_T × Int32 := if 0 ≤ i.toInt ∧ i.toInt ≤ 1 then (if s.2.2.2.1 i.toInt.toNat = 0 then (s, -5) else ((upd (i_get s.1 i.toInt.toNat 1394) 92 0, s.2), 0)) else (s, -2)
theorem sp_restore {X : Nat × (Nat → Int32)} {d N K : Nat} {f : Nat → e_C} {s : m_T} (V : MV f s) {i : Int32} {a2 : Value} : TT X (d + 8) 298 0 [.ref 171, .int i, a2] [] f N K (MY N K f (o_restore s i).1 (.int (o_restore s i).2)) := by
  simp only [s298_0, s298_1, s298_2, V.i0, pok_i, true_and]
  have sm0 : SM f (va_up f 171 (sfl (f 171) 0 (.int 0))) := SM.up (by omega) (by omega)
  have V0 := V.num (j := 0) (x := 0) (by decide)
  generalize va_up f 171 (sfl (f 171) 0 (.int 0)) = f0 at sm0 V0 ⊢
  simp (disch := first | omega | decide | assumption | exact Nat.le_of_ble_eq_true rfl) only [s298_5, s298_6, s298_7, s298_8, ow_some, true_and, and_true, and_self, if_true, if_false, not_true, not_false_eq_true, Bool.false_eq_true, eq_self, Option.toList, List.cons_append, List.nil_append, ix_in, ix_cl, lt_in, lt_cl, lt_add, ix_one, vu_eq, vu_ne, arI_mk, arL_mk, arY_mZ, arY_mB, alen_mI, fld_sfl_ne, fld_sfl_same, Option.isSome_some, pok_i, b1z, b01, z10, b1o, Int32.zero_add, vu_vu, upd_eq, upd_ne, true_or, or_true, V0.r1, V0.r2, V0.r3, V0.r4, V0.r16, V0.r17, V0.r18, V0.r19, V0.r20, V0.r23, V0.r24, V0.r25, V0.r26, V0.r27, V0.r28, V0.r29, V0.r30, V0.c172, V0.c173, V0.c174, V0.c186, V0.c187, V0.c188, V0.n5, V0.n13, V0.n14, V0.i0, V0.i5, V0.i6, V0.i7, V0.i8, V0.i9, V0.i10, V0.i11, V0.i12, V0.i13, V0.i14, V0.i15, V0.i21, V0.i22]
  rw [p298_9 (Nat.le_of_ble_eq_true rfl) sp_within]
  simp only [wh1]
  unfold o_restore
  by_cases h1 : 0 ≤ i.toInt ∧ i.toInt ≤ 1
  · obtain ⟨j, hj, rfl, hv⟩ := i9 (v := i) (N := 2) (by omega) (by omega) (by omega)
    have h1' : (0 ≤ (nI j).toInt ∧ (nI j).toInt ≤ 1) = True := eq_true h1
    have em : (1394 : Int32) * nI (j + 1) = nI (1394 * (j + 1)) := by rw [lit_nI 1394, pk_mul]
    have hj2 : (nI j).toInt.toNat = j := nI_tn (by omega)
    simp only [hj2]
    by_cases h2 : s.2.2.2.1 j = 0
    · simp (disch := first | omega | decide | assumption | exact Nat.le_of_ble_eq_true rfl) only [s298_12, s298_15, s298_17, s298_18, s298_19, s298_22, y298_23, s298_24, s298_27, s298_29, ow_some, true_and, and_true, and_self, if_true, if_false, not_true, not_false_eq_true, Bool.false_eq_true, eq_self, Option.toList, List.cons_append, List.nil_append, ix_in, ix_cl, lt_in, lt_cl, lt_add, ix_one, vu_eq, vu_ne, arI_mk, arL_mk, arY_mZ, arY_mB, alen_mI, fld_sfl_ne, fld_sfl_same, Option.isSome_some, pok_i, b1z, b01, z10, b1o, Int32.zero_add, vu_vu, upd_eq, upd_ne, true_or, or_true, V0.r1, V0.r2, V0.r3, V0.r4, V0.r16, V0.r17, V0.r18, V0.r19, V0.r20, V0.r23, V0.r24, V0.r25, V0.r26, V0.r27, V0.r28, V0.r29, V0.r30, V0.c172, V0.c173, V0.c174, V0.c186, V0.c187, V0.c188, V0.n5, V0.n13, V0.n14, V0.i0, V0.i5, V0.i6, V0.i7, V0.i8, V0.i9, V0.i10, V0.i11, V0.i12, V0.i13, V0.i14, V0.i15, V0.i21, V0.i22, h1', h2]
      exact ⟨rfl, rfl, sm0.w, V0, rfl⟩
    · simp (disch := first | omega | decide | assumption | exact Nat.le_of_ble_eq_true rfl) only [s298_12, s298_15, s298_17, s298_18, s298_19, s298_22, y298_23, s298_24, s298_27, s298_29, s298_30, h298_31, ow_some, true_and, and_true, and_self, if_true, if_false, not_true, not_false_eq_true, Bool.false_eq_true, eq_self, Option.toList, List.cons_append, List.nil_append, ix_in, ix_cl, lt_in, lt_cl, lt_add, ix_one, vu_eq, vu_ne, arI_mk, arL_mk, arY_mZ, arY_mB, alen_mI, fld_sfl_ne, fld_sfl_same, Option.isSome_some, pok_i, b1z, b01, z10, b1o, Int32.zero_add, vu_vu, upd_eq, upd_ne, true_or, or_true, V0.r1, V0.r2, V0.r3, V0.r4, V0.r16, V0.r17, V0.r18, V0.r19, V0.r20, V0.r23, V0.r24, V0.r25, V0.r26, V0.r27, V0.r28, V0.r29, V0.r30, V0.c172, V0.c173, V0.c174, V0.c186, V0.c187, V0.c188, V0.n5, V0.n13, V0.n14, V0.i0, V0.i5, V0.i6, V0.i7, V0.i8, V0.i9, V0.i10, V0.i11, V0.i12, V0.i13, V0.i14, V0.i15, V0.i21, V0.i22, h1', h2]
      refine lp (fun k g (_ : Unit) => SM f g ∧ MV g (i_get s.1 j k, s.2)) (fun k _ => [.ref 171, .int (nI j), .int (nI k)]) 1394 ?_ ?_ 0 f0 () (by omega) ⟨sm0, ?_⟩
      · rintro k g _ hk ⟨sm, V1⟩ hI
        have hc : (1394 ≤ k) = False := eq_false (by omega)
        have hk2 : i_get s.1 j k (1394 * (j + 1) + k) = s.1 (1394 * (j + 1) + k) := by rw [i_get, if_neg (by omega)]
        simp (disch := first | omega | decide | assumption | exact Nat.le_of_ble_eq_true rfl) only [s298_32, s298_33, s298_36, s298_39, s298_40, s298_43, s298_44, s298_45, s298_48, s298_51, s298_52, s298_53, s298_54, s298_55, s298_56, s298_57, s298_58, s298_59, h298_62, ow_some, true_and, and_true, and_self, if_true, if_false, not_true, not_false_eq_true, Bool.false_eq_true, eq_self, Option.toList, List.cons_append, List.nil_append, ix_in, ix_cl, lt_in, lt_cl, lt_add, ix_one, vu_eq, vu_ne, arI_mk, arL_mk, arY_mZ, arY_mB, alen_mI, fld_sfl_ne, fld_sfl_same, Option.isSome_some, pok_i, b1z, b01, z10, b1o, Int32.zero_add, vu_vu, upd_eq, upd_ne, true_or, or_true, V1.r1, V1.r2, V1.r3, V1.r4, V1.r16, V1.r17, V1.r18, V1.r19, V1.r20, V1.r23, V1.r24, V1.r25, V1.r26, V1.r27, V1.r28, V1.r29, V1.r30, V1.c172, V1.c173, V1.c174, V1.c186, V1.c187, V1.c188, V1.n5, V1.n13, V1.n14, V1.i0, V1.i5, V1.i6, V1.i7, V1.i8, V1.i9, V1.i10, V1.i11, V1.i12, V1.i13, V1.i14, V1.i15, V1.i21, V1.i22, lt_le, hc, em, nI_add, hk2]
        refine hI _ () ⟨sm.tr (SM.up (by omega) (by omega)), ?_⟩
        rw [← i_get_s]
        exact V1.all
      · rintro g _ ⟨sm, V1⟩
        simp (disch := first | omega | decide | assumption | exact Nat.le_of_ble_eq_true rfl) only [s298_32, s298_33, s298_36, s298_65, s298_66, s298_69, s298_71, s298_72, s298_73, s298_74, ow_some, true_and, and_true, and_self, if_true, if_false, not_true, not_false_eq_true, Bool.false_eq_true, eq_self, Option.toList, List.cons_append, List.nil_append, ix_in, ix_cl, lt_in, lt_cl, lt_add, ix_one, vu_eq, vu_ne, arI_mk, arL_mk, arY_mZ, arY_mB, alen_mI, fld_sfl_ne, fld_sfl_same, Option.isSome_some, pok_i, b1z, b01, z10, b1o, Int32.zero_add, vu_vu, upd_eq, upd_ne, true_or, or_true, V1.r1, V1.r2, V1.r3, V1.r4, V1.r16, V1.r17, V1.r18, V1.r19, V1.r20, V1.r23, V1.r24, V1.r25, V1.r26, V1.r27, V1.r28, V1.r29, V1.r30, V1.c172, V1.c173, V1.c174, V1.c186, V1.c187, V1.c188, V1.n5, V1.n13, V1.n14, V1.i0, V1.i5, V1.i6, V1.i7, V1.i8, V1.i9, V1.i10, V1.i11, V1.i12, V1.i13, V1.i14, V1.i15, V1.i21, V1.i22, lt_le, Nat.le_refl]
        exact ⟨rfl, rfl, sm.w.tr (SW.up (by omega) (by omega)), V1.all, rfl⟩
      · have : i_get s.1 j 0 = s.1 := by funext a; rw [i_get, if_neg (by omega)]
        rw [this]; exact V0
  · simp (disch := first | omega | decide | assumption | exact Nat.le_of_ble_eq_true rfl) only [s298_12, s298_15, s298_17, ow_some, true_and, and_true, and_self, if_true, if_false, not_true, not_false_eq_true, Bool.false_eq_true, eq_self, Option.toList, List.cons_append, List.nil_append, ix_in, ix_cl, lt_in, lt_cl, lt_add, ix_one, vu_eq, vu_ne, arI_mk, arL_mk, arY_mZ, arY_mB, alen_mI, fld_sfl_ne, fld_sfl_same, Option.isSome_some, pok_i, b1z, b01, z10, b1o, Int32.zero_add, vu_vu, upd_eq, upd_ne, true_or, or_true, V0.r1, V0.r2, V0.r3, V0.r4, V0.r16, V0.r17, V0.r18, V0.r19, V0.r20, V0.r23, V0.r24, V0.r25, V0.r26, V0.r27, V0.r28, V0.r29, V0.r30, V0.c172, V0.c173, V0.c174, V0.c186, V0.c187, V0.c188, V0.n5, V0.n13, V0.n14, V0.i0, V0.i5, V0.i6, V0.i7, V0.i8, V0.i9, V0.i10, V0.i11, V0.i12, V0.i13, V0.i14, V0.i15, V0.i21, V0.i22, h1]
    exact ⟨rfl, rfl, sm0.w, V0, rfl⟩
def m_ba (all : Nat → Int32) (S P : Nat) : Int32 := fo (fun k a => a + m_bo all (nT all) P k) 0 S
theorem sp_borneAll {X : Nat × (Nat → Int32)} {d N K : Nat} {f : Nat → e_C} {s : m_T} {S P : Nat} (V : MV f s) (W : WF s.1 S P) {a1 a2 : Value} : TT X (d + 4) 301 0 [.ref 171, a1, a2] [] f N K (MP N K f s (some (.int (m_ba s.1 S P)))) := by
  have h8 := W.1.2.2.1
  have A1 := W.1.1
  simp (disch := first | omega | decide | assumption | exact Nat.le_of_ble_eq_true rfl) only [s301_0, s301_1, s301_2, s301_5, s301_7, ow_some, true_and, and_true, and_self, if_true, if_false, not_true, not_false_eq_true, Bool.false_eq_true, eq_self, Option.toList, List.cons_append, List.nil_append, ix_in, ix_cl, lt_in, lt_cl, lt_add, ix_one, vu_eq, vu_ne, arI_mk, arL_mk, arY_mZ, arY_mB, alen_mI, fld_sfl_ne, fld_sfl_same, Option.isSome_some, pok_i, b1z, b01, z10, b1o, Int32.zero_add, vu_vu, upd_eq, upd_ne, true_or, or_true, V.r1, V.r2, V.r3, V.r4, V.r16, V.r17, V.r18, V.r19, V.r20, V.r23, V.r24, V.r25, V.r26, V.r27, V.r28, V.r29, V.r30, V.c172, V.c173, V.c174, V.c186, V.c187, V.c188, V.n5, V.n13, V.n14, V.i0, V.i5, V.i6, V.i7, V.i8, V.i9, V.i10, V.i11, V.i12, V.i13, V.i14, V.i15, V.i21, V.i22, W.2.1]
  refine k301_8 (cno_MR V.mr) (Nat.le_of_ble_eq_true rfl) (vb_lays V W W.T) ?_
  rintro f1 n1 k1 v1 ⟨rfl, rfl, rfl, sm1, V1, b, hb, hbv⟩
  simp (disch := first | omega | decide | assumption | exact Nat.le_of_ble_eq_true rfl) only [s301_11, s301_12, s301_13, h301_14, ow_some, true_and, and_true, and_self, if_true, if_false, not_true, not_false_eq_true, Bool.false_eq_true, eq_self, Option.toList, List.cons_append, List.nil_append, ix_in, ix_cl, lt_in, lt_cl, lt_add, ix_one, vu_eq, vu_ne, arI_mk, arL_mk, arY_mZ, arY_mB, alen_mI, fld_sfl_ne, fld_sfl_same, Option.isSome_some, pok_i, b1z, b01, z10, b1o, Int32.zero_add, vu_vu, upd_eq, upd_ne, true_or, or_true, V1.r1, V1.r2, V1.r3, V1.r4, V1.r16, V1.r17, V1.r18, V1.r19, V1.r20, V1.r23, V1.r24, V1.r25, V1.r26, V1.r27, V1.r28, V1.r29, V1.r30, V1.c172, V1.c173, V1.c174, V1.c186, V1.c187, V1.c188, V1.n5, V1.n13, V1.n14, V1.i0, V1.i5, V1.i6, V1.i7, V1.i8, V1.i9, V1.i10, V1.i11, V1.i12, V1.i13, V1.i14, V1.i15, V1.i21, V1.i22]
  refine lp (fun k g (x : Int32) => g = f1 ∧ x = fo (fun k a => a + m_bo s.1 (nT s.1) P k) 0 k) (fun k x => [.ref 171, .int x, .int (nI k)]) S ?_ ?_ 0 f1 0 (by omega) ⟨rfl, rfl⟩
  · rintro k g x hk ⟨rfl, hx⟩ hI
    have hc : (S ≤ k) = False := eq_false (by omega)
    have hbk := hbv k (by omega)
    simp (disch := first | omega | decide | assumption | exact Nat.le_of_ble_eq_true rfl) only [s301_15, s301_16, s301_17, s301_20, s301_21, s301_22, s301_25, s301_26, s301_27, s301_30, s301_31, s301_32, s301_33, s301_34, h301_37, ow_some, true_and, and_true, and_self, if_true, if_false, not_true, not_false_eq_true, Bool.false_eq_true, eq_self, Option.toList, List.cons_append, List.nil_append, ix_in, ix_cl, lt_in, lt_cl, lt_add, ix_one, vu_eq, vu_ne, arI_mk, arL_mk, arY_mZ, arY_mB, alen_mI, fld_sfl_ne, fld_sfl_same, Option.isSome_some, pok_i, b1z, b01, z10, b1o, Int32.zero_add, vu_vu, upd_eq, upd_ne, true_or, or_true, V1.r1, V1.r2, V1.r3, V1.r4, V1.r16, V1.r17, V1.r18, V1.r19, V1.r20, V1.r23, V1.r24, V1.r25, V1.r26, V1.r27, V1.r28, V1.r29, V1.r30, V1.c172, V1.c173, V1.c174, V1.c186, V1.c187, V1.c188, V1.n5, V1.n13, V1.n14, V1.i0, V1.i5, V1.i6, V1.i7, V1.i8, V1.i9, V1.i10, V1.i11, V1.i12, V1.i13, V1.i14, V1.i15, V1.i21, V1.i22, A1, ix_le, hc, hb, hbk]
    exact hI _ _ ⟨rfl, by rw [fo_s, ← hx]⟩
  · rintro g x ⟨rfl, hx⟩
    simp (disch := first | omega | decide | assumption | exact Nat.le_of_ble_eq_true rfl) only [s301_15, s301_16, s301_17, s301_20, s301_21, s301_22, s301_40, s301_41, ow_some, true_and, and_true, and_self, if_true, if_false, not_true, not_false_eq_true, Bool.false_eq_true, eq_self, Option.toList, List.cons_append, List.nil_append, ix_in, ix_cl, lt_in, lt_cl, lt_add, ix_one, vu_eq, vu_ne, arI_mk, arL_mk, arY_mZ, arY_mB, alen_mI, fld_sfl_ne, fld_sfl_same, Option.isSome_some, pok_i, b1z, b01, z10, b1o, Int32.zero_add, vu_vu, upd_eq, upd_ne, true_or, or_true, V1.r1, V1.r2, V1.r3, V1.r4, V1.r16, V1.r17, V1.r18, V1.r19, V1.r20, V1.r23, V1.r24, V1.r25, V1.r26, V1.r27, V1.r28, V1.r29, V1.r30, V1.c172, V1.c173, V1.c174, V1.c186, V1.c187, V1.c188, V1.n5, V1.n13, V1.n14, V1.i0, V1.i5, V1.i6, V1.i7, V1.i8, V1.i9, V1.i10, V1.i11, V1.i12, V1.i13, V1.i14, V1.i15, V1.i21, V1.i22, A1, ix_le, Nat.le_refl]
    exact ⟨rfl, rfl, sm1, V1, by rw [hx]; rfl⟩
def o_count (s : m_T) (S P : Nat) (w : Int32) : Int32 := if w.toInt = 0 then s.1 1 else if w.toInt = 1 then s.1 52 else if w.toInt = 2 then s.1 53 else if w.toInt = 3 then s.1 54 else if w.toInt = 4 then s.1 55 else if w.toInt = 5 then s.1 2 else if w.toInt = 6 then m_sum s.1 84 S 0 0 else if w.toInt = 7 then s.1 56 else if w.toInt = 8 then m_sum s.1 9 S 0 0 else if w.toInt = 9 then m_ba s.1 S P else if w.toInt = 10 then s.1 92 else if w.toInt = 11 then s.2.1.1 else if w.toInt = 12 then s.1 0 else -1
theorem sp_count {X : Nat × (Nat → Int32)} {d N K : Nat} {f : Nat → e_C} {s : m_T} {S P : Nat} (V : MV f s) (W : WF s.1 S P) {w : Int32} : TT X (d + 8) 299 0 [.ref 171, .int w] [] f N K (MZ N K f (s.1, o_count s S P w) s.2) := by
  simp only [s299_0, s299_1, s299_2, V.i0, pok_i, true_and]
  have sm0 : SM f (va_up f 171 (sfl (f 171) 0 (.int 0))) := SM.up (by omega) (by omega)
  have V0 := V.num (j := 0) (x := 0) (by decide)
  generalize va_up f 171 (sfl (f 171) 0 (.int 0)) = f0 at sm0 V0 ⊢
  simp (disch := first | omega | decide | assumption | exact Nat.le_of_ble_eq_true rfl) only [s299_5, s299_6, ow_some, true_and, and_true, and_self, if_true, if_false, not_true, not_false_eq_true, Bool.false_eq_true, eq_self, Option.toList, List.cons_append, List.nil_append, ix_in, ix_cl, lt_in, lt_cl, lt_add, ix_one, vu_eq, vu_ne, arI_mk, arL_mk, arY_mZ, arY_mB, alen_mI, fld_sfl_ne, fld_sfl_same, Option.isSome_some, pok_i, b1z, b01, z10, b1o, Int32.zero_add, vu_vu, upd_eq, upd_ne, true_or, or_true, V0.r1, V0.r2, V0.r3, V0.r4, V0.r16, V0.r17, V0.r18, V0.r19, V0.r20, V0.r23, V0.r24, V0.r25, V0.r26, V0.r27, V0.r28, V0.r29, V0.r30, V0.c172, V0.c173, V0.c174, V0.c186, V0.c187, V0.c188, V0.n5, V0.n13, V0.n14, V0.i0, V0.i5, V0.i6, V0.i7, V0.i8, V0.i9, V0.i10, V0.i11, V0.i12, V0.i13, V0.i14, V0.i15, V0.i21, V0.i22]
  have A1 := W.1.1
  have h8 := W.1.2.2.1
  by_cases hw : w.toInt < 0 ∨ 13 ≤ w.toInt
  · rw [tsw_out _ _ (by simpa using hw)]
    have : o_count s S P w = -1 := by
      unfold o_count
      rw [if_neg (by omega), if_neg (by omega), if_neg (by omega), if_neg (by omega), if_neg (by omega), if_neg (by omega), if_neg (by omega), if_neg (by omega), if_neg (by omega), if_neg (by omega), if_neg (by omega), if_neg (by omega), if_neg (by omega)]
    rw [this]
    simp (disch := first | omega | decide | assumption | exact Nat.le_of_ble_eq_true rfl) only [s299_163, s299_164, ow_some, true_and, and_true, and_self, if_true, if_false, not_true, not_false_eq_true, Bool.false_eq_true, eq_self, Option.toList, List.cons_append, List.nil_append, ix_in, ix_cl, lt_in, lt_cl, lt_add, ix_one, vu_eq, vu_ne, arI_mk, arL_mk, arY_mZ, arY_mB, alen_mI, fld_sfl_ne, fld_sfl_same, Option.isSome_some, pok_i, b1z, b01, z10, b1o, Int32.zero_add, vu_vu, upd_eq, upd_ne, true_or, or_true, V0.r1, V0.r2, V0.r3, V0.r4, V0.r16, V0.r17, V0.r18, V0.r19, V0.r20, V0.r23, V0.r24, V0.r25, V0.r26, V0.r27, V0.r28, V0.r29, V0.r30, V0.c172, V0.c173, V0.c174, V0.c186, V0.c187, V0.c188, V0.n5, V0.n13, V0.n14, V0.i0, V0.i5, V0.i6, V0.i7, V0.i8, V0.i9, V0.i10, V0.i11, V0.i12, V0.i13, V0.i14, V0.i15, V0.i21, V0.i22]
    exact ⟨rfl, rfl, sm0.w, V0, rfl⟩
  · rcases (show w.toInt = 0 ∨ w.toInt = 1 ∨ w.toInt = 2 ∨ w.toInt = 3 ∨ w.toInt = 4 ∨ w.toInt = 5 ∨ w.toInt = 6 ∨ w.toInt = 7 ∨ w.toInt = 8 ∨ w.toInt = 9 ∨ w.toInt = 10 ∨ w.toInt = 11 ∨ w.toInt = 12 by omega) with h | h | h | h | h | h | h | h | h | h | h | h | h
    · rw [tsw_at _ _ 0 72 rfl (by omega), show o_count s S P w = s.1 1 by simp [o_count, h]]
      simp (disch := first | omega | decide | assumption | exact Nat.le_of_ble_eq_true rfl) only [s299_72, s299_73, s299_76, s299_77, s299_78, ow_some, true_and, and_true, and_self, if_true, if_false, not_true, not_false_eq_true, Bool.false_eq_true, eq_self, Option.toList, List.cons_append, List.nil_append, ix_in, ix_cl, lt_in, lt_cl, lt_add, ix_one, vu_eq, vu_ne, arI_mk, arL_mk, arY_mZ, arY_mB, alen_mI, fld_sfl_ne, fld_sfl_same, Option.isSome_some, pok_i, b1z, b01, z10, b1o, Int32.zero_add, vu_vu, upd_eq, upd_ne, true_or, or_true, V0.r1, V0.r2, V0.r3, V0.r4, V0.r16, V0.r17, V0.r18, V0.r19, V0.r20, V0.r23, V0.r24, V0.r25, V0.r26, V0.r27, V0.r28, V0.r29, V0.r30, V0.c172, V0.c173, V0.c174, V0.c186, V0.c187, V0.c188, V0.n5, V0.n13, V0.n14, V0.i0, V0.i5, V0.i6, V0.i7, V0.i8, V0.i9, V0.i10, V0.i11, V0.i12, V0.i13, V0.i14, V0.i15, V0.i21, V0.i22]
      exact ⟨rfl, rfl, sm0.w, V0, rfl⟩
    · rw [tsw_at _ _ 1 79 rfl (by omega), show o_count s S P w = s.1 52 by simp [o_count, h]]
      simp (disch := first | omega | decide | assumption | exact Nat.le_of_ble_eq_true rfl) only [s299_79, s299_80, s299_83, s299_85, s299_86, ow_some, true_and, and_true, and_self, if_true, if_false, not_true, not_false_eq_true, Bool.false_eq_true, eq_self, Option.toList, List.cons_append, List.nil_append, ix_in, ix_cl, lt_in, lt_cl, lt_add, ix_one, vu_eq, vu_ne, arI_mk, arL_mk, arY_mZ, arY_mB, alen_mI, fld_sfl_ne, fld_sfl_same, Option.isSome_some, pok_i, b1z, b01, z10, b1o, Int32.zero_add, vu_vu, upd_eq, upd_ne, true_or, or_true, V0.r1, V0.r2, V0.r3, V0.r4, V0.r16, V0.r17, V0.r18, V0.r19, V0.r20, V0.r23, V0.r24, V0.r25, V0.r26, V0.r27, V0.r28, V0.r29, V0.r30, V0.c172, V0.c173, V0.c174, V0.c186, V0.c187, V0.c188, V0.n5, V0.n13, V0.n14, V0.i0, V0.i5, V0.i6, V0.i7, V0.i8, V0.i9, V0.i10, V0.i11, V0.i12, V0.i13, V0.i14, V0.i15, V0.i21, V0.i22]
      exact ⟨rfl, rfl, sm0.w, V0, rfl⟩
    · rw [tsw_at _ _ 2 87 rfl (by omega), show o_count s S P w = s.1 53 by simp [o_count, h]]
      simp (disch := first | omega | decide | assumption | exact Nat.le_of_ble_eq_true rfl) only [s299_87, s299_88, s299_91, s299_93, s299_94, ow_some, true_and, and_true, and_self, if_true, if_false, not_true, not_false_eq_true, Bool.false_eq_true, eq_self, Option.toList, List.cons_append, List.nil_append, ix_in, ix_cl, lt_in, lt_cl, lt_add, ix_one, vu_eq, vu_ne, arI_mk, arL_mk, arY_mZ, arY_mB, alen_mI, fld_sfl_ne, fld_sfl_same, Option.isSome_some, pok_i, b1z, b01, z10, b1o, Int32.zero_add, vu_vu, upd_eq, upd_ne, true_or, or_true, V0.r1, V0.r2, V0.r3, V0.r4, V0.r16, V0.r17, V0.r18, V0.r19, V0.r20, V0.r23, V0.r24, V0.r25, V0.r26, V0.r27, V0.r28, V0.r29, V0.r30, V0.c172, V0.c173, V0.c174, V0.c186, V0.c187, V0.c188, V0.n5, V0.n13, V0.n14, V0.i0, V0.i5, V0.i6, V0.i7, V0.i8, V0.i9, V0.i10, V0.i11, V0.i12, V0.i13, V0.i14, V0.i15, V0.i21, V0.i22]
      exact ⟨rfl, rfl, sm0.w, V0, rfl⟩
    · rw [tsw_at _ _ 3 95 rfl (by omega), show o_count s S P w = s.1 54 by simp [o_count, h]]
      simp (disch := first | omega | decide | assumption | exact Nat.le_of_ble_eq_true rfl) only [s299_95, s299_96, s299_99, s299_101, s299_102, ow_some, true_and, and_true, and_self, if_true, if_false, not_true, not_false_eq_true, Bool.false_eq_true, eq_self, Option.toList, List.cons_append, List.nil_append, ix_in, ix_cl, lt_in, lt_cl, lt_add, ix_one, vu_eq, vu_ne, arI_mk, arL_mk, arY_mZ, arY_mB, alen_mI, fld_sfl_ne, fld_sfl_same, Option.isSome_some, pok_i, b1z, b01, z10, b1o, Int32.zero_add, vu_vu, upd_eq, upd_ne, true_or, or_true, V0.r1, V0.r2, V0.r3, V0.r4, V0.r16, V0.r17, V0.r18, V0.r19, V0.r20, V0.r23, V0.r24, V0.r25, V0.r26, V0.r27, V0.r28, V0.r29, V0.r30, V0.c172, V0.c173, V0.c174, V0.c186, V0.c187, V0.c188, V0.n5, V0.n13, V0.n14, V0.i0, V0.i5, V0.i6, V0.i7, V0.i8, V0.i9, V0.i10, V0.i11, V0.i12, V0.i13, V0.i14, V0.i15, V0.i21, V0.i22]
      exact ⟨rfl, rfl, sm0.w, V0, rfl⟩
    · rw [tsw_at _ _ 4 103 rfl (by omega), show o_count s S P w = s.1 55 by simp [o_count, h]]
      simp (disch := first | omega | decide | assumption | exact Nat.le_of_ble_eq_true rfl) only [s299_103, s299_104, s299_107, s299_109, s299_110, ow_some, true_and, and_true, and_self, if_true, if_false, not_true, not_false_eq_true, Bool.false_eq_true, eq_self, Option.toList, List.cons_append, List.nil_append, ix_in, ix_cl, lt_in, lt_cl, lt_add, ix_one, vu_eq, vu_ne, arI_mk, arL_mk, arY_mZ, arY_mB, alen_mI, fld_sfl_ne, fld_sfl_same, Option.isSome_some, pok_i, b1z, b01, z10, b1o, Int32.zero_add, vu_vu, upd_eq, upd_ne, true_or, or_true, V0.r1, V0.r2, V0.r3, V0.r4, V0.r16, V0.r17, V0.r18, V0.r19, V0.r20, V0.r23, V0.r24, V0.r25, V0.r26, V0.r27, V0.r28, V0.r29, V0.r30, V0.c172, V0.c173, V0.c174, V0.c186, V0.c187, V0.c188, V0.n5, V0.n13, V0.n14, V0.i0, V0.i5, V0.i6, V0.i7, V0.i8, V0.i9, V0.i10, V0.i11, V0.i12, V0.i13, V0.i14, V0.i15, V0.i21, V0.i22]
      exact ⟨rfl, rfl, sm0.w, V0, rfl⟩
    · rw [tsw_at _ _ 5 111 rfl (by omega), show o_count s S P w = s.1 2 by simp [o_count, h]]
      simp (disch := first | omega | decide | assumption | exact Nat.le_of_ble_eq_true rfl) only [s299_111, s299_112, s299_115, s299_116, s299_117, ow_some, true_and, and_true, and_self, if_true, if_false, not_true, not_false_eq_true, Bool.false_eq_true, eq_self, Option.toList, List.cons_append, List.nil_append, ix_in, ix_cl, lt_in, lt_cl, lt_add, ix_one, vu_eq, vu_ne, arI_mk, arL_mk, arY_mZ, arY_mB, alen_mI, fld_sfl_ne, fld_sfl_same, Option.isSome_some, pok_i, b1z, b01, z10, b1o, Int32.zero_add, vu_vu, upd_eq, upd_ne, true_or, or_true, V0.r1, V0.r2, V0.r3, V0.r4, V0.r16, V0.r17, V0.r18, V0.r19, V0.r20, V0.r23, V0.r24, V0.r25, V0.r26, V0.r27, V0.r28, V0.r29, V0.r30, V0.c172, V0.c173, V0.c174, V0.c186, V0.c187, V0.c188, V0.n5, V0.n13, V0.n14, V0.i0, V0.i5, V0.i6, V0.i7, V0.i8, V0.i9, V0.i10, V0.i11, V0.i12, V0.i13, V0.i14, V0.i15, V0.i21, V0.i22]
      exact ⟨rfl, rfl, sm0.w, V0, rfl⟩
    · rw [tsw_at _ _ 6 118 rfl (by omega), show o_count s S P w = m_sum s.1 84 S 0 0 by simp [o_count, h]]
      simp (disch := first | omega | decide | assumption | exact Nat.le_of_ble_eq_true rfl) only [s299_118, ow_some, true_and, and_true, and_self, if_true, if_false, not_true, not_false_eq_true, Bool.false_eq_true, eq_self, Option.toList, List.cons_append, List.nil_append, ix_in, ix_cl, lt_in, lt_cl, lt_add, ix_one, vu_eq, vu_ne, arI_mk, arL_mk, arY_mZ, arY_mB, alen_mI, fld_sfl_ne, fld_sfl_same, Option.isSome_some, pok_i, b1z, b01, z10, b1o, Int32.zero_add, vu_vu, upd_eq, upd_ne, true_or, or_true, V0.r1, V0.r2, V0.r3, V0.r4, V0.r16, V0.r17, V0.r18, V0.r19, V0.r20, V0.r23, V0.r24, V0.r25, V0.r26, V0.r27, V0.r28, V0.r29, V0.r30, V0.c172, V0.c173, V0.c174, V0.c186, V0.c187, V0.c188, V0.n5, V0.n13, V0.n14, V0.i0, V0.i5, V0.i6, V0.i7, V0.i8, V0.i9, V0.i10, V0.i11, V0.i12, V0.i13, V0.i14, V0.i15, V0.i21, V0.i22]
      rw [p299_119 (cno_MR V0.mr) (Nat.le_of_ble_eq_true rfl) (sp_propsAll V0.mr V0.c172 A1 h8)]
      simp (disch := first | omega | decide | assumption | exact Nat.le_of_ble_eq_true rfl) only [s299_122, ow_some, true_and, and_true, and_self, if_true, if_false, not_true, not_false_eq_true, Bool.false_eq_true, eq_self, Option.toList, List.cons_append, List.nil_append, ix_in, ix_cl, lt_in, lt_cl, lt_add, ix_one, vu_eq, vu_ne, arI_mk, arL_mk, arY_mZ, arY_mB, alen_mI, fld_sfl_ne, fld_sfl_same, Option.isSome_some, pok_i, b1z, b01, z10, b1o, Int32.zero_add, vu_vu, upd_eq, upd_ne, true_or, or_true, V0.r1, V0.r2, V0.r3, V0.r4, V0.r16, V0.r17, V0.r18, V0.r19, V0.r20, V0.r23, V0.r24, V0.r25, V0.r26, V0.r27, V0.r28, V0.r29, V0.r30, V0.c172, V0.c173, V0.c174, V0.c186, V0.c187, V0.c188, V0.n5, V0.n13, V0.n14, V0.i0, V0.i5, V0.i6, V0.i7, V0.i8, V0.i9, V0.i10, V0.i11, V0.i12, V0.i13, V0.i14, V0.i15, V0.i21, V0.i22]
      exact ⟨rfl, rfl, sm0.w, V0, rfl⟩
    · rw [tsw_at _ _ 7 123 rfl (by omega), show o_count s S P w = s.1 56 by simp [o_count, h]]
      simp (disch := first | omega | decide | assumption | exact Nat.le_of_ble_eq_true rfl) only [s299_123, s299_124, s299_127, s299_129, s299_130, ow_some, true_and, and_true, and_self, if_true, if_false, not_true, not_false_eq_true, Bool.false_eq_true, eq_self, Option.toList, List.cons_append, List.nil_append, ix_in, ix_cl, lt_in, lt_cl, lt_add, ix_one, vu_eq, vu_ne, arI_mk, arL_mk, arY_mZ, arY_mB, alen_mI, fld_sfl_ne, fld_sfl_same, Option.isSome_some, pok_i, b1z, b01, z10, b1o, Int32.zero_add, vu_vu, upd_eq, upd_ne, true_or, or_true, V0.r1, V0.r2, V0.r3, V0.r4, V0.r16, V0.r17, V0.r18, V0.r19, V0.r20, V0.r23, V0.r24, V0.r25, V0.r26, V0.r27, V0.r28, V0.r29, V0.r30, V0.c172, V0.c173, V0.c174, V0.c186, V0.c187, V0.c188, V0.n5, V0.n13, V0.n14, V0.i0, V0.i5, V0.i6, V0.i7, V0.i8, V0.i9, V0.i10, V0.i11, V0.i12, V0.i13, V0.i14, V0.i15, V0.i21, V0.i22]
      exact ⟨rfl, rfl, sm0.w, V0, rfl⟩
    · rw [tsw_at _ _ 8 131 rfl (by omega), show o_count s S P w = m_sum s.1 9 S 0 0 by simp [o_count, h]]
      simp (disch := first | omega | decide | assumption | exact Nat.le_of_ble_eq_true rfl) only [s299_131, s299_132, ow_some, true_and, and_true, and_self, if_true, if_false, not_true, not_false_eq_true, Bool.false_eq_true, eq_self, Option.toList, List.cons_append, List.nil_append, ix_in, ix_cl, lt_in, lt_cl, lt_add, ix_one, vu_eq, vu_ne, arI_mk, arL_mk, arY_mZ, arY_mB, alen_mI, fld_sfl_ne, fld_sfl_same, Option.isSome_some, pok_i, b1z, b01, z10, b1o, Int32.zero_add, vu_vu, upd_eq, upd_ne, true_or, or_true, V0.r1, V0.r2, V0.r3, V0.r4, V0.r16, V0.r17, V0.r18, V0.r19, V0.r20, V0.r23, V0.r24, V0.r25, V0.r26, V0.r27, V0.r28, V0.r29, V0.r30, V0.c172, V0.c173, V0.c174, V0.c186, V0.c187, V0.c188, V0.n5, V0.n13, V0.n14, V0.i0, V0.i5, V0.i6, V0.i7, V0.i8, V0.i9, V0.i10, V0.i11, V0.i12, V0.i13, V0.i14, V0.i15, V0.i21, V0.i22]
      rw [show Value.int 9 = .int (nI 9) from rfl]
      rw [p299_134 (cno_MR V0.mr) (Nat.le_of_ble_eq_true rfl) (sp_sumOf (a := 9) V0.mr V0.c172 A1 h8 (by decide))]
      simp (disch := first | omega | decide | assumption | exact Nat.le_of_ble_eq_true rfl) only [s299_137, ow_some, true_and, and_true, and_self, if_true, if_false, not_true, not_false_eq_true, Bool.false_eq_true, eq_self, Option.toList, List.cons_append, List.nil_append, ix_in, ix_cl, lt_in, lt_cl, lt_add, ix_one, vu_eq, vu_ne, arI_mk, arL_mk, arY_mZ, arY_mB, alen_mI, fld_sfl_ne, fld_sfl_same, Option.isSome_some, pok_i, b1z, b01, z10, b1o, Int32.zero_add, vu_vu, upd_eq, upd_ne, true_or, or_true, V0.r1, V0.r2, V0.r3, V0.r4, V0.r16, V0.r17, V0.r18, V0.r19, V0.r20, V0.r23, V0.r24, V0.r25, V0.r26, V0.r27, V0.r28, V0.r29, V0.r30, V0.c172, V0.c173, V0.c174, V0.c186, V0.c187, V0.c188, V0.n5, V0.n13, V0.n14, V0.i0, V0.i5, V0.i6, V0.i7, V0.i8, V0.i9, V0.i10, V0.i11, V0.i12, V0.i13, V0.i14, V0.i15, V0.i21, V0.i22]
      exact ⟨rfl, rfl, sm0.w, V0, rfl⟩
    · rw [tsw_at _ _ 9 138 rfl (by omega), show o_count s S P w = m_ba s.1 S P by simp [o_count, h]]
      simp (disch := first | omega | decide | assumption | exact Nat.le_of_ble_eq_true rfl) only [s299_138, ow_some, true_and, and_true, and_self, if_true, if_false, not_true, not_false_eq_true, Bool.false_eq_true, eq_self, Option.toList, List.cons_append, List.nil_append, ix_in, ix_cl, lt_in, lt_cl, lt_add, ix_one, vu_eq, vu_ne, arI_mk, arL_mk, arY_mZ, arY_mB, alen_mI, fld_sfl_ne, fld_sfl_same, Option.isSome_some, pok_i, b1z, b01, z10, b1o, Int32.zero_add, vu_vu, upd_eq, upd_ne, true_or, or_true, V0.r1, V0.r2, V0.r3, V0.r4, V0.r16, V0.r17, V0.r18, V0.r19, V0.r20, V0.r23, V0.r24, V0.r25, V0.r26, V0.r27, V0.r28, V0.r29, V0.r30, V0.c172, V0.c173, V0.c174, V0.c186, V0.c187, V0.c188, V0.n5, V0.n13, V0.n14, V0.i0, V0.i5, V0.i6, V0.i7, V0.i8, V0.i9, V0.i10, V0.i11, V0.i12, V0.i13, V0.i14, V0.i15, V0.i21, V0.i22]
      refine k299_139 (cno_MR V0.mr) (Nat.le_of_ble_eq_true rfl) (sp_borneAll V0 W) ?_
      rintro f1 n1 k1 v1 ⟨rfl, rfl, sm1, V1, rfl⟩
      simp (disch := first | omega | decide | assumption | exact Nat.le_of_ble_eq_true rfl) only [s299_142, ow_some, true_and, and_true, and_self, if_true, if_false, not_true, not_false_eq_true, Bool.false_eq_true, eq_self, Option.toList, List.cons_append, List.nil_append, ix_in, ix_cl, lt_in, lt_cl, lt_add, ix_one, vu_eq, vu_ne, arI_mk, arL_mk, arY_mZ, arY_mB, alen_mI, fld_sfl_ne, fld_sfl_same, Option.isSome_some, pok_i, b1z, b01, z10, b1o, Int32.zero_add, vu_vu, upd_eq, upd_ne, true_or, or_true, V1.r1, V1.r2, V1.r3, V1.r4, V1.r16, V1.r17, V1.r18, V1.r19, V1.r20, V1.r23, V1.r24, V1.r25, V1.r26, V1.r27, V1.r28, V1.r29, V1.r30, V1.c172, V1.c173, V1.c174, V1.c186, V1.c187, V1.c188, V1.n5, V1.n13, V1.n14, V1.i0, V1.i5, V1.i6, V1.i7, V1.i8, V1.i9, V1.i10, V1.i11, V1.i12, V1.i13, V1.i14, V1.i15, V1.i21, V1.i22]
      exact ⟨rfl, rfl, (sm0.tr sm1).w, V1, rfl⟩
    · rw [tsw_at _ _ 10 143 rfl (by omega), show o_count s S P w = s.1 92 by simp [o_count, h]]
      simp (disch := first | omega | decide | assumption | exact Nat.le_of_ble_eq_true rfl) only [s299_143, s299_144, s299_147, s299_149, s299_150, ow_some, true_and, and_true, and_self, if_true, if_false, not_true, not_false_eq_true, Bool.false_eq_true, eq_self, Option.toList, List.cons_append, List.nil_append, ix_in, ix_cl, lt_in, lt_cl, lt_add, ix_one, vu_eq, vu_ne, arI_mk, arL_mk, arY_mZ, arY_mB, alen_mI, fld_sfl_ne, fld_sfl_same, Option.isSome_some, pok_i, b1z, b01, z10, b1o, Int32.zero_add, vu_vu, upd_eq, upd_ne, true_or, or_true, V0.r1, V0.r2, V0.r3, V0.r4, V0.r16, V0.r17, V0.r18, V0.r19, V0.r20, V0.r23, V0.r24, V0.r25, V0.r26, V0.r27, V0.r28, V0.r29, V0.r30, V0.c172, V0.c173, V0.c174, V0.c186, V0.c187, V0.c188, V0.n5, V0.n13, V0.n14, V0.i0, V0.i5, V0.i6, V0.i7, V0.i8, V0.i9, V0.i10, V0.i11, V0.i12, V0.i13, V0.i14, V0.i15, V0.i21, V0.i22]
      exact ⟨rfl, rfl, sm0.w, V0, rfl⟩
    · rw [tsw_at _ _ 11 151 rfl (by omega), show o_count s S P w = s.2.1.1 by simp [o_count, h]]
      simp (disch := first | omega | decide | assumption | exact Nat.le_of_ble_eq_true rfl) only [s299_151, s299_152, s299_155, ow_some, true_and, and_true, and_self, if_true, if_false, not_true, not_false_eq_true, Bool.false_eq_true, eq_self, Option.toList, List.cons_append, List.nil_append, ix_in, ix_cl, lt_in, lt_cl, lt_add, ix_one, vu_eq, vu_ne, arI_mk, arL_mk, arY_mZ, arY_mB, alen_mI, fld_sfl_ne, fld_sfl_same, Option.isSome_some, pok_i, b1z, b01, z10, b1o, Int32.zero_add, vu_vu, upd_eq, upd_ne, true_or, or_true, V0.r1, V0.r2, V0.r3, V0.r4, V0.r16, V0.r17, V0.r18, V0.r19, V0.r20, V0.r23, V0.r24, V0.r25, V0.r26, V0.r27, V0.r28, V0.r29, V0.r30, V0.c172, V0.c173, V0.c174, V0.c186, V0.c187, V0.c188, V0.n5, V0.n13, V0.n14, V0.i0, V0.i5, V0.i6, V0.i7, V0.i8, V0.i9, V0.i10, V0.i11, V0.i12, V0.i13, V0.i14, V0.i15, V0.i21, V0.i22]
      exact ⟨rfl, rfl, sm0.w, V0, rfl⟩
    · rw [tsw_at _ _ 12 156 rfl (by omega), show o_count s S P w = s.1 0 by simp [o_count, h]]
      simp (disch := first | omega | decide | assumption | exact Nat.le_of_ble_eq_true rfl) only [s299_156, s299_157, s299_160, s299_161, s299_162, ow_some, true_and, and_true, and_self, if_true, if_false, not_true, not_false_eq_true, Bool.false_eq_true, eq_self, Option.toList, List.cons_append, List.nil_append, ix_in, ix_cl, lt_in, lt_cl, lt_add, ix_one, vu_eq, vu_ne, arI_mk, arL_mk, arY_mZ, arY_mB, alen_mI, fld_sfl_ne, fld_sfl_same, Option.isSome_some, pok_i, b1z, b01, z10, b1o, Int32.zero_add, vu_vu, upd_eq, upd_ne, true_or, or_true, V0.r1, V0.r2, V0.r3, V0.r4, V0.r16, V0.r17, V0.r18, V0.r19, V0.r20, V0.r23, V0.r24, V0.r25, V0.r26, V0.r27, V0.r28, V0.r29, V0.r30, V0.c172, V0.c173, V0.c174, V0.c186, V0.c187, V0.c188, V0.n5, V0.n13, V0.n14, V0.i0, V0.i5, V0.i6, V0.i7, V0.i8, V0.i9, V0.i10, V0.i11, V0.i12, V0.i13, V0.i14, V0.i15, V0.i21, V0.i22]
      exact ⟨rfl, rfl, sm0.w, V0, rfl⟩

/-! the class plays -/
theorem gb_all {all : Nat → Int32} {S P : Nat} (hP : P ≤ 9) : ∀ n set, set < n → set < 2 ^ P → gb all S P set := by
  intro n
  induction n with
  | zero => intro set h; omega
  | succ n ih =>
    intro set h hs
    refine (game_same hP hs (fun p hp hb => ?_)).2
    have hlt := clr_bit hb
    exact ih _ (by omega) (by omega)
theorem ost_1 {tb tb' : Nat → Int32} {set n : Nat} {r : Int32 × Int32} (h : ∀ i, i < set → tb i = tb' i) : o_st tb set n r = o_st tb' set n r := by
  by_cases hb : set.testBit n = true
  · have e := h _ (clr_bit hb)
    simp only [o_st, e]
  · simp only [o_st, hb, Bool.false_eq_true, if_false]
theorem ost_cg {tb tb' : Nat → Int32} {set : Nat} {r : Int32 × Int32} (h : ∀ i, i < set → tb i = tb' i) (n : Nat) : fo (o_st tb set) r n = fo (o_st tb' set) r n := fo_cong (fun _ _ _ => ost_1 h)
theorem sp_play {X : Nat × (Nat → Int32)} {d N K a pl C S R P : Nat} {f : Nat → e_C} {y x r : Nat → Nat → Int32} {w v all tb : Nat → Int32} (L : LV f 128 y) (V : SV f a pl w x) (W : PV f pl v r C) (G : CR all S P w x v r C) (I : IS all S R P) (hd : AD a pl 128) (O : OV f tb) {u2 u3 : Value} : TT X (d + 4) 90 0 [.ref 127, .ref a, u2, u3] [] f N K (fun f' n' k' z => n' = N ∧ k' = K ∧ SI 130 136 f f' ∧ (∃ y' tb', LV f' 128 y' ∧ OV f' tb' ∧ ∀ i, i < 512 → tb' i = gtb all S P i) ∧ z = some (.int (gtb all S P (nT all)))) := by
  obtain ⟨o0, o1, o2⟩ := O
  have h9 := I.p9
  have t5 := I.t5
  have hT : w 6 = nI (nT all) := by rw [G.w6]; exact I.eT
  simp (disch := first | omega | decide | assumption | exact Nat.le_of_ble_eq_true rfl) only [s90_0, s90_1, s90_4, ow_some, true_and, and_true, and_self, if_true, if_false, not_true, not_false_eq_true, Bool.false_eq_true, eq_self, Option.toList, List.cons_append, List.nil_append, ix_in, ix_cl, lt_in, lt_cl, lt_add, ix_one, vu_eq, vu_ne, arI_mk, arL_mk, arY_mZ, arY_mB, alen_mI, fld_sfl_ne, fld_sfl_same, Option.isSome_some, pok_i, b1z, b01, z10, b1o, Int32.zero_add, vu_vu, upd_eq, upd_ne, true_or, or_true, o0]
  refine k90_5 L.cn (Nat.le_of_ble_eq_true rfl) (sp_weigh L V W G I hd) ?_
  rintro f1 n1 k1 v1 ⟨rfl, rfl, rfl, s1, y1, L1, -, hw1⟩
  simp (disch := first | omega | decide | assumption | exact Nat.le_of_ble_eq_true rfl) only [s90_8, h90_9, ow_some, true_and, and_true, and_self, if_true, if_false, not_true, not_false_eq_true, Bool.false_eq_true, eq_self, Option.toList, List.cons_append, List.nil_append, ix_in, ix_cl, lt_in, lt_cl, lt_add, ix_one, vu_eq, vu_ne, arI_mk, arL_mk, arY_mZ, arY_mB, alen_mI, fld_sfl_ne, fld_sfl_same, Option.isSome_some, pok_i, b1z, b01, z10, b1o, Int32.zero_add, vu_vu, upd_eq, upd_ne, true_or, or_true]
  have s1' : SI 130 136 f f1 := s1.wd (by omega) (by omega)
  have O1 : OV f1 tb := OV.fr ⟨o0, o1, o2⟩ (s1 127 (by omega)) (s1 135 (by omega))
  refine lp (fun j e (z : (Nat → Nat → Int32) × (Nat → Int32) × Value) => SI 130 136 f e ∧ LV e 128 z.1 ∧ OV e z.2.1 ∧ wgd all P z.1 ∧ ∀ i, i < j → z.2.1 i = gtb all S P i) (fun j z => [.ref 127, .ref a, .int (nI j), z.2.2]) 512 ?_ ?_ 0 f1 (y1, tb, u3) (by omega) ⟨s1', L1, O1, hw1, fun i hi => by omega⟩
  · rintro j e ⟨y2, t2, u⟩ hj ⟨s2, L2, O2, hw2, hk⟩ hI
    dsimp only at hk
    have V2 := V.fr (f' := e) (fun b h1 h2 => s2 b (by omega))
    have W2 := W.fr (f' := e) (fun b h1 h2 => s2 b (by omega))
    obtain ⟨p0, p1, p2⟩ := O2
    have hc : (512 ≤ j) = False := eq_false (by omega)
    have hpt := part_nI hj t5
    by_cases hs : sub j (nT all) = true
    · have hs' : (sub j (nT all) = true) = True := eq_true hs
      have hj2 : j < 2 ^ P := Nat.lt_of_le_of_lt (sub_le hs) I.tP
      simp (disch := first | omega | decide | assumption | exact Nat.le_of_ble_eq_true rfl) only [s90_10, s90_11, s90_14, s90_17, s90_18, s90_19, s90_22, s90_23, s90_24, s90_25, s90_28, s90_29, s90_32, s90_33, s90_34, s90_35, s90_38, s90_39, s90_40, s90_43, s90_44, s90_47, s90_48, ow_some, true_and, and_true, and_self, if_true, if_false, not_true, not_false_eq_true, Bool.false_eq_true, eq_self, Option.toList, List.cons_append, List.nil_append, ix_in, ix_cl, lt_in, lt_cl, lt_add, ix_one, vu_eq, vu_ne, arI_mk, arL_mk, arY_mZ, arY_mB, alen_mI, fld_sfl_ne, fld_sfl_same, Option.isSome_some, pok_i, b1z, b01, z10, b1o, Int32.zero_add, vu_vu, upd_eq, upd_ne, true_or, or_true, V2.v1, V2.v6, V2.v7, V2.v8, V2.v9, V2.i1, V2.i6, V2.i7, V2.i8, V2.i9, V2.r2, V2.r3, V2.r4, V2.r5, V2.pl, V2.a2, V2.a3, V2.a4, V2.a5, lt_le, hc, hT, hpt, hs', p0, p1, ne_eq]
      refine k90_49 L2.cn (Nat.le_of_ble_eq_true rfl) (sp_slackOf L2 V2 W2 G I hd hs hw2) ?_
      rintro f3 n3 k3 v3 ⟨rfl, rfl, s3, ⟨g3, L3, hg3⟩, rfl⟩
      have a3 : arI (f3 135) = some (512, t2) := by rw [s3 135 (by omega)]; exact p2
      have O3 : OV f3 t2 := OV.fr ⟨p0, p1, p2⟩ (s3 127 (by omega)) (s3 135 (by omega))
      have hh := sp_lt0 (all := all) (S := S) (P := P) (T := j)
      have fin : ∀ z : Int32, z = gtb all S P j → TH X (d + 4) 90 10 [.ref 127, .ref a, .int (nI (j + 1)), .int 1] [] (va_up f3 135 (.inl (.int, 512, .inl (upd t2 j z)))) n3 k3 (fun f' n' k' z => n' = n3 ∧ k' = k3 ∧ SI 130 136 f f' ∧ (∃ y' tb', LV f' 128 y' ∧ OV f' tb' ∧ ∀ i, i < 512 → tb' i = gtb all S P i) ∧ z = some (.int (gtb all S P (nT all)))) := by
        intro z hz
        refine hI _ (up2 y2 4 g3, upd t2 j z, .int 1) ⟨(s2.tr (s3.wd (by omega) (by omega))).tr (SI.up (by omega) (by omega)), L3.fr (fun b h1 h2 => vu_ne (by omega)), O3.up, wgd_up hw2, fun i hi => ?_⟩
        dsimp only
        by_cases hij : i = j
        · subst hij; rw [upd_eq]; exact hz
        · rw [upd_ne hij]; exact hk i (by omega)
      by_cases hb : m_hold all S P j = true
      · have hb' : (¬ (m_hold all S P j = true)) = False := eq_false (fun z => z hb)
        have hmh : m_h all S P j = true := by unfold m_h; rw [hs, hb]; rfl
        simp (disch := first | omega | decide | assumption | exact Nat.le_of_ble_eq_true rfl) only [s90_52, s90_55, s90_56, ow_some, true_and, and_true, and_self, if_true, if_false, not_true, not_false_eq_true, Bool.false_eq_true, eq_self, Option.toList, List.cons_append, List.nil_append, ix_in, ix_cl, lt_in, lt_cl, lt_add, ix_one, vu_eq, vu_ne, arI_mk, arL_mk, arY_mZ, arY_mB, alen_mI, fld_sfl_ne, fld_sfl_same, Option.isSome_some, pok_i, b1z, b01, z10, b1o, Int32.zero_add, vu_vu, upd_eq, upd_ne, true_or, or_true, hh, hb', a3]
        rw [p90_57 O3.cn (Nat.le_of_ble_eq_true rfl) (sp_outcome O3 hj)]
        simp (disch := first | omega | decide | assumption | exact Nat.le_of_ble_eq_true rfl) only [s90_60, s90_63, s90_64, s90_65, h90_68, ow_some, true_and, and_true, and_self, if_true, if_false, not_true, not_false_eq_true, Bool.false_eq_true, eq_self, Option.toList, List.cons_append, List.nil_append, ix_in, ix_cl, lt_in, lt_cl, lt_add, ix_one, vu_eq, vu_ne, arI_mk, arL_mk, arY_mZ, arY_mB, alen_mI, fld_sfl_ne, fld_sfl_same, Option.isSome_some, pok_i, b1z, b01, z10, b1o, Int32.zero_add, vu_vu, upd_eq, upd_ne, true_or, or_true, a3]
        refine fin _ ?_
        rw [ost_cg (tb' := gtb all S P) (fun i hi => hk i hi), (game_same h9 hj2 (fun p hp hb => gb_all h9 _ _ (Nat.lt_succ_self _) (by have := clr_bit hb; omega))).1]
        unfold gtb
        rw [if_pos hmh]
      · have hb' : (¬ (m_hold all S P j = true)) = True := eq_true hb
        simp (disch := first | omega | decide | assumption | exact Nat.le_of_ble_eq_true rfl) only [s90_52, s90_63, s90_64, s90_65, h90_68, ow_some, true_and, and_true, and_self, if_true, if_false, not_true, not_false_eq_true, Bool.false_eq_true, eq_self, Option.toList, List.cons_append, List.nil_append, ix_in, ix_cl, lt_in, lt_cl, lt_add, ix_one, vu_eq, vu_ne, arI_mk, arL_mk, arY_mZ, arY_mB, alen_mI, fld_sfl_ne, fld_sfl_same, Option.isSome_some, pok_i, b1z, b01, z10, b1o, Int32.zero_add, vu_vu, upd_eq, upd_ne, true_or, or_true, hh, hb', a3]
        refine fin 0 ?_
        unfold gtb m_h
        rw [hs, Bool.eq_false_iff.mpr hb]; rfl
    · have hs' : (sub j (nT all) = true) = False := eq_false hs
      simp (disch := first | omega | decide | assumption | exact Nat.le_of_ble_eq_true rfl) only [s90_10, s90_11, s90_14, s90_17, s90_18, s90_19, s90_22, s90_23, s90_24, s90_25, s90_28, s90_29, s90_32, s90_33, s90_34, s90_35, s90_38, s90_39, s90_40, s90_63, s90_64, s90_65, h90_68, ow_some, true_and, and_true, and_self, if_true, if_false, not_true, not_false_eq_true, Bool.false_eq_true, eq_self, Option.toList, List.cons_append, List.nil_append, ix_in, ix_cl, lt_in, lt_cl, lt_add, ix_one, vu_eq, vu_ne, arI_mk, arL_mk, arY_mZ, arY_mB, alen_mI, fld_sfl_ne, fld_sfl_same, Option.isSome_some, pok_i, b1z, b01, z10, b1o, Int32.zero_add, vu_vu, upd_eq, upd_ne, true_or, or_true, V2.v1, V2.v6, V2.v7, V2.v8, V2.v9, V2.i1, V2.i6, V2.i7, V2.i8, V2.i9, V2.r2, V2.r3, V2.r4, V2.r5, V2.pl, V2.a2, V2.a3, V2.a4, V2.a5, lt_le, hc, hT, hpt, hs', p0, p1, p2, ne_eq]
      refine hI _ (y2, upd t2 j 0, .int 0) ⟨s2.tr (SI.up (by omega) (by omega)), L2.fr (fun b h1 h2 => vu_ne (by omega)), OV.up ⟨p0, p1, p2⟩, hw2, fun i hi => ?_⟩
      dsimp only
      by_cases hij : i = j
      · subst hij; rw [upd_eq]; unfold gtb m_h; rw [Bool.eq_false_iff.mpr hs]; rfl
      · rw [upd_ne hij]; exact hk i (by omega)
  · rintro e ⟨y2, t2, u⟩ ⟨s2, L2, O2, hw2, hk⟩
    dsimp only at hk
    have V2 := V.fr (f' := e) (fun b h1 h2 => s2 b (by omega))
    obtain ⟨p0, p1, p2⟩ := O2
    have hkT := hk _ t5
    simp (disch := first | omega | decide | assumption | exact Nat.le_of_ble_eq_true rfl) only [s90_10, s90_11, s90_14, s90_71, s90_72, s90_75, s90_76, s90_79, s90_80, ow_some, true_and, and_true, and_self, if_true, if_false, not_true, not_false_eq_true, Bool.false_eq_true, eq_self, Option.toList, List.cons_append, List.nil_append, ix_in, ix_cl, lt_in, lt_cl, lt_add, ix_one, vu_eq, vu_ne, arI_mk, arL_mk, arY_mZ, arY_mB, alen_mI, fld_sfl_ne, fld_sfl_same, Option.isSome_some, pok_i, b1z, b01, z10, b1o, Int32.zero_add, vu_vu, upd_eq, upd_ne, true_or, or_true, V2.v1, V2.v6, V2.v7, V2.v8, V2.v9, V2.i1, V2.i6, V2.i7, V2.i8, V2.i9, V2.r2, V2.r3, V2.r4, V2.r5, V2.pl, V2.a2, V2.a3, V2.a4, V2.a5, lt_le, Nat.le_refl, p1, p2, hT, hkT]
    exact ⟨s2, y2, t2, L2, ⟨p0, p1, p2⟩, hk⟩
theorem gt0 {all : Nat → Int32} {S P i : Nat} (hP : P ≤ 9) (hi : i < 2 ^ P) : (gtb all S P i < 0) = (m_h all S P i = true ∧ gm all S P i < 0) := by
  unfold gtb
  by_cases h : m_h all S P i = true
  · rw [if_pos h]; simp [h]
  · rw [if_neg h]; simp [h]
theorem sp_winningMove {X : Nat × (Nat → Int32)} {d N K a pl C S R P : Nat} {f : Nat → e_C} {y x r : Nat → Nat → Int32} {w v all tb : Nat → Int32} (L : LV f 128 y) (V : SV f a pl w x) (W : PV f pl v r C) (G : CR all S P w x v r C) (I : IS all S R P) (hd : AD a pl 128) (O : OV f tb) {u2 : Value} : TT X (d + 5) 92 0 [.ref 127, .ref a, u2] [] f N K (QS f N K (oI (m_fi (b_mv all S P) P 0))) := by
  have h9 := I.p9
  have t5 := I.t5
  have hP : w 1 = nI P := by rw [G.w1]; exact I.eP
  have hT : w 6 = nI (nT all) := by rw [G.w6]; exact I.eT
  simp (disch := first | omega | decide | assumption | exact Nat.le_of_ble_eq_true rfl) only [s92_0, s92_1, ow_some, true_and, and_true, and_self, if_true, if_false, not_true, not_false_eq_true, Bool.false_eq_true, eq_self, Option.toList, List.cons_append, List.nil_append, ix_in, ix_cl, lt_in, lt_cl, lt_add, ix_one, vu_eq, vu_ne, arI_mk, arL_mk, arY_mZ, arY_mB, alen_mI, fld_sfl_ne, fld_sfl_same, Option.isSome_some, pok_i, b1z, b01, z10, b1o, Int32.zero_add, vu_vu, upd_eq, upd_ne, true_or, or_true]
  refine k92_2 O.cn (Nat.le_of_ble_eq_true rfl) (sp_play L V W G I hd O) ?_
  rintro f1 n1 k1 v1 ⟨rfl, rfl, s1, ⟨y1, t1, L1, O1, ht1⟩, rfl⟩
  have V1 := V.fr (f' := f1) (fun b h1 h2 => s1 b (by omega))
  obtain ⟨p0, p1, p2⟩ := O1
  simp (disch := first | omega | decide | assumption | exact Nat.le_of_ble_eq_true rfl) only [s92_5, s92_6, h92_7, ow_some, true_and, and_true, and_self, if_true, if_false, not_true, not_false_eq_true, Bool.false_eq_true, eq_self, Option.toList, List.cons_append, List.nil_append, ix_in, ix_cl, lt_in, lt_cl, lt_add, ix_one, vu_eq, vu_ne, arI_mk, arL_mk, arY_mZ, arY_mB, alen_mI, fld_sfl_ne, fld_sfl_same, Option.isSome_some, pok_i, b1z, b01, z10, b1o, Int32.zero_add, vu_vu, upd_eq, upd_ne, true_or, or_true]
  suffices h : ∀ m p, p + m = P → TH X (d + 5) 92 8 [.ref 127, .ref a, .int (nI p)] [] f1 n1 k1 (QS f n1 k1 (oI (m_fi (b_mv all S P) m p))) from h P 0 (by omega)
  intro m
  induction m with
  | zero =>
    intro p hp
    unfold TH
    have hc : (P ≤ p) = True := eq_true (by omega)
    simp (disch := first | omega | decide | assumption | exact Nat.le_of_ble_eq_true rfl) only [s92_8, s92_9, s92_10, s92_13, s92_50, s92_51, ow_some, true_and, and_true, and_self, if_true, if_false, not_true, not_false_eq_true, Bool.false_eq_true, eq_self, Option.toList, List.cons_append, List.nil_append, ix_in, ix_cl, lt_in, lt_cl, lt_add, ix_one, vu_eq, vu_ne, arI_mk, arL_mk, arY_mZ, arY_mB, alen_mI, fld_sfl_ne, fld_sfl_same, Option.isSome_some, pok_i, b1z, b01, z10, b1o, Int32.zero_add, vu_vu, upd_eq, upd_ne, true_or, or_true, V1.v1, V1.v6, V1.v7, V1.v8, V1.v9, V1.i1, V1.i6, V1.i7, V1.i8, V1.i9, V1.r2, V1.r3, V1.r4, V1.r5, V1.pl, V1.a2, V1.a3, V1.a4, V1.a5, hP, ix_le, hc]
    exact ⟨rfl, rfl, s1, ⟨y1, t1, L1, ⟨p0, p1, p2⟩⟩, rfl⟩
  | succ m ih =>
    intro p hp
    unfold TH
    have hc : (P ≤ p) = False := eq_false (by omega)
    obtain ⟨hcl, hclt⟩ := bit_clr (nT all) t5 p (by omega)
    have htk := ht1 _ hclt
    have hg := gt0 (all := all) (S := S) (i := clr (nT all) p) h9 (Nat.lt_of_le_of_lt (clr_le _ _) I.tP)
    rw [m_fi_s m]
    simp (disch := first | omega | decide | assumption | exact Nat.le_of_ble_eq_true rfl) only [s92_8, s92_9, s92_10, s92_13, s92_16, s92_17, ow_some, true_and, and_true, and_self, if_true, if_false, not_true, not_false_eq_true, Bool.false_eq_true, eq_self, Option.toList, List.cons_append, List.nil_append, ix_in, ix_cl, lt_in, lt_cl, lt_add, ix_one, vu_eq, vu_ne, arI_mk, arL_mk, arY_mZ, arY_mB, alen_mI, fld_sfl_ne, fld_sfl_same, Option.isSome_some, pok_i, b1z, b01, z10, b1o, Int32.zero_add, vu_vu, upd_eq, upd_ne, true_or, or_true, V1.v1, V1.v6, V1.v7, V1.v8, V1.v9, V1.i1, V1.i6, V1.i7, V1.i8, V1.i9, V1.r2, V1.r3, V1.r4, V1.r5, V1.pl, V1.a2, V1.a3, V1.a4, V1.a5, hP, ix_le, hc]
    rw [p92_18 V1.cn (Nat.le_of_ble_eq_true rfl) (sp_isTj V1 hP h9 hT t5 (show p < P by omega))]
    by_cases hb : (nT all).testBit p = true
    · by_cases hn : gtb all S P (clr (nT all) p) < 0
      · have hn' : (0 ≤ gtb all S P (clr (nT all) p)) = False := eq_false (Int32.not_le.mpr hn)
        rw [hg] at hn
        have hbm : b_mv all S P p = true := by unfold b_mv; rw [hb, hn.1, decide_eq_true hn.2]; rfl
        rw [if_pos hbm]
        simp (disch := first | omega | decide | assumption | exact Nat.le_of_ble_eq_true rfl) only [s92_21, s92_24, s92_25, s92_28, s92_29, s92_32, s92_33, s92_34, s92_35, s92_36, s92_37, s92_38, s92_39, s92_42, s92_43, ow_some, true_and, and_true, and_self, if_true, if_false, not_true, not_false_eq_true, Bool.false_eq_true, eq_self, Option.toList, List.cons_append, List.nil_append, ix_in, ix_cl, lt_in, lt_cl, lt_add, ix_one, vu_eq, vu_ne, arI_mk, arL_mk, arY_mZ, arY_mB, alen_mI, fld_sfl_ne, fld_sfl_same, Option.isSome_some, pok_i, b1z, b01, z10, b1o, Int32.zero_add, vu_vu, upd_eq, upd_ne, true_or, or_true, V1.v1, V1.v6, V1.v7, V1.v8, V1.v9, V1.i1, V1.i6, V1.i7, V1.i8, V1.i9, V1.r2, V1.r3, V1.r4, V1.r5, V1.pl, V1.a2, V1.a3, V1.a4, V1.a5, hb, hT, hcl, p1, p2, htk, hn']
        exact ⟨rfl, rfl, s1, ⟨y1, t1, L1, ⟨p0, p1, p2⟩⟩, rfl⟩
      · have hn' : (0 ≤ gtb all S P (clr (nT all) p)) = True := eq_true (Int32.not_lt.mp hn)
        rw [hg] at hn
        have hbm : ¬ b_mv all S P p = true := by
          unfold b_mv
          intro z
          simp only [Bool.and_eq_true, decide_eq_true_eq] at z
          exact hn ⟨z.1.2, z.2⟩
        rw [if_neg hbm]
        simp (disch := first | omega | decide | assumption | exact Nat.le_of_ble_eq_true rfl) only [s92_21, s92_24, s92_25, s92_28, s92_29, s92_32, s92_33, s92_34, s92_35, s92_36, s92_37, s92_38, s92_39, s92_44, h92_47, ow_some, true_and, and_true, and_self, if_true, if_false, not_true, not_false_eq_true, Bool.false_eq_true, eq_self, Option.toList, List.cons_append, List.nil_append, ix_in, ix_cl, lt_in, lt_cl, lt_add, ix_one, vu_eq, vu_ne, arI_mk, arL_mk, arY_mZ, arY_mB, alen_mI, fld_sfl_ne, fld_sfl_same, Option.isSome_some, pok_i, b1z, b01, z10, b1o, Int32.zero_add, vu_vu, upd_eq, upd_ne, true_or, or_true, V1.v1, V1.v6, V1.v7, V1.v8, V1.v9, V1.i1, V1.i6, V1.i7, V1.i8, V1.i9, V1.r2, V1.r3, V1.r4, V1.r5, V1.pl, V1.a2, V1.a3, V1.a4, V1.a5, hb, hT, hcl, p1, p2, htk, hn']
        exact ih (p + 1) (by omega)
    · have hbm : ¬ b_mv all S P p = true := by
        unfold b_mv
        intro z
        simp only [Bool.and_eq_true, decide_eq_true_eq] at z
        exact hb z.1.1
      rw [if_neg hbm]
      simp (disch := first | omega | decide | assumption | exact Nat.le_of_ble_eq_true rfl) only [s92_21, s92_44, h92_47, ow_some, true_and, and_true, and_self, if_true, if_false, not_true, not_false_eq_true, Bool.false_eq_true, eq_self, Option.toList, List.cons_append, List.nil_append, ix_in, ix_cl, lt_in, lt_cl, lt_add, ix_one, vu_eq, vu_ne, arI_mk, arL_mk, arY_mZ, arY_mB, alen_mI, fld_sfl_ne, fld_sfl_same, Option.isSome_some, pok_i, b1z, b01, z10, b1o, Int32.zero_add, vu_vu, upd_eq, upd_ne, true_or, or_true, hb]
      exact ih (p + 1) (by omega)

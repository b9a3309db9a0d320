/-! the class: the most gone, shares -/
theorem sp_mostGon {X : Nat × (Nat → Int32)} {d N K a pl C S R P : Nat} {f : Nat → e_C} {y x r : Nat → Nat → Int32} {w v all tb : Nat → Int32} (L : LV f 128 y) (V : SV f a pl w x) (W : PV f pl v r C) (G : CR all S P w x v r C) (I : IS all S R P) (hd : AD a pl 128) (O : OV f tb) {u2 u3 : Value} : TT X (d + 5) 89 0 [.ref 127, .ref a, u2, u3] [] f N K (QS f N K (oI (m_gone all S P (fun _ => true)))) := by
  have h9 := I.p9
  have hT : w 6 = nI (nT all) := by rw [G.w6]; exact I.eT
  have t5 := I.t5
  simp (disch := first | omega | decide | assumption | exact Nat.le_of_ble_eq_true rfl) only [s89_0, s89_1, ow_some, true_and, and_true, and_self, if_true, if_false, not_true, not_false_eq_true, Bool.false_eq_true, eq_self, Option.toList, List.cons_append, List.nil_append, ix_in, ix_cl, lt_in, lt_cl, lt_add, ix_one, vu_eq, vu_ne, arI_mk, arL_mk, arY_mZ, arY_mB, alen_mI, fld_sfl_ne, fld_sfl_same, Option.isSome_some, pok_i, b1z, b01, z10, b1o, Int32.zero_add, vu_vu, upd_eq, upd_ne, true_or, or_true]
  refine k89_2 O.cn (Nat.le_of_ble_eq_true rfl) (sp_mark L V W G I hd O) ?_
  rintro f1 n1 k1 v1 ⟨rfl, rfl, rfl, s1, y1, t1, L1, O1, hw1, ht1⟩
  have V1 := V.fr (f' := f1) (fun b h1 h2 => s1 b (by omega))
  obtain ⟨p0, p1, p2⟩ := O1
  have e : m_gone all S P (fun _ => true) = pick (fun g => (sub g (nT all) && true) && m_h all S P (dif (nT all) g)) (fun j x => decide (bits x < bits j)) 512 := by
    unfold m_gone
    refine (pick_more (pw9 h9) (fun j h1 _ => ?_)).symm
    rw [sub_hi I.tP h1]; rfl
  rw [e]
  simp (disch := first | omega | decide | assumption | exact Nat.le_of_ble_eq_true rfl) only [s89_5, s89_6, s89_7, h89_8, ow_some, true_and, and_true, and_self, if_true, if_false, not_true, not_false_eq_true, Bool.false_eq_true, eq_self, Option.toList, List.cons_append, List.nil_append, ix_in, ix_cl, lt_in, lt_cl, lt_add, ix_one, vu_eq, vu_ne, arI_mk, arL_mk, arY_mZ, arY_mB, alen_mI, fld_sfl_ne, fld_sfl_same, Option.isSome_some, pok_i, b1z, b01, z10, b1o, Int32.zero_add, vu_vu, upd_eq, upd_ne, true_or, or_true]
  refine lp (fun j g (b : Option Nat) => g = f1 ∧ b = pick (fun g => (sub g (nT all) && true) && m_h all S P (dif (nT all) g)) (fun j x => decide (bits x < bits j)) j) (fun j b => [.ref 127, .ref a, .int (oI b), .int (nI j)]) 512 ?_ ?_ 0 f1 none (by omega) ⟨rfl, rfl⟩
  · rintro j g b hj ⟨rfl, rfl⟩ hI
    have hc : (512 ≤ j) = False := eq_false (by omega)
    have hps := pick_s (c := fun g => (sub g (nT all) && true) && m_h all S P (dif (nT all) g)) (bt := fun j x => decide (bits x < bits j)) (n := j)
    have hpt := part_nI hj t5
    have hdl := dif_lt (s := j) t5
    have hdn := dif_nI (s := j) t5
    have htj := ht1 _ hdl
    have b1 := bI1 (b := m_h all S P (dif (nT all) j))
    cases hs : sub j (nT all) with
    | false =>
      have hs' : (sub j (nT all) = true) = False := by rw [hs]; exact eq_false (by decide)
      simp (disch := first | omega | decide | assumption | exact Nat.le_of_ble_eq_true rfl) only [s89_9, s89_10, s89_13, s89_16, s89_17, s89_18, s89_21, s89_22, s89_23, s89_24, s89_27, s89_28, s89_31, s89_32, s89_35, s89_36, s89_37, s89_38, s89_39, s89_40, s89_41, s89_44, s89_45, s89_46, s89_49, s89_53, s89_57, s89_60, s89_61, s89_62, h89_65, ow_some, true_and, and_true, and_self, if_true, if_false, not_true, not_false_eq_true, Bool.false_eq_true, eq_self, Option.toList, List.cons_append, List.nil_append, ix_in, ix_cl, lt_in, lt_cl, lt_add, ix_one, vu_eq, vu_ne, arI_mk, arL_mk, arY_mZ, arY_mB, alen_mI, fld_sfl_ne, fld_sfl_same, Option.isSome_some, pok_i, b1z, b01, z10, b1o, Int32.zero_add, vu_vu, upd_eq, upd_ne, true_or, or_true, V1.v1, V1.v6, V1.v7, V1.v8, V1.v9, V1.i1, V1.i6, V1.i7, V1.i8, V1.i9, V1.r2, V1.r3, V1.r4, V1.r5, V1.pl, V1.a2, V1.a3, V1.a4, V1.a5, lt_le, hc, hT, hpt, hs', ne_eq]
      exact hI _ _ ⟨rfl, by rw [hps, hs]; rfl⟩
    | true =>
      have hs' : (sub j (nT all) = true) = True := eq_true hs
      rw [hs] at hps
      cases hm : m_h all S P (dif (nT all) j) with
      | false =>
        have b1' : (m_h all S P (dif (nT all) j) = true) = False := by rw [hm]; exact eq_false (by decide)
        simp (disch := first | omega | decide | assumption | exact Nat.le_of_ble_eq_true rfl) only [s89_9, s89_10, s89_13, s89_16, s89_17, s89_18, s89_21, s89_22, s89_23, s89_24, s89_27, s89_28, s89_31, s89_32, s89_35, s89_36, s89_37, s89_38, s89_39, s89_40, s89_41, s89_44, s89_45, s89_46, s89_49, s89_53, s89_57, s89_60, s89_61, s89_62, h89_65, ow_some, true_and, and_true, and_self, if_true, if_false, not_true, not_false_eq_true, Bool.false_eq_true, eq_self, Option.toList, List.cons_append, List.nil_append, ix_in, ix_cl, lt_in, lt_cl, lt_add, ix_one, vu_eq, vu_ne, arI_mk, arL_mk, arY_mZ, arY_mB, alen_mI, fld_sfl_ne, fld_sfl_same, Option.isSome_some, pok_i, b1z, b01, z10, b1o, Int32.zero_add, vu_vu, upd_eq, upd_ne, true_or, or_true, V1.v1, V1.v6, V1.v7, V1.v8, V1.v9, V1.i1, V1.i6, V1.i7, V1.i8, V1.i9, V1.r2, V1.r3, V1.r4, V1.r5, V1.pl, V1.a2, V1.a3, V1.a4, V1.a5, lt_le, hc, hT, hpt, hs', ne_eq, p1, p2, hdn, htj, b1, b1']
        exact hI _ _ ⟨rfl, by rw [hps, hm]; rfl⟩
      | true =>
        have b1' : (m_h all S P (dif (nT all) j) = true) = True := eq_true hm
        rw [hm] at hps
        cases hb : pick (fun g => (sub g (nT all) && true) && m_h all S P (dif (nT all) g)) (fun j x => decide (bits x < bits j)) j with
        | none =>
          rw [hb] at hps
          have e1 : oI none = -1 := rfl
          simp (disch := first | omega | decide | assumption | exact Nat.le_of_ble_eq_true rfl) only [s89_9, s89_10, s89_13, s89_16, s89_17, s89_18, s89_21, s89_22, s89_23, s89_24, s89_27, s89_28, s89_31, s89_32, s89_35, s89_36, s89_37, s89_38, s89_39, s89_40, s89_41, s89_44, s89_45, s89_46, s89_49, s89_53, s89_57, s89_60, s89_61, s89_62, h89_65, ow_some, true_and, and_true, and_self, if_true, if_false, not_true, not_false_eq_true, Bool.false_eq_true, eq_self, Option.toList, List.cons_append, List.nil_append, ix_in, ix_cl, lt_in, lt_cl, lt_add, ix_one, vu_eq, vu_ne, arI_mk, arL_mk, arY_mZ, arY_mB, alen_mI, fld_sfl_ne, fld_sfl_same, Option.isSome_some, pok_i, b1z, b01, z10, b1o, Int32.zero_add, vu_vu, upd_eq, upd_ne, true_or, or_true, V1.v1, V1.v6, V1.v7, V1.v8, V1.v9, V1.i1, V1.i6, V1.i7, V1.i8, V1.i9, V1.r2, V1.r3, V1.r4, V1.r5, V1.pl, V1.a2, V1.a3, V1.a4, V1.a5, lt_le, hc, hT, hpt, hs', ne_eq, p1, p2, hdn, htj, b1, b1', e1]
          exact hI _ (some j) ⟨rfl, by rw [hps]; rfl⟩
        | some q =>
          rw [hb] at hps
          have hq : q < 512 := Nat.lt_of_lt_of_le (pick_lt hb) (by omega)
          have e1 : oI (some q) = nI q := rfl
          have hne := ne_m1 (m := q) (by omega)
          simp (disch := first | omega | decide | assumption | exact Nat.le_of_ble_eq_true rfl) only [s89_9, s89_10, s89_13, s89_16, s89_17, s89_18, s89_21, s89_22, s89_23, s89_24, s89_27, s89_28, s89_31, s89_32, s89_35, s89_36, s89_37, s89_38, s89_39, s89_40, s89_41, s89_44, s89_45, s89_46, s89_49, ow_some, true_and, and_true, and_self, if_true, if_false, not_true, not_false_eq_true, Bool.false_eq_true, eq_self, Option.toList, List.cons_append, List.nil_append, ix_in, ix_cl, lt_in, lt_cl, lt_add, ix_one, vu_eq, vu_ne, arI_mk, arL_mk, arY_mZ, arY_mB, alen_mI, fld_sfl_ne, fld_sfl_same, Option.isSome_some, pok_i, b1z, b01, z10, b1o, Int32.zero_add, vu_vu, upd_eq, upd_ne, true_or, or_true, V1.v1, V1.v6, V1.v7, V1.v8, V1.v9, V1.i1, V1.i6, V1.i7, V1.i8, V1.i9, V1.r2, V1.r3, V1.r4, V1.r5, V1.pl, V1.a2, V1.a3, V1.a4, V1.a5, lt_le, hc, hT, hpt, hs', ne_eq, p1, p2, hdn, htj, b1, b1', e1, hne]
          rw [p89_50 (Nat.le_of_ble_eq_true rfl) (sp_bitCount hj)]
          simp (disch := first | omega | decide | assumption | exact Nat.le_of_ble_eq_true rfl) only [s89_53, ow_some, true_and, and_true, and_self, if_true, if_false, not_true, not_false_eq_true, Bool.false_eq_true, eq_self, Option.toList, List.cons_append, List.nil_append, ix_in, ix_cl, lt_in, lt_cl, lt_add, ix_one, vu_eq, vu_ne, arI_mk, arL_mk, arY_mZ, arY_mB, alen_mI, fld_sfl_ne, fld_sfl_same, Option.isSome_some, pok_i, b1z, b01, z10, b1o, Int32.zero_add, vu_vu, upd_eq, upd_ne, true_or, or_true]
          rw [p89_54 (Nat.le_of_ble_eq_true rfl) (sp_bitCount hq)]
          have l1 := bits_lt (T := j)
          have l2 := bits_lt (T := q)
          by_cases hlt : bits q < bits j
          · have c1 : (bits j ≤ bits q) = False := eq_false (by omega)
            simp (disch := first | omega | decide | assumption | exact Nat.le_of_ble_eq_true rfl) only [s89_57, s89_60, s89_61, s89_62, h89_65, ow_some, true_and, and_true, and_self, if_true, if_false, not_true, not_false_eq_true, Bool.false_eq_true, eq_self, Option.toList, List.cons_append, List.nil_append, ix_in, ix_cl, lt_in, lt_cl, lt_add, ix_one, vu_eq, vu_ne, arI_mk, arL_mk, arY_mZ, arY_mB, alen_mI, fld_sfl_ne, fld_sfl_same, Option.isSome_some, pok_i, b1z, b01, z10, b1o, Int32.zero_add, vu_vu, upd_eq, upd_ne, true_or, or_true, ix_le, c1]
            exact hI _ (some j) ⟨rfl, by rw [hps]; simp [hlt]⟩
          · have c1 : (bits j ≤ bits q) = True := eq_true (by omega)
            simp (disch := first | omega | decide | assumption | exact Nat.le_of_ble_eq_true rfl) only [s89_57, s89_60, s89_61, s89_62, h89_65, ow_some, true_and, and_true, and_self, if_true, if_false, not_true, not_false_eq_true, Bool.false_eq_true, eq_self, Option.toList, List.cons_append, List.nil_append, ix_in, ix_cl, lt_in, lt_cl, lt_add, ix_one, vu_eq, vu_ne, arI_mk, arL_mk, arY_mZ, arY_mB, alen_mI, fld_sfl_ne, fld_sfl_same, Option.isSome_some, pok_i, b1z, b01, z10, b1o, Int32.zero_add, vu_vu, upd_eq, upd_ne, true_or, or_true, ix_le, c1]
            exact hI _ (some q) ⟨rfl, by rw [hps]; simp [hlt]⟩
  · rintro g b ⟨rfl, rfl⟩
    simp (disch := first | omega | decide | assumption | exact Nat.le_of_ble_eq_true rfl) only [s89_9, s89_10, s89_13, s89_68, s89_69, ow_some, true_and, and_true, and_self, if_true, if_false, not_true, not_false_eq_true, Bool.false_eq_true, eq_self, Option.toList, List.cons_append, List.nil_append, ix_in, ix_cl, lt_in, lt_cl, lt_add, ix_one, vu_eq, vu_ne, arI_mk, arL_mk, arY_mZ, arY_mB, alen_mI, fld_sfl_ne, fld_sfl_same, Option.isSome_some, pok_i, b1z, b01, z10, b1o, Int32.zero_add, vu_vu, upd_eq, upd_ne, true_or, or_true, lt_le, Nat.le_refl]
    exact ⟨rfl, rfl, s1, ⟨y1, t1, L1, ⟨p0, p1, p2⟩⟩, rfl⟩
theorem sp_turned {X : Nat × (Nat → Int32)} {d N K a pl C S R P p : Nat} {f : Nat → e_C} {x r : Nat → Nat → Int32} {w v all tb : Nat → Int32} (V : SV f a pl w x) (G : CR all S P w x v r C) (I : IS all S R P) (O : OV f tb) (ht : ∀ i, i < 512 → tb i = bI (m_h all S P i)) (hp : p < P) {u3 u4 u5 : Value} : PU X d 93 [.ref 127, .ref a, .int (nI p), u3, u4, u5] f N K (some (.int (nI (cnt (m_sh all S P p) (2 ^ P))))) := by
  have h9 := I.p9
  have hT : w 6 = nI (nT all) := by rw [G.w6]; exact I.eT
  have t5 := I.t5
  obtain ⟨p0, p1, p2⟩ := O
  obtain ⟨hcl, hclt⟩ := bit_clr (nT all) t5 p (by omega)
  have e : cnt (m_sh all S P p) (2 ^ P) = cnt (m_sh all S P p) 512 := by
    refine (cnt_more (pw9 h9) (fun j h1 _ => ?_)).symm
    unfold m_sh
    rw [sub_hi (P := P) (Nat.lt_of_le_of_lt (clr_le _ _) I.tP) h1]; rfl
  rw [e]
  unfold PU
  simp (disch := first | omega | decide | assumption | exact Nat.le_of_ble_eq_true rfl) only [s93_0, s93_1, s93_4, s93_5, s93_6, s93_7, s93_8, s93_9, s93_10, s93_11, s93_12, s93_14, h93_15, ow_some, true_and, and_true, and_self, if_true, if_false, not_true, not_false_eq_true, Bool.false_eq_true, eq_self, Option.toList, List.cons_append, List.nil_append, ix_in, ix_cl, lt_in, lt_cl, lt_add, ix_one, vu_eq, vu_ne, arI_mk, arL_mk, arY_mZ, arY_mB, alen_mI, fld_sfl_ne, fld_sfl_same, Option.isSome_some, pok_i, b1z, b01, z10, b1o, Int32.zero_add, vu_vu, upd_eq, upd_ne, true_or, or_true, V.v1, V.v6, V.v7, V.v8, V.v9, V.i1, V.i6, V.i7, V.i8, V.i9, V.r2, V.r3, V.r4, V.r5, V.pl, V.a2, V.a3, V.a4, V.a5, hT, hcl]
  refine lp (fun j g (b : Nat) => g = f ∧ b = cnt (m_sh all S P p) j) (fun j b => [.ref 127, .ref a, .int (nI p), .int (nI (clr (nT all) p)), .int (nI b), .int (nI j)]) 512 ?_ ?_ 0 f 0 (by omega) ⟨rfl, rfl⟩
  · rintro j g b hj ⟨rfl, rfl⟩ hI
    have hc : (512 ≤ j) = False := eq_false (by omega)
    have hcs := cnt_s (c := m_sh all S P p) (n := j)
    have hpt := part_nI hj hclt
    have htj := ht j hj
    obtain ⟨hst, hlt⟩ := bit_set j hj p (by omega)
    have htk := ht _ hlt
    have b1 := bI1 (b := m_h all S P (j ||| 2 ^ p))
    have b0 := bI0 (b := m_h all S P j)
    unfold m_sh at hcs
    cases hs : sub j (clr (nT all) p) with
    | false =>
      have hs' : (sub j (clr (nT all) p) = true) = False := by rw [hs]; exact eq_false (by decide)
      rw [hs] at hcs
      simp (disch := first | omega | decide | assumption | exact Nat.le_of_ble_eq_true rfl) only [s93_17, s93_19, s93_22, s93_25, s93_27, s93_28, s93_29, s93_30, s93_31, s93_34, s93_35, s93_38, s93_40, s93_41, s93_44, s93_45, s93_48, s93_50, s93_51, s93_52, s93_53, s93_54, s93_55, s93_56, s93_59, s93_62, h93_65, ow_some, true_and, and_true, and_self, if_true, if_false, not_true, not_false_eq_true, Bool.false_eq_true, eq_self, Option.toList, List.cons_append, List.nil_append, ix_in, ix_cl, lt_in, lt_cl, lt_add, ix_one, vu_eq, vu_ne, arI_mk, arL_mk, arY_mZ, arY_mB, alen_mI, fld_sfl_ne, fld_sfl_same, Option.isSome_some, pok_i, b1z, b01, z10, b1o, Int32.zero_add, vu_vu, upd_eq, upd_ne, true_or, or_true, lt_le, hc, hpt, hs', ne_eq]
      exact hI _ _ ⟨rfl, hcs.symm⟩
    | true =>
      have hs' : (sub j (clr (nT all) p) = true) = True := eq_true hs
      rw [hs] at hcs
      cases hm : m_h all S P j with
      | true =>
        have b0' : (m_h all S P j = false) = False := by rw [hm]; exact eq_false (by decide)
        rw [hm] at hcs
        simp (disch := first | omega | decide | assumption | exact Nat.le_of_ble_eq_true rfl) only [s93_17, s93_19, s93_22, s93_25, s93_27, s93_28, s93_29, s93_30, s93_31, s93_34, s93_35, s93_38, s93_40, s93_41, s93_44, s93_45, s93_48, s93_50, s93_51, s93_52, s93_53, s93_54, s93_55, s93_56, s93_59, s93_62, h93_65, ow_some, true_and, and_true, and_self, if_true, if_false, not_true, not_false_eq_true, Bool.false_eq_true, eq_self, Option.toList, List.cons_append, List.nil_append, ix_in, ix_cl, lt_in, lt_cl, lt_add, ix_one, vu_eq, vu_ne, arI_mk, arL_mk, arY_mZ, arY_mB, alen_mI, fld_sfl_ne, fld_sfl_same, Option.isSome_some, pok_i, b1z, b01, z10, b1o, Int32.zero_add, vu_vu, upd_eq, upd_ne, true_or, or_true, lt_le, hc, hpt, hs', ne_eq, p1, p2, htj, b0, b0']
        exact hI _ _ ⟨rfl, hcs.symm⟩
      | false =>
        have b0' : (m_h all S P j = false) = True := eq_true hm
        rw [hm] at hcs
        cases hk : m_h all S P (j ||| 2 ^ p) with
        | false =>
          have b1' : (m_h all S P (j ||| 2 ^ p) = true) = False := by rw [hk]; exact eq_false (by decide)
          rw [hk] at hcs
          simp (disch := first | omega | decide | assumption | exact Nat.le_of_ble_eq_true rfl) only [s93_17, s93_19, s93_22, s93_25, s93_27, s93_28, s93_29, s93_30, s93_31, s93_34, s93_35, s93_38, s93_40, s93_41, s93_44, s93_45, s93_48, s93_50, s93_51, s93_52, s93_53, s93_54, s93_55, s93_56, s93_59, s93_62, h93_65, ow_some, true_and, and_true, and_self, if_true, if_false, not_true, not_false_eq_true, Bool.false_eq_true, eq_self, Option.toList, List.cons_append, List.nil_append, ix_in, ix_cl, lt_in, lt_cl, lt_add, ix_one, vu_eq, vu_ne, arI_mk, arL_mk, arY_mZ, arY_mB, alen_mI, fld_sfl_ne, fld_sfl_same, Option.isSome_some, pok_i, b1z, b01, z10, b1o, Int32.zero_add, vu_vu, upd_eq, upd_ne, true_or, or_true, lt_le, hc, hpt, hs', ne_eq, p1, p2, htj, b0, b0', hst, htk, b1, b1']
          exact hI _ _ ⟨rfl, hcs.symm⟩
        | true =>
          have b1' : (m_h all S P (j ||| 2 ^ p) = true) = True := eq_true hk
          rw [hk] at hcs
          simp (disch := first | omega | decide | assumption | exact Nat.le_of_ble_eq_true rfl) only [s93_17, s93_19, s93_22, s93_25, s93_27, s93_28, s93_29, s93_30, s93_31, s93_34, s93_35, s93_38, s93_40, s93_41, s93_44, s93_45, s93_48, s93_50, s93_51, s93_52, s93_53, s93_54, s93_55, s93_56, s93_59, s93_62, h93_65, ow_some, true_and, and_true, and_self, if_true, if_false, not_true, not_false_eq_true, Bool.false_eq_true, eq_self, Option.toList, List.cons_append, List.nil_append, ix_in, ix_cl, lt_in, lt_cl, lt_add, ix_one, vu_eq, vu_ne, arI_mk, arL_mk, arY_mZ, arY_mB, alen_mI, fld_sfl_ne, fld_sfl_same, Option.isSome_some, pok_i, b1z, b01, z10, b1o, Int32.zero_add, vu_vu, upd_eq, upd_ne, true_or, or_true, lt_le, hc, hpt, hs', ne_eq, p1, p2, htj, b0, b0', hst, htk, b1, b1']
          exact hI _ (cnt (m_sh all S P p) j + 1) ⟨rfl, hcs.symm⟩
  · rintro g b ⟨rfl, rfl⟩
    simp (disch := first | omega | decide | assumption | exact Nat.le_of_ble_eq_true rfl) only [s93_17, s93_19, s93_22, s93_68, s93_70, ow_some, true_and, and_true, and_self, if_true, if_false, not_true, not_false_eq_true, Bool.false_eq_true, eq_self, Option.toList, List.cons_append, List.nil_append, ix_in, ix_cl, lt_in, lt_cl, lt_add, ix_one, vu_eq, vu_ne, arI_mk, arL_mk, arY_mZ, arY_mB, alen_mI, fld_sfl_ne, fld_sfl_same, Option.isSome_some, pok_i, b1z, b01, z10, b1o, Int32.zero_add, vu_vu, upd_eq, upd_ne, true_or, or_true, lt_le, Nat.le_refl]
theorem bst_ge {v : Nat → Int32} : ∀ n, -1 ≤ (m_best v n).2.toInt := by
  intro n
  induction n with
  | zero => show -1 ≤ (-1 : Int32).toInt; decide
  | succ n ih =>
    rw [m_best_s]
    split
    · next h => rw [Int32.lt_iff_toInt_lt] at h; dsimp only; omega
    · exact ih
theorem sp_greatestShare {X : Nat × (Nat → Int32)} {d N K a pl C S R P : Nat} {f : Nat → e_C} {y x r : Nat → Nat → Int32} {w v all tb : Nat → Int32} (L : LV f 128 y) (V : SV f a pl w x) (W : PV f pl v r C) (G : CR all S P w x v r C) (I : IS all S R P) (hd : AD a pl 128) (O : OV f tb) {u2 u3 u4 u5 : Value} : TT X (d + 5) 94 0 [.ref 127, .ref a, u2, u3, u4, u5] [] f N K (QS f N K (o_pillar all S P)) := by
  have h9 := I.p9
  have hP : w 1 = nI P := by rw [G.w1]; exact I.eP
  have hT : w 6 = nI (nT all) := by rw [G.w6]; exact I.eT
  simp (disch := first | omega | decide | assumption | exact Nat.le_of_ble_eq_true rfl) only [s94_0, s94_1, ow_some, true_and, and_true, and_self, if_true, if_false, not_true, not_false_eq_true, Bool.false_eq_true, eq_self, Option.toList, List.cons_append, List.nil_append, ix_in, ix_cl, lt_in, lt_cl, lt_add, ix_one, vu_eq, vu_ne, arI_mk, arL_mk, arY_mZ, arY_mB, alen_mI, fld_sfl_ne, fld_sfl_same, Option.isSome_some, pok_i, b1z, b01, z10, b1o, Int32.zero_add, vu_vu, upd_eq, upd_ne, true_or, or_true]
  refine k94_2 O.cn (Nat.le_of_ble_eq_true rfl) (sp_mark L V W G I hd O) ?_
  rintro f1 n1 k1 v1 ⟨rfl, rfl, rfl, s1, y1, t1, L1, O1, hw1, ht1⟩
  have V1 := V.fr (f' := f1) (fun b h1 h2 => s1 b (by omega))
  unfold o_pillar
  simp (disch := first | omega | decide | assumption | exact Nat.le_of_ble_eq_true rfl) only [s94_5, s94_6, s94_7, s94_8, s94_9, h94_10, ow_some, true_and, and_true, and_self, if_true, if_false, not_true, not_false_eq_true, Bool.false_eq_true, eq_self, Option.toList, List.cons_append, List.nil_append, ix_in, ix_cl, lt_in, lt_cl, lt_add, ix_one, vu_eq, vu_ne, arI_mk, arL_mk, arY_mZ, arY_mB, alen_mI, fld_sfl_ne, fld_sfl_same, Option.isSome_some, pok_i, b1z, b01, z10, b1o, Int32.zero_add, vu_vu, upd_eq, upd_ne, true_or, or_true]
  refine lp (fun p g (z : (Option Nat × Int32) × Value) => g = f1 ∧ z.1 = m_best (fun p => if (nT all).testBit p then nI (cnt (m_sh all S P p) (2 ^ P)) else -1) p) (fun p z => [.ref 127, .ref a, .int (oI z.1.1), .int z.1.2, .int (nI p), z.2]) P ?_ ?_ 0 f1 ((none, -1), u5) (by omega) ⟨rfl, rfl⟩
  · rintro p g ⟨z, u⟩ hp ⟨rfl, hz⟩ hI
    dsimp only at hz
    subst hz
    have hc : (P ≤ p) = False := eq_false (by omega)
    have hbs := m_best_s (v := fun p => if (nT all).testBit p then nI (cnt (m_sh all S P p) (2 ^ P)) else -1) (n := p)
    simp (disch := first | omega | decide | assumption | exact Nat.le_of_ble_eq_true rfl) only [s94_12, s94_14, s94_15, s94_18, s94_21, s94_22, ow_some, true_and, and_true, and_self, if_true, if_false, not_true, not_false_eq_true, Bool.false_eq_true, eq_self, Option.toList, List.cons_append, List.nil_append, ix_in, ix_cl, lt_in, lt_cl, lt_add, ix_one, vu_eq, vu_ne, arI_mk, arL_mk, arY_mZ, arY_mB, alen_mI, fld_sfl_ne, fld_sfl_same, Option.isSome_some, pok_i, b1z, b01, z10, b1o, Int32.zero_add, vu_vu, upd_eq, upd_ne, true_or, or_true, V1.v1, V1.v6, V1.v7, V1.v8, V1.v9, V1.i1, V1.i6, V1.i7, V1.i8, V1.i9, V1.r2, V1.r3, V1.r4, V1.r5, V1.pl, V1.a2, V1.a3, V1.a4, V1.a5, hP, ix_le, hc]
    rw [p94_24 V1.cn (Nat.le_of_ble_eq_true rfl) (sp_isTj V1 hP h9 hT I.t5 hp)]
    by_cases hbit : (nT all).testBit p = true
    · simp only [hbit, if_true] at hbs
      simp (disch := first | omega | decide | assumption | exact Nat.le_of_ble_eq_true rfl) only [s94_27, s94_30, s94_31, s94_32, ow_some, true_and, and_true, and_self, if_true, if_false, not_true, not_false_eq_true, Bool.false_eq_true, eq_self, Option.toList, List.cons_append, List.nil_append, ix_in, ix_cl, lt_in, lt_cl, lt_add, ix_one, vu_eq, vu_ne, arI_mk, arL_mk, arY_mZ, arY_mB, alen_mI, fld_sfl_ne, fld_sfl_same, Option.isSome_some, pok_i, b1z, b01, z10, b1o, Int32.zero_add, vu_vu, upd_eq, upd_ne, true_or, or_true, hbit]
      rw [p94_34 O1.cn (Nat.le_of_ble_eq_true rfl) (sp_turned V1 G I O1 ht1 hp)]
      simp (disch := first | omega | decide | assumption | exact Nat.le_of_ble_eq_true rfl) only [s94_37, s94_39, s94_41, ow_some, true_and, and_true, and_self, if_true, if_false, not_true, not_false_eq_true, Bool.false_eq_true, eq_self, Option.toList, List.cons_append, List.nil_append, ix_in, ix_cl, lt_in, lt_cl, lt_add, ix_one, vu_eq, vu_ne, arI_mk, arL_mk, arY_mZ, arY_mB, alen_mI, fld_sfl_ne, fld_sfl_same, Option.isSome_some, pok_i, b1z, b01, z10, b1o, Int32.zero_add, vu_vu, upd_eq, upd_ne, true_or, or_true]
      by_cases hlt : (m_best (fun p => if (nT all).testBit p then nI (cnt (m_sh all S P p) (2 ^ P)) else -1) p).2 < nI (cnt (m_sh all S P p) (2 ^ P))
      · have c1 : (nI (cnt (m_sh all S P p) (2 ^ P)) ≤ (m_best (fun p => if (nT all).testBit p = true then nI (cnt (m_sh all S P p) (2 ^ P)) else -1) p).2) = False := eq_false (Int32.not_le.mpr hlt)
        rw [if_pos hlt] at hbs
        simp (disch := first | omega | decide | assumption | exact Nat.le_of_ble_eq_true rfl) only [s94_42, s94_45, s94_47, s94_48, s94_50, s94_51, h94_54, ow_some, true_and, and_true, and_self, if_true, if_false, not_true, not_false_eq_true, Bool.false_eq_true, eq_self, Option.toList, List.cons_append, List.nil_append, ix_in, ix_cl, lt_in, lt_cl, lt_add, ix_one, vu_eq, vu_ne, arI_mk, arL_mk, arY_mZ, arY_mB, alen_mI, fld_sfl_ne, fld_sfl_same, Option.isSome_some, pok_i, b1z, b01, z10, b1o, Int32.zero_add, vu_vu, upd_eq, upd_ne, true_or, or_true, c1]
        exact hI _ ((some p, nI (cnt (m_sh all S P p) (2 ^ P))), _) ⟨rfl, hbs.symm⟩
      · have c1 : (nI (cnt (m_sh all S P p) (2 ^ P)) ≤ (m_best (fun p => if (nT all).testBit p = true then nI (cnt (m_sh all S P p) (2 ^ P)) else -1) p).2) = True := eq_true (Int32.not_lt.mp hlt)
        rw [if_neg hlt] at hbs
        simp (disch := first | omega | decide | assumption | exact Nat.le_of_ble_eq_true rfl) only [s94_42, s94_45, s94_47, s94_48, s94_50, s94_51, h94_54, ow_some, true_and, and_true, and_self, if_true, if_false, not_true, not_false_eq_true, Bool.false_eq_true, eq_self, Option.toList, List.cons_append, List.nil_append, ix_in, ix_cl, lt_in, lt_cl, lt_add, ix_one, vu_eq, vu_ne, arI_mk, arL_mk, arY_mZ, arY_mB, alen_mI, fld_sfl_ne, fld_sfl_same, Option.isSome_some, pok_i, b1z, b01, z10, b1o, Int32.zero_add, vu_vu, upd_eq, upd_ne, true_or, or_true, c1]
        exact hI _ (_, _) ⟨rfl, hbs.symm⟩
    · have hge := bst_ge (v := fun p => if (nT all).testBit p then nI (cnt (m_sh all S P p) (2 ^ P)) else -1) p
      have hn : ¬ (m_best (fun p => if (nT all).testBit p then nI (cnt (m_sh all S P p) (2 ^ P)) else -1) p).2 < -1 := by
        rw [Int32.lt_iff_toInt_lt, show (-1 : Int32).toInt = -1 by decide]; omega
      rw [if_neg hbit, if_neg hn] at hbs
      simp (disch := first | omega | decide | assumption | exact Nat.le_of_ble_eq_true rfl) only [s94_27, s94_51, h94_54, ow_some, true_and, and_true, and_self, if_true, if_false, not_true, not_false_eq_true, Bool.false_eq_true, eq_self, Option.toList, List.cons_append, List.nil_append, ix_in, ix_cl, lt_in, lt_cl, lt_add, ix_one, vu_eq, vu_ne, arI_mk, arL_mk, arY_mZ, arY_mB, alen_mI, fld_sfl_ne, fld_sfl_same, Option.isSome_some, pok_i, b1z, b01, z10, b1o, Int32.zero_add, vu_vu, upd_eq, upd_ne, true_or, or_true, hbit]
      exact hI _ (_, _) ⟨rfl, hbs.symm⟩
  · rintro g ⟨z, u⟩ ⟨rfl, hz⟩
    dsimp only at hz
    simp (disch := first | omega | decide | assumption | exact Nat.le_of_ble_eq_true rfl) only [s94_12, s94_14, s94_15, s94_18, s94_57, s94_58, ow_some, true_and, and_true, and_self, if_true, if_false, not_true, not_false_eq_true, Bool.false_eq_true, eq_self, Option.toList, List.cons_append, List.nil_append, ix_in, ix_cl, lt_in, lt_cl, lt_add, ix_one, vu_eq, vu_ne, arI_mk, arL_mk, arY_mZ, arY_mB, alen_mI, fld_sfl_ne, fld_sfl_same, Option.isSome_some, pok_i, b1z, b01, z10, b1o, Int32.zero_add, vu_vu, upd_eq, upd_ne, true_or, or_true, V1.v1, V1.v6, V1.v7, V1.v8, V1.v9, V1.i1, V1.i6, V1.i7, V1.i8, V1.i9, V1.r2, V1.r3, V1.r4, V1.r5, V1.pl, V1.a2, V1.a3, V1.a4, V1.a5, hP, ix_le, Nat.le_refl]
    exact ⟨rfl, rfl, s1, ⟨y1, t1, L1, O1⟩, by rw [hz]⟩

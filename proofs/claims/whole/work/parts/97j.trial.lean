/-! the class: who to send out next; trays that tell no trials -/
set_option maxRecDepth 100000 in
theorem dif_clr : ∀ T, T < 512 → ∀ q, q < 9 → dif T (2 ^ q) = clr T q := by decide +kernel
def c_st2 (all : Nat → Int32) (S P : Nat) (g : Nat → Int64) (M p o b : Nat) : Bool := c_fit all S P g M p b && m_hold (upd all (66 + p) (nI b)) S P (clr (nT all) o)
theorem sp_standing {X : Nat × (Nat → Int32)} {d N K a pl C S R P q : Nat} {f : Nat → e_C} {y x r : Nat → Nat → Int32} {w v all rm ab pb : Nat → Int32} (L : LV f q y) (V : SV f a pl w x) (W : PV f pl v r C) (G : CR all S P w x v r C) (I : IS all S R P) (hd : AD a pl q) (O : RV f q rm ab pb) (hq : q = 149) {M p o : Nat} {g : Nat → Int64} (hp : p < P) (ho : o < P) (hw : wgx all P p y) (hr : ∀ b, b < 100 → rm b = bI (c_fit all S P g M p b) ∧ ab b = wt all p (nI b) 0 ∧ pb b = wt all p (nI b) 1) {u4 u5 : Value} : TT X (d + 4) 54 0 [.ref 148, .ref a, .int (nI o), .int (nI p), u4, u5] [] f N K (fun f' n' k' z => n' = N ∧ k' = K ∧ SI 151 156 f f' ∧ (∃ y', LV f' q y' ∧ wgx all P p y') ∧ z = some (.int (nI (cnt (c_st2 all S P g M p o) 100)))) := by
  have h9 := I.p9
  simp (disch := first | omega | decide | assumption | exact Nat.le_of_ble_eq_true rfl) only [s54_0, s54_1, s54_3, h54_4, ow_some, true_and, and_true, and_self, if_true, if_false, not_true, not_false_eq_true, Bool.false_eq_true, eq_self, Option.toList, List.cons_append, List.nil_append, ix_in, ix_cl, lt_in, lt_cl, lt_add, ix_one, vu_eq, vu_ne, arI_mk, arL_mk, arY_mZ, arY_mB, alen_mI, fld_sfl_ne, fld_sfl_same, Option.isSome_some, pok_i, b1z, b01, z10, b1o, Int32.zero_add, vu_vu, upd_eq, upd_ne, true_or, or_true]
  refine lp (fun b e (z : (Nat → Nat → Int32) × Nat) => SI 151 156 f e ∧ LV e q z.1 ∧ wgx all P p z.1 ∧ z.2 = cnt (c_st2 all S P g M p o) b) (fun b z => [.ref 148, .ref a, .int (nI o), .int (nI p), .int (nI z.2), .int (nI b)]) 100 ?_ ?_ 0 f (y, 0) (by omega) ⟨SI.rf, L, hw, rfl⟩
  · rintro b e ⟨y2, z⟩ hb ⟨s2, L2, hw2, hz⟩ hI
    dsimp only at hz
    have V2 := V.fr (f' := e) (fun b h1 h2 => s2 b (by omega))
    have W2 := W.fr (f' := e) (fun b h1 h2 => s2 b (by omega))
    have O2 : RV e q rm ab pb := O.fr (s2 148 (by omega)) (s2 156 (by omega)) (s2 157 (by omega)) (s2 158 (by omega))
    have hc : (100 ≤ b) = False := eq_false (by omega)
    have g2 := O2.2.1
    have g5 := arY_Z O2.2.2.2.2.1
    obtain ⟨r1, r2, r3⟩ := hr b hb
    have b0 := bI_0 (b := c_fit all S P g M p b)
    have hcs := cnt_s (c := c_st2 all S P g M p o) (n := b)
    unfold c_st2 at hcs
    have hp2 : (1 : Int32) <<< (nI o &&& 31) = nI (2 ^ o) := p2 o (by omega)
    by_cases hfit : c_fit all S P g M p b = true
    · have b0' : (¬ (c_fit all S P g M p b = true)) = False := eq_false (fun z => z hfit)
      rw [hfit, Bool.true_and] at hcs
      simp (disch := first | omega | decide | assumption | exact Nat.le_of_ble_eq_true rfl) only [s54_6, s54_8, s54_10, s54_13, s54_14, s54_17, y54_19, s54_20, s54_23, s54_24, s54_25, s54_26, s54_27, s54_28, s54_29, ow_some, true_and, and_true, and_self, if_true, if_false, not_true, not_false_eq_true, Bool.false_eq_true, eq_self, Option.toList, List.cons_append, List.nil_append, ix_in, ix_cl, lt_in, lt_cl, lt_add, ix_one, vu_eq, vu_ne, arI_mk, arL_mk, arY_mZ, arY_mB, alen_mI, fld_sfl_ne, fld_sfl_same, Option.isSome_some, pok_i, b1z, b01, z10, b1o, Int32.zero_add, vu_vu, upd_eq, upd_ne, true_or, or_true, lt_le, hc, g2, g5, r1, b0, b0', hp2]
      refine k54_31 O2.cn (Nat.le_of_ble_eq_true rfl) (sp_stdBy L2 V2 W2 G I hd O2 hq hp hb hw2 r2 r3) ?_
      rintro f3 n3 k3 v3 ⟨rfl, rfl, s3, ⟨y3, L3, hw3⟩, rfl⟩
      rw [dif_clr _ I.t5 o (by omega)]
      have b1 := bI_0 (b := m_hold (upd all (66 + p) (nI b)) S P (clr (nT all) o))
      by_cases hh : m_hold (upd all (66 + p) (nI b)) S P (clr (nT all) o) = true
      · have b1' : (¬ (m_hold (upd all (66 + p) (nI b)) S P (clr (nT all) o) = true)) = False := eq_false (fun z => z hh)
        rw [if_pos hh] at hcs
        simp (disch := first | omega | decide | assumption | exact Nat.le_of_ble_eq_true rfl) only [s54_34, s54_37, s54_40, h54_43, ow_some, true_and, and_true, and_self, if_true, if_false, not_true, not_false_eq_true, Bool.false_eq_true, eq_self, Option.toList, List.cons_append, List.nil_append, ix_in, ix_cl, lt_in, lt_cl, lt_add, ix_one, vu_eq, vu_ne, arI_mk, arL_mk, arY_mZ, arY_mB, alen_mI, fld_sfl_ne, fld_sfl_same, Option.isSome_some, pok_i, b1z, b01, z10, b1o, Int32.zero_add, vu_vu, upd_eq, upd_ne, true_or, or_true, b1, b1']
        exact hI _ (y3, z + 1) ⟨s2.tr s3, L3, hw3, by dsimp only; rw [hz]; exact hcs.symm⟩
      · have b1' : (¬ (m_hold (upd all (66 + p) (nI b)) S P (clr (nT all) o) = true)) = True := eq_true hh
        rw [if_neg hh] at hcs
        simp (disch := first | omega | decide | assumption | exact Nat.le_of_ble_eq_true rfl) only [s54_34, s54_37, s54_40, h54_43, ow_some, true_and, and_true, and_self, if_true, if_false, not_true, not_false_eq_true, Bool.false_eq_true, eq_self, Option.toList, List.cons_append, List.nil_append, ix_in, ix_cl, lt_in, lt_cl, lt_add, ix_one, vu_eq, vu_ne, arI_mk, arL_mk, arY_mZ, arY_mB, alen_mI, fld_sfl_ne, fld_sfl_same, Option.isSome_some, pok_i, b1z, b01, z10, b1o, Int32.zero_add, vu_vu, upd_eq, upd_ne, true_or, or_true, b1, b1']
        exact hI _ (y3, z) ⟨s2.tr s3, L3, hw3, by dsimp only; rw [hz]; exact hcs.symm⟩
    · have b0' : (¬ (c_fit all S P g M p b = true)) = True := eq_true hfit
      rw [Bool.eq_false_iff.mpr hfit, Bool.false_and] at hcs
      simp (disch := first | omega | decide | assumption | exact Nat.le_of_ble_eq_true rfl) only [s54_6, s54_8, s54_10, s54_13, s54_14, s54_17, y54_19, s54_20, s54_40, h54_43, ow_some, true_and, and_true, and_self, if_true, if_false, not_true, not_false_eq_true, Bool.false_eq_true, eq_self, Option.toList, List.cons_append, List.nil_append, ix_in, ix_cl, lt_in, lt_cl, lt_add, ix_one, vu_eq, vu_ne, arI_mk, arL_mk, arY_mZ, arY_mB, alen_mI, fld_sfl_ne, fld_sfl_same, Option.isSome_some, pok_i, b1z, b01, z10, b1o, Int32.zero_add, vu_vu, upd_eq, upd_ne, true_or, or_true, lt_le, hc, g2, g5, r1, b0, b0']
      exact hI _ (y2, z) ⟨s2, L2, hw2, by dsimp only; rw [hz]; exact hcs.symm⟩
  · rintro e ⟨y2, z⟩ ⟨s2, L2, hw2, hz⟩
    dsimp only at hz
    simp (disch := first | omega | decide | assumption | exact Nat.le_of_ble_eq_true rfl) only [s54_6, s54_8, s54_10, s54_46, s54_48, ow_some, true_and, and_true, and_self, if_true, if_false, not_true, not_false_eq_true, Bool.false_eq_true, eq_self, Option.toList, List.cons_append, List.nil_append, ix_in, ix_cl, lt_in, lt_cl, lt_add, ix_one, vu_eq, vu_ne, arI_mk, arL_mk, arY_mZ, arY_mB, alen_mI, fld_sfl_ne, fld_sfl_same, Option.isSome_some, pok_i, b1z, b01, z10, b1o, Int32.zero_add, vu_vu, upd_eq, upd_ne, true_or, or_true, lt_le, Nat.le_refl]
    exact ⟨s2, ⟨y2, L2, hw2⟩, by rw [hz]⟩
def c_v (all : Nat → Int32) (S P : Nat) (g : Nat → Int64) (M p o : Nat) : Int32 := if o = p ∨ ¬ (nT all).testBit o = true then -1 else nI (min (cnt (c_st2 all S P g M p o) 100) (cnt (c_fit all S P g M p) 100 - cnt (c_st2 all S P g M p o) 100))
theorem sp_nextOut {X : Nat × (Nat → Int32)} {d N K a pl C S R P q : Nat} {f : Nat → e_C} {y x r : Nat → Nat → Int32} {w v all rm ab pb : Nat → Int32} (L : LV f q y) (V : SV f a pl w x) (W : PV f pl v r C) (G : CR all S P w x v r C) (I : IS all S R P) (hd : AD a pl q) (O : RV f q rm ab pb) (hq : q = 149) {t M p : Nat} {so : Int32} {g : Nat → Int64} (T : TV f t so (nI M) g) (hM : M ≤ 40) (ht : 91 ≤ t ∧ t + 1 < 99) (ha : a ≤ 17) (hok : ∀ i, i < M → t_ok all (g i) = true) (hp : p < P) {u4 u5 u6 u7 u8 u9 : Value} : TT X (d + 6) 53 0 [.ref 148, .ref a, .ref t, .int (nI p), u4, u5, u6, u7, u8, u9] [] f N K (RQ f N K q all S P g M p (if cnt (c_fit all S P g M p) 100 = 0 then -1 else oI (m_best (c_v all S P g M p) P).1)) := by
  have h9 := I.p9
  have hP : w 1 = nI P := by rw [G.w1]; exact I.eP
  have hT : w 6 = nI (nT all) := by rw [G.w6]; exact I.eT
  simp (disch := first | omega | decide | assumption | exact Nat.le_of_ble_eq_true rfl) only [s53_0, s53_1, s53_2, s53_3, ow_some, true_and, and_true, and_self, if_true, if_false, not_true, not_false_eq_true, Bool.false_eq_true, eq_self, Option.toList, List.cons_append, List.nil_append, ix_in, ix_cl, lt_in, lt_cl, lt_add, ix_one, vu_eq, vu_ne, arI_mk, arL_mk, arY_mZ, arY_mB, alen_mI, fld_sfl_ne, fld_sfl_same, Option.isSome_some, pok_i, b1z, b01, z10, b1o, Int32.zero_add, vu_vu, upd_eq, upd_ne, true_or, or_true]
  refine k53_4 O.cn (Nat.le_of_ble_eq_true rfl) (sp_find L V W G I hd O hq T hM ht ha hok hp) ?_
  rintro f1 n1 k1 v1 ⟨rfl, rfl, s1, ⟨y1, rm1, ab1, pb1, L1, O1, hw1, hr1⟩, rfl⟩
  have hle : cnt (c_fit all S P g M p) 100 ≤ 100 := cnt_le
  have z0 := tl_eq (c := 0) (m := cnt (c_fit all S P g M p) 100) (by decide) (by omega)
  by_cases h0 : cnt (c_fit all S P g M p) 100 = 0
  · have z0' : (nI (cnt (c_fit all S P g M p) 100) = 0) = True := by rw [h0]; decide
    rw [if_pos h0]
    simp (disch := first | omega | decide | assumption | exact Nat.le_of_ble_eq_true rfl) only [s53_7, s53_9, s53_11, s53_14, s53_15, ow_some, true_and, and_true, and_self, if_true, if_false, not_true, not_false_eq_true, Bool.false_eq_true, eq_self, Option.toList, List.cons_append, List.nil_append, ix_in, ix_cl, lt_in, lt_cl, lt_add, ix_one, vu_eq, vu_ne, arI_mk, arL_mk, arY_mZ, arY_mB, alen_mI, fld_sfl_ne, fld_sfl_same, Option.isSome_some, pok_i, b1z, b01, z10, b1o, Int32.zero_add, vu_vu, upd_eq, upd_ne, true_or, or_true, z0']
    exact ⟨rfl, rfl, s1, ⟨y1, rm1, ab1, pb1, L1, O1, hw1, hr1⟩, rfl⟩
  · have z0' : (nI (cnt (c_fit all S P g M p) 100) = 0) = False := by
      apply eq_false
      intro z
      have z : nI (cnt (c_fit all S P g M p) 100) = nI 0 := z
      rw [ix_eq (by omega) (by omega)] at z
      exact h0 z
    rw [if_neg h0]
    simp (disch := first | omega | decide | assumption | exact Nat.le_of_ble_eq_true rfl) only [s53_7, s53_9, s53_11, s53_14, s53_15, s53_16, s53_17, s53_19, s53_20, s53_22, h53_23, ow_some, true_and, and_true, and_self, if_true, if_false, not_true, not_false_eq_true, Bool.false_eq_true, eq_self, Option.toList, List.cons_append, List.nil_append, ix_in, ix_cl, lt_in, lt_cl, lt_add, ix_one, vu_eq, vu_ne, arI_mk, arL_mk, arY_mZ, arY_mB, alen_mI, fld_sfl_ne, fld_sfl_same, Option.isSome_some, pok_i, b1z, b01, z10, b1o, Int32.zero_add, vu_vu, upd_eq, upd_ne, true_or, or_true, z0']
    refine lp (fun o e (z : (Nat → Nat → Int32) × (Option Nat × Int32) × Value × Value) => SI 151 159 f e ∧ LV e q z.1 ∧ RV e q rm1 ab1 pb1 ∧ wgx all P p z.1 ∧ z.2.1 = m_best (c_v all S P g M p) o) (fun o z => [.ref 148, .ref a, .ref t, .int (nI p), .int (nI (cnt (c_fit all S P g M p) 100)), .int (oI z.2.1.1), .int z.2.1.2, .int (nI o), z.2.2.1, z.2.2.2]) P ?_ ?_ 0 f1 (y1, (none, -1), u8, u9) (by omega) ⟨s1, L1, O1, hw1, rfl⟩
    · rintro o e ⟨y2, z, ua, ub⟩ ho ⟨s2, L2, O2, hw2, hz⟩ hI
      dsimp only at hz
      subst hz
      have V2 := V.fr (f' := e) (fun b h1 h2 => s2 b (by omega))
      have W2 := W.fr (f' := e) (fun b h1 h2 => s2 b (by omega))
      have hc : (P ≤ o) = False := eq_false (by omega)
      have hbs := m_best_s (v := c_v all S P g M p) (n := o)
      have hge := bst_ge (v := c_v all S P g M p) o
      have hn : ¬ (m_best (c_v all S P g M p) o).2 < -1 := by
        rw [Int32.lt_iff_toInt_lt, show (-1 : Int32).toInt = -1 by decide]; omega
      by_cases hop : o = p
      · have hv : c_v all S P g M p o = -1 := by unfold c_v; rw [if_pos (Or.inl hop)]
        rw [hv, if_neg hn] at hbs
        have hop' : (nI o = nI p) = True := eq_true (by rw [hop])
        simp (disch := first | omega | decide | assumption | exact Nat.le_of_ble_eq_true rfl) only [s53_25, s53_27, s53_28, s53_31, s53_34, s53_36, s53_37, s53_86, h53_89, ow_some, true_and, and_true, and_self, if_true, if_false, not_true, not_false_eq_true, Bool.false_eq_true, eq_self, Option.toList, List.cons_append, List.nil_append, ix_in, ix_cl, lt_in, lt_cl, lt_add, ix_one, vu_eq, vu_ne, arI_mk, arL_mk, arY_mZ, arY_mB, alen_mI, fld_sfl_ne, fld_sfl_same, Option.isSome_some, pok_i, b1z, b01, z10, b1o, Int32.zero_add, vu_vu, upd_eq, upd_ne, true_or, or_true, V2.v1, V2.v6, V2.v7, V2.v8, V2.v9, V2.i1, V2.i6, V2.i7, V2.i8, V2.i9, V2.r2, V2.r3, V2.r4, V2.r5, V2.pl, V2.a2, V2.a3, V2.a4, V2.a5, hP, ix_le, hc, hop']
        exact hI _ (y2, _, _, _) ⟨s2, L2, O2, hw2, hbs.symm⟩
      · have hop' : (nI o = nI p) = False := by rw [ix_eq (by omega) (by omega)]; exact eq_false hop
        simp (disch := first | omega | decide | assumption | exact Nat.le_of_ble_eq_true rfl) only [s53_25, s53_27, s53_28, s53_31, s53_34, s53_36, s53_37, s53_40, s53_41, ow_some, true_and, and_true, and_self, if_true, if_false, not_true, not_false_eq_true, Bool.false_eq_true, eq_self, Option.toList, List.cons_append, List.nil_append, ix_in, ix_cl, lt_in, lt_cl, lt_add, ix_one, vu_eq, vu_ne, arI_mk, arL_mk, arY_mZ, arY_mB, alen_mI, fld_sfl_ne, fld_sfl_same, Option.isSome_some, pok_i, b1z, b01, z10, b1o, Int32.zero_add, vu_vu, upd_eq, upd_ne, true_or, or_true, V2.v1, V2.v6, V2.v7, V2.v8, V2.v9, V2.i1, V2.i6, V2.i7, V2.i8, V2.i9, V2.r2, V2.r3, V2.r4, V2.r5, V2.pl, V2.a2, V2.a3, V2.a4, V2.a5, hP, ix_le, hc, hop']
        rw [p53_43 V2.cn (Nat.le_of_ble_eq_true rfl) (sp_isTj V2 hP h9 hT I.t5 ho)]
        by_cases hb : (nT all).testBit o = true
        · have hv : c_v all S P g M p o = nI (min (cnt (c_st2 all S P g M p o) 100) (cnt (c_fit all S P g M p) 100 - cnt (c_st2 all S P g M p o) 100)) := by
            unfold c_v
            rw [if_neg]
            rintro (z | z)
            · exact hop z
            · exact z hb
          simp (disch := first | omega | decide | assumption | exact Nat.le_of_ble_eq_true rfl) only [s53_46, s53_49, s53_50, s53_51, s53_53, ow_some, true_and, and_true, and_self, if_true, if_false, not_true, not_false_eq_true, Bool.false_eq_true, eq_self, Option.toList, List.cons_append, List.nil_append, ix_in, ix_cl, lt_in, lt_cl, lt_add, ix_one, vu_eq, vu_ne, arI_mk, arL_mk, arY_mZ, arY_mB, alen_mI, fld_sfl_ne, fld_sfl_same, Option.isSome_some, pok_i, b1z, b01, z10, b1o, Int32.zero_add, vu_vu, upd_eq, upd_ne, true_or, or_true, hb]
          refine k53_54 O2.cn (Nat.le_of_ble_eq_true rfl) (sp_standing L2 V2 W2 G I hd O2 hq hp ho hw2 hr1) ?_
          rintro f3 n3 k3 v3 ⟨rfl, rfl, s3, ⟨y3, L3, hw3⟩, rfl⟩
          have O3 : RV f3 q rm1 ab1 pb1 := O2.fr (s3 148 (by omega)) (s3 156 (by omega)) (s3 157 (by omega)) (s3 158 (by omega))
          have hmono : cnt (c_st2 all S P g M p o) 100 ≤ cnt (c_fit all S P g M p) 100 := cnt_mono (fun i hi => by unfold c_st2 at hi; simp only [Bool.and_eq_true] at hi; exact hi.1)
          have hsub : nI (cnt (c_fit all S P g M p) 100) - nI (cnt (c_st2 all S P g M p o) 100) = nI (cnt (c_fit all S P g M p) 100 - cnt (c_st2 all S P g M p o) 100) := pk_sub hmono
          simp (disch := first | omega | decide | assumption | exact Nat.le_of_ble_eq_true rfl) only [s53_57, s53_59, s53_61, s53_63, s53_65, ow_some, true_and, and_true, and_self, if_true, if_false, not_true, not_false_eq_true, Bool.false_eq_true, eq_self, Option.toList, List.cons_append, List.nil_append, ix_in, ix_cl, lt_in, lt_cl, lt_add, ix_one, vu_eq, vu_ne, arI_mk, arL_mk, arY_mZ, arY_mB, alen_mI, fld_sfl_ne, fld_sfl_same, Option.isSome_some, pok_i, b1z, b01, z10, b1o, Int32.zero_add, vu_vu, upd_eq, upd_ne, true_or, or_true, hsub]
          rw [p53_66 (Nat.le_of_ble_eq_true rfl) sp_min]
          have hmn : mnI (nI (cnt (c_st2 all S P g M p o) 100)) (nI (cnt (c_fit all S P g M p) 100 - cnt (c_st2 all S P g M p o) 100)) = c_v all S P g M p o := by
            rw [hv]
            unfold mnI
            split
            · next hh => rw [ix_lt (by omega) (by omega)] at hh; congr 1; omega
            · next hh => rw [ix_lt (by omega) (by omega)] at hh; congr 1; omega
          rw [hmn]
          simp (disch := first | omega | decide | assumption | exact Nat.le_of_ble_eq_true rfl) only [s53_69, s53_71, s53_73, ow_some, true_and, and_true, and_self, if_true, if_false, not_true, not_false_eq_true, Bool.false_eq_true, eq_self, Option.toList, List.cons_append, List.nil_append, ix_in, ix_cl, lt_in, lt_cl, lt_add, ix_one, vu_eq, vu_ne, arI_mk, arL_mk, arY_mZ, arY_mB, alen_mI, fld_sfl_ne, fld_sfl_same, Option.isSome_some, pok_i, b1z, b01, z10, b1o, Int32.zero_add, vu_vu, upd_eq, upd_ne, true_or, or_true]
          by_cases hlt : (m_best (c_v all S P g M p) o).2 < c_v all S P g M p o
          · have c1 : (c_v all S P g M p o ≤ (m_best (c_v all S P g M p) o).2) = False := eq_false (Int32.not_le.mpr hlt)
            rw [if_pos hlt] at hbs
            simp (disch := first | omega | decide | assumption | exact Nat.le_of_ble_eq_true rfl) only [s53_75, s53_78, s53_80, s53_82, s53_84, s53_86, h53_89, ow_some, true_and, and_true, and_self, if_true, if_false, not_true, not_false_eq_true, Bool.false_eq_true, eq_self, Option.toList, List.cons_append, List.nil_append, ix_in, ix_cl, lt_in, lt_cl, lt_add, ix_one, vu_eq, vu_ne, arI_mk, arL_mk, arY_mZ, arY_mB, alen_mI, fld_sfl_ne, fld_sfl_same, Option.isSome_some, pok_i, b1z, b01, z10, b1o, Int32.zero_add, vu_vu, upd_eq, upd_ne, true_or, or_true, c1]
            exact hI _ (y3, (some o, c_v all S P g M p o), _, _) ⟨s2.tr (s3.wd (by omega) (by omega)), L3, O3, hw3, hbs.symm⟩
          · have c1 : (c_v all S P g M p o ≤ (m_best (c_v all S P g M p) o).2) = True := eq_true (Int32.not_lt.mp hlt)
            rw [if_neg hlt] at hbs
            simp (disch := first | omega | decide | assumption | exact Nat.le_of_ble_eq_true rfl) only [s53_75, s53_78, s53_80, s53_82, s53_84, s53_86, h53_89, ow_some, true_and, and_true, and_self, if_true, if_false, not_true, not_false_eq_true, Bool.false_eq_true, eq_self, Option.toList, List.cons_append, List.nil_append, ix_in, ix_cl, lt_in, lt_cl, lt_add, ix_one, vu_eq, vu_ne, arI_mk, arL_mk, arY_mZ, arY_mB, alen_mI, fld_sfl_ne, fld_sfl_same, Option.isSome_some, pok_i, b1z, b01, z10, b1o, Int32.zero_add, vu_vu, upd_eq, upd_ne, true_or, or_true, c1]
            exact hI _ (y3, _, _, _) ⟨s2.tr (s3.wd (by omega) (by omega)), L3, O3, hw3, hbs.symm⟩
        · have hv : c_v all S P g M p o = -1 := by unfold c_v; rw [if_pos (Or.inr hb)]
          rw [hv, if_neg hn] at hbs
          simp (disch := first | omega | decide | assumption | exact Nat.le_of_ble_eq_true rfl) only [s53_46, s53_86, h53_89, ow_some, true_and, and_true, and_self, if_true, if_false, not_true, not_false_eq_true, Bool.false_eq_true, eq_self, Option.toList, List.cons_append, List.nil_append, ix_in, ix_cl, lt_in, lt_cl, lt_add, ix_one, vu_eq, vu_ne, arI_mk, arL_mk, arY_mZ, arY_mB, alen_mI, fld_sfl_ne, fld_sfl_same, Option.isSome_some, pok_i, b1z, b01, z10, b1o, Int32.zero_add, vu_vu, upd_eq, upd_ne, true_or, or_true, hb]
          exact hI _ (y2, _, _, _) ⟨s2, L2, O2, hw2, hbs.symm⟩
    · rintro e ⟨y2, z, ua, ub⟩ ⟨s2, L2, O2, hw2, hz⟩
      dsimp only at hz
      have V2 := V.fr (f' := e) (fun b h1 h2 => s2 b (by omega))
      simp (disch := first | omega | decide | assumption | exact Nat.le_of_ble_eq_true rfl) only [s53_25, s53_27, s53_28, s53_31, s53_92, s53_94, ow_some, true_and, and_true, and_self, if_true, if_false, not_true, not_false_eq_true, Bool.false_eq_true, eq_self, Option.toList, List.cons_append, List.nil_append, ix_in, ix_cl, lt_in, lt_cl, lt_add, ix_one, vu_eq, vu_ne, arI_mk, arL_mk, arY_mZ, arY_mB, alen_mI, fld_sfl_ne, fld_sfl_same, Option.isSome_some, pok_i, b1z, b01, z10, b1o, Int32.zero_add, vu_vu, upd_eq, upd_ne, true_or, or_true, V2.v1, V2.v6, V2.v7, V2.v8, V2.v9, V2.i1, V2.i6, V2.i7, V2.i8, V2.i9, V2.r2, V2.r3, V2.r4, V2.r5, V2.pl, V2.a2, V2.a3, V2.a4, V2.a5, hP, ix_le, Nat.le_refl]
      exact ⟨rfl, rfl, s2, ⟨y2, rm1, ab1, pb1, L2, O2, hw2, hr1⟩, by rw [hz]⟩
def c_ref (all : Nat → Int32) (g : Nat → Int64) (M p : Nat) : Int32 := if 1 ≤ M ∧ M ≤ 10 then (if allB (fun i => t_ok all (g i)) M = true then (if (nT all).testBit p then 0 else -5) else -3) else -4
theorem sp_refusal {X : Nat × (Nat → Int32)} {d N K a pl C S R P t M p : Nat} {f : Nat → e_C} {x r : Nat → Nat → Int32} {w v all : Nat → Int32} {so : Int32} {g : Nat → Int64} (V : SV f a pl w x) (G : CR all S P w x v r C) (I : IS all S R P) (T : TV f t so (nI M) g) (hM : M ≤ 40) (hp : p < P) {u4 u5 u6 : Value} : PU X (d + 2) 47 [.ref 148, .ref a, .ref t, .int (nI p), u4, u5, u6] f N K (some (.int (c_ref all g M p))) := by
  have h9 := I.p9
  have t5 := I.t5
  have hP : w 1 = nI P := by rw [G.w1]; exact I.eP
  have hT : w 6 = nI (nT all) := by rw [G.w6]; exact I.eT
  obtain ⟨t0, t1, t2, t3⟩ := T
  unfold PU c_ref
  by_cases h1 : M < 1
  · have h1' : (nI M < 1) = True := by rw [tl_lt (c := 1) (by omega) (by omega)]; exact eq_true h1
    rw [if_neg (by omega)]
    simp (disch := first | omega | decide | assumption | exact Nat.le_of_ble_eq_true rfl) only [s47_0, s47_1, s47_4, s47_5, s47_17, s47_19, ow_some, true_and, and_true, and_self, if_true, if_false, not_true, not_false_eq_true, Bool.false_eq_true, eq_self, Option.toList, List.cons_append, List.nil_append, ix_in, ix_cl, lt_in, lt_cl, lt_add, ix_one, vu_eq, vu_ne, arI_mk, arL_mk, arY_mZ, arY_mB, alen_mI, fld_sfl_ne, fld_sfl_same, Option.isSome_some, pok_i, b1z, b01, z10, b1o, Int32.zero_add, vu_vu, upd_eq, upd_ne, true_or, or_true, t1, h1']
  have h1' : (nI M < 1) = False := by rw [tl_lt (c := 1) (by omega) (by omega)]; exact eq_false h1
  by_cases h2 : 10 < M
  · have h2' : (nI M ≤ 10) = False := by rw [le_lt (c := 10) (by omega) (by omega)]; exact eq_false (by omega)
    rw [if_neg (by omega)]
    simp (disch := first | omega | decide | assumption | exact Nat.le_of_ble_eq_true rfl) only [s47_0, s47_1, s47_4, s47_5, s47_8, s47_9, s47_12, s47_14, s47_17, s47_19, ow_some, true_and, and_true, and_self, if_true, if_false, not_true, not_false_eq_true, Bool.false_eq_true, eq_self, Option.toList, List.cons_append, List.nil_append, ix_in, ix_cl, lt_in, lt_cl, lt_add, ix_one, vu_eq, vu_ne, arI_mk, arL_mk, arY_mZ, arY_mB, alen_mI, fld_sfl_ne, fld_sfl_same, Option.isSome_some, pok_i, b1z, b01, z10, b1o, Int32.zero_add, vu_vu, upd_eq, upd_ne, true_or, or_true, t1, h1', h2']
  have h2' : (nI M ≤ 10) = True := by rw [le_lt (c := 10) (by omega) (by omega)]; exact eq_true (by omega)
  rw [if_pos (by omega)]
  simp (disch := first | omega | decide | assumption | exact Nat.le_of_ble_eq_true rfl) only [s47_0, s47_1, s47_4, s47_5, s47_8, s47_9, s47_12, s47_14, s47_17, s47_19, s47_20, h47_21, ow_some, true_and, and_true, and_self, if_true, if_false, not_true, not_false_eq_true, Bool.false_eq_true, eq_self, Option.toList, List.cons_append, List.nil_append, ix_in, ix_cl, lt_in, lt_cl, lt_add, ix_one, vu_eq, vu_ne, arI_mk, arL_mk, arY_mZ, arY_mB, alen_mI, fld_sfl_ne, fld_sfl_same, Option.isSome_some, pok_i, b1z, b01, z10, b1o, Int32.zero_add, vu_vu, upd_eq, upd_ne, true_or, or_true, t1, h1', h2']
  suffices h : ∀ (m i : Nat) (u5 u6 : Value), i + m = M → allB (fun i => t_ok all (g i)) i = true → TH X (d + 2) 47 23 [.ref 148, .ref a, .ref t, .int (nI p), .int (nI i), u5, u6] [] f N K (fun f' n' k' v => f' = f ∧ n' = N ∧ k' = K ∧ v = some (.int (if allB (fun i => t_ok all (g i)) M = true then (if (nT all).testBit p then 0 else -5) else -3))) from h M 0 u5 u6 (by omega) rfl
  intro m
  induction m with
  | zero =>
    intro i u5 u6 hi hal
    unfold TH
    have hc : (M ≤ i) = True := eq_true (by omega)
    have hal' : allB (fun i => t_ok all (g i)) M = true := by rw [show M = i by omega]; exact hal
    rw [if_pos hal']
    simp (disch := first | omega | decide | assumption | exact Nat.le_of_ble_eq_true rfl) only [s47_23, s47_25, s47_26, s47_29, s47_81, s47_82, ow_some, true_and, and_true, and_self, if_true, if_false, not_true, not_false_eq_true, Bool.false_eq_true, eq_self, Option.toList, List.cons_append, List.nil_append, ix_in, ix_cl, lt_in, lt_cl, lt_add, ix_one, vu_eq, vu_ne, arI_mk, arL_mk, arY_mZ, arY_mB, alen_mI, fld_sfl_ne, fld_sfl_same, Option.isSome_some, pok_i, b1z, b01, z10, b1o, Int32.zero_add, vu_vu, upd_eq, upd_ne, true_or, or_true, t1, ix_le, hc]
    rw [p47_83 V.cn (Nat.le_of_ble_eq_true rfl) (sp_isTj V hP h9 hT t5 hp)]
    by_cases hb : (nT all).testBit p = true
    · simp (disch := first | omega | decide | assumption | exact Nat.le_of_ble_eq_true rfl) only [s47_86, s47_89, s47_90, s47_93, s47_95, ow_some, true_and, and_true, and_self, if_true, if_false, not_true, not_false_eq_true, Bool.false_eq_true, eq_self, Option.toList, List.cons_append, List.nil_append, ix_in, ix_cl, lt_in, lt_cl, lt_add, ix_one, vu_eq, vu_ne, arI_mk, arL_mk, arY_mZ, arY_mB, alen_mI, fld_sfl_ne, fld_sfl_same, Option.isSome_some, pok_i, b1z, b01, z10, b1o, Int32.zero_add, vu_vu, upd_eq, upd_ne, true_or, or_true, hb]
    · simp (disch := first | omega | decide | assumption | exact Nat.le_of_ble_eq_true rfl) only [s47_86, s47_89, s47_90, s47_93, s47_95, ow_some, true_and, and_true, and_self, if_true, if_false, not_true, not_false_eq_true, Bool.false_eq_true, eq_self, Option.toList, List.cons_append, List.nil_append, ix_in, ix_cl, lt_in, lt_cl, lt_add, ix_one, vu_eq, vu_ne, arI_mk, arL_mk, arY_mZ, arY_mB, alen_mI, fld_sfl_ne, fld_sfl_same, Option.isSome_some, pok_i, b1z, b01, z10, b1o, Int32.zero_add, vu_vu, upd_eq, upd_ne, true_or, or_true, hb]
  | succ m ih =>
    intro i u5 u6 hi hal
    unfold TH
    have hc : (M ≤ i) = False := eq_false (by omega)
    simp (disch := first | omega | decide | assumption | exact Nat.le_of_ble_eq_true rfl) only [s47_23, s47_25, s47_26, s47_29, s47_32, s47_33, s47_36, s47_38, s47_39, s47_41, s47_43, s47_44, ow_some, true_and, and_true, and_self, if_true, if_false, not_true, not_false_eq_true, Bool.false_eq_true, eq_self, Option.toList, List.cons_append, List.nil_append, ix_in, ix_cl, lt_in, lt_cl, lt_add, ix_one, vu_eq, vu_ne, arI_mk, arL_mk, arY_mZ, arY_mB, alen_mI, fld_sfl_ne, fld_sfl_same, Option.isSome_some, pok_i, b1z, b01, z10, b1o, Int32.zero_add, vu_vu, upd_eq, upd_ne, true_or, or_true, t1, t2, t3, ix_le, hc]
    have c0 : (lg_cmp (g i) 0 < 0) = ((g i).toInt < 0) := lgl (c := 0) (by omega)
    have c1 : (0 ≤ lg_cmp (g i) 1024) = ((1024 : Int) ≤ (g i).toInt) := by
      rw [lg_cmp_ge, Int64.le_iff_toInt_le]; rfl
    simp only [s47_45, c0]
    have bad : t_ok all (g i) = false → (if allB (fun i => t_ok all (g i)) M = true then (if (nT all).testBit p then (0 : Int32) else -5) else -3) = -3 := by
      intro hb
      rw [if_neg]
      intro z
      have := (allB_iff.mp z) i (by omega)
      rw [hb] at this
      cases this
    by_cases h3 : (g i).toInt < 0
    · simp only [h3, if_true]
      have hb : t_ok all (g i) = false := by unfold t_ok; rw [decide_eq_false (by omega)]; rfl
      rw [bad hb]
      simp (disch := first | omega | decide | assumption | exact Nat.le_of_ble_eq_true rfl) only [s47_72, s47_74, ow_some, true_and, and_true, and_self, if_true, if_false, not_true, not_false_eq_true, Bool.false_eq_true, eq_self, Option.toList, List.cons_append, List.nil_append, ix_in, ix_cl, lt_in, lt_cl, lt_add, ix_one, vu_eq, vu_ne, arI_mk, arL_mk, arY_mZ, arY_mB, alen_mI, fld_sfl_ne, fld_sfl_same, Option.isSome_some, pok_i, b1z, b01, z10, b1o, Int32.zero_add, vu_vu, upd_eq, upd_ne, true_or, or_true]
    · simp only [h3, if_false]
      simp (disch := first | omega | decide | assumption | exact Nat.le_of_ble_eq_true rfl) only [s47_48, s47_50, s47_53, ow_some, true_and, and_true, and_self, if_true, if_false, not_true, not_false_eq_true, Bool.false_eq_true, eq_self, Option.toList, List.cons_append, List.nil_append, ix_in, ix_cl, lt_in, lt_cl, lt_add, ix_one, vu_eq, vu_ne, arI_mk, arL_mk, arY_mZ, arY_mB, alen_mI, fld_sfl_ne, fld_sfl_same, Option.isSome_some, pok_i, b1z, b01, z10, b1o, Int32.zero_add, vu_vu, upd_eq, upd_ne, true_or, or_true]
      simp only [s47_54, c1]
      by_cases h4 : (1024 : Int) ≤ (g i).toInt
      · simp only [h4, if_true]
        have hb : t_ok all (g i) = false := by unfold t_ok; rw [decide_eq_true (show 0 ≤ (g i).toInt by omega), decide_eq_false (show ¬ (g i).toInt ≤ 1023 by omega)]; rfl
        rw [bad hb]
        simp (disch := first | omega | decide | assumption | exact Nat.le_of_ble_eq_true rfl) only [s47_72, s47_74, ow_some, true_and, and_true, and_self, if_true, if_false, not_true, not_false_eq_true, Bool.false_eq_true, eq_self, Option.toList, List.cons_append, List.nil_append, ix_in, ix_cl, lt_in, lt_cl, lt_add, ix_one, vu_eq, vu_ne, arI_mk, arL_mk, arY_mZ, arY_mB, alen_mI, fld_sfl_ne, fld_sfl_same, Option.isSome_some, pok_i, b1z, b01, z10, b1o, Int32.zero_add, vu_vu, upd_eq, upd_ne, true_or, or_true]
      · simp only [h4, if_false]
        obtain ⟨mv, hm1, hm2, hm3⟩ := l9 (v := g i) (N := 1024) (by omega) (by omega) (by omega)
        obtain ⟨q1, -⟩ := tr_t mv hm1
        rw [← hm2] at q1
        have hpt := part_nI (s := mv / 2) (T := nT all) (by omega) t5
        have etok : t_ok all (g i) = sub (mv / 2) (nT all) := by
          unfold t_ok
          rw [decide_eq_true (show 0 ≤ (g i).toInt by omega), decide_eq_true (show (g i).toInt ≤ 1023 by omega), hm3]
          rfl
        by_cases hs : sub (mv / 2) (nT all) = true
        · have hs' : (sub (mv / 2) (nT all) = true) = True := eq_true hs
          simp (disch := first | omega | decide | assumption | exact Nat.le_of_ble_eq_true rfl) only [s47_57, s47_59, s47_60, s47_61, s47_62, s47_63, s47_66, s47_67, s47_68, s47_69, s47_75, h47_78, ow_some, true_and, and_true, and_self, if_true, if_false, not_true, not_false_eq_true, Bool.false_eq_true, eq_self, Option.toList, List.cons_append, List.nil_append, ix_in, ix_cl, lt_in, lt_cl, lt_add, ix_one, vu_eq, vu_ne, arI_mk, arL_mk, arY_mZ, arY_mB, alen_mI, fld_sfl_ne, fld_sfl_same, Option.isSome_some, pok_i, b1z, b01, z10, b1o, Int32.zero_add, vu_vu, upd_eq, upd_ne, true_or, or_true, V.v1, V.v6, V.v7, V.v8, V.v9, V.i1, V.i6, V.i7, V.i8, V.i9, V.r2, V.r3, V.r4, V.r5, V.pl, V.a2, V.a3, V.a4, V.a5, q1, hT, hpt, hs']
          refine ih (i + 1) _ _ (by omega) ?_
          rw [allB_iff] at hal ⊢
          intro j hj
          by_cases hji : j = i
          · subst hji; rw [etok]; exact hs
          · exact hal j (by omega)
        · have hs' : (sub (mv / 2) (nT all) = true) = False := eq_false hs
          rw [bad (by rw [etok]; exact Bool.eq_false_iff.mpr hs)]
          simp (disch := first | omega | decide | assumption | exact Nat.le_of_ble_eq_true rfl) only [s47_57, s47_59, s47_60, s47_61, s47_62, s47_63, s47_66, s47_67, s47_68, s47_69, s47_72, s47_74, ow_some, true_and, and_true, and_self, if_true, if_false, not_true, not_false_eq_true, Bool.false_eq_true, eq_self, Option.toList, List.cons_append, List.nil_append, ix_in, ix_cl, lt_in, lt_cl, lt_add, ix_one, vu_eq, vu_ne, arI_mk, arL_mk, arY_mZ, arY_mB, alen_mI, fld_sfl_ne, fld_sfl_same, Option.isSome_some, pok_i, b1z, b01, z10, b1o, Int32.zero_add, vu_vu, upd_eq, upd_ne, true_or, or_true, V.v1, V.v6, V.v7, V.v8, V.v9, V.i1, V.i6, V.i7, V.i8, V.i9, V.r2, V.r3, V.r4, V.r5, V.pl, V.a2, V.a3, V.a4, V.a5, q1, hT, hpt, hs']

/-! the class: rooms found -/
theorem wgd_x {all : Nat → Int32} {P p : Nat} {y : Nat → Nat → Int32} (h : wgd all P y) : wgx all P p y := fun i hi _ hb => h i hi hb
theorem bI_01 {b : Bool} : (bI b = 0 ∨ bI b = 1) = True := by cases b <;> simp [bI]
theorem nar_bI {b : Bool} : vp_nar .boolean (bI b) = bI b := by cases b <;> rfl
theorem bI_0 {b : Bool} : (bI b = 0) = ¬ (b = true) := by cases b <;> simp [bI]
/-- what Rooms.find leaves -/
def RQ (f : Nat → e_C) (N K q : Nat) (all : Nat → Int32) (S P : Nat) (g : Nat → Int64) (M p : Nat) (z : Int32) : t_Q := fun f' n' k' v => n' = N ∧ k' = K ∧ SI 151 159 f f' ∧ (∃ y' rm ab pb, LV f' q y' ∧ RV f' q rm ab pb ∧ wgx all P p y' ∧ ∀ b, b < 100 → rm b = bI (c_fit all S P g M p b) ∧ ab b = wt all p (nI b) 0 ∧ pb b = wt all p (nI b) 1) ∧ v = some (.int z)
theorem sp_find {X : Nat × (Nat → Int32)} {d N K a pl C S R P q : Nat} {f : Nat → e_C} {y x r : Nat → Nat → Int32} {w v all rm ab pb : Nat → Int32} (L : LV f q y) (V : SV f a pl w x) (W : PV f pl v r C) (G : CR all S P w x v r C) (I : IS all S R P) (hd : AD a pl q) (O : RV f q rm ab pb) (hq : q = 149) {t M p : Nat} {so : Int32} {g : Nat → Int64} (T : TV f t so (nI M) g) (hM : M ≤ 40) (ht : 91 ≤ t ∧ t + 1 < 99) (ha : a ≤ 17) (hok : ∀ i, i < M → t_ok all (g i) = true) (hp : p < P) {u4 u5 : Value} : TT X (d + 5) 48 0 [.ref 148, .ref a, .ref t, .int (nI p), u4, u5] [] f N K (RQ f N K q all S P g M p (nI (cnt (c_fit all S P g M p) 100))) := by
  have h9 := I.p9
  obtain ⟨o1, -⟩ := id O
  simp (disch := first | omega | decide | assumption | exact Nat.le_of_ble_eq_true rfl) only [s48_0, s48_1, s48_4, ow_some, true_and, and_true, and_self, if_true, if_false, not_true, not_false_eq_true, Bool.false_eq_true, eq_self, Option.toList, List.cons_append, List.nil_append, ix_in, ix_cl, lt_in, lt_cl, lt_add, ix_one, vu_eq, vu_ne, arI_mk, arL_mk, arY_mZ, arY_mB, alen_mI, fld_sfl_ne, fld_sfl_same, Option.isSome_some, pok_i, b1z, b01, z10, b1o, Int32.zero_add, vu_vu, upd_eq, upd_ne, true_or, or_true, o1]
  refine k48_5 L.cn (Nat.le_of_ble_eq_true rfl) (sp_weigh L V W G I hd) ?_
  rintro f1 n1 k1 v1 ⟨rfl, rfl, rfl, s1, y1, L1, -, hw1⟩
  have s1' : SI 151 159 f f1 := s1.wd (by omega) (by omega)
  have O1 : RV f1 q rm ab pb := O.fr (s1 148 (by omega)) (s1 156 (by omega)) (s1 157 (by omega)) (s1 158 (by omega))
  simp (disch := first | omega | decide | assumption | exact Nat.le_of_ble_eq_true rfl) only [s48_8, s48_9, s48_11, h48_12, ow_some, true_and, and_true, and_self, if_true, if_false, not_true, not_false_eq_true, Bool.false_eq_true, eq_self, Option.toList, List.cons_append, List.nil_append, ix_in, ix_cl, lt_in, lt_cl, lt_add, ix_one, vu_eq, vu_ne, arI_mk, arL_mk, arY_mZ, arY_mB, alen_mI, fld_sfl_ne, fld_sfl_same, Option.isSome_some, pok_i, b1z, b01, z10, b1o, Int32.zero_add, vu_vu, upd_eq, upd_ne, true_or, or_true]
  refine lp (fun b e (z : (Nat → Nat → Int32) × (Nat → Int32) × (Nat → Int32) × (Nat → Int32) × Nat) => SI 151 159 f e ∧ LV e q z.1 ∧ RV e q z.2.1 z.2.2.1 z.2.2.2.1 ∧ wgx all P p z.1 ∧ (∀ i, i < b → z.2.1 i = bI (c_fit all S P g M p i) ∧ z.2.2.1 i = wt all p (nI i) 0 ∧ z.2.2.2.1 i = wt all p (nI i) 1) ∧ z.2.2.2.2 = cnt (c_fit all S P g M p) b) (fun b z => [.ref 148, .ref a, .ref t, .int (nI p), .int (nI z.2.2.2.2), .int (nI b)]) 100 ?_ ?_ 0 f1 (y1, rm, ab, pb, 0) (by omega) ⟨s1', L1, O1, wgd_x hw1, fun i hi => by omega, rfl⟩
  · rintro b e ⟨y2, rm2, ab2, pb2, z⟩ hb ⟨s2, L2, O2, hw2, hk, hz⟩ hI
    dsimp only at hk hz
    have V2 := V.fr (f' := e) (fun b h1 h2 => s2 b (by omega))
    have W2 := W.fr (f' := e) (fun b h1 h2 => s2 b (by omega))
    have hc : (100 ≤ b) = False := eq_false (by omega)
    obtain ⟨a1, a2, a3, a4, a5, a6, a7⟩ := id O2
    simp (disch := first | omega | decide | assumption | exact Nat.le_of_ble_eq_true rfl) only [s48_14, s48_16, s48_18, s48_21, s48_22, s48_25, s48_27, s48_28, s48_31, s48_32, s48_33, s48_35, ow_some, true_and, and_true, and_self, if_true, if_false, not_true, not_false_eq_true, Bool.false_eq_true, eq_self, Option.toList, List.cons_append, List.nil_append, ix_in, ix_cl, lt_in, lt_cl, lt_add, ix_one, vu_eq, vu_ne, arI_mk, arL_mk, arY_mZ, arY_mB, alen_mI, fld_sfl_ne, fld_sfl_same, Option.isSome_some, pok_i, b1z, b01, z10, b1o, Int32.zero_add, vu_vu, upd_eq, upd_ne, true_or, or_true, lt_le, hc, a1, a3]
    refine k48_36 L2.cn (Nat.le_of_ble_eq_true rfl) (sp_bearing L2 V2 W2 G I hd hp) ?_
    rintro f3 n3 k3 v3 ⟨rfl, rfl, s3, ⟨y3, L3, hy3⟩, rfl⟩
    have c6 : arI (f3 157) = some (100, ab2) := by rw [s3 157 (by omega)]; exact a6
    have O3 : RV f3 q rm2 ab2 pb2 := O2.fr (s3 148 (by omega)) (s3 156 (by omega)) (s3 157 (by omega)) (s3 158 (by omega))
    simp (disch := first | omega | decide | assumption | exact Nat.le_of_ble_eq_true rfl) only [s48_39, ow_some, true_and, and_true, and_self, if_true, if_false, not_true, not_false_eq_true, Bool.false_eq_true, eq_self, Option.toList, List.cons_append, List.nil_append, ix_in, ix_cl, lt_in, lt_cl, lt_add, ix_one, vu_eq, vu_ne, arI_mk, arL_mk, arY_mZ, arY_mB, alen_mI, fld_sfl_ne, fld_sfl_same, Option.isSome_some, pok_i, b1z, b01, z10, b1o, Int32.zero_add, vu_vu, upd_eq, upd_ne, true_or, or_true, c6]
    have O4 := O3.u7 (g := upd ab2 b (wt all p (nI b) 0))
    have L4 := L3.fr (f' := va_up f3 157 (.inl (.int, 100, .inl (upd ab2 b (wt all p (nI b) 0))))) (fun b h1 h2 => vu_ne (by omega))
    have s4 : SI 151 159 f (va_up f3 157 (.inl (.int, 100, .inl (upd ab2 b (wt all p (nI b) 0))))) := (s2.tr (s3.wd (by omega) (by omega))).tr (SI.up (by omega) (by omega))
    generalize va_up f3 157 (.inl (.int, 100, .inl (upd ab2 b (wt all p (nI b) 0)))) = f4 at O4 L4 s4 ⊢
    have V4 := V.fr (f' := f4) (fun b h1 h2 => s4 b (by omega))
    have W4 := W.fr (f' := f4) (fun b h1 h2 => s4 b (by omega))
    obtain ⟨b1, b2, b3, b4, b5, b6, b7⟩ := id O4
    simp (disch := first | omega | decide | assumption | exact Nat.le_of_ble_eq_true rfl) only [s48_40, s48_41, s48_44, s48_46, s48_47, s48_50, s48_51, s48_52, s48_54, ow_some, true_and, and_true, and_self, if_true, if_false, not_true, not_false_eq_true, Bool.false_eq_true, eq_self, Option.toList, List.cons_append, List.nil_append, ix_in, ix_cl, lt_in, lt_cl, lt_add, ix_one, vu_eq, vu_ne, arI_mk, arL_mk, arY_mZ, arY_mB, alen_mI, fld_sfl_ne, fld_sfl_same, Option.isSome_some, pok_i, b1z, b01, z10, b1o, Int32.zero_add, vu_vu, upd_eq, upd_ne, true_or, or_true, b1, b4]
    refine k48_55 L4.cn (Nat.le_of_ble_eq_true rfl) (sp_bearing L4 V4 W4 G I hd hp) ?_
    rintro f5 n5 k5 v5 ⟨rfl, rfl, s5, ⟨y5, L5, hy5⟩, rfl⟩
    have d7 : arI (f5 158) = some (100, pb2) := by rw [s5 158 (by omega)]; exact b7
    have O5 : RV f5 q rm2 (upd ab2 b (wt all p (nI b) 0)) pb2 := O4.fr (s5 148 (by omega)) (s5 156 (by omega)) (s5 157 (by omega)) (s5 158 (by omega))
    simp (disch := first | omega | decide | assumption | exact Nat.le_of_ble_eq_true rfl) only [s48_58, ow_some, true_and, and_true, and_self, if_true, if_false, not_true, not_false_eq_true, Bool.false_eq_true, eq_self, Option.toList, List.cons_append, List.nil_append, ix_in, ix_cl, lt_in, lt_cl, lt_add, ix_one, vu_eq, vu_ne, arI_mk, arL_mk, arY_mZ, arY_mB, alen_mI, fld_sfl_ne, fld_sfl_same, Option.isSome_some, pok_i, b1z, b01, z10, b1o, Int32.zero_add, vu_vu, upd_eq, upd_ne, true_or, or_true, d7]
    have O6 := O5.u8 (g := upd pb2 b (wt all p (nI b) 1))
    have L6 := L5.fr (f' := va_up f5 158 (.inl (.int, 100, .inl (upd pb2 b (wt all p (nI b) 1))))) (fun b h1 h2 => vu_ne (by omega))
    have s6 : SI 151 159 f (va_up f5 158 (.inl (.int, 100, .inl (upd pb2 b (wt all p (nI b) 1))))) := (s4.tr (s5.wd (by omega) (by omega))).tr (SI.up (by omega) (by omega))
    generalize va_up f5 158 (.inl (.int, 100, .inl (upd pb2 b (wt all p (nI b) 1)))) = f6 at O6 L6 s6 ⊢
    have V6 := V.fr (f' := f6) (fun b h1 h2 => s6 b (by omega))
    have W6 := W.fr (f' := f6) (fun b h1 h2 => s6 b (by omega))
    have T6 : TV f6 t so (nI M) g := T.fr (s6 t (by omega)) (s6 (t + 1) (by omega))
    have hw6 : wgx all P p y5 := by
      intro i hi hip hbi
      rw [hy5 2 (by omega), hy5 3 (by omega), hy3 2 (by omega), hy3 3 (by omega)]
      exact hw2 i hi hip hbi
    obtain ⟨c1, c2, c3, c4, c5, c6', c7⟩ := id O6
    simp (disch := first | omega | decide | assumption | exact Nat.le_of_ble_eq_true rfl) only [s48_59, s48_60, s48_63, s48_65, s48_66, s48_67, s48_68, s48_69, ow_some, true_and, and_true, and_self, if_true, if_false, not_true, not_false_eq_true, Bool.false_eq_true, eq_self, Option.toList, List.cons_append, List.nil_append, ix_in, ix_cl, lt_in, lt_cl, lt_add, ix_one, vu_eq, vu_ne, arI_mk, arL_mk, arY_mZ, arY_mB, alen_mI, fld_sfl_ne, fld_sfl_same, Option.isSome_some, pok_i, b1z, b01, z10, b1o, Int32.zero_add, vu_vu, upd_eq, upd_ne, true_or, or_true, c1, c2]
    refine k48_71 O6.cn (Nat.le_of_ble_eq_true rfl) (sp_agrees L6 V6 W6 G I hd O6 hq T6 hM ht ha hok hp hb hw6 (by rw [upd_eq]) (by rw [upd_eq])) ?_
    rintro f7 n7 k7 v7 ⟨rfl, rfl, s7, ⟨y7, L7, hw7⟩, rfl⟩
    have O7 : RV f7 q rm2 (upd ab2 b (wt all p (nI b) 0)) (upd pb2 b (wt all p (nI b) 1)) := O6.fr (s7 148 (by omega)) (s7 156 (by omega)) (s7 157 (by omega)) (s7 158 (by omega))
    obtain ⟨e1, e2, e3, e4, e5, e6, e7⟩ := id O7
    have e5y := arY_Z e5
    simp (disch := first | omega | decide | assumption | exact Nat.le_of_ble_eq_true rfl) only [y48_74, ow_some, true_and, and_true, and_self, if_true, if_false, not_true, not_false_eq_true, Bool.false_eq_true, eq_self, Option.toList, List.cons_append, List.nil_append, ix_in, ix_cl, lt_in, lt_cl, lt_add, ix_one, vu_eq, vu_ne, arI_mk, arL_mk, arY_mZ, arY_mB, alen_mI, fld_sfl_ne, fld_sfl_same, Option.isSome_some, pok_i, b1z, b01, z10, b1o, Int32.zero_add, vu_vu, upd_eq, upd_ne, true_or, or_true, e5y, nar_bI]
    have O8 := O7.u6 (g := upd rm2 b (bI (c_fit all S P g M p b)))
    have L8 := L7.fr (f' := va_up f7 156 (.inl (.boolean, 100, .inl (upd rm2 b (bI (c_fit all S P g M p b)))))) (fun b h1 h2 => vu_ne (by omega))
    have s8 : SI 151 159 f (va_up f7 156 (.inl (.boolean, 100, .inl (upd rm2 b (bI (c_fit all S P g M p b)))))) := (s6.tr (s7.wd (by omega) (by omega))).tr (SI.up (by omega) (by omega))
    generalize va_up f7 156 (.inl (.boolean, 100, .inl (upd rm2 b (bI (c_fit all S P g M p b))))) = f8 at O8 L8 s8 ⊢
    have g2 := O8.2.1
    have g5y := arY_Z O8.2.2.2.2.1
    have hcs := cnt_s (c := c_fit all S P g M p) (n := b)
    have hnew : ∀ i, i < b + 1 → upd rm2 b (bI (c_fit all S P g M p b)) i = bI (c_fit all S P g M p i) ∧ upd ab2 b (wt all p (nI b) 0) i = wt all p (nI i) 0 ∧ upd pb2 b (wt all p (nI b) 1) i = wt all p (nI i) 1 := by
      intro i hi
      by_cases hib : i = b
      · subst hib; rw [upd_eq, upd_eq, upd_eq]; exact ⟨rfl, rfl, rfl⟩
      · rw [upd_ne hib, upd_ne hib, upd_ne hib]; exact hk i (by omega)
    have b0 := bI_0 (b := c_fit all S P g M p b)
    by_cases hfit : c_fit all S P g M p b = true
    · have b0' : (¬ (c_fit all S P g M p b = true)) = False := eq_false (fun z => z hfit)
      rw [if_pos hfit] at hcs
      simp (disch := first | omega | decide | assumption | exact Nat.le_of_ble_eq_true rfl) only [s48_75, s48_76, s48_79, y48_81, s48_82, s48_85, s48_88, h48_91, ow_some, true_and, and_true, and_self, if_true, if_false, not_true, not_false_eq_true, Bool.false_eq_true, eq_self, Option.toList, List.cons_append, List.nil_append, ix_in, ix_cl, lt_in, lt_cl, lt_add, ix_one, vu_eq, vu_ne, arI_mk, arL_mk, arY_mZ, arY_mB, alen_mI, fld_sfl_ne, fld_sfl_same, Option.isSome_some, pok_i, b1z, b01, z10, b1o, Int32.zero_add, vu_vu, upd_eq, upd_ne, true_or, or_true, g2, g5y, b0, b0']
      exact hI _ (y7, _, _, _, z + 1) ⟨s8, L8, O8, hw7, hnew, by dsimp only; rw [hz]; exact hcs.symm⟩
    · have b0' : (¬ (c_fit all S P g M p b = true)) = True := eq_true hfit
      rw [if_neg hfit] at hcs
      simp (disch := first | omega | decide | assumption | exact Nat.le_of_ble_eq_true rfl) only [s48_75, s48_76, s48_79, y48_81, s48_82, s48_85, s48_88, h48_91, ow_some, true_and, and_true, and_self, if_true, if_false, not_true, not_false_eq_true, Bool.false_eq_true, eq_self, Option.toList, List.cons_append, List.nil_append, ix_in, ix_cl, lt_in, lt_cl, lt_add, ix_one, vu_eq, vu_ne, arI_mk, arL_mk, arY_mZ, arY_mB, alen_mI, fld_sfl_ne, fld_sfl_same, Option.isSome_some, pok_i, b1z, b01, z10, b1o, Int32.zero_add, vu_vu, upd_eq, upd_ne, true_or, or_true, g2, g5y, b0, b0']
      exact hI _ (y7, _, _, _, z) ⟨s8, L8, O8, hw7, hnew, by dsimp only; rw [hz]; exact hcs.symm⟩
  · rintro e ⟨y2, rm2, ab2, pb2, z⟩ ⟨s2, L2, O2, hw2, hk, hz⟩
    dsimp only at hk hz
    simp (disch := first | omega | decide | assumption | exact Nat.le_of_ble_eq_true rfl) only [s48_14, s48_16, s48_18, s48_94, s48_96, ow_some, true_and, and_true, and_self, if_true, if_false, not_true, not_false_eq_true, Bool.false_eq_true, eq_self, Option.toList, List.cons_append, List.nil_append, ix_in, ix_cl, lt_in, lt_cl, lt_add, ix_one, vu_eq, vu_ne, arI_mk, arL_mk, arY_mZ, arY_mB, alen_mI, fld_sfl_ne, fld_sfl_same, Option.isSome_some, pok_i, b1z, b01, z10, b1o, Int32.zero_add, vu_vu, upd_eq, upd_ne, true_or, or_true, lt_le, Nat.le_refl]
    exact ⟨rfl, rfl, s2, ⟨y2, rm2, ab2, pb2, L2, O2, hw2, hk⟩, by rw [hz]⟩
theorem sp_first {X : Nat × (Nat → Int32)} {d N K q : Nat} {f : Nat → e_C} {rm ab pb : Nat → Int32} {c : Nat → Bool} (O : RV f q rm ab pb) (hc : ∀ b, b < 100 → rm b = bI (c b)) {u1 : Value} : PU X d 51 [.ref 148, u1] f N K (some (.int (oI (m_fi c 100 0)))) := by
  have g2 := O.2.1
  have g5 := arY_Z O.2.2.2.2.1
  unfold PU
  simp (disch := first | omega | decide | assumption | exact Nat.le_of_ble_eq_true rfl) only [s51_0, h51_1, ow_some, true_and, and_true, and_self, if_true, if_false, not_true, not_false_eq_true, Bool.false_eq_true, eq_self, Option.toList, List.cons_append, List.nil_append, ix_in, ix_cl, lt_in, lt_cl, lt_add, ix_one, vu_eq, vu_ne, arI_mk, arL_mk, arY_mZ, arY_mB, alen_mI, fld_sfl_ne, fld_sfl_same, Option.isSome_some, pok_i, b1z, b01, z10, b1o, Int32.zero_add, vu_vu, upd_eq, upd_ne, true_or, or_true]
  suffices h : ∀ m b, b + m = 100 → TH X d 51 2 [.ref 148, .int (nI b)] [] f N K (fun f' n' k' v => f' = f ∧ n' = N ∧ k' = K ∧ v = some (.int (oI (m_fi c m b)))) from h 100 0 rfl
  intro m
  induction m with
  | zero =>
    intro b hb
    unfold TH
    have h1 : (100 ≤ b) = True := eq_true (by omega)
    simp (disch := first | omega | decide | assumption | exact Nat.le_of_ble_eq_true rfl) only [s51_2, s51_3, s51_5, s51_25, s51_26, ow_some, true_and, and_true, and_self, if_true, if_false, not_true, not_false_eq_true, Bool.false_eq_true, eq_self, Option.toList, List.cons_append, List.nil_append, ix_in, ix_cl, lt_in, lt_cl, lt_add, ix_one, vu_eq, vu_ne, arI_mk, arL_mk, arY_mZ, arY_mB, alen_mI, fld_sfl_ne, fld_sfl_same, Option.isSome_some, pok_i, b1z, b01, z10, b1o, Int32.zero_add, vu_vu, upd_eq, upd_ne, true_or, or_true, lt_le, h1]
    rfl
  | succ m ih =>
    intro b hb
    unfold TH
    have h1 : (100 ≤ b) = False := eq_false (by omega)
    have hr := hc b (by omega)
    have b0 := bI_0 (b := c b)
    rw [m_fi_s m]
    by_cases hcb : c b = true
    · have b0' : (¬ (c b = true)) = False := eq_false (fun z => z hcb)
      rw [if_pos hcb]
      simp (disch := first | omega | decide | assumption | exact Nat.le_of_ble_eq_true rfl) only [s51_2, s51_3, s51_5, s51_8, s51_9, s51_12, y51_13, s51_14, s51_17, s51_18, ow_some, true_and, and_true, and_self, if_true, if_false, not_true, not_false_eq_true, Bool.false_eq_true, eq_self, Option.toList, List.cons_append, List.nil_append, ix_in, ix_cl, lt_in, lt_cl, lt_add, ix_one, vu_eq, vu_ne, arI_mk, arL_mk, arY_mZ, arY_mB, alen_mI, fld_sfl_ne, fld_sfl_same, Option.isSome_some, pok_i, b1z, b01, z10, b1o, Int32.zero_add, vu_vu, upd_eq, upd_ne, true_or, or_true, lt_le, h1, g2, g5, hr, b0, b0']
      rfl
    · have b0' : (¬ (c b = true)) = True := eq_true hcb
      rw [if_neg hcb]
      simp (disch := first | omega | decide | assumption | exact Nat.le_of_ble_eq_true rfl) only [s51_2, s51_3, s51_5, s51_8, s51_9, s51_12, y51_13, s51_14, s51_19, h51_22, ow_some, true_and, and_true, and_self, if_true, if_false, not_true, not_false_eq_true, Bool.false_eq_true, eq_self, Option.toList, List.cons_append, List.nil_append, ix_in, ix_cl, lt_in, lt_cl, lt_add, ix_one, vu_eq, vu_ne, arI_mk, arL_mk, arY_mZ, arY_mB, alen_mI, fld_sfl_ne, fld_sfl_same, Option.isSome_some, pok_i, b1z, b01, z10, b1o, Int32.zero_add, vu_vu, upd_eq, upd_ne, true_or, or_true, lt_le, h1, g2, g5, hr, b0, b0']
      exact ih (b + 1) (by omega)
theorem fi_bd {c : Nat → Bool} : m_bd c 0 100 = m_fi c 100 0 := by
  have h10 : ¬ (0 : Int32) = 1 := by decide
  have key : ∀ n, n ≤ 100 → m_fi c 100 0 = match m_bd c 0 n with
    | some x => some x
    | none => m_fi c (100 - n) n := by
    intro n
    induction n with
    | zero => intro _; rfl
    | succ n ih =>
      intro hn
      have h1 := ih (by omega)
      rw [h1, bd_s]
      cases hb : m_bd c 0 n with
      | some x => simp [h10]
      | none =>
        rw [show 100 - n = (100 - (n + 1)) + 1 by omega, m_fi_s]
        cases hc : c n <;> simp
  have := key 100 (Nat.le_refl _)
  rw [this]
  cases hb : m_bd c 0 100 with
  | some x => rfl
  | none => rfl
theorem sp_last {X : Nat × (Nat → Int32)} {d N K q : Nat} {f : Nat → e_C} {rm ab pb : Nat → Int32} {c : Nat → Bool} (O : RV f q rm ab pb) (hc : ∀ b, b < 100 → rm b = bI (c b)) {u1 : Value} : PU X d 52 [.ref 148, u1] f N K (some (.int (oI (m_bd c 1 100)))) := by
  have g2 := O.2.1
  have g5 := arY_Z O.2.2.2.2.1
  unfold PU
  have h0 : TH X d 52 3 [.ref 148, .int 99] [] f N K (fun f' n' k' v => f' = f ∧ n' = N ∧ k' = K ∧ v = some (.int (oI (m_bd c 1 100)))) := by
    suffices h : ∀ n, n ≤ 100 → m_bd c 1 100 = m_bd c 1 n → TH X d 52 3 [.ref 148, .int (if n = 0 then -1 else nI (n - 1))] [] f N K (fun f' n' k' v => f' = f ∧ n' = N ∧ k' = K ∧ v = some (.int (oI (m_bd c 1 100)))) from h 100 (Nat.le_refl _) rfl
    intro n
    induction n with
    | zero =>
      intro _ he
      unfold TH
      have hm : ((-1 : Int32) < 0) = True := by decide
      rw [if_pos rfl, he]
      simp (disch := first | omega | decide | assumption | exact Nat.le_of_ble_eq_true rfl) only [s52_3, s52_4, s52_24, s52_25, ow_some, true_and, and_true, and_self, if_true, if_false, not_true, not_false_eq_true, Bool.false_eq_true, eq_self, Option.toList, List.cons_append, List.nil_append, ix_in, ix_cl, lt_in, lt_cl, lt_add, ix_one, vu_eq, vu_ne, arI_mk, arL_mk, arY_mZ, arY_mB, alen_mI, fld_sfl_ne, fld_sfl_same, Option.isSome_some, pok_i, b1z, b01, z10, b1o, Int32.zero_add, vu_vu, upd_eq, upd_ne, true_or, or_true, hm]
      rfl
    | succ n ih =>
      intro hn he
      unfold TH
      have hz : ¬ n + 1 = 0 := by omega
      rw [if_neg hz, show n + 1 - 1 = n by omega]
      have hm : (nI n < 0) = False := eq_false (nI_pos (by omega))
      have hr := hc n (by omega)
      have b0 := bI_0 (b := c n)
      have hs := bd_s (c := c) (w := 1) (n := n)
      by_cases hcb : c n = true
      · have b0' : (¬ (c n = true)) = False := eq_false (fun z => z hcb)
        have e1 : m_bd c 1 100 = some n := by rw [he, hs, hcb]; simp
        rw [e1]
        simp (disch := first | omega | decide | assumption | exact Nat.le_of_ble_eq_true rfl) only [s52_3, s52_4, s52_7, s52_8, s52_11, y52_12, s52_13, s52_16, s52_17, ow_some, true_and, and_true, and_self, if_true, if_false, not_true, not_false_eq_true, Bool.false_eq_true, eq_self, Option.toList, List.cons_append, List.nil_append, ix_in, ix_cl, lt_in, lt_cl, lt_add, ix_one, vu_eq, vu_ne, arI_mk, arL_mk, arY_mZ, arY_mB, alen_mI, fld_sfl_ne, fld_sfl_same, Option.isSome_some, pok_i, b1z, b01, z10, b1o, Int32.zero_add, vu_vu, upd_eq, upd_ne, true_or, or_true, hm, g2, g5, hr, b0, b0']
        rfl
      · have b0' : (¬ (c n = true)) = True := eq_true hcb
        have e1 : m_bd c 1 100 = m_bd c 1 n := by rw [he, hs, Bool.eq_false_iff.mpr hcb]; rfl
        have em : nI n + Int32.ofInt (-1) = if n = 0 then -1 else nI (n - 1) := by
          by_cases h : n = 0
          · subst h; rw [if_pos rfl]; decide
          · rw [if_neg h]
            obtain ⟨k, rfl⟩ : ∃ k, n = k + 1 := ⟨n - 1, by omega⟩
            exact pk_m1 k
        simp (disch := first | omega | decide | assumption | exact Nat.le_of_ble_eq_true rfl) only [s52_3, s52_4, s52_7, s52_8, s52_11, y52_12, s52_13, s52_18, h52_21, ow_some, true_and, and_true, and_self, if_true, if_false, not_true, not_false_eq_true, Bool.false_eq_true, eq_self, Option.toList, List.cons_append, List.nil_append, ix_in, ix_cl, lt_in, lt_cl, lt_add, ix_one, vu_eq, vu_ne, arI_mk, arL_mk, arY_mZ, arY_mB, alen_mI, fld_sfl_ne, fld_sfl_same, Option.isSome_some, pok_i, b1z, b01, z10, b1o, Int32.zero_add, vu_vu, upd_eq, upd_ne, true_or, or_true, hm, g2, g5, hr, b0, b0', em]
        exact ih (by omega) e1
  simp (disch := first | omega | decide | assumption | exact Nat.le_of_ble_eq_true rfl) only [s52_0, h52_2, ow_some, true_and, and_true, and_self, if_true, if_false, not_true, not_false_eq_true, Bool.false_eq_true, eq_self, Option.toList, List.cons_append, List.nil_append, ix_in, ix_cl, lt_in, lt_cl, lt_add, ix_one, vu_eq, vu_ne, arI_mk, arL_mk, arY_mZ, arY_mB, alen_mI, fld_sfl_ne, fld_sfl_same, Option.isSome_some, pok_i, b1z, b01, z10, b1o, Int32.zero_add, vu_vu, upd_eq, upd_ne, true_or, or_true]
  exact h0

/-! the class: rooms -/
def RV (f : Nat → e_C) (q : Nat) (rm ab pb : Nat → Int32) : Prop := fld (f 148) 4 0 = some (.ref q) ∧ fld (f 148) 4 1 = some (.ref 156) ∧ fld (f 148) 4 2 = some (.ref 157) ∧ fld (f 148) 4 3 = some (.ref 158) ∧ arZ (f 156) = some (100, rm) ∧ arI (f 157) = some (100, ab) ∧ arI (f 158) = some (100, pb)
theorem RV.cn {f : Nat → e_C} {q : Nat} {rm ab pb : Nat → Int32} (h : RV f q rm ab pb) : cno (f 148) = some 4 := cno_fld (j := 0) (by rw [h.1]; rfl)
theorem RV.fr {f f' : Nat → e_C} {q : Nat} {rm ab pb : Nat → Int32} (h : RV f q rm ab pb) (h1 : f' 148 = f 148) (h2 : f' 156 = f 156) (h3 : f' 157 = f 157) (h4 : f' 158 = f 158) : RV f' q rm ab pb := by unfold RV; rw [h1, h2, h3, h4]; exact h
theorem RV.u6 {f : Nat → e_C} {q : Nat} {rm ab pb g : Nat → Int32} (h : RV f q rm ab pb) : RV (va_up f 156 (.inl (.boolean, 100, .inl g))) q g ab pb := by
  obtain ⟨a1, a2, a3, a4, a5, a6, a7⟩ := h
  exact ⟨by rw [vu_ne (by decide)]; exact a1, by rw [vu_ne (by decide)]; exact a2, by rw [vu_ne (by decide)]; exact a3, by rw [vu_ne (by decide)]; exact a4, by rw [vu_eq]; rfl, by rw [vu_ne (by decide)]; exact a6, by rw [vu_ne (by decide)]; exact a7⟩
theorem RV.u7 {f : Nat → e_C} {q : Nat} {rm ab pb g : Nat → Int32} (h : RV f q rm ab pb) : RV (va_up f 157 (.inl (.int, 100, .inl g))) q rm g pb := by
  obtain ⟨a1, a2, a3, a4, a5, a6, a7⟩ := h
  exact ⟨by rw [vu_ne (by decide)]; exact a1, by rw [vu_ne (by decide)]; exact a2, by rw [vu_ne (by decide)]; exact a3, by rw [vu_ne (by decide)]; exact a4, by rw [vu_ne (by decide)]; exact a5, by rw [vu_eq]; rfl, by rw [vu_ne (by decide)]; exact a7⟩
theorem RV.u8 {f : Nat → e_C} {q : Nat} {rm ab pb g : Nat → Int32} (h : RV f q rm ab pb) : RV (va_up f 158 (.inl (.int, 100, .inl g))) q rm ab g := by
  obtain ⟨a1, a2, a3, a4, a5, a6, a7⟩ := h
  exact ⟨by rw [vu_ne (by decide)]; exact a1, by rw [vu_ne (by decide)]; exact a2, by rw [vu_ne (by decide)]; exact a3, by rw [vu_ne (by decide)]; exact a4, by rw [vu_ne (by decide)]; exact a5, by rw [vu_ne (by decide)]; exact a6, by rw [vu_eq]; rfl⟩
/-- weighed but for p -/
def wgx (all : Nat → Int32) (P p0 : Nat) (y : Nat → Nat → Int32) : Prop := ∀ p, p < P → p ≠ p0 → (nT all).testBit p = true → y 2 p = wt all p (all (66 + p)) 0 ∧ (all (43 + p) ≠ -1 → y 3 p = wt all p (all (66 + p)) 1)
theorem wgx_up {all : Nat → Int32} {P p : Nat} {y : Nat → Nat → Int32} {g : Nat → Int32} (h : wgx all P p y) : wgx all P p (up2 y 4 g) := fun i hi hip hb => by
  rw [up2_ne (show 2 ≠ 4 by decide), up2_ne (show 3 ≠ 4 by decide)]; exact h i hi hip hb
theorem dif_sub {T s : Nat} (hT : T < 512) : sub (dif T s) T = true := sub_iff.mpr (fun i hi => by rw [dif_bit hT] at hi; simp only [Bool.and_eq_true] at hi; exact hi.1)
theorem alt_bears {all : Nat → Int32} {S R P p p0 b T : Nat} {y : Nat → Nat → Int32} (I : IS all S R P) (hw : wgx all P p0 y) (h2 : y 2 p0 = wt all p0 (nI b) 0) (h3 : y 3 p0 = wt all p0 (nI b) 1) (hb : b < 100) (hp0 : p0 < 9) (hp : p < P) (hs : sub T (nT all) = true) (hT : T.testBit p = true) : (if m_wed all p T = 1 then y 3 p else y 2 p) = m_bears (upd all (66 + p0) (nI b)) p T := by
  have h9 := I.p9
  have hn : ∀ i, i ≠ 66 + p0 → upd all (66 + p0) (nI b) i = all i := fun i h => upd_ne h
  have hl : lw2 (upd all (66 + p0) (nI b)) := lw2_cg I.lw (fun i hi => hn i (by omega))
  have hvb : vb (upd all (66 + p0) (nI b) (66 + p)) 100 := by
    by_cases h : p = p0
    · subst h; rw [upd_eq]; exact ⟨b, hb, rfl⟩
    · rw [hn _ (by omega)]; exact I.bd hp
  rw [bears_str hl hvb, hn 56 (by omega), hn (75 + p) (by omega), hn (57 + p) (by omega), wed_cg (all := all) (hn (43 + p) (by omega)), c_str_cg (all := all) (fun i hi => hn i (by omega))]
  by_cases h : p = p0
  · subst h
    rw [upd_eq]
    rcases wed_01 (all := all) (p := p) (T := T) with ⟨h1, -⟩ | h0
    · rw [h1, if_pos rfl]; exact h3
    · rw [h0, if_neg (by decide)]; exact h2
  · rw [hn _ (by omega)]
    obtain ⟨a1, a2⟩ := hw p hp h (sub_iff.mp hs p hT)
    rcases wed_01 (all := all) (p := p) (T := T) with ⟨h1, hne⟩ | h0
    · rw [h1, if_pos rfl]; exact a2 hne
    · rw [h0, if_neg (by decide)]; exact a1
theorem sp_stdBy {X : Nat × (Nat → Int32)} {d N K a pl C S R P q : Nat} {f : Nat → e_C} {y x r : Nat → Nat → Int32} {w v all rm ab pb : Nat → Int32} (L : LV f q y) (V : SV f a pl w x) (W : PV f pl v r C) (G : CR all S P w x v r C) (I : IS all S R P) (hd : AD a pl q) (O : RV f q rm ab pb) (hq : q = 149) {o p b : Nat} (hp : p < P) (hb : b < 100) (hw : wgx all P p y) (h7 : ab b = wt all p (nI b) 0) (h8 : pb b = wt all p (nI b) 1) : TT X (d + 3) 50 0 [.ref 148, .ref a, .int (nI o), .int (nI p), .int (nI b)] [] f N K (fun f' n' k' z => n' = N ∧ k' = K ∧ SI 151 156 f f' ∧ (∃ y', LV f' q y' ∧ wgx all P p y') ∧ z = some (.int (bI (m_hold (upd all (66 + p) (nI b)) S P (dif (nT all) o))))) := by
  have h9 := I.p9
  have t5 := I.t5
  have hT : w 6 = nI (nT all) := by rw [G.w6]; exact I.eT
  obtain ⟨a1, a2, a3, a4, a5, a6, a7⟩ := O
  simp (disch := first | omega | decide | assumption | exact Nat.le_of_ble_eq_true rfl) only [s50_0, s50_1, s50_4, s50_7, s50_8, s50_9, s50_12, s50_14, s50_15, ow_some, true_and, and_true, and_self, if_true, if_false, not_true, not_false_eq_true, Bool.false_eq_true, eq_self, Option.toList, List.cons_append, List.nil_append, ix_in, ix_cl, lt_in, lt_cl, lt_add, ix_one, vu_eq, vu_ne, arI_mk, arL_mk, arY_mZ, arY_mB, alen_mI, fld_sfl_ne, fld_sfl_same, Option.isSome_some, pok_i, b1z, b01, z10, b1o, Int32.zero_add, vu_vu, upd_eq, upd_ne, true_or, or_true, L.r0, L.r1, L.r2, L.r3, L.l0, L.l1, L.a0, L.a1, L.a2, L.a3, L.a4, a1, a3, a6, h7]
  have L2 := L.s2 (g := upd (y 2) p (wt all p (nI b) 0))
  have s2 : SI 151 156 f (va_up f (q + 4) (.inl (.int, 9, .inl (upd (y 2) p (wt all p (nI b) 0))))) := SI.up (by omega) (by omega)
  generalize va_up f (q + 4) (.inl (.int, 9, .inl (upd (y 2) p (wt all p (nI b) 0)))) = f2 at L2 s2 ⊢
  have b1 : fld (f2 148) 4 0 = some (.ref q) := by rw [s2 148 (by omega)]; exact a1
  have b4 : fld (f2 148) 4 3 = some (.ref 158) := by rw [s2 148 (by omega)]; exact a4
  have b7 : arI (f2 158) = some (100, pb) := by rw [s2 158 (by omega)]; exact a7
  simp (disch := first | omega | decide | assumption | exact Nat.le_of_ble_eq_true rfl) only [s50_16, s50_17, s50_20, s50_23, s50_24, s50_25, s50_28, s50_30, s50_31, ow_some, true_and, and_true, and_self, if_true, if_false, not_true, not_false_eq_true, Bool.false_eq_true, eq_self, Option.toList, List.cons_append, List.nil_append, ix_in, ix_cl, lt_in, lt_cl, lt_add, ix_one, vu_eq, vu_ne, arI_mk, arL_mk, arY_mZ, arY_mB, alen_mI, fld_sfl_ne, fld_sfl_same, Option.isSome_some, pok_i, b1z, b01, z10, b1o, Int32.zero_add, vu_vu, upd_eq, upd_ne, true_or, or_true, L2.r0, L2.r1, L2.r2, L2.r3, L2.l0, L2.l1, L2.a0, L2.a1, L2.a2, L2.a3, L2.a4, b1, b4, b7, h8, up2_ne]
  have L3 := L2.s3 (g := upd (y 3) p (wt all p (nI b) 1))
  have s3 : SI 151 156 f (va_up f2 (q + 5) (.inl (.int, 9, .inl (upd (y 3) p (wt all p (nI b) 1))))) := s2.tr (SI.up (by omega) (by omega))
  generalize va_up f2 (q + 5) (.inl (.int, 9, .inl (upd (y 3) p (wt all p (nI b) 1)))) = f3 at L3 s3 ⊢
  have c1 : fld (f3 148) 4 0 = some (.ref q) := by rw [s3 148 (by omega)]; exact a1
  have V3 := V.fr (f' := f3) (fun b h1 h2 => s3 b (by omega))
  have W3 := W.fr (f' := f3) (fun b h1 h2 => s3 b (by omega))
  have hdn := dif_nI (T := nT all) (s := o) t5
  have hdl := dif_lt (T := nT all) (s := o) t5
  have hw3 : wgx all P p (up2 (up2 y 2 (upd (y 2) p (wt all p (nI b) 0))) 3 (upd (y 3) p (wt all p (nI b) 1))) := by
    intro i hi hip hbi
    rw [up2_eq, up2_ne (by decide), up2_eq, upd_ne hip, upd_ne hip]
    exact hw i hi hip hbi
  simp (disch := first | omega | decide | assumption | exact Nat.le_of_ble_eq_true rfl) only [s50_32, s50_33, s50_36, s50_37, s50_38, s50_41, s50_42, s50_43, s50_44, ow_some, true_and, and_true, and_self, if_true, if_false, not_true, not_false_eq_true, Bool.false_eq_true, eq_self, Option.toList, List.cons_append, List.nil_append, ix_in, ix_cl, lt_in, lt_cl, lt_add, ix_one, vu_eq, vu_ne, arI_mk, arL_mk, arY_mZ, arY_mB, alen_mI, fld_sfl_ne, fld_sfl_same, Option.isSome_some, pok_i, b1z, b01, z10, b1o, Int32.zero_add, vu_vu, upd_eq, upd_ne, true_or, or_true, V3.v1, V3.v6, V3.v7, V3.v8, V3.v9, V3.i1, V3.i6, V3.i7, V3.i8, V3.i9, V3.r2, V3.r3, V3.r4, V3.r5, V3.pl, V3.a2, V3.a3, V3.a4, V3.a5, c1, hT, hdn]
  refine k50_45 L3.cn (Nat.le_of_ble_eq_true rfl) (sp_slackOf' L3 V3 W3 G I hd (alt := upd all (66 + p) (nI b)) (fun i hi => upd_ne (by omega)) hdl (fun i hi hbi => alt_bears I hw3 (by rw [up2_ne (by decide), up2_eq, upd_eq]) (by rw [up2_eq, upd_eq]) hb (by omega) hi (dif_sub t5) hbi)) ?_
  rintro f4 n4 k4 v4 ⟨rfl, rfl, s4, ⟨g4, L4, hg4⟩, rfl⟩
  have hh := sp_lt0 (all := upd all (66 + p) (nI b)) (S := S) (P := P) (T := dif (nT all) o)
  have fin : SI 151 156 f f4 ∧ ∃ y', LV f4 q y' ∧ wgx all P p y' := ⟨s3.tr (s4.wd (by omega) (by omega)), _, L4, wgx_up hw3⟩
  generalize m_sp (upd all (66 + p) (nI b)) S P (dif (nT all) o) = zz at hh ⊢
  generalize m_hold (upd all (66 + p) (nI b)) S P (dif (nT all) o) = bb at hh ⊢
  cases bb with
  | true =>
    have hm' : (zz < 0) = False := by rw [hh]; exact eq_false (fun z => z rfl)
    simp (disch := first | omega | decide | assumption | exact Nat.le_of_ble_eq_true rfl) only [s50_48, s50_51, s50_52, s50_55, s50_56, ow_some, true_and, and_true, and_self, if_true, if_false, not_true, not_false_eq_true, Bool.false_eq_true, eq_self, Option.toList, List.cons_append, List.nil_append, ix_in, ix_cl, lt_in, lt_cl, lt_add, ix_one, vu_eq, vu_ne, arI_mk, arL_mk, arY_mZ, arY_mB, alen_mI, fld_sfl_ne, fld_sfl_same, Option.isSome_some, pok_i, b1z, b01, z10, b1o, Int32.zero_add, vu_vu, upd_eq, upd_ne, true_or, or_true, hm']
    exact ⟨fin.1, fin.2, rfl⟩
  | false =>
    have hm' : (zz < 0) = True := by rw [hh]; exact eq_true (by decide)
    simp (disch := first | omega | decide | assumption | exact Nat.le_of_ble_eq_true rfl) only [s50_48, s50_51, s50_52, s50_55, s50_56, ow_some, true_and, and_true, and_self, if_true, if_false, not_true, not_false_eq_true, Bool.false_eq_true, eq_self, Option.toList, List.cons_append, List.nil_append, ix_in, ix_cl, lt_in, lt_cl, lt_add, ix_one, vu_eq, vu_ne, arI_mk, arL_mk, arY_mZ, arY_mB, alen_mI, fld_sfl_ne, fld_sfl_same, Option.isSome_some, pok_i, b1z, b01, z10, b1o, Int32.zero_add, vu_vu, upd_eq, upd_ne, true_or, or_true, hm']
    exact ⟨fin.1, fin.2, rfl⟩
set_option maxRecDepth 100000 in
theorem tr_t : ∀ m, m < 1024 → ((nI m).toInt64 >>> ((1 : Int32).toInt64 &&& 63)).toInt32 = nI (m / 2) ∧ (lg_cmp ((nI m).toInt64 &&& 1) 1 = 0) = (m % 2 = 1) := by
  have h : ∀ m, m < 1024 → ((nI m).toInt64 >>> ((1 : Int32).toInt64 &&& 63)).toInt32 = nI (m / 2) ∧ decide (lg_cmp ((nI m).toInt64 &&& 1) 1 = 0) = decide (m % 2 = 1) := by decide +kernel
  intro m hm
  exact ⟨(h m hm).1, propext (decide_eq_decide.mp (h m hm).2)⟩
/-- trials that a build fits -/
def c_c (all : Nat → Int32) (S P : Nat) (g : Nat → Int64) (p b i : Nat) : Bool := m_hold (upd all (66 + p) (nI b)) S P (dif (nT all) ((g i).toInt.toNat / 2)) == decide ((g i).toInt.toNat % 2 = 1)
def c_fit (all : Nat → Int32) (S P : Nat) (g : Nat → Int64) (M p b : Nat) : Bool := allB (c_c all S P g p b) M
theorem tok_v {all : Nat → Int32} {v : Int64} (h : t_ok all v = true) : ∃ m, m < 1024 ∧ v = (nI m).toInt64 ∧ v.toInt = m ∧ sub (m / 2) (nT all) = true := by
  unfold t_ok at h
  simp only [Bool.and_eq_true, decide_eq_true_eq] at h
  obtain ⟨m, h1, h2, h3⟩ := l9 (v := v) (N := 1024) h.1.1 (by omega) (by omega)
  refine ⟨m, h1, h2, h3, ?_⟩
  have := h.2
  rw [h3] at this
  exact this
theorem sp_agrees {X : Nat × (Nat → Int32)} {d N K a pl C S R P q : Nat} {f : Nat → e_C} {y x r : Nat → Nat → Int32} {w v all rm ab pb : Nat → Int32} (L : LV f q y) (V : SV f a pl w x) (W : PV f pl v r C) (G : CR all S P w x v r C) (I : IS all S R P) (hd : AD a pl q) (O : RV f q rm ab pb) (hq : q = 149) {t M p b : Nat} {so : Int32} {g : Nat → Int64} (T : TV f t so (nI M) g) (hM : M ≤ 40) (ht : 91 ≤ t ∧ t + 1 < 99) (ha : a ≤ 17) (hok : ∀ i, i < M → t_ok all (g i) = true) (hp : p < P) (hb : b < 100) (hw : wgx all P p y) (h7 : ab b = wt all p (nI b) 0) (h8 : pb b = wt all p (nI b) 1) {u5 u6 u7 : Value} : TT X (d + 4) 49 0 [.ref 148, .ref a, .ref t, .int (nI p), .int (nI b), u5, u6, u7] [] f N K (fun f' n' k' z => n' = N ∧ k' = K ∧ SI 151 156 f f' ∧ (∃ y', LV f' q y' ∧ wgx all P p y') ∧ z = some (.int (bI (c_fit all S P g M p b)))) := by
  simp (disch := first | omega | decide | assumption | exact Nat.le_of_ble_eq_true rfl) only [s49_0, h49_1, ow_some, true_and, and_true, and_self, if_true, if_false, not_true, not_false_eq_true, Bool.false_eq_true, eq_self, Option.toList, List.cons_append, List.nil_append, ix_in, ix_cl, lt_in, lt_cl, lt_add, ix_one, vu_eq, vu_ne, arI_mk, arL_mk, arY_mZ, arY_mB, alen_mI, fld_sfl_ne, fld_sfl_same, Option.isSome_some, pok_i, b1z, b01, z10, b1o, Int32.zero_add, vu_vu, upd_eq, upd_ne, true_or, or_true]
  suffices h : ∀ (m i : Nat) (e : Nat → e_C) (y1 : Nat → Nat → Int32) (u6 u7 : Value), i + m = M → SI 151 156 f e → LV e q y1 → wgx all P p y1 → allB (c_c all S P g p b) i = true → TH X (d + 4) 49 3 [.ref 148, .ref a, .ref t, .int (nI p), .int (nI b), .int (nI i), u6, u7] [] e N K (fun f' n' k' z => n' = N ∧ k' = K ∧ SI 151 156 f f' ∧ (∃ y', LV f' q y' ∧ wgx all P p y') ∧ z = some (.int (bI (c_fit all S P g M p b)))) from h M 0 f y u6 u7 (by omega) SI.rf L hw rfl
  intro m
  induction m with
  | zero =>
    intro i e y1 u6 u7 hi s1 L1 hw1 hal
    unfold TH
    have T1 : TV e t so (nI M) g := T.fr (s1 t (by omega)) (s1 (t + 1) (by omega))
    obtain ⟨t0, t1, t2, t3⟩ := T1
    have hc : (M ≤ i) = True := eq_true (by omega)
    have hfit : c_fit all S P g M p b = true := by unfold c_fit; rw [show M = i by omega]; exact hal
    have e1 : bI true = 1 := rfl
    rw [hfit, e1]
    simp (disch := first | omega | decide | assumption | exact Nat.le_of_ble_eq_true rfl) only [s49_3, s49_5, s49_6, s49_9, s49_68, s49_69, ow_some, true_and, and_true, and_self, if_true, if_false, not_true, not_false_eq_true, Bool.false_eq_true, eq_self, Option.toList, List.cons_append, List.nil_append, ix_in, ix_cl, lt_in, lt_cl, lt_add, ix_one, vu_eq, vu_ne, arI_mk, arL_mk, arY_mZ, arY_mB, alen_mI, fld_sfl_ne, fld_sfl_same, Option.isSome_some, pok_i, b1z, b01, z10, b1o, Int32.zero_add, vu_vu, upd_eq, upd_ne, true_or, or_true, t1, ix_le, hc]
    exact ⟨s1, y1, L1, hw1⟩
  | succ m ih =>
    intro i e y1 u6 u7 hi s1 L1 hw1 hal
    unfold TH
    have T1 : TV e t so (nI M) g := T.fr (s1 t (by omega)) (s1 (t + 1) (by omega))
    obtain ⟨t0, t1, t2, t3⟩ := T1
    have V1 := V.fr (f' := e) (fun b h1 h2 => s1 b (by omega))
    have W1 := W.fr (f' := e) (fun b h1 h2 => s1 b (by omega))
    have O1 : RV e q rm ab pb := O.fr (s1 148 (by omega)) (s1 156 (by omega)) (s1 157 (by omega)) (s1 158 (by omega))
    have hc : (M ≤ i) = False := eq_false (by omega)
    obtain ⟨mv, hm1, hm2, hm3, hm4⟩ := tok_v (hok i (by omega))
    obtain ⟨q1, q2⟩ := tr_t mv hm1
    rw [← hm2] at q1 q2
    have egi : (g i).toInt.toNat = mv := by rw [hm3]; rfl
    have ecc : c_c all S P g p b i = (m_hold (upd all (66 + p) (nI b)) S P (dif (nT all) (mv / 2)) == decide (mv % 2 = 1)) := by unfold c_c; rw [egi]
    have go : ∀ z : Int32, z = bI (decide (mv % 2 = 1)) → TT X (d + 4) 49 43 [.ref 148, .ref a, .ref t, .int (nI p), .int (nI b), .int (nI i), .int (nI (mv / 2)), u7] [.int z] e N K (fun f' n' k' z => n' = N ∧ k' = K ∧ SI 151 156 f f' ∧ (∃ y', LV f' q y' ∧ wgx all P p y') ∧ z = some (.int (bI (c_fit all S P g M p b)))) := by
      intro z hz
      simp (disch := first | omega | decide | assumption | exact Nat.le_of_ble_eq_true rfl) only [s49_43, s49_45, s49_46, s49_47, s49_49, s49_50, ow_some, true_and, and_true, and_self, if_true, if_false, not_true, not_false_eq_true, Bool.false_eq_true, eq_self, Option.toList, List.cons_append, List.nil_append, ix_in, ix_cl, lt_in, lt_cl, lt_add, ix_one, vu_eq, vu_ne, arI_mk, arL_mk, arY_mZ, arY_mB, alen_mI, fld_sfl_ne, fld_sfl_same, Option.isSome_some, pok_i, b1z, b01, z10, b1o, Int32.zero_add, vu_vu, upd_eq, upd_ne, true_or, or_true]
      refine k49_52 O1.cn (Nat.le_of_ble_eq_true rfl) (sp_stdBy L1 V1 W1 G I hd O1 hq hp hb hw1 h7 h8) ?_
      rintro f2 n2 k2 v2 ⟨rfl, rfl, s2, ⟨y2, L2, hw2⟩, rfl⟩
      by_cases he : m_hold (upd all (66 + p) (nI b)) S P (dif (nT all) (mv / 2)) = decide (mv % 2 = 1)
      · have hz' : (bI (m_hold (upd all (66 + p) (nI b)) S P (dif (nT all) (mv / 2))) = z) = True := eq_true (by rw [he, hz])
        simp (disch := first | omega | decide | assumption | exact Nat.le_of_ble_eq_true rfl) only [s49_55, s49_57, s49_62, h49_65, ow_some, true_and, and_true, and_self, if_true, if_false, not_true, not_false_eq_true, Bool.false_eq_true, eq_self, Option.toList, List.cons_append, List.nil_append, ix_in, ix_cl, lt_in, lt_cl, lt_add, ix_one, vu_eq, vu_ne, arI_mk, arL_mk, arY_mZ, arY_mB, alen_mI, fld_sfl_ne, fld_sfl_same, Option.isSome_some, pok_i, b1z, b01, z10, b1o, Int32.zero_add, vu_vu, upd_eq, upd_ne, true_or, or_true, hz']
        refine ih (i + 1) f2 y2 _ _ (by omega) (s1.tr s2) L2 hw2 ?_
        rw [allB_iff] at hal ⊢
        intro j hj
        by_cases hji : j = i
        · subst hji; rw [ecc, he]; simp
        · exact hal j (by omega)
      · have hz' : (bI (m_hold (upd all (66 + p) (nI b)) S P (dif (nT all) (mv / 2))) = z) = False := by
          apply eq_false
          rw [hz]
          intro hh
          apply he
          revert hh
          generalize m_hold (upd all (66 + p) (nI b)) S P (dif (nT all) (mv / 2)) = aa
          generalize decide (mv % 2 = 1) = bb
          cases aa <;> cases bb <;> simp [bI]
        have hfit : c_fit all S P g M p b = false := by
          unfold c_fit
          refine allB_no (j := i) (by omega) ?_
          rw [ecc]
          revert he
          generalize m_hold (upd all (66 + p) (nI b)) S P (dif (nT all) (mv / 2)) = aa
          generalize decide (mv % 2 = 1) = bb
          cases aa <;> cases bb <;> simp
        have e1 : bI false = 0 := rfl
        rw [hfit, e1]
        simp (disch := first | omega | decide | assumption | exact Nat.le_of_ble_eq_true rfl) only [s49_55, s49_57, s49_60, s49_61, ow_some, true_and, and_true, and_self, if_true, if_false, not_true, not_false_eq_true, Bool.false_eq_true, eq_self, Option.toList, List.cons_append, List.nil_append, ix_in, ix_cl, lt_in, lt_cl, lt_add, ix_one, vu_eq, vu_ne, arI_mk, arL_mk, arY_mZ, arY_mB, alen_mI, fld_sfl_ne, fld_sfl_same, Option.isSome_some, pok_i, b1z, b01, z10, b1o, Int32.zero_add, vu_vu, upd_eq, upd_ne, true_or, or_true, hz']
        exact ⟨s1.tr s2, y2, L2, hw2⟩
    simp (disch := first | omega | decide | assumption | exact Nat.le_of_ble_eq_true rfl) only [s49_3, s49_5, s49_6, s49_9, s49_12, s49_13, s49_16, s49_18, s49_19, s49_20, s49_21, s49_22, s49_24, s49_25, s49_28, s49_30, s49_31, s49_32, s49_33, s49_34, ow_some, true_and, and_true, and_self, if_true, if_false, not_true, not_false_eq_true, Bool.false_eq_true, eq_self, Option.toList, List.cons_append, List.nil_append, ix_in, ix_cl, lt_in, lt_cl, lt_add, ix_one, vu_eq, vu_ne, arI_mk, arL_mk, arY_mZ, arY_mB, alen_mI, fld_sfl_ne, fld_sfl_same, Option.isSome_some, pok_i, b1z, b01, z10, b1o, Int32.zero_add, vu_vu, upd_eq, upd_ne, true_or, or_true, t1, t2, t3, ix_le, hc, q1]
    simp only [s49_35, q2]
    by_cases hodd : mv % 2 = 1
    · simp only [hodd, not_true, if_false]
      simp (disch := first | omega | decide | assumption | exact Nat.le_of_ble_eq_true rfl) only [s49_38, s49_39, ow_some, true_and, and_true, and_self, if_true, if_false, not_true, not_false_eq_true, Bool.false_eq_true, eq_self, Option.toList, List.cons_append, List.nil_append, ix_in, ix_cl, lt_in, lt_cl, lt_add, ix_one, vu_eq, vu_ne, arI_mk, arL_mk, arY_mZ, arY_mB, alen_mI, fld_sfl_ne, fld_sfl_same, Option.isSome_some, pok_i, b1z, b01, z10, b1o, Int32.zero_add, vu_vu, upd_eq, upd_ne, true_or, or_true]
      exact go 1 (by rw [decide_eq_true hodd]; rfl)
    · simp only [hodd, not_false_eq_true, if_true]
      simp (disch := first | omega | decide | assumption | exact Nat.le_of_ble_eq_true rfl) only [s49_42, ow_some, true_and, and_true, and_self, if_true, if_false, not_true, not_false_eq_true, Bool.false_eq_true, eq_self, Option.toList, List.cons_append, List.nil_append, ix_in, ix_cl, lt_in, lt_cl, lt_add, ix_one, vu_eq, vu_ne, arI_mk, arL_mk, arY_mZ, arY_mB, alen_mI, fld_sfl_ne, fld_sfl_same, Option.isSome_some, pok_i, b1z, b01, z10, b1o, Int32.zero_add, vu_vu, upd_eq, upd_ne, true_or, or_true]
      exact go 0 (by rw [decide_eq_false hodd]; rfl)

/-! the class does deeds -/
theorem pok_b0 : (e_pok .boolean (.int 0) = true) = True := eq_true rfl
theorem pok_b1 : (e_pok .boolean (.int 1) = true) = True := eq_true rfl
def DV (f : Nat → e_C) (sd wy : Int32) : Prop := fld (f 119) 0 0 = some (.ref 120) ∧ fld (f 119) 0 1 = some (.int sd) ∧ fld (f 119) 0 2 = some (.int wy)
theorem DV.cn {f : Nat → e_C} {sd wy : Int32} (h : DV f sd wy) : cno (f 119) = some 0 := cno_fld (j := 0) (by rw [h.1]; rfl)
def SD (a : Nat) (f f' : Nat → e_C) : Prop := ∀ b, ¬ (a ≤ b ∧ b < a + 5) → ¬ (119 ≤ b ∧ b < 127) → f' b = f b
theorem SD.rf {a : Nat} {f : Nat → e_C} : SD a f f := fun _ _ _ => rfl
theorem SD.tr {a : Nat} {f g h : Nat → e_C} (h1 : SD a f g) (h2 : SD a g h) : SD a f h := fun b h3 h4 => (h2 b h3 h4).trans (h1 b h3 h4)
theorem SD.si {a lo hi : Nat} {f g : Nat → e_C} (h : SI lo hi f g) (h1 : 119 ≤ lo) (h2 : hi ≤ 127) : SD a f g := fun b _ h4 => h b (by omega)
theorem SD.up {a b : Nat} {f : Nat → e_C} {c : e_C} (h : (a ≤ b ∧ b < a + 5) ∨ (119 ≤ b ∧ b < 127)) : SD a f (va_up f b c) := fun e h1 h2 => vu_ne (by rintro rfl; rcases h with z | z <;> contradiction)
def DW (f : Nat → e_C) (a pl : Nat) (all : Nat → Int32) (S R P : Nat) (sd wy : Int32) : Prop := ∃ w x v r C y, LV f 120 y ∧ DV f sd wy ∧ SV f a pl w x ∧ PV f pl v r C ∧ CR all S P w x v r C ∧ IS all S R P ∧ AD a pl 120
theorem lr.cg {all all' : Nat → Int32} {law C : Nat} {cc : Nat → Int32} {fm to : Int32} (h : lr all law C cc fm to) (hl : law < 2) (he : ∀ i, i < 52 ∨ 494 ≤ i → all' i = all i) : lr all' law C cc fm to := by
  rcases h with ⟨h0, hf⟩ | ⟨h1, F, M, h5, h7, hfm, hto, hFM, hC9, hcs, hty⟩
  · exact Or.inl ⟨by rw [he _ (by omega)]; exact h0, hf⟩
  · refine Or.inr ⟨by rw [he _ (by omega)]; exact h1, F, M, by rw [he _ (by omega)]; exact h5, by rw [he _ (by omega)]; exact h7, hfm, hto, hFM, hC9, fun i hi => by rw [he _ (by omega)]; exact hcs i hi, ?_⟩
    rw [← hty]
    exact tyr_cg _ _ _ (fun i _ _ => he _ (by omega))
theorem PR.cg {all all' : Nat → Int32} {S C : Nat} {v : Nat → Int32} {r : Nat → Nat → Int32} (h : PR all S v r C) (hS : S ≤ 8) (he : ∀ i, i < 52 ∨ 494 ≤ i → all' i = all i) : PR all' S v r C := by
  obtain ⟨⟨a1, a2, a3⟩, b1, b2, b3, b4, b5, b6, b7⟩ := h
  exact ⟨⟨by rw [he 1 (by omega)]; exact a1, by rw [he 2 (by omega)]; exact a2, by rw [he 0 (by omega)]; exact a3⟩, fun k hk => by rw [he _ (by omega)]; exact b1 k hk, fun i hi => by rw [jnt_cg hS (fun i hi => he i (by omega))]; exact b2 i hi, fun p hp => by rw [he _ (by omega)]; exact b3 p hp, fun p hp => by rw [he _ (by omega)]; exact b4 p hp, fun p hp => by rw [he _ (by omega)]; exact b5 p hp, b6.cg (by omega) he, b7.cg (by omega) he⟩
theorem sp_settle {X : Nat × (Nat → Int32)} {d N K a pl C S R P : Nat} {f : Nat → e_C} {y x r : Nat → Nat → Int32} {w v all : Nat → Int32} {sd wy : Int32} (L : LV f 120 y) (D : DV f sd wy) (V : SV f a pl w x) (W : PV f pl v r C) (G : CR all S P w x v r C) (I : IS all S R P) (hd : AD a pl 120) (hz : all 54 = 0) : TT X (d + 4) 1 0 [.ref 119, .ref a] [] f N K (fun f' n' k' z => n' = N ∧ k' = K ∧ z = none ∧ SD a f f' ∧ DW f' a pl (m_fall all S P (nT all)) S R P sd wy) := by
  have d1 := D.1
  simp (disch := first | omega | decide | assumption | exact Nat.le_of_ble_eq_true rfl) only [s1_0, s1_1, s1_2, s1_5, s1_6, ow_some, true_and, and_true, and_self, if_true, if_false, not_true, not_false_eq_true, Bool.false_eq_true, eq_self, Option.toList, List.cons_append, List.nil_append, ix_in, ix_cl, lt_in, lt_cl, lt_add, ix_one, vu_eq, vu_ne, arI_mk, arL_mk, arY_mZ, arY_mB, alen_mI, fld_sfl_ne, fld_sfl_same, Option.isSome_some, pok_i, b1z, b01, z10, b1o, Int32.zero_add, vu_vu, upd_eq, upd_ne, true_or, or_true, d1]
  refine k1_7 L.cn (Nat.le_of_ble_eq_true rfl) (sp_later L V W G I hd (n := 0) (by omega)) ?_
  rintro f1 n1 k1 v1 ⟨rfl, rfl, s1, ⟨y1, L1, hy1, hr1⟩, rfl⟩
  have V1 := V.fr (f' := f1) (fun b h1 h2 => s1 b (by omega))
  have W1 := W.fr (f' := f1) (fun b h1 h2 => s1 b (by omega))
  have D1 : DV f1 sd wy := by unfold DV; rw [s1 119 (by omega)]; exact D
  rw [lat_0]
  have fin : ∀ z : Int32, z = (if m_hold all S P (nT all) = true then 0 else 1) → SD a f (va_up f1 a (sfl (f1 a) 9 (.int z))) ∧ DW (va_up f1 a (sfl (f1 a) 9 (.int z))) a pl (m_fall all S P (nT all)) S R P sd wy := by
    intro z hz'
    refine ⟨(SD.si s1 (by omega) (by omega)).tr (SD.up (by omega)), upd w 9 z, x, v, r, C, y1, L1.fr (fun b h1 h2 => vu_ne (by omega)), by unfold DV; rw [vu_ne (by omega)]; exact D1, V1.set (by decide), W1.fr (fun b h1 h2 => vu_ne (by omega)), ?_, I.fall, hd⟩
    refine ⟨⟨by rw [upd_ne (by decide), fall_ne (by decide)]; exact G.w1, by rw [upd_ne (by decide), fall_ne (by decide)]; exact G.w6, by rw [upd_ne (by decide), fall_ne (by decide)]; exact G.w7, by rw [upd_ne (by decide), fall_ne (by decide)]; exact G.w8, by rw [upd_eq, fall_54 hz]; exact hz'⟩, fun p hp => ?_, fun p hp => ?_, fun p hp => ?_, fun k hk => by rw [fall_ne (by omega)]; exact G.x5 hk, G.pr.cg I.s8 (fun i hi => fall_ne (by omega))⟩
    · have := I.p9; rw [fall_ne (by omega)]; exact G.x2 hp
    · have := I.p9; rw [fall_ne (by omega)]; exact G.x3 hp
    · have := I.p9; rw [fall_ne (by omega)]; exact G.x4 hp
  by_cases h : 0 ≤ m_sp all S P (nT all)
  · have h' : (0 ≤ m_sp all S P (nT all)) = True := eq_true h
    have hh : m_hold all S P (nT all) = true := by unfold m_hold; exact decide_eq_true h
    simp (disch := first | omega | decide | assumption | exact Nat.le_of_ble_eq_true rfl) only [s1_10, s1_13, s1_14, s1_17, s1_18, s1_21, ow_some, true_and, and_true, and_self, if_true, if_false, not_true, not_false_eq_true, Bool.false_eq_true, eq_self, Option.toList, List.cons_append, List.nil_append, ix_in, ix_cl, lt_in, lt_cl, lt_add, ix_one, vu_eq, vu_ne, arI_mk, arL_mk, arY_mZ, arY_mB, alen_mI, fld_sfl_ne, fld_sfl_same, Option.isSome_some, pok_i, b1z, b01, z10, b1o, Int32.zero_add, vu_vu, upd_eq, upd_ne, true_or, or_true, V1.v1, V1.v6, V1.v7, V1.v8, V1.v9, V1.i1, V1.i6, V1.i7, V1.i8, V1.i9, V1.r2, V1.r3, V1.r4, V1.r5, V1.pl, V1.a2, V1.a3, V1.a4, V1.a5, h', pok_b0, pok_b1]
    exact fin 0 (by rw [if_pos hh])
  · have h' : (0 ≤ m_sp all S P (nT all)) = False := eq_false h
    have hh : ¬ m_hold all S P (nT all) = true := by unfold m_hold; simpa using h
    simp (disch := first | omega | decide | assumption | exact Nat.le_of_ble_eq_true rfl) only [s1_10, s1_13, s1_14, s1_17, s1_18, s1_21, ow_some, true_and, and_true, and_self, if_true, if_false, not_true, not_false_eq_true, Bool.false_eq_true, eq_self, Option.toList, List.cons_append, List.nil_append, ix_in, ix_cl, lt_in, lt_cl, lt_add, ix_one, vu_eq, vu_ne, arI_mk, arL_mk, arY_mZ, arY_mB, alen_mI, fld_sfl_ne, fld_sfl_same, Option.isSome_some, pok_i, b1z, b01, z10, b1o, Int32.zero_add, vu_vu, upd_eq, upd_ne, true_or, or_true, V1.v1, V1.v6, V1.v7, V1.v8, V1.v9, V1.i1, V1.i6, V1.i7, V1.i8, V1.i9, V1.r2, V1.r3, V1.r4, V1.r5, V1.pl, V1.a2, V1.a3, V1.a4, V1.a5, h', pok_b0, pok_b1]
    exact fin 1 (by rw [if_neg hh])
/-- what a deed leaves -/
def DP (f : Nat → e_C) (N K a pl : Nat) (all : Nat → Int32) (S R P : Nat) (sd wy z : Int32) : t_Q := fun f' n' k' v => n' = N ∧ k' = K ∧ SD a f f' ∧ DW f' a pl all S R P sd wy ∧ v = some (.int z)
theorem DW.sd' {f f' : Nat → e_C} {a pl S R P : Nat} {all : Nat → Int32} {sd wy : Int32} (h : DW f a pl all S R P sd wy) (hf : ∀ b, (a ≤ b ∧ b < a + 5) ∨ (119 ≤ b ∧ b < 127) ∨ (pl ≤ b ∧ b < pl + 10) → f' b = f b) : DW f' a pl all S R P sd wy := by
  obtain ⟨w, x, v, r, C, y, L, D, V, W, G, I, hd⟩ := h
  exact ⟨w, x, v, r, C, y, L.fr (fun b h1 h2 => hf b (by omega)), by unfold DV; rw [hf 119 (by omega)]; exact D, V.fr (fun b h1 h2 => hf b (by omega)), W.fr (fun b h1 h2 => hf b (by omega)), G, I, hd⟩
theorem fl_ne {all : Nat → Int32} {S R P : Nat} (I : IS all S R P) : (¬ all 54 = 0) = (all 54 = 1) := by
  apply propext
  constructor
  · intro h; exact I.fl.resolve_left h
  · intro h; rw [h]; decide
theorem sp_seeOne {X : Nat × (Nat → Int32)} {d N K a pl S R P : Nat} {f : Nat → e_C} {all : Nat → Int32} {sd wy : Int32} (H : DW f a pl all S R P sd wy) {p : Int32} : TT X (d + 5) 2 0 [.ref 119, .ref a, .int p] [] f N K (DP f N K a pl (if w_see all P (nT all) p.toInt = 0 then m_see all S P (nT all) p.toInt.toNat else all) S R P sd wy (w_see all P (nT all) p.toInt)) := by
  have H0 := H
  obtain ⟨w, x, v, r, C, y, L, D, V, W, G, I, hd⟩ := H
  have d1 := D.1
  have h9 := I.p9
  have hP : w 1 = nI P := by rw [G.w1]; exact I.eP
  have hT : w 6 = nI (nT all) := by rw [G.w6]; exact I.eT
  have e9 := G.w9
  have e7 := G.w7
  have e10 := G.v10
  have no : ∀ z : Int32, z ≠ 0 → w_see all P (nT all) p.toInt = z → DP f N K a pl (if w_see all P (nT all) p.toInt = 0 then m_see all S P (nT all) p.toInt.toNat else all) S R P sd wy (w_see all P (nT all) p.toInt) f N K (some (.int z)) := by
    intro z hz he
    rw [he, if_neg hz]
    exact ⟨rfl, rfl, SD.rf, H0, rfl⟩
  simp (disch := first | omega | decide | assumption | exact Nat.le_of_ble_eq_true rfl) only [s2_0, s2_1, ow_some, true_and, and_true, and_self, if_true, if_false, not_true, not_false_eq_true, Bool.false_eq_true, eq_self, Option.toList, List.cons_append, List.nil_append, ix_in, ix_cl, lt_in, lt_cl, lt_add, ix_one, vu_eq, vu_ne, arI_mk, arL_mk, arY_mZ, arY_mB, alen_mI, fld_sfl_ne, fld_sfl_same, Option.isSome_some, pok_i, b1z, b01, z10, b1o, Int32.zero_add, vu_vu, upd_eq, upd_ne, true_or, or_true]
  rw [p2_2 V.cn (Nat.le_of_ble_eq_true rfl) (sp_isTold V hP h9)]
  by_cases h1 : ¬ (0 ≤ p.toInt ∧ p.toInt < P)
  · have h1' : (0 ≤ p.toInt ∧ p.toInt < P) = False := eq_false h1
    have hw : w_see all P (nT all) p.toInt = 1 := by unfold w_see; rw [if_neg h1]
    simp (disch := first | omega | decide | assumption | exact Nat.le_of_ble_eq_true rfl) only [s2_5, s2_8, s2_9, ow_some, true_and, and_true, and_self, if_true, if_false, not_true, not_false_eq_true, Bool.false_eq_true, eq_self, Option.toList, List.cons_append, List.nil_append, ix_in, ix_cl, lt_in, lt_cl, lt_add, ix_one, vu_eq, vu_ne, arI_mk, arL_mk, arY_mZ, arY_mB, alen_mI, fld_sfl_ne, fld_sfl_same, Option.isSome_some, pok_i, b1z, b01, z10, b1o, Int32.zero_add, vu_vu, upd_eq, upd_ne, true_or, or_true, h1']
    exact no 1 (by decide) hw
  have h1 := Classical.not_not.mp h1
  have h1' : (0 ≤ p.toInt ∧ p.toInt < P) = True := eq_true h1
  obtain ⟨j, hj, rfl, hpi⟩ := i9 (v := p) (N := P) h1.1 h1.2 (by omega)
  have ej : (nI j).toInt.toNat = j := by rw [hpi]; rfl
  by_cases h2 : all 54 = 1
  · have h2' : (all 54 = 0) = False := by rw [h2]; decide
    have hw : w_see all P (nT all) (nI j).toInt = 2 := by unfold w_see; rw [if_pos h1, if_pos (Or.inl h2)]
    simp (disch := first | omega | decide | assumption | exact Nat.le_of_ble_eq_true rfl) only [s2_5, s2_8, s2_9, s2_10, s2_11, s2_14, s2_25, s2_26, ow_some, true_and, and_true, and_self, if_true, if_false, not_true, not_false_eq_true, Bool.false_eq_true, eq_self, Option.toList, List.cons_append, List.nil_append, ix_in, ix_cl, lt_in, lt_cl, lt_add, ix_one, vu_eq, vu_ne, arI_mk, arL_mk, arY_mZ, arY_mB, alen_mI, fld_sfl_ne, fld_sfl_same, Option.isSome_some, pok_i, b1z, b01, z10, b1o, Int32.zero_add, vu_vu, upd_eq, upd_ne, true_or, or_true, V.v1, V.v6, V.v7, V.v8, V.v9, V.i1, V.i6, V.i7, V.i8, V.i9, V.r2, V.r3, V.r4, V.r5, V.pl, V.a2, V.a3, V.a4, V.a5, h1', e9, h2']
    exact no 2 (by decide) hw
  have h54 := I.z54 h2
  simp (disch := first | omega | decide | assumption | exact Nat.le_of_ble_eq_true rfl) only [s2_5, s2_8, s2_9, s2_10, s2_11, s2_14, s2_17, s2_18, ow_some, true_and, and_true, and_self, if_true, if_false, not_true, not_false_eq_true, Bool.false_eq_true, eq_self, Option.toList, List.cons_append, List.nil_append, ix_in, ix_cl, lt_in, lt_cl, lt_add, ix_one, vu_eq, vu_ne, arI_mk, arL_mk, arY_mZ, arY_mB, alen_mI, fld_sfl_ne, fld_sfl_same, Option.isSome_some, pok_i, b1z, b01, z10, b1o, Int32.zero_add, vu_vu, upd_eq, upd_ne, true_or, or_true, V.v1, V.v6, V.v7, V.v8, V.v9, V.i1, V.i6, V.i7, V.i8, V.i9, V.r2, V.r3, V.r4, V.r5, V.pl, V.a2, V.a3, V.a4, V.a5, h1', e9, h54]
  rw [p2_19 V.cn (Nat.le_of_ble_eq_true rfl) (sp_isTj V hP h9 hT I.t5 hj)]
  by_cases h3 : ¬ (nT all).testBit j = true
  · have hw : w_see all P (nT all) (nI j).toInt = 2 := by unfold w_see; rw [if_pos h1, ej, if_pos (Or.inr h3)]
    simp (disch := first | omega | decide | assumption | exact Nat.le_of_ble_eq_true rfl) only [s2_22, s2_25, s2_26, ow_some, true_and, and_true, and_self, if_true, if_false, not_true, not_false_eq_true, Bool.false_eq_true, eq_self, Option.toList, List.cons_append, List.nil_append, ix_in, ix_cl, lt_in, lt_cl, lt_add, ix_one, vu_eq, vu_ne, arI_mk, arL_mk, arY_mZ, arY_mB, alen_mI, fld_sfl_ne, fld_sfl_same, Option.isSome_some, pok_i, b1z, b01, z10, b1o, Int32.zero_add, vu_vu, upd_eq, upd_ne, true_or, or_true, h3]
    exact no 2 (by decide) hw
  have h3 := Classical.not_not.mp h3
  have c1 : ¬ (all 54 = 1 ∨ ¬ (nT all).testBit (nI j).toInt.toNat = true) := by rw [ej]; rintro (z | z); exact h2 z; exact z h3
  by_cases h4 : all 2 ≤ all 55
  · have h4' : (all 55 < all 2) = False := eq_false (Int32.not_lt.mpr h4)
    have hw : w_see all P (nT all) (nI j).toInt = 3 := by unfold w_see; rw [if_pos h1, if_neg c1, if_pos h4]
    simp (disch := first | omega | decide | assumption | exact Nat.le_of_ble_eq_true rfl) only [s2_22, s2_25, s2_26, s2_27, s2_28, s2_31, s2_32, s2_35, s2_38, s2_41, s2_42, ow_some, true_and, and_true, and_self, if_true, if_false, not_true, not_false_eq_true, Bool.false_eq_true, eq_self, Option.toList, List.cons_append, List.nil_append, ix_in, ix_cl, lt_in, lt_cl, lt_add, ix_one, vu_eq, vu_ne, arI_mk, arL_mk, arY_mZ, arY_mB, alen_mI, fld_sfl_ne, fld_sfl_same, Option.isSome_some, pok_i, b1z, b01, z10, b1o, Int32.zero_add, vu_vu, upd_eq, upd_ne, true_or, or_true, V.v1, V.v6, V.v7, V.v8, V.v9, V.i1, V.i6, V.i7, V.i8, V.i9, V.r2, V.r3, V.r4, V.r5, V.pl, V.a2, V.a3, V.a4, V.a5, W.v0, W.v3, W.v10, W.v11, W.v12, W.v14, W.v15, W.v16, W.v17, W.v18, W.r1, W.r2, W.r4, W.r5, W.r6, W.r7, W.r8, W.r9, W.r13, W.a1, W.a2, W.a4, W.a5, W.a6, W.a7, W.a8, W.a9, W.a13, h3, e7, e10, h4']
    exact no 3 (by decide) hw
  have h4' : (all 55 < all 2) = True := eq_true (Int32.not_le.mp h4)
  simp (disch := first | omega | decide | assumption | exact Nat.le_of_ble_eq_true rfl) only [s2_22, s2_25, s2_26, s2_27, s2_28, s2_31, s2_32, s2_35, s2_38, s2_41, s2_42, s2_43, s2_44, s2_47, s2_48, ow_some, true_and, and_true, and_self, if_true, if_false, not_true, not_false_eq_true, Bool.false_eq_true, eq_self, Option.toList, List.cons_append, List.nil_append, ix_in, ix_cl, lt_in, lt_cl, lt_add, ix_one, vu_eq, vu_ne, arI_mk, arL_mk, arY_mZ, arY_mB, alen_mI, fld_sfl_ne, fld_sfl_same, Option.isSome_some, pok_i, b1z, b01, z10, b1o, Int32.zero_add, vu_vu, upd_eq, upd_ne, true_or, or_true, V.v1, V.v6, V.v7, V.v8, V.v9, V.i1, V.i6, V.i7, V.i8, V.i9, V.r2, V.r3, V.r4, V.r5, V.pl, V.a2, V.a3, V.a4, V.a5, W.v0, W.v3, W.v10, W.v11, W.v12, W.v14, W.v15, W.v16, W.v17, W.v18, W.r1, W.r2, W.r4, W.r5, W.r6, W.r7, W.r8, W.r9, W.r13, W.a1, W.a2, W.a4, W.a5, W.a6, W.a7, W.a8, W.a9, W.a13, h3, e7, e10, h4', d1]
  refine k2_49 L.cn (Nat.le_of_ble_eq_true rfl) (sp_may L V W G I hd hj) ?_
  rintro f1 n1 k1 v1 ⟨rfl, rfl, s1, ⟨y1, L1, hy1⟩, rfl⟩
  have V1 := V.fr (f' := f1) (fun b h1 h2 => s1 b (by omega))
  have W1 := W.fr (f' := f1) (fun b h1 h2 => s1 b (by omega))
  have D1 : DV f1 sd wy := by unfold DV; rw [s1 119 (by omega)]; exact D
  have sd1 : SD a f f1 := SD.si s1 (by omega) (by omega)
  by_cases h5 : all 4 = 0 ∨ l_law all (all 6).toNatClampNeg (all 8).toNatClampNeg j (m_wed all j (nT all)) = 1
  · have h5' : (all 4 = 0 ∨ l_law all (all 6).toNatClampNeg (all 8).toNatClampNeg j (m_wed all j (nT all)) = 1) = True := eq_true h5
    have hw : w_see all P (nT all) (nI j).toInt = 0 := by unfold w_see; rw [if_pos h1, if_neg c1, if_neg h4, ej, if_pos h5]
    rw [hw, if_pos rfl, ej]
    obtain ⟨hb, hlt⟩ := bit_clr (nT all) I.t5 j (by omega)
    simp (disch := first | omega | decide | assumption | exact Nat.le_of_ble_eq_true rfl) only [s2_52, s2_55, s2_56, s2_57, s2_58, s2_58i, s2_59, s2_62, s2_63, s2_64, s2_65, s2_66, s2_67, s2_68, ow_some, true_and, and_true, and_self, if_true, if_false, not_true, not_false_eq_true, Bool.false_eq_true, eq_self, Option.toList, List.cons_append, List.nil_append, ix_in, ix_cl, lt_in, lt_cl, lt_add, ix_one, vu_eq, vu_ne, arI_mk, arL_mk, arY_mZ, arY_mB, alen_mI, fld_sfl_ne, fld_sfl_same, Option.isSome_some, pok_i, b1z, b01, z10, b1o, Int32.zero_add, vu_vu, upd_eq, upd_ne, true_or, or_true, V1.v1, V1.v6, V1.v7, V1.v8, V1.v9, V1.i1, V1.i6, V1.i7, V1.i8, V1.i9, V1.r2, V1.r3, V1.r4, V1.r5, V1.pl, V1.a2, V1.a3, V1.a4, V1.a5, h5', hT, hb, V1.i6]
    have V2 := V1.set (i := 6) (z := nI (clr (nT all) j)) (by decide)
    have sd2 : SD a f (va_up f1 a (sfl (f1 a) 6 (.int (nI (clr (nT all) j))))) := sd1.tr (SD.up (by omega))
    have L2 := L1.fr (f' := va_up f1 a (sfl (f1 a) 6 (.int (nI (clr (nT all) j))))) (fun b h1 h2 => vu_ne (by omega))
    have W2 := W1.fr (f' := va_up f1 a (sfl (f1 a) 6 (.int (nI (clr (nT all) j))))) (fun b h1 h2 => vu_ne (by omega))
    have D2 : DV (va_up f1 a (sfl (f1 a) 6 (.int (nI (clr (nT all) j))))) sd wy := by unfold DV; rw [vu_ne (by omega)]; exact D1
    generalize va_up f1 a (sfl (f1 a) 6 (.int (nI (clr (nT all) j)))) = f2 at V2 sd2 L2 W2 D2 ⊢
    simp (disch := first | omega | decide | assumption | exact Nat.le_of_ble_eq_true rfl) only [s2_71, s2_72, s2_72i, s2_73, s2_76, s2_77, s2_78, s2_81, s2_82, ow_some, true_and, and_true, and_self, if_true, if_false, not_true, not_false_eq_true, Bool.false_eq_true, eq_self, Option.toList, List.cons_append, List.nil_append, ix_in, ix_cl, lt_in, lt_cl, lt_add, ix_one, vu_eq, vu_ne, arI_mk, arL_mk, arY_mZ, arY_mB, alen_mI, fld_sfl_ne, fld_sfl_same, Option.isSome_some, pok_i, b1z, b01, z10, b1o, Int32.zero_add, vu_vu, upd_eq, upd_ne, true_or, or_true, V2.v1, V2.v6, V2.v7, V2.v8, V2.v9, V2.i1, V2.i6, V2.i7, V2.i8, V2.i9, V2.r2, V2.r3, V2.r4, V2.r5, V2.pl, V2.a2, V2.a3, V2.a4, V2.a5, e7]
    have V3 := V2.set (i := 7) (z := all 55 + 1) (by decide)
    have sd3 : SD a f (va_up f2 a (sfl (f2 a) 7 (.int (all 55 + 1)))) := sd2.tr (SD.up (by omega))
    have L3 := L2.fr (f' := va_up f2 a (sfl (f2 a) 7 (.int (all 55 + 1)))) (fun b h1 h2 => vu_ne (by omega))
    have W3 := W2.fr (f' := va_up f2 a (sfl (f2 a) 7 (.int (all 55 + 1)))) (fun b h1 h2 => vu_ne (by omega))
    have D3 : DV (va_up f2 a (sfl (f2 a) 7 (.int (all 55 + 1)))) sd wy := by unfold DV; rw [vu_ne (by omega)]; exact D2
    generalize va_up f2 a (sfl (f2 a) 7 (.int (all 55 + 1))) = f3 at V3 sd3 L3 W3 D3 ⊢
    have hn : ∀ i, i ≠ 53 → i ≠ 55 → p_see all j i = all i := fun i h1 h2 => by unfold p_see; rw [upd_ne h2, upd_ne h1]
    have G3 : CR (p_see all j) S P (upd (upd w 6 (nI (clr (nT all) j))) 7 (all 55 + 1)) x v r C := by
      refine ⟨⟨by rw [upd_ne (by decide), upd_ne (by decide), hn _ (by decide) (by decide)]; exact G.w1, by rw [upd_ne (by decide), upd_eq]; unfold p_see; rw [upd_ne (by decide), upd_eq], by rw [upd_eq]; unfold p_see; rw [upd_eq], by rw [upd_ne (by decide), upd_ne (by decide), hn _ (by decide) (by decide)]; exact G.w8, by rw [upd_ne (by decide), upd_ne (by decide), hn _ (by decide) (by decide)]; exact G.w9⟩, fun p hp => by rw [hn _ (by omega) (by omega)]; exact G.x2 hp, fun p hp => by rw [hn _ (by omega) (by omega)]; exact G.x3 hp, fun p hp => by rw [hn _ (by omega) (by omega)]; exact G.x4 hp, fun k hk => by rw [hn _ (by omega) (by omega)]; exact G.x5 hk, G.pr.cg I.s8 (fun i hi => hn _ (by omega) (by omega))⟩
    refine k2_83 D3.cn (Nat.le_of_ble_eq_true rfl) (sp_settle L3 D3 V3 W3 G3 (I.psee h4) hd (by rw [hn _ (by decide) (by decide)]; exact h54)) ?_
    rintro f4 n4 k4 v4 ⟨rfl, rfl, rfl, sd4, H4⟩
    simp (disch := first | omega | decide | assumption | exact Nat.le_of_ble_eq_true rfl) only [s2_86, s2_87, ow_some, true_and, and_true, and_self, if_true, if_false, not_true, not_false_eq_true, Bool.false_eq_true, eq_self, Option.toList, List.cons_append, List.nil_append, ix_in, ix_cl, lt_in, lt_cl, lt_add, ix_one, vu_eq, vu_ne, arI_mk, arL_mk, arY_mZ, arY_mB, alen_mI, fld_sfl_ne, fld_sfl_same, Option.isSome_some, pok_i, b1z, b01, z10, b1o, Int32.zero_add, vu_vu, upd_eq, upd_ne, true_or, or_true]
    rw [see_eq I.t5]
    exact ⟨rfl, rfl, sd3.tr sd4, H4, rfl⟩
  · have h5' : (all 4 = 0 ∨ l_law all (all 6).toNatClampNeg (all 8).toNatClampNeg j (m_wed all j (nT all)) = 1) = False := eq_false h5
    have hw : w_see all P (nT all) (nI j).toInt = 4 := by unfold w_see; rw [if_pos h1, if_neg c1, if_neg h4, ej, if_neg h5]
    simp (disch := first | omega | decide | assumption | exact Nat.le_of_ble_eq_true rfl) only [s2_52, s2_55, s2_56, ow_some, true_and, and_true, and_self, if_true, if_false, not_true, not_false_eq_true, Bool.false_eq_true, eq_self, Option.toList, List.cons_append, List.nil_append, ix_in, ix_cl, lt_in, lt_cl, lt_add, ix_one, vu_eq, vu_ne, arI_mk, arL_mk, arY_mZ, arY_mB, alen_mI, fld_sfl_ne, fld_sfl_same, Option.isSome_some, pok_i, b1z, b01, z10, b1o, Int32.zero_add, vu_vu, upd_eq, upd_ne, true_or, or_true, h5']
    rw [hw, if_neg (by decide)]
    exact ⟨rfl, rfl, sd1, ⟨w, x, v, r, C, y1, L1, D1, V1, W1, G, I, hd⟩, rfl⟩

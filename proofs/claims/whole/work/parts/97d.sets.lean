/-! the class: sets -/
set_option maxRecDepth 100000 in
theorem sp_bitCount {X : Nat × (Nat → Int32)} {d N K T : Nat} {f : Nat → e_C} (hT : T < 512) : PU X d 307 [.int (nI T)] f N K (some (.int (nI (bits T)))) := by
  unfold PU
  simp (disch := first | omega | decide | assumption | exact Nat.le_of_ble_eq_true rfl) only [s307_0, s307_1, s307_2, s307_3, s307_4, s307_7, s307_8, s307_9, s307_10, s307_11, s307_14, s307_15, s307_16, s307_17, s307_18, s307_21, s307_22, s307_23, s307_24, s307_25, s307_26, s307_27, s307_28, s307_29, s307_32, s307_33, s307_34, s307_35, s307_36, s307_38, s307_39, s307_40, s307_41, s307_42, s307_43, s307_45, s307_46, s307_47, s307_48, s307_49, s307_51, s307_52, ow_some, true_and, and_true, and_self, if_true, if_false, not_true, not_false_eq_true, Bool.false_eq_true, eq_self, Option.toList, List.cons_append, List.nil_append, ix_in, ix_cl, lt_in, lt_cl, lt_add, ix_one, vu_eq, vu_ne, arI_mk, arL_mk, arY_mZ, arY_mB, alen_mI, fld_sfl_ne, fld_sfl_same, Option.isSome_some, pok_i, b1z, b01, z10, b1o, Int32.zero_add, vu_vu, upd_eq, upd_ne, true_or, or_true]
  congr 2
  revert hT
  revert T
  decide +kernel
def OV (f : Nat → e_C) (tb : Nat → Int32) : Prop := fld (f 127) 8 0 = some (.ref 128) ∧ fld (f 127) 8 1 = some (.ref 135) ∧ arI (f 135) = some (512, tb)
theorem OV.cn {f : Nat → e_C} {tb : Nat → Int32} (h : OV f tb) : cno (f 127) = some 8 := cno_fld (j := 0) (by rw [h.1]; rfl)
theorem OV.fr {f f' : Nat → e_C} {tb : Nat → Int32} (h : OV f tb) (h1 : f' 127 = f 127) (h2 : f' 135 = f 135) : OV f' tb := by unfold OV; rw [h1, h2]; exact h
theorem OV.up {f : Nat → e_C} {tb g : Nat → Int32} (h : OV f tb) : OV (va_up f 135 (.inl (.int, 512, .inl g))) g := ⟨by rw [vu_ne (by decide)]; exact h.1, by rw [vu_ne (by decide)]; exact h.2.1, by rw [vu_eq]; rfl⟩
theorem sub_hi {i T P : Nat} (h : T < 2 ^ P) (hi : 2 ^ P ≤ i) : sub i T = false := by
  cases hs : sub i T with
  | false => rfl
  | true => have := sub_le hs; omega
theorem mh_hi {all : Nat → Int32} {S R P i : Nat} (I : IS all S R P) (hi : 2 ^ P ≤ i) : m_h all S P i = false := by
  unfold m_h; rw [sub_hi I.tP hi]; rfl
theorem ind_le {α : Type} {F : Nat → α} {n : Nat} : ∀ n', n ≤ n' → (∀ j, n ≤ j → j < n' → F (j + 1) = F j) → F n' = F n := by
  intro n'
  induction n' with
  | zero => intro h _; rw [show n = 0 by omega]
  | succ k ih =>
    intro h hj
    by_cases hk : n = k + 1
    · rw [hk]
    · rw [hj k (by omega) (by omega)]; exact ih (by omega) (fun j h1 h2 => hj j h1 (by omega))
theorem pick_more {c : Nat → Bool} {bt : Nat → Nat → Bool} {n n' : Nat} (hn : n ≤ n') (h : ∀ j, n ≤ j → j < n' → c j = false) : pick c bt n' = pick c bt n := ind_le (F := fun k => pick c bt k) n' hn (fun j h1 h2 => by
  show pick c bt (j + 1) = pick c bt j
  rw [pick_s, h j h1 h2]; rfl)
theorem cnt_more {c : Nat → Bool} {n n' : Nat} (hn : n ≤ n') (h : ∀ j, n ≤ j → j < n' → c j = false) : cnt c n' = cnt c n := ind_le (F := fun k => cnt c k) n' hn (fun j h1 h2 => by
  show cnt c (j + 1) = cnt c j
  rw [cnt_s, h j h1 h2]; rfl)
theorem sp_lt0 {all : Nat → Int32} {S P T : Nat} : (m_sp all S P T < 0) = ¬ (m_hold all S P T = true) := by
  unfold m_hold
  apply propext
  rw [decide_eq_true_iff]
  exact ⟨fun h => Int32.not_le.mpr h, fun h => Int32.not_le.mp h⟩
theorem sp_ge0 {all : Nat → Int32} {S P T : Nat} : (0 ≤ m_sp all S P T) = (m_hold all S P T = true) := by
  unfold m_hold
  apply propext
  rw [decide_eq_true_iff]
/-- the class marks the holdings -/
theorem sp_mark {X : Nat × (Nat → Int32)} {d N K a pl C S R P : Nat} {f : Nat → e_C} {y x r : Nat → Nat → Int32} {w v all tb : Nat → Int32} (L : LV f 128 y) (V : SV f a pl w x) (W : PV f pl v r C) (G : CR all S P w x v r C) (I : IS all S R P) (hd : AD a pl 128) (O : OV f tb) {u2 u3 : Value} : TT X (d + 4) 86 0 [.ref 127, .ref a, u2, u3] [] f N K (fun f' n' k' z => n' = N ∧ k' = K ∧ z = none ∧ SI 130 136 f f' ∧ ∃ y' tb', LV f' 128 y' ∧ OV f' tb' ∧ wgd all P y' ∧ ∀ i, i < 512 → tb' i = bI (m_h all S P i)) := by
  obtain ⟨o0, o1, o2⟩ := O
  have hT : w 6 = nI (nT all) := by rw [G.w6]; exact I.eT
  simp (disch := first | omega | decide | assumption | exact Nat.le_of_ble_eq_true rfl) only [s86_0, s86_1, s86_4, ow_some, true_and, and_true, and_self, if_true, if_false, not_true, not_false_eq_true, Bool.false_eq_true, eq_self, Option.toList, List.cons_append, List.nil_append, ix_in, ix_cl, lt_in, lt_cl, lt_add, ix_one, vu_eq, vu_ne, arI_mk, arL_mk, arY_mZ, arY_mB, alen_mI, fld_sfl_ne, fld_sfl_same, Option.isSome_some, pok_i, b1z, b01, z10, b1o, Int32.zero_add, vu_vu, upd_eq, upd_ne, true_or, or_true, o0]
  refine k86_5 L.cn (Nat.le_of_ble_eq_true rfl) (sp_weigh L V W G I hd) ?_
  rintro f1 n1 k1 v1 ⟨rfl, rfl, rfl, s1, y1, L1, -, hw1⟩
  simp (disch := first | omega | decide | assumption | exact Nat.le_of_ble_eq_true rfl) only [s86_8, h86_9, ow_some, true_and, and_true, and_self, if_true, if_false, not_true, not_false_eq_true, Bool.false_eq_true, eq_self, Option.toList, List.cons_append, List.nil_append, ix_in, ix_cl, lt_in, lt_cl, lt_add, ix_one, vu_eq, vu_ne, arI_mk, arL_mk, arY_mZ, arY_mB, alen_mI, fld_sfl_ne, fld_sfl_same, Option.isSome_some, pok_i, b1z, b01, z10, b1o, Int32.zero_add, vu_vu, upd_eq, upd_ne, true_or, or_true]
  have s1' : SI 130 136 f f1 := s1.wd (by omega) (by omega)
  have O1 : OV f1 tb := OV.fr ⟨o0, o1, o2⟩ (s1 127 (by omega)) (s1 135 (by omega))
  refine lp (fun j e (z : (Nat → Nat → Int32) × (Nat → Int32) × Value) => SI 130 136 f e ∧ LV e 128 z.1 ∧ OV e z.2.1 ∧ wgd all P z.1 ∧ ∀ i, i < j → z.2.1 i = bI (m_h all S P i)) (fun j z => [.ref 127, .ref a, .int (nI j), z.2.2]) 512 ?_ ?_ 0 f1 (y1, tb, u3) (by omega) ⟨s1', L1, O1, hw1, fun i hi => by omega⟩
  · rintro j e ⟨y2, t2, u⟩ hj ⟨s2, L2, O2, hw2, hk⟩ hI
    have V2 := V.fr (f' := e) (fun b h1 h2 => s2 b (by omega))
    have W2 := W.fr (f' := e) (fun b h1 h2 => s2 b (by omega))
    obtain ⟨p0, p1, p2⟩ := O2
    have hc : (512 ≤ j) = False := eq_false (by omega)
    have hpt := part_nI hj I.t5
    by_cases hs : sub j (nT all) = true
    · have hs' : (sub j (nT all) = true) = True := eq_true hs
      simp (disch := first | omega | decide | assumption | exact Nat.le_of_ble_eq_true rfl) only [s86_10, s86_11, s86_14, s86_17, s86_18, s86_19, s86_22, s86_23, s86_24, s86_25, s86_28, s86_29, s86_32, s86_33, s86_34, s86_35, s86_38, s86_39, s86_40, s86_43, s86_44, s86_47, s86_48, ow_some, true_and, and_true, and_self, if_true, if_false, not_true, not_false_eq_true, Bool.false_eq_true, eq_self, Option.toList, List.cons_append, List.nil_append, ix_in, ix_cl, lt_in, lt_cl, lt_add, ix_one, vu_eq, vu_ne, arI_mk, arL_mk, arY_mZ, arY_mB, alen_mI, fld_sfl_ne, fld_sfl_same, Option.isSome_some, pok_i, b1z, b01, z10, b1o, Int32.zero_add, vu_vu, upd_eq, upd_ne, true_or, or_true, V2.v1, V2.v6, V2.v7, V2.v8, V2.v9, V2.i1, V2.i6, V2.i7, V2.i8, V2.i9, V2.r2, V2.r3, V2.r4, V2.r5, V2.pl, V2.a2, V2.a3, V2.a4, V2.a5, lt_le, hc, hT, hpt, hs', p0, p1, ne_eq]
      refine k86_49 L2.cn (Nat.le_of_ble_eq_true rfl) (sp_slackOf L2 V2 W2 G I hd hs hw2) ?_
      rintro f3 n3 k3 v3 ⟨rfl, rfl, s3, ⟨g3, L3, hg3⟩, rfl⟩
      have a3 : arI (f3 135) = some (512, t2) := by rw [s3 135 (by omega)]; exact p2
      have O3 : OV f3 t2 := OV.fr ⟨p0, p1, p2⟩ (s3 127 (by omega)) (s3 135 (by omega))
      have hh := sp_lt0 (all := all) (S := S) (P := P) (T := j)
      have fin : ∀ z : Int32, z = bI (m_h all S P j) → TH X (d + 4) 86 10 [.ref 127, .ref a, .int (nI (j + 1)), .int 1] [] (va_up f3 135 (.inl (.int, 512, .inl (upd t2 j z)))) n3 k3 (fun f' n' k' z => n' = n3 ∧ k' = k3 ∧ z = none ∧ SI 130 136 f f' ∧ ∃ y' tb', LV f' 128 y' ∧ OV f' tb' ∧ wgd all P y' ∧ ∀ i, i < 512 → tb' i = bI (m_h all S P i)) := by
        intro z hz
        refine hI _ (up2 y2 4 g3, upd t2 j z, .int 1) ⟨(s2.tr (s3.wd (by omega) (by omega))).tr (SI.up (by omega) (by omega)), L3.fr (fun b h1 h2 => vu_ne (by omega)), O3.up, wgd_up hw2, fun i hi => ?_⟩
        dsimp only
        by_cases hij : i = j
        · subst hij; rw [upd_eq]; exact hz
        · rw [upd_ne hij]; exact hk i (by omega)
      by_cases hb : m_hold all S P j = true
      · have hb' : (¬ (m_hold all S P j = true)) = False := eq_false (fun z => z hb)
        simp (disch := first | omega | decide | assumption | exact Nat.le_of_ble_eq_true rfl) only [s86_52, s86_55, s86_56, s86_59, s86_60, s86_61, h86_64, ow_some, true_and, and_true, and_self, if_true, if_false, not_true, not_false_eq_true, Bool.false_eq_true, eq_self, Option.toList, List.cons_append, List.nil_append, ix_in, ix_cl, lt_in, lt_cl, lt_add, ix_one, vu_eq, vu_ne, arI_mk, arL_mk, arY_mZ, arY_mB, alen_mI, fld_sfl_ne, fld_sfl_same, Option.isSome_some, pok_i, b1z, b01, z10, b1o, Int32.zero_add, vu_vu, upd_eq, upd_ne, true_or, or_true, hh, hb', a3]
        exact fin 1 (by unfold m_h; rw [hs, hb]; rfl)
      · have hb' : (¬ (m_hold all S P j = true)) = True := eq_true hb
        simp (disch := first | omega | decide | assumption | exact Nat.le_of_ble_eq_true rfl) only [s86_52, s86_55, s86_56, s86_59, s86_60, s86_61, h86_64, ow_some, true_and, and_true, and_self, if_true, if_false, not_true, not_false_eq_true, Bool.false_eq_true, eq_self, Option.toList, List.cons_append, List.nil_append, ix_in, ix_cl, lt_in, lt_cl, lt_add, ix_one, vu_eq, vu_ne, arI_mk, arL_mk, arY_mZ, arY_mB, alen_mI, fld_sfl_ne, fld_sfl_same, Option.isSome_some, pok_i, b1z, b01, z10, b1o, Int32.zero_add, vu_vu, upd_eq, upd_ne, true_or, or_true, hh, hb', a3]
        exact fin 0 (by unfold m_h; rw [hs, Bool.eq_false_iff.mpr hb]; rfl)
    · have hs' : (sub j (nT all) = true) = False := eq_false hs
      simp (disch := first | omega | decide | assumption | exact Nat.le_of_ble_eq_true rfl) only [s86_10, s86_11, s86_14, s86_17, s86_18, s86_19, s86_22, s86_23, s86_24, s86_25, s86_28, s86_29, s86_32, s86_33, s86_34, s86_35, s86_38, s86_39, s86_40, s86_43, s86_44, s86_47, s86_48, s86_52, s86_55, s86_56, s86_59, s86_60, s86_61, h86_64, ow_some, true_and, and_true, and_self, if_true, if_false, not_true, not_false_eq_true, Bool.false_eq_true, eq_self, Option.toList, List.cons_append, List.nil_append, ix_in, ix_cl, lt_in, lt_cl, lt_add, ix_one, vu_eq, vu_ne, arI_mk, arL_mk, arY_mZ, arY_mB, alen_mI, fld_sfl_ne, fld_sfl_same, Option.isSome_some, pok_i, b1z, b01, z10, b1o, Int32.zero_add, vu_vu, upd_eq, upd_ne, true_or, or_true, V2.v1, V2.v6, V2.v7, V2.v8, V2.v9, V2.i1, V2.i6, V2.i7, V2.i8, V2.i9, V2.r2, V2.r3, V2.r4, V2.r5, V2.pl, V2.a2, V2.a3, V2.a4, V2.a5, lt_le, hc, hT, hpt, hs', p0, p1, p2, ne_eq]
      refine hI _ (y2, upd t2 j 0, .int 0) ⟨s2.tr (SI.up (by omega) (by omega)), L2.fr (fun b h1 h2 => vu_ne (by omega)), OV.up ⟨p0, p1, p2⟩, hw2, fun i hi => ?_⟩
      dsimp only
      by_cases hij : i = j
      · subst hij; rw [upd_eq]; unfold m_h; rw [Bool.eq_false_iff.mpr hs]; rfl
      · rw [upd_ne hij]; exact hk i (by omega)
  · rintro e ⟨y2, t2, u⟩ ⟨s2, L2, O2, hw2, hk⟩
    simp (disch := first | omega | decide | assumption | exact Nat.le_of_ble_eq_true rfl) only [s86_10, s86_11, s86_14, s86_67, ow_some, true_and, and_true, and_self, if_true, if_false, not_true, not_false_eq_true, Bool.false_eq_true, eq_self, Option.toList, List.cons_append, List.nil_append, ix_in, ix_cl, lt_in, lt_cl, lt_add, ix_one, vu_eq, vu_ne, arI_mk, arL_mk, arY_mZ, arY_mB, alen_mI, fld_sfl_ne, fld_sfl_same, Option.isSome_some, pok_i, b1z, b01, z10, b1o, Int32.zero_add, vu_vu, upd_eq, upd_ne, true_or, or_true, lt_le, Nat.le_refl]
    exact ⟨s2, y2, t2, L2, O2, hw2, hk⟩
theorem bI1 {b : Bool} : (bI b = 1) = (b = true) := by cases b <;> simp [bI]
/-- what a question of the sets ends with -/
def QS (f : Nat → e_C) (N K : Nat) (z : Int32) : t_Q := fun f' n' k' v => n' = N ∧ k' = K ∧ SI 130 136 f f' ∧ (∃ y' tb', LV f' 128 y' ∧ OV f' tb') ∧ v = some (.int z)
theorem sp_least {X : Nat × (Nat → Int32)} {d N K a pl C S R P : Nat} {f : Nat → e_C} {y x r : Nat → Nat → Int32} {w v all tb : Nat → Int32} (L : LV f 128 y) (V : SV f a pl w x) (W : PV f pl v r C) (G : CR all S P w x v r C) (I : IS all S R P) (hd : AD a pl 128) (O : OV f tb) {u2 u3 : Value} : TT X (d + 5) 85 0 [.ref 127, .ref a, u2, u3] [] f N K (QS f N K (oI (m_few all S P))) := by
  have h9 := I.p9
  simp (disch := first | omega | decide | assumption | exact Nat.le_of_ble_eq_true rfl) only [s85_0, s85_1, ow_some, true_and, and_true, and_self, if_true, if_false, not_true, not_false_eq_true, Bool.false_eq_true, eq_self, Option.toList, List.cons_append, List.nil_append, ix_in, ix_cl, lt_in, lt_cl, lt_add, ix_one, vu_eq, vu_ne, arI_mk, arL_mk, arY_mZ, arY_mB, alen_mI, fld_sfl_ne, fld_sfl_same, Option.isSome_some, pok_i, b1z, b01, z10, b1o, Int32.zero_add, vu_vu, upd_eq, upd_ne, true_or, or_true]
  refine k85_2 O.cn (Nat.le_of_ble_eq_true rfl) (sp_mark L V W G I hd O) ?_
  rintro f1 n1 k1 v1 ⟨rfl, rfl, rfl, s1, y1, t1, L1, O1, hw1, ht1⟩
  obtain ⟨p0, p1, p2⟩ := O1
  have e : m_few all S P = pick (m_h all S P) (fun j x => decide (bits j < bits x)) 512 := by
    unfold m_few; exact (pick_more (pw9 h9) (fun j h1 _ => mh_hi I h1)).symm
  rw [e]
  simp (disch := first | omega | decide | assumption | exact Nat.le_of_ble_eq_true rfl) only [s85_5, s85_6, s85_7, h85_8, ow_some, true_and, and_true, and_self, if_true, if_false, not_true, not_false_eq_true, Bool.false_eq_true, eq_self, Option.toList, List.cons_append, List.nil_append, ix_in, ix_cl, lt_in, lt_cl, lt_add, ix_one, vu_eq, vu_ne, arI_mk, arL_mk, arY_mZ, arY_mB, alen_mI, fld_sfl_ne, fld_sfl_same, Option.isSome_some, pok_i, b1z, b01, z10, b1o, Int32.zero_add, vu_vu, upd_eq, upd_ne, true_or, or_true]
  refine lp (fun j g (b : Option Nat) => g = f1 ∧ b = pick (m_h all S P) (fun j x => decide (bits j < bits x)) j) (fun j b => [.ref 127, .ref a, .int (oI b), .int (nI j)]) 512 ?_ ?_ 0 f1 none (by omega) ⟨rfl, rfl⟩
  · rintro j g b hj ⟨rfl, rfl⟩ hI
    have hc : (512 ≤ j) = False := eq_false (by omega)
    have htj := ht1 j hj
    have hps := pick_s (c := m_h all S P) (bt := fun j x => decide (bits j < bits x)) (n := j)
    have b1 := bI1 (b := m_h all S P j)
    cases hm : m_h all S P j with
    | false =>
      have b1' : (m_h all S P j = true) = False := by rw [hm]; exact eq_false (by decide)
      simp (disch := first | omega | decide | assumption | exact Nat.le_of_ble_eq_true rfl) only [s85_9, s85_10, s85_13, s85_16, s85_17, s85_20, s85_21, s85_22, s85_23, s85_26, s85_27, s85_28, s85_31, s85_35, s85_39, s85_42, s85_43, s85_44, h85_47, ow_some, true_and, and_true, and_self, if_true, if_false, not_true, not_false_eq_true, Bool.false_eq_true, eq_self, Option.toList, List.cons_append, List.nil_append, ix_in, ix_cl, lt_in, lt_cl, lt_add, ix_one, vu_eq, vu_ne, arI_mk, arL_mk, arY_mZ, arY_mB, alen_mI, fld_sfl_ne, fld_sfl_same, Option.isSome_some, pok_i, b1z, b01, z10, b1o, Int32.zero_add, vu_vu, upd_eq, upd_ne, true_or, or_true, lt_le, hc, p1, p2, htj, b1, b1', ne_eq]
      exact hI _ _ ⟨rfl, by rw [hps, hm]; rfl⟩
    | true =>
      have b1' : (m_h all S P j = true) = True := eq_true hm
      rw [hm] at hps
      cases hb : pick (m_h all S P) (fun j x => decide (bits j < bits x)) j with
      | none =>
        rw [hb] at hps
        have e1 : oI none = -1 := rfl
        simp (disch := first | omega | decide | assumption | exact Nat.le_of_ble_eq_true rfl) only [s85_9, s85_10, s85_13, s85_16, s85_17, s85_20, s85_21, s85_22, s85_23, s85_26, s85_27, s85_28, s85_31, s85_35, s85_39, s85_42, s85_43, s85_44, h85_47, ow_some, true_and, and_true, and_self, if_true, if_false, not_true, not_false_eq_true, Bool.false_eq_true, eq_self, Option.toList, List.cons_append, List.nil_append, ix_in, ix_cl, lt_in, lt_cl, lt_add, ix_one, vu_eq, vu_ne, arI_mk, arL_mk, arY_mZ, arY_mB, alen_mI, fld_sfl_ne, fld_sfl_same, Option.isSome_some, pok_i, b1z, b01, z10, b1o, Int32.zero_add, vu_vu, upd_eq, upd_ne, true_or, or_true, lt_le, hc, p1, p2, htj, b1, b1', ne_eq, e1]
        exact hI _ (some j) ⟨rfl, by rw [hps]; rfl⟩
      | some q =>
        rw [hb] at hps
        have hq : q < 512 := Nat.lt_of_lt_of_le (pick_lt hb) (by omega)
        have e1 : oI (some q) = nI q := rfl
        have hne := ne_m1 (m := q) (by omega)
        simp (disch := first | omega | decide | assumption | exact Nat.le_of_ble_eq_true rfl) only [s85_9, s85_10, s85_13, s85_16, s85_17, s85_20, s85_21, s85_22, s85_23, s85_26, s85_27, s85_28, s85_31, ow_some, true_and, and_true, and_self, if_true, if_false, not_true, not_false_eq_true, Bool.false_eq_true, eq_self, Option.toList, List.cons_append, List.nil_append, ix_in, ix_cl, lt_in, lt_cl, lt_add, ix_one, vu_eq, vu_ne, arI_mk, arL_mk, arY_mZ, arY_mB, alen_mI, fld_sfl_ne, fld_sfl_same, Option.isSome_some, pok_i, b1z, b01, z10, b1o, Int32.zero_add, vu_vu, upd_eq, upd_ne, true_or, or_true, lt_le, hc, p1, p2, htj, b1, b1', ne_eq, e1, hne]
        rw [p85_32 (Nat.le_of_ble_eq_true rfl) (sp_bitCount hj)]
        simp (disch := first | omega | decide | assumption | exact Nat.le_of_ble_eq_true rfl) only [s85_35, ow_some, true_and, and_true, and_self, if_true, if_false, not_true, not_false_eq_true, Bool.false_eq_true, eq_self, Option.toList, List.cons_append, List.nil_append, ix_in, ix_cl, lt_in, lt_cl, lt_add, ix_one, vu_eq, vu_ne, arI_mk, arL_mk, arY_mZ, arY_mB, alen_mI, fld_sfl_ne, fld_sfl_same, Option.isSome_some, pok_i, b1z, b01, z10, b1o, Int32.zero_add, vu_vu, upd_eq, upd_ne, true_or, or_true]
        rw [p85_36 (Nat.le_of_ble_eq_true rfl) (sp_bitCount hq)]
        have l1 := bits_lt (T := j)
        have l2 := bits_lt (T := q)
        by_cases hlt : bits j < bits q
        · have c1 : (bits q ≤ bits j) = False := eq_false (by omega)
          simp (disch := first | omega | decide | assumption | exact Nat.le_of_ble_eq_true rfl) only [s85_39, s85_42, s85_43, s85_44, h85_47, ow_some, true_and, and_true, and_self, if_true, if_false, not_true, not_false_eq_true, Bool.false_eq_true, eq_self, Option.toList, List.cons_append, List.nil_append, ix_in, ix_cl, lt_in, lt_cl, lt_add, ix_one, vu_eq, vu_ne, arI_mk, arL_mk, arY_mZ, arY_mB, alen_mI, fld_sfl_ne, fld_sfl_same, Option.isSome_some, pok_i, b1z, b01, z10, b1o, Int32.zero_add, vu_vu, upd_eq, upd_ne, true_or, or_true, ix_le, c1]
          exact hI _ (some j) ⟨rfl, by rw [hps]; simp [hlt]⟩
        · have c1 : (bits q ≤ bits j) = True := eq_true (by omega)
          simp (disch := first | omega | decide | assumption | exact Nat.le_of_ble_eq_true rfl) only [s85_39, s85_42, s85_43, s85_44, h85_47, ow_some, true_and, and_true, and_self, if_true, if_false, not_true, not_false_eq_true, Bool.false_eq_true, eq_self, Option.toList, List.cons_append, List.nil_append, ix_in, ix_cl, lt_in, lt_cl, lt_add, ix_one, vu_eq, vu_ne, arI_mk, arL_mk, arY_mZ, arY_mB, alen_mI, fld_sfl_ne, fld_sfl_same, Option.isSome_some, pok_i, b1z, b01, z10, b1o, Int32.zero_add, vu_vu, upd_eq, upd_ne, true_or, or_true, ix_le, c1]
          exact hI _ (some q) ⟨rfl, by rw [hps]; simp [hlt]⟩
  · rintro g b ⟨rfl, rfl⟩
    simp (disch := first | omega | decide | assumption | exact Nat.le_of_ble_eq_true rfl) only [s85_9, s85_10, s85_13, s85_50, s85_51, ow_some, true_and, and_true, and_self, if_true, if_false, not_true, not_false_eq_true, Bool.false_eq_true, eq_self, Option.toList, List.cons_append, List.nil_append, ix_in, ix_cl, lt_in, lt_cl, lt_add, ix_one, vu_eq, vu_ne, arI_mk, arL_mk, arY_mZ, arY_mB, alen_mI, fld_sfl_ne, fld_sfl_same, Option.isSome_some, pok_i, b1z, b01, z10, b1o, Int32.zero_add, vu_vu, upd_eq, upd_ne, true_or, or_true, lt_le, Nat.le_refl]
    exact ⟨rfl, rfl, s1, ⟨y1, t1, L1, ⟨p0, p1, p2⟩⟩, rfl⟩
theorem sp_countAll {X : Nat × (Nat → Int32)} {d N K a pl C S R P : Nat} {f : Nat → e_C} {y x r : Nat → Nat → Int32} {w v all tb : Nat → Int32} (L : LV f 128 y) (V : SV f a pl w x) (W : PV f pl v r C) (G : CR all S P w x v r C) (I : IS all S R P) (hd : AD a pl 128) (O : OV f tb) {u2 u3 : Value} : TT X (d + 5) 87 0 [.ref 127, .ref a, u2, u3] [] f N K (QS f N K (nI (cnt (m_h all S P) (2 ^ P)))) := by
  have h9 := I.p9
  simp (disch := first | omega | decide | assumption | exact Nat.le_of_ble_eq_true rfl) only [s87_0, s87_1, ow_some, true_and, and_true, and_self, if_true, if_false, not_true, not_false_eq_true, Bool.false_eq_true, eq_self, Option.toList, List.cons_append, List.nil_append, ix_in, ix_cl, lt_in, lt_cl, lt_add, ix_one, vu_eq, vu_ne, arI_mk, arL_mk, arY_mZ, arY_mB, alen_mI, fld_sfl_ne, fld_sfl_same, Option.isSome_some, pok_i, b1z, b01, z10, b1o, Int32.zero_add, vu_vu, upd_eq, upd_ne, true_or, or_true]
  refine k87_2 O.cn (Nat.le_of_ble_eq_true rfl) (sp_mark L V W G I hd O) ?_
  rintro f1 n1 k1 v1 ⟨rfl, rfl, rfl, s1, y1, t1, L1, O1, hw1, ht1⟩
  obtain ⟨p0, p1, p2⟩ := O1
  have e : cnt (m_h all S P) (2 ^ P) = cnt (m_h all S P) 512 := (cnt_more (pw9 h9) (fun j h1 _ => mh_hi I h1)).symm
  rw [e]
  simp (disch := first | omega | decide | assumption | exact Nat.le_of_ble_eq_true rfl) only [s87_5, s87_6, s87_7, h87_8, ow_some, true_and, and_true, and_self, if_true, if_false, not_true, not_false_eq_true, Bool.false_eq_true, eq_self, Option.toList, List.cons_append, List.nil_append, ix_in, ix_cl, lt_in, lt_cl, lt_add, ix_one, vu_eq, vu_ne, arI_mk, arL_mk, arY_mZ, arY_mB, alen_mI, fld_sfl_ne, fld_sfl_same, Option.isSome_some, pok_i, b1z, b01, z10, b1o, Int32.zero_add, vu_vu, upd_eq, upd_ne, true_or, or_true]
  refine lp (fun j g (b : Nat) => g = f1 ∧ b = cnt (m_h all S P) j) (fun j b => [.ref 127, .ref a, .int (nI b), .int (nI j)]) 512 ?_ ?_ 0 f1 0 (by omega) ⟨rfl, rfl⟩
  · rintro j g b hj ⟨rfl, rfl⟩ hI
    have hc : (512 ≤ j) = False := eq_false (by omega)
    have htj := ht1 j hj
    have hcs := cnt_s (c := m_h all S P) (n := j)
    cases hm : m_h all S P j with
    | false =>
      rw [hm] at hcs htj
      have htj : t1 j = 0 := htj
      have e0 : ∀ z : Int32, z + 0 = z := Int32.add_zero
      simp (disch := first | omega | decide | assumption | exact Nat.le_of_ble_eq_true rfl) only [s87_9, s87_10, s87_13, s87_16, s87_17, s87_18, s87_21, s87_22, s87_23, s87_24, s87_25, h87_28, ow_some, true_and, and_true, and_self, if_true, if_false, not_true, not_false_eq_true, Bool.false_eq_true, eq_self, Option.toList, List.cons_append, List.nil_append, ix_in, ix_cl, lt_in, lt_cl, lt_add, ix_one, vu_eq, vu_ne, arI_mk, arL_mk, arY_mZ, arY_mB, alen_mI, fld_sfl_ne, fld_sfl_same, Option.isSome_some, pok_i, b1z, b01, z10, b1o, Int32.zero_add, vu_vu, upd_eq, upd_ne, true_or, or_true, lt_le, hc, p1, p2, htj, e0]
      exact hI _ _ ⟨rfl, by rw [hcs]; rfl⟩
    | true =>
      rw [hm] at hcs htj
      have htj : t1 j = 1 := htj
      simp (disch := first | omega | decide | assumption | exact Nat.le_of_ble_eq_true rfl) only [s87_9, s87_10, s87_13, s87_16, s87_17, s87_18, s87_21, s87_22, s87_23, s87_24, s87_25, h87_28, ow_some, true_and, and_true, and_self, if_true, if_false, not_true, not_false_eq_true, Bool.false_eq_true, eq_self, Option.toList, List.cons_append, List.nil_append, ix_in, ix_cl, lt_in, lt_cl, lt_add, ix_one, vu_eq, vu_ne, arI_mk, arL_mk, arY_mZ, arY_mB, alen_mI, fld_sfl_ne, fld_sfl_same, Option.isSome_some, pok_i, b1z, b01, z10, b1o, Int32.zero_add, vu_vu, upd_eq, upd_ne, true_or, or_true, lt_le, hc, p1, p2, htj]
      exact hI _ (cnt (m_h all S P) j + 1) ⟨rfl, by rw [hcs]; rfl⟩
  · rintro g b ⟨rfl, rfl⟩
    simp (disch := first | omega | decide | assumption | exact Nat.le_of_ble_eq_true rfl) only [s87_9, s87_10, s87_13, s87_31, s87_32, ow_some, true_and, and_true, and_self, if_true, if_false, not_true, not_false_eq_true, Bool.false_eq_true, eq_self, Option.toList, List.cons_append, List.nil_append, ix_in, ix_cl, lt_in, lt_cl, lt_add, ix_one, vu_eq, vu_ne, arI_mk, arL_mk, arY_mZ, arY_mB, alen_mI, fld_sfl_ne, fld_sfl_same, Option.isSome_some, pok_i, b1z, b01, z10, b1o, Int32.zero_add, vu_vu, upd_eq, upd_ne, true_or, or_true, lt_le, Nat.le_refl]
    exact ⟨rfl, rfl, s1, ⟨y1, t1, L1, ⟨p0, p1, p2⟩⟩, rfl⟩
theorem clr_sb {T p : Nat} (hT : T < 512) (hp : p < 9) : sub (clr T p) T = true := clr_sub hT hp
theorem sp_needs {X : Nat × (Nat → Int32)} {d N K a pl C S R P : Nat} {f : Nat → e_C} {y x r : Nat → Nat → Int32} {w v all tb : Nat → Int32} (L : LV f 128 y) (V : SV f a pl w x) (W : PV f pl v r C) (G : CR all S P w x v r C) (I : IS all S R P) (hd : AD a pl 128) (O : OV f tb) {u2 u3 : Value} : TT X (d + 4) 88 0 [.ref 127, .ref a, u2, u3] [] f N K (QS f N K (o_need all S P)) := by
  have h9 := I.p9
  have hP : w 1 = nI P := by rw [G.w1]; exact I.eP
  have hT : w 6 = nI (nT all) := by rw [G.w6]; exact I.eT
  obtain ⟨o0, o1, o2⟩ := O
  unfold o_need
  simp (disch := first | omega | decide | assumption | exact Nat.le_of_ble_eq_true rfl) only [s88_0, s88_1, s88_4, ow_some, true_and, and_true, and_self, if_true, if_false, not_true, not_false_eq_true, Bool.false_eq_true, eq_self, Option.toList, List.cons_append, List.nil_append, ix_in, ix_cl, lt_in, lt_cl, lt_add, ix_one, vu_eq, vu_ne, arI_mk, arL_mk, arY_mZ, arY_mB, alen_mI, fld_sfl_ne, fld_sfl_same, Option.isSome_some, pok_i, b1z, b01, z10, b1o, Int32.zero_add, vu_vu, upd_eq, upd_ne, true_or, or_true, o0]
  refine k88_5 L.cn (Nat.le_of_ble_eq_true rfl) (sp_weigh L V W G I hd) ?_
  rintro f1 n1 k1 v1 ⟨rfl, rfl, rfl, s1, y1, L1, -, hw1⟩
  have s1' : SI 130 136 f f1 := s1.wd (by omega) (by omega)
  have O1 : OV f1 tb := OV.fr ⟨o0, o1, o2⟩ (s1 127 (by omega)) (s1 135 (by omega))
  have V1 := V.fr (f' := f1) (fun b h1 h2 => s1 b (by omega))
  have W1 := W.fr (f' := f1) (fun b h1 h2 => s1 b (by omega))
  have q0 := O1.1
  simp (disch := first | omega | decide | assumption | exact Nat.le_of_ble_eq_true rfl) only [s88_8, s88_9, s88_12, s88_13, s88_14, ow_some, true_and, and_true, and_self, if_true, if_false, not_true, not_false_eq_true, Bool.false_eq_true, eq_self, Option.toList, List.cons_append, List.nil_append, ix_in, ix_cl, lt_in, lt_cl, lt_add, ix_one, vu_eq, vu_ne, arI_mk, arL_mk, arY_mZ, arY_mB, alen_mI, fld_sfl_ne, fld_sfl_same, Option.isSome_some, pok_i, b1z, b01, z10, b1o, Int32.zero_add, vu_vu, upd_eq, upd_ne, true_or, or_true, V1.v1, V1.v6, V1.v7, V1.v8, V1.v9, V1.i1, V1.i6, V1.i7, V1.i8, V1.i9, V1.r2, V1.r3, V1.r4, V1.r5, V1.pl, V1.a2, V1.a3, V1.a4, V1.a5, q0, hT]
  refine k88_17 L1.cn (Nat.le_of_ble_eq_true rfl) (sp_slackOf L1 V1 W1 G I hd sub_rf hw1) ?_
  rintro f2 n2 k2 v2 ⟨rfl, rfl, s2, ⟨g2, L2, hg2⟩, rfl⟩
  have O2 : OV f2 tb := O1.fr (s2 127 (by omega)) (s2 135 (by omega))
  have hh := sp_ge0 (all := all) (S := S) (P := P) (T := nT all)
  by_cases hb : m_hold all S P (nT all) = true
  · have hb' : (m_hold all S P (nT all) = true) = True := eq_true hb
    rw [if_pos hb]
    simp (disch := first | omega | decide | assumption | exact Nat.le_of_ble_eq_true rfl) only [s88_20, s88_25, s88_26, s88_27, h88_28, ow_some, true_and, and_true, and_self, if_true, if_false, not_true, not_false_eq_true, Bool.false_eq_true, eq_self, Option.toList, List.cons_append, List.nil_append, ix_in, ix_cl, lt_in, lt_cl, lt_add, ix_one, vu_eq, vu_ne, arI_mk, arL_mk, arY_mZ, arY_mB, alen_mI, fld_sfl_ne, fld_sfl_same, Option.isSome_some, pok_i, b1z, b01, z10, b1o, Int32.zero_add, vu_vu, upd_eq, upd_ne, true_or, or_true, hh, hb']
    refine lp (fun p e (z : (Nat → Nat → Int32) × Nat) => SI 130 136 f e ∧ LV e 128 z.1 ∧ OV e tb ∧ wgd all P z.1 ∧ z.2 = sel (fun p => (nT all).testBit p && !m_hold all S P (clr (nT all) p)) p) (fun p z => [.ref 127, .ref a, .int (nI z.2), .int (nI p)]) P ?_ ?_ 0 f2 (up2 y1 4 g2, 0) (by omega) ⟨s1'.tr (s2.wd (by omega) (by omega)), L2, O2, wgd_up hw1, rfl⟩
    · rintro p e ⟨y3, z⟩ hp ⟨s3, L3, O3, hw3, hz⟩ hI
      dsimp only at hz
      have V3 := V.fr (f' := e) (fun b h1 h2 => s3 b (by omega))
      have W3 := W.fr (f' := e) (fun b h1 h2 => s3 b (by omega))
      have hc : (P ≤ p) = False := eq_false (by omega)
      have hlt : z < 512 := by rw [hz]; exact Nat.lt_of_lt_of_le sel_lt (pw9 (by omega))
      have hbs := (bit_set z hlt p (by omega)).1
      obtain ⟨hcl, hclt⟩ := bit_clr (nT all) I.t5 p (by omega)
      have r0 := O3.1
      simp (disch := first | omega | decide | assumption | exact Nat.le_of_ble_eq_true rfl) only [s88_29, s88_30, s88_31, s88_34, s88_37, s88_38, ow_some, true_and, and_true, and_self, if_true, if_false, not_true, not_false_eq_true, Bool.false_eq_true, eq_self, Option.toList, List.cons_append, List.nil_append, ix_in, ix_cl, lt_in, lt_cl, lt_add, ix_one, vu_eq, vu_ne, arI_mk, arL_mk, arY_mZ, arY_mB, alen_mI, fld_sfl_ne, fld_sfl_same, Option.isSome_some, pok_i, b1z, b01, z10, b1o, Int32.zero_add, vu_vu, upd_eq, upd_ne, true_or, or_true, V3.v1, V3.v6, V3.v7, V3.v8, V3.v9, V3.i1, V3.i6, V3.i7, V3.i8, V3.i9, V3.r2, V3.r3, V3.r4, V3.r5, V3.pl, V3.a2, V3.a3, V3.a4, V3.a5, hP, ix_le, hc]
      rw [p88_39 V3.cn (Nat.le_of_ble_eq_true rfl) (sp_isTj V3 hP h9 hT I.t5 hp)]
      by_cases hbit : (nT all).testBit p = true
      · simp (disch := first | omega | decide | assumption | exact Nat.le_of_ble_eq_true rfl) only [s88_42, s88_45, s88_46, s88_49, s88_50, s88_51, s88_54, s88_55, s88_56, s88_57, s88_58, s88_59, ow_some, true_and, and_true, and_self, if_true, if_false, not_true, not_false_eq_true, Bool.false_eq_true, eq_self, Option.toList, List.cons_append, List.nil_append, ix_in, ix_cl, lt_in, lt_cl, lt_add, ix_one, vu_eq, vu_ne, arI_mk, arL_mk, arY_mZ, arY_mB, alen_mI, fld_sfl_ne, fld_sfl_same, Option.isSome_some, pok_i, b1z, b01, z10, b1o, Int32.zero_add, vu_vu, upd_eq, upd_ne, true_or, or_true, V3.v1, V3.v6, V3.v7, V3.v8, V3.v9, V3.i1, V3.i6, V3.i7, V3.i8, V3.i9, V3.r2, V3.r3, V3.r4, V3.r5, V3.pl, V3.a2, V3.a3, V3.a4, V3.a5, hbit, r0, hT, hcl]
        refine k88_60 L3.cn (Nat.le_of_ble_eq_true rfl) (sp_slackOf L3 V3 W3 G I hd (clr_sb I.t5 (by omega)) hw3) ?_
        rintro f4 n4 k4 v4 ⟨rfl, rfl, s4, ⟨g4, L4, hg4⟩, rfl⟩
        have O4 : OV f4 tb := O3.fr (s4 127 (by omega)) (s4 135 (by omega))
        have hh4 := sp_ge0 (all := all) (S := S) (P := P) (T := clr (nT all) p)
        by_cases hb4 : m_hold all S P (clr (nT all) p) = true
        · have hb4' : (m_hold all S P (clr (nT all) p) = true) = True := eq_true hb4
          simp (disch := first | omega | decide | assumption | exact Nat.le_of_ble_eq_true rfl) only [s88_63, s88_72, h88_75, ow_some, true_and, and_true, and_self, if_true, if_false, not_true, not_false_eq_true, Bool.false_eq_true, eq_self, Option.toList, List.cons_append, List.nil_append, ix_in, ix_cl, lt_in, lt_cl, lt_add, ix_one, vu_eq, vu_ne, arI_mk, arL_mk, arY_mZ, arY_mB, alen_mI, fld_sfl_ne, fld_sfl_same, Option.isSome_some, pok_i, b1z, b01, z10, b1o, Int32.zero_add, vu_vu, upd_eq, upd_ne, true_or, or_true, hh4, hb4']
          refine hI _ (up2 y3 4 g4, z) ⟨s3.tr (s4.wd (by omega) (by omega)), L4, O4, wgd_up hw3, ?_⟩
          rw [sel_s, hbit, hb4]; exact hz
        · have hb4' : (m_hold all S P (clr (nT all) p) = true) = False := eq_false hb4
          simp (disch := first | omega | decide | assumption | exact Nat.le_of_ble_eq_true rfl) only [s88_63, s88_66, s88_67, s88_68, s88_69, s88_70, s88_71, s88_72, h88_75, ow_some, true_and, and_true, and_self, if_true, if_false, not_true, not_false_eq_true, Bool.false_eq_true, eq_self, Option.toList, List.cons_append, List.nil_append, ix_in, ix_cl, lt_in, lt_cl, lt_add, ix_one, vu_eq, vu_ne, arI_mk, arL_mk, arY_mZ, arY_mB, alen_mI, fld_sfl_ne, fld_sfl_same, Option.isSome_some, pok_i, b1z, b01, z10, b1o, Int32.zero_add, vu_vu, upd_eq, upd_ne, true_or, or_true, hh4, hb4', hbs]
          refine hI _ (up2 y3 4 g4, z ||| 2 ^ p) ⟨s3.tr (s4.wd (by omega) (by omega)), L4, O4, wgd_up hw3, ?_⟩
          rw [sel_s, hbit, Bool.eq_false_iff.mpr hb4]
          show z ||| 2 ^ p = _
          rw [hz]; rfl
      · simp (disch := first | omega | decide | assumption | exact Nat.le_of_ble_eq_true rfl) only [s88_42, s88_72, h88_75, ow_some, true_and, and_true, and_self, if_true, if_false, not_true, not_false_eq_true, Bool.false_eq_true, eq_self, Option.toList, List.cons_append, List.nil_append, ix_in, ix_cl, lt_in, lt_cl, lt_add, ix_one, vu_eq, vu_ne, arI_mk, arL_mk, arY_mZ, arY_mB, alen_mI, fld_sfl_ne, fld_sfl_same, Option.isSome_some, pok_i, b1z, b01, z10, b1o, Int32.zero_add, vu_vu, upd_eq, upd_ne, true_or, or_true, hbit]
        refine hI _ (y3, z) ⟨s3, L3, O3, hw3, ?_⟩
        rw [sel_s, Bool.eq_false_iff.mpr hbit]; exact hz
    · rintro e ⟨y3, z⟩ ⟨s3, L3, O3, hw3, hz⟩
      dsimp only at hz
      have V3 := V.fr (f' := e) (fun b h1 h2 => s3 b (by omega))
      simp (disch := first | omega | decide | assumption | exact Nat.le_of_ble_eq_true rfl) only [s88_29, s88_30, s88_31, s88_34, s88_78, s88_79, ow_some, true_and, and_true, and_self, if_true, if_false, not_true, not_false_eq_true, Bool.false_eq_true, eq_self, Option.toList, List.cons_append, List.nil_append, ix_in, ix_cl, lt_in, lt_cl, lt_add, ix_one, vu_eq, vu_ne, arI_mk, arL_mk, arY_mZ, arY_mB, alen_mI, fld_sfl_ne, fld_sfl_same, Option.isSome_some, pok_i, b1z, b01, z10, b1o, Int32.zero_add, vu_vu, upd_eq, upd_ne, true_or, or_true, V3.v1, V3.v6, V3.v7, V3.v8, V3.v9, V3.i1, V3.i6, V3.i7, V3.i8, V3.i9, V3.r2, V3.r3, V3.r4, V3.r5, V3.pl, V3.a2, V3.a3, V3.a4, V3.a5, hP, ix_le, Nat.le_refl]
      exact ⟨rfl, rfl, s3, ⟨y3, tb, L3, O3⟩, by rw [hz]⟩
  · have hb' : (m_hold all S P (nT all) = true) = False := eq_false hb
    rw [if_neg hb]
    simp (disch := first | omega | decide | assumption | exact Nat.le_of_ble_eq_true rfl) only [s88_20, s88_23, s88_24, ow_some, true_and, and_true, and_self, if_true, if_false, not_true, not_false_eq_true, Bool.false_eq_true, eq_self, Option.toList, List.cons_append, List.nil_append, ix_in, ix_cl, lt_in, lt_cl, lt_add, ix_one, vu_eq, vu_ne, arI_mk, arL_mk, arY_mZ, arY_mB, alen_mI, fld_sfl_ne, fld_sfl_same, Option.isSome_some, pok_i, b1z, b01, z10, b1o, Int32.zero_add, vu_vu, upd_eq, upd_ne, true_or, or_true, hh, hb']
    exact ⟨rfl, rfl, s1'.tr (s2.wd (by omega) (by omega)), ⟨_, tb, L2, O2⟩, rfl⟩

/-! the class: where one brought lets it stand longest -/
set_option maxRecDepth 100000 in
theorem low_t : ∀ s, s < 512 → ∀ k, k < 9 → s.testBit k = true → (∀ j, j < k → s.testBit j = false) → (nI s ^^^ -1) &&& (nI s - 1) = nI (2 ^ k - 1) := by decide +kernel
theorem sp_ntz {X : Nat × (Nat → Int32)} {d N K s k : Nat} {f : Nat → e_C} {u1 : Value} (hs : s < 512) (hk : k < 9) (h1 : s.testBit k = true) (h2 : ∀ j, j < k → s.testBit j = false) : PU X d 308 [.int (nI s), u1] f N K (some (.int (nI k))) := by
  have hl := low_t s hs k hk h1 h2
  unfold PU
  simp (disch := first | omega | decide | assumption | exact Nat.le_of_ble_eq_true rfl) only [s308_0, s308_1, s308_2, s308_3, s308_4, s308_5, s308_6, s308_7, s308_8, ow_some, true_and, and_true, and_self, if_true, if_false, not_true, not_false_eq_true, Bool.false_eq_true, eq_self, Option.toList, List.cons_append, List.nil_append, ix_in, ix_cl, lt_in, lt_cl, lt_add, ix_one, vu_eq, vu_ne, arI_mk, arL_mk, arY_mZ, arY_mB, alen_mI, fld_sfl_ne, fld_sfl_same, Option.isSome_some, pok_i, b1z, b01, z10, b1o, Int32.zero_add, vu_vu, upd_eq, upd_ne, true_or, or_true, hl]
  rcases (show k = 0 ∨ k = 1 ∨ k = 2 ∨ k = 3 ∨ k = 4 ∨ k = 5 ∨ k = 6 ∨ k = 7 ∨ k = 8 by omega) with rfl | rfl | rfl | rfl | rfl | rfl | rfl | rfl | rfl
  all_goals simp (decide := true) only [s308_9, s308_12, s308_13, s308_15, s308_16, s308_17, s308_18, s308_19, s308_20, s308_23, s308_26, s308_29, s308_30, s308_32, s308_33, s308_34, s308_35, s308_38, s308_41, s308_44, s308_45, s308_47, s308_48, s308_49, s308_50, s308_52, s308_55, s308_58, s308_59, s308_60, s308_61, s308_62, s308_63, s308_64, s308_67, s308_70, s308_71, s308_72, s308_73, s308_74, s308_75, s308_76, s308_77, s308_78, s308_79, if_true, if_false, and_self, true_and]
theorem sp_bringAll {X : Nat × (Nat → Int32)} {d N K a pl C S R P q : Nat} {f : Nat → e_C} {y x r : Nat → Nat → Int32} {w v all br mo up : Nat → Int32} {li : Nat → Int64} (L : LV f q y) (V : SV f a pl w x) (W : PV f pl v r C) (G : CR all S P w x v r C) (I : IS all S R P) (hd : AD a pl q) (O : XV f q br mo up li) (hq : q = 160) {c n : Nat} {u4 : Value} : TT X (d + 3) 108 0 [.ref 159, .ref a, .int (nI c), .int (nI n), u4] [] f N K (fun f' n' k' z => n' = N ∧ k' = K ∧ z = none ∧ SI 162 171 f f' ∧ ∃ y' br', LV f' q y' ∧ XV f' q br' mo up li ∧ (∀ j, 2 ≤ j → y' j = y j) ∧ ∀ k, k < S → br' k = nwc all P c k n) := by
  have h8 := I.s8
  have hS : v 0 = nI S := by rw [G.v0]; exact I.eS
  simp (disch := first | omega | decide | assumption | exact Nat.le_of_ble_eq_true rfl) only [s108_0, h108_1, ow_some, true_and, and_true, and_self, if_true, if_false, not_true, not_false_eq_true, Bool.false_eq_true, eq_self, Option.toList, List.cons_append, List.nil_append, ix_in, ix_cl, lt_in, lt_cl, lt_add, ix_one, vu_eq, vu_ne, arI_mk, arL_mk, arY_mZ, arY_mB, alen_mI, fld_sfl_ne, fld_sfl_same, Option.isSome_some, pok_i, b1z, b01, z10, b1o, Int32.zero_add, vu_vu, upd_eq, upd_ne, true_or, or_true]
  refine lp (fun k e (z : (Nat → Nat → Int32) × (Nat → Int32)) => SI 162 171 f e ∧ LV e q z.1 ∧ XV e q z.2 mo up li ∧ (∀ j, 2 ≤ j → z.1 j = y j) ∧ ∀ i, i < k → z.2 i = nwc all P c i n) (fun k z => [.ref 159, .ref a, .int (nI c), .int (nI n), .int (nI k)]) S ?_ ?_ 0 f (y, br) (by omega) ⟨SI.rf, L, O, fun _ _ => rfl, fun i hi => by omega⟩
  · rintro k e ⟨y1, b1⟩ hk ⟨s1, L1, O1, hy, hb⟩ hI
    dsimp only at hb hy
    have V1 := V.fr (f' := e) (fun b h1 h2 => s1 b (by omega))
    have W1 := W.fr (f' := e) (fun b h1 h2 => s1 b (by omega))
    have hc : (S ≤ k) = False := eq_false (by omega)
    obtain ⟨c1, c2, c3, c4, c5, c6, c7, c8, c9⟩ := id O1
    simp (disch := first | omega | decide | assumption | exact Nat.le_of_ble_eq_true rfl) only [s108_3, s108_5, s108_6, s108_9, s108_12, s108_15, s108_16, s108_19, s108_21, s108_22, s108_25, s108_26, s108_28, s108_29, ow_some, true_and, and_true, and_self, if_true, if_false, not_true, not_false_eq_true, Bool.false_eq_true, eq_self, Option.toList, List.cons_append, List.nil_append, ix_in, ix_cl, lt_in, lt_cl, lt_add, ix_one, vu_eq, vu_ne, arI_mk, arL_mk, arY_mZ, arY_mB, alen_mI, fld_sfl_ne, fld_sfl_same, Option.isSome_some, pok_i, b1z, b01, z10, b1o, Int32.zero_add, vu_vu, upd_eq, upd_ne, true_or, or_true, V1.v1, V1.v6, V1.v7, V1.v8, V1.v9, V1.i1, V1.i6, V1.i7, V1.i8, V1.i9, V1.r2, V1.r3, V1.r4, V1.r5, V1.pl, V1.a2, V1.a3, V1.a4, V1.a5, W1.v0, W1.v3, W1.v10, W1.v11, W1.v12, W1.v14, W1.v15, W1.v16, W1.v17, W1.v18, W1.r1, W1.r2, W1.r4, W1.r5, W1.r6, W1.r7, W1.r8, W1.r9, W1.r13, W1.a1, W1.a2, W1.a4, W1.a5, W1.a6, W1.a7, W1.a8, W1.a9, W1.a13, hS, ix_le, hc, c1, c2]
    refine k108_30 L1.cn (Nat.le_of_ble_eq_true rfl) (sp_newcomer L1 V1 W1 G I hd) ?_
    rintro f2 n2 k2 v2 ⟨rfl, rfl, s2, ⟨y2, L2, hy2⟩, rfl⟩
    have O2 : XV f2 q b1 mo up li := O1.fr (s2 159 (by omega)) (fun b h1 h2 => s2 b (by omega))
    have d6 := O2.2.2.2.2.2.1
    simp (disch := first | omega | decide | assumption | exact Nat.le_of_ble_eq_true rfl) only [s108_33, s108_34, h108_37, ow_some, true_and, and_true, and_self, if_true, if_false, not_true, not_false_eq_true, Bool.false_eq_true, eq_self, Option.toList, List.cons_append, List.nil_append, ix_in, ix_cl, lt_in, lt_cl, lt_add, ix_one, vu_eq, vu_ne, arI_mk, arL_mk, arY_mZ, arY_mB, alen_mI, fld_sfl_ne, fld_sfl_same, Option.isSome_some, pok_i, b1z, b01, z10, b1o, Int32.zero_add, vu_vu, upd_eq, upd_ne, true_or, or_true, d6]
    refine hI _ (y2, upd b1 k (nwc all P c k n)) ⟨(s1.tr (s2.wd (by omega) (by omega))).tr (SI.up (by omega) (by omega)), L2.fr (fun b h1 h2 => vu_ne (by omega)), O2.u7, fun j hj => by dsimp only; rw [hy2 j hj]; exact hy j hj, fun i hi => ?_⟩
    dsimp only
    by_cases h : i = k
    · subst h; rw [upd_eq]
    · rw [upd_ne h]; exact hb i (by omega)
  · rintro e ⟨y1, b1⟩ ⟨s1, L1, O1, hy, hb⟩
    have V1 := V.fr (f' := e) (fun b h1 h2 => s1 b (by omega))
    have W1 := W.fr (f' := e) (fun b h1 h2 => s1 b (by omega))
    simp (disch := first | omega | decide | assumption | exact Nat.le_of_ble_eq_true rfl) only [s108_3, s108_5, s108_6, s108_9, s108_12, s108_40, ow_some, true_and, and_true, and_self, if_true, if_false, not_true, not_false_eq_true, Bool.false_eq_true, eq_self, Option.toList, List.cons_append, List.nil_append, ix_in, ix_cl, lt_in, lt_cl, lt_add, ix_one, vu_eq, vu_ne, arI_mk, arL_mk, arY_mZ, arY_mB, alen_mI, fld_sfl_ne, fld_sfl_same, Option.isSome_some, pok_i, b1z, b01, z10, b1o, Int32.zero_add, vu_vu, upd_eq, upd_ne, true_or, or_true, V1.v1, V1.v6, V1.v7, V1.v8, V1.v9, V1.i1, V1.i6, V1.i7, V1.i8, V1.i9, V1.r2, V1.r3, V1.r4, V1.r5, V1.pl, V1.a2, V1.a3, V1.a4, V1.a5, W1.v0, W1.v3, W1.v10, W1.v11, W1.v12, W1.v14, W1.v15, W1.v16, W1.v17, W1.v18, W1.r1, W1.r2, W1.r4, W1.r5, W1.r6, W1.r7, W1.r8, W1.r9, W1.r13, W1.a1, W1.a2, W1.a4, W1.a5, W1.a6, W1.a7, W1.a8, W1.a9, W1.a13, hS, ix_le, Nat.le_refl]
    exact ⟨s1, y1, b1, L1, O1, hy, hb⟩
/-- it stands with one brought to step k -/
def hkd (all : Nat → Int32) (S P Tx T c n k : Nat) : Bool := m_hold (nal all P Tx c k n) S (P + 1) (T ||| 2 ^ P)
theorem i_as {a b : Int32} : a + b - b = a := Int32.add_sub_cancel a b
theorem sp_thatStand {X : Nat × (Nat → Int32)} {d N K a pl C S R P q : Nat} {f : Nat → e_C} {y x r : Nat → Nat → Int32} {w v all br mo up : Nat → Int32} {li : Nat → Int64} (L : LV f q y) (V : SV f a pl w x) (W : PV f pl v r C) (G : CR all S P w x v r C) (I : IS all S R P) (hd : AD a pl q) (O : XV f q br mo up li) (hq : q = 160) {c n T st Tx : Nat} (hP9 : P < 9) (hc : c < 100) (hst : st < 512) (hro : ∀ k, k < S → y 4 k = m_bo (m_lat all n) T P k) (hbr : ∀ k, k < S → br k = nwc all P c k n) {u3 u4 : Value} : TT X (d + 3) 109 0 [.ref 159, .ref a, .int (nI st), u3, u4] [] f N K (fun f' n' k' z => n' = N ∧ k' = K ∧ SI 162 171 f f' ∧ (∃ y', LV f' q y' ∧ XV f' q br mo up li ∧ (∀ j, j ≠ 4 → y' j = y j) ∧ ∀ k, k < S → y' 4 k = y 4 k) ∧ z = some (.int (nI (sel (fun k => st.testBit k && hkd all S P Tx T c n k) S)))) := by
  have h8 := I.s8
  have hS : v 0 = nI S := by rw [G.v0]; exact I.eS
  simp (disch := first | omega | decide | assumption | exact Nat.le_of_ble_eq_true rfl) only [s109_0, s109_1, s109_2, h109_3, ow_some, true_and, and_true, and_self, if_true, if_false, not_true, not_false_eq_true, Bool.false_eq_true, eq_self, Option.toList, List.cons_append, List.nil_append, ix_in, ix_cl, lt_in, lt_cl, lt_add, ix_one, vu_eq, vu_ne, arI_mk, arL_mk, arY_mZ, arY_mB, alen_mI, fld_sfl_ne, fld_sfl_same, Option.isSome_some, pok_i, b1z, b01, z10, b1o, Int32.zero_add, vu_vu, upd_eq, upd_ne, true_or, or_true]
  refine lp (fun k e (z : (Nat → Nat → Int32) × Nat) => SI 162 171 f e ∧ LV e q z.1 ∧ XV e q br mo up li ∧ (∀ j, j ≠ 4 → z.1 j = y j) ∧ (∀ i, i < S → z.1 4 i = y 4 i) ∧ z.2 = sel (fun k => st.testBit k && hkd all S P Tx T c n k) k) (fun k z => [.ref 159, .ref a, .int (nI st), .int (nI z.2), .int (nI k)]) S ?_ ?_ 0 f (y, 0) (by omega) ⟨SI.rf, L, O, fun _ _ => rfl, fun _ _ => rfl, rfl⟩
  · rintro k e ⟨y1, z⟩ hk ⟨s1, L1, O1, hy, hy4, hz⟩ hI
    dsimp only at hy hy4 hz
    have V1 := V.fr (f' := e) (fun b h1 h2 => s1 b (by omega))
    have W1 := W.fr (f' := e) (fun b h1 h2 => s1 b (by omega))
    have hcS : (S ≤ k) = False := eq_false (by omega)
    have hbit := bit_has st hst k (by omega)
    have hlt : z < 512 := by rw [hz]; exact Nat.lt_of_lt_of_le sel_lt (pw9 (by omega))
    have hbs := (bit_set z hlt k (by omega)).1
    obtain ⟨c1, c2, c3, c4, c5, c6, c7, c8, c9⟩ := id O1
    by_cases hb : st.testBit k = true
    · have hb' : (¬ st.testBit k = true) = False := eq_false (fun z => z hb)
      have hbk := hbr k hk
      simp (disch := first | omega | decide | assumption | exact Nat.le_of_ble_eq_true rfl) only [s109_5, s109_7, s109_8, s109_11, s109_14, s109_17, s109_18, s109_19, s109_21, s109_22, s109_23, s109_26, s109_27, s109_30, s109_33, s109_35, s109_36, s109_37, s109_38, s109_41, s109_43, s109_44, s109_45, ow_some, true_and, and_true, and_self, if_true, if_false, not_true, not_false_eq_true, Bool.false_eq_true, eq_self, Option.toList, List.cons_append, List.nil_append, ix_in, ix_cl, lt_in, lt_cl, lt_add, ix_one, vu_eq, vu_ne, arI_mk, arL_mk, arY_mZ, arY_mB, alen_mI, fld_sfl_ne, fld_sfl_same, Option.isSome_some, pok_i, b1z, b01, z10, b1o, Int32.zero_add, vu_vu, upd_eq, upd_ne, true_or, or_true, V1.v1, V1.v6, V1.v7, V1.v8, V1.v9, V1.i1, V1.i6, V1.i7, V1.i8, V1.i9, V1.r2, V1.r3, V1.r4, V1.r5, V1.pl, V1.a2, V1.a3, V1.a4, V1.a5, W1.v0, W1.v3, W1.v10, W1.v11, W1.v12, W1.v14, W1.v15, W1.v16, W1.v17, W1.v18, W1.r1, W1.r2, W1.r4, W1.r5, W1.r6, W1.r7, W1.r8, W1.r9, W1.r13, W1.a1, W1.a2, W1.a4, W1.a5, W1.a6, W1.a7, W1.a8, W1.a9, W1.a13, L1.r0, L1.r1, L1.r2, L1.r3, L1.l0, L1.l1, L1.a0, L1.a1, L1.a2, L1.a3, L1.a4, hS, ix_le, hcS, hbit, hb', c1, c2, c6, hbk]
      have L2 := L1.s4 (g := upd (y1 4) k (y1 4 k + nwc all P c k n))
      have s2 : SI 162 171 f (va_up e (q + 6) (.inl (.int, 8, .inl (upd (y1 4) k (y1 4 k + nwc all P c k n))))) := s1.tr (SI.up (by omega) (by omega))
      have O2 : XV (va_up e (q + 6) (.inl (.int, 8, .inl (upd (y1 4) k (y1 4 k + nwc all P c k n))))) q br mo up li := O1.fr (vu_ne (by omega)) (fun b h1 h2 => vu_ne (by omega))
      generalize va_up e (q + 6) (.inl (.int, 8, .inl (upd (y1 4) k (y1 4 k + nwc all P c k n)))) = f2 at L2 s2 O2 ⊢
      have V2 := V.fr (f' := f2) (fun b h1 h2 => s2 b (by omega))
      have W2 := W.fr (f' := f2) (fun b h1 h2 => s2 b (by omega))
      have q2 := O2.1
      have r2 := O2.2.1
      have b6 := O2.2.2.2.2.2.1
      have hrow : ∀ i, i < S → up2 y1 4 (upd (y1 4) k (y1 4 k + nwc all P c k n)) 4 i = if i = k then m_bo (m_lat all n) T P i + nwc all P c k n else m_bo (m_lat all n) T P i := by
        intro i hi
        rw [up2_eq]
        by_cases hik : i = k
        · subst hik; rw [upd_eq, if_pos rfl, hy4 i hi, hro i hi]
        · rw [upd_ne hik, if_neg hik, hy4 i hi]; exact hro i hi
      have hsl := sp_nal (Tx := Tx) I hP9 hk hc (fun i hi => G.jt hi) (fun k hk => G.ld hk) hrow
      simp (disch := first | omega | decide | assumption | exact Nat.le_of_ble_eq_true rfl) only [s109_46, s109_47, s109_50, ow_some, true_and, and_true, and_self, if_true, if_false, not_true, not_false_eq_true, Bool.false_eq_true, eq_self, Option.toList, List.cons_append, List.nil_append, ix_in, ix_cl, lt_in, lt_cl, lt_add, ix_one, vu_eq, vu_ne, arI_mk, arL_mk, arY_mZ, arY_mB, alen_mI, fld_sfl_ne, fld_sfl_same, Option.isSome_some, pok_i, b1z, b01, z10, b1o, Int32.zero_add, vu_vu, upd_eq, upd_ne, true_or, or_true, q2]
      rw [p109_51 L2.cn (Nat.le_of_ble_eq_true rfl) (sp_slack L2 V2 W2 hS h8), hsl]
      have hh := sp_lt0 (all := nal all P Tx c k n) (S := S) (P := P + 1) (T := T ||| 2 ^ P)
      have back : upd (upd (y1 4) k (y1 4 k + nwc all P c k n)) k (upd (y1 4) k (y1 4 k + nwc all P c k n) k - nwc all P c k n) k = y1 4 k := by rw [upd_eq, upd_eq]; exact i_as
      have tail : ∀ z' : Nat, z' = sel (fun k => st.testBit k && hkd all S P Tx T c n k) (k + 1) → TT X (d + 3) 109 64 [.ref 159, .ref a, .int (nI st), .int (nI z'), .int (nI k)] [] f2 N K (fun f' n' k' z => n' = N ∧ k' = K ∧ SI 162 171 f f' ∧ (∃ y', LV f' q y' ∧ XV f' q br mo up li ∧ (∀ j, j ≠ 4 → y' j = y j) ∧ ∀ k, k < S → y' 4 k = y 4 k) ∧ z = some (.int (nI (sel (fun k => st.testBit k && hkd all S P Tx T c n k) S)))) := by
        intro z' hz'
        simp (disch := first | omega | decide | assumption | exact Nat.le_of_ble_eq_true rfl) only [s109_64, s109_65, s109_68, s109_71, s109_73, s109_74, s109_75, s109_76, s109_79, s109_81, s109_82, s109_83, s109_84, h109_87, ow_some, true_and, and_true, and_self, if_true, if_false, not_true, not_false_eq_true, Bool.false_eq_true, eq_self, Option.toList, List.cons_append, List.nil_append, ix_in, ix_cl, lt_in, lt_cl, lt_add, ix_one, vu_eq, vu_ne, arI_mk, arL_mk, arY_mZ, arY_mB, alen_mI, fld_sfl_ne, fld_sfl_same, Option.isSome_some, pok_i, b1z, b01, z10, b1o, Int32.zero_add, vu_vu, upd_eq, upd_ne, true_or, or_true, L2.r0, L2.r1, L2.r2, L2.r3, L2.l0, L2.l1, L2.a0, L2.a1, L2.a2, L2.a3, L2.a4, q2, r2, b6, hbk, up2_eq, i_as]
        refine hI _ (up2 (up2 y1 4 (upd (y1 4) k (y1 4 k + nwc all P c k n))) 4 (upd (upd (y1 4) k (y1 4 k + nwc all P c k n)) k (y1 4 k)), z') ⟨s2.tr (SI.up (by omega) (by omega)), L2.s4, O2.fr (vu_ne (by omega)) (fun b h1 h2 => vu_ne (by omega)), fun j hj => by dsimp only; rw [up2_ne hj, up2_ne hj]; exact hy j hj, fun i hi => ?_, hz'⟩
        dsimp only
        rw [up2_eq]
        by_cases hik : i = k
        · subst hik; rw [upd_eq]; exact hy4 i hi
        · rw [upd_ne hik, upd_ne hik]; exact hy4 i hi
      by_cases hm : m_hold (nal all P Tx c k n) S (P + 1) (T ||| 2 ^ P) = true
      · have hm' : (¬ (m_hold (nal all P Tx c k n) S (P + 1) (T ||| 2 ^ P) = true)) = False := eq_false (fun z => z hm)
        have hkk : hkd all S P Tx T c n k = true := hm
        simp (disch := first | omega | decide | assumption | exact Nat.le_of_ble_eq_true rfl) only [s109_54, s109_57, s109_58, s109_59, s109_61, s109_62, s109_63, ow_some, true_and, and_true, and_self, if_true, if_false, not_true, not_false_eq_true, Bool.false_eq_true, eq_self, Option.toList, List.cons_append, List.nil_append, ix_in, ix_cl, lt_in, lt_cl, lt_add, ix_one, vu_eq, vu_ne, arI_mk, arL_mk, arY_mZ, arY_mB, alen_mI, fld_sfl_ne, fld_sfl_same, Option.isSome_some, pok_i, b1z, b01, z10, b1o, Int32.zero_add, vu_vu, upd_eq, upd_ne, true_or, or_true, hh, hm', hbs]
        exact tail (z ||| 2 ^ k) (by rw [sel_s, hb, hkk, hz]; rfl)
      · have hm' : (¬ (m_hold (nal all P Tx c k n) S (P + 1) (T ||| 2 ^ P) = true)) = True := eq_true hm
        have hkk : hkd all S P Tx T c n k = false := Bool.eq_false_iff.mpr hm
        simp (disch := first | omega | decide | assumption | exact Nat.le_of_ble_eq_true rfl) only [s109_54, ow_some, true_and, and_true, and_self, if_true, if_false, not_true, not_false_eq_true, Bool.false_eq_true, eq_self, Option.toList, List.cons_append, List.nil_append, ix_in, ix_cl, lt_in, lt_cl, lt_add, ix_one, vu_eq, vu_ne, arI_mk, arL_mk, arY_mZ, arY_mB, alen_mI, fld_sfl_ne, fld_sfl_same, Option.isSome_some, pok_i, b1z, b01, z10, b1o, Int32.zero_add, vu_vu, upd_eq, upd_ne, true_or, or_true, hh, hm']
        exact tail z (by rw [sel_s, hb, hkk, hz]; rfl)
    · have hb' : (¬ st.testBit k = true) = True := eq_true hb
      simp (disch := first | omega | decide | assumption | exact Nat.le_of_ble_eq_true rfl) only [s109_5, s109_7, s109_8, s109_11, s109_14, s109_17, s109_18, s109_19, s109_21, s109_22, s109_23, s109_84, h109_87, ow_some, true_and, and_true, and_self, if_true, if_false, not_true, not_false_eq_true, Bool.false_eq_true, eq_self, Option.toList, List.cons_append, List.nil_append, ix_in, ix_cl, lt_in, lt_cl, lt_add, ix_one, vu_eq, vu_ne, arI_mk, arL_mk, arY_mZ, arY_mB, alen_mI, fld_sfl_ne, fld_sfl_same, Option.isSome_some, pok_i, b1z, b01, z10, b1o, Int32.zero_add, vu_vu, upd_eq, upd_ne, true_or, or_true, V1.v1, V1.v6, V1.v7, V1.v8, V1.v9, V1.i1, V1.i6, V1.i7, V1.i8, V1.i9, V1.r2, V1.r3, V1.r4, V1.r5, V1.pl, V1.a2, V1.a3, V1.a4, V1.a5, W1.v0, W1.v3, W1.v10, W1.v11, W1.v12, W1.v14, W1.v15, W1.v16, W1.v17, W1.v18, W1.r1, W1.r2, W1.r4, W1.r5, W1.r6, W1.r7, W1.r8, W1.r9, W1.r13, W1.a1, W1.a2, W1.a4, W1.a5, W1.a6, W1.a7, W1.a8, W1.a9, W1.a13, hS, ix_le, hcS, hbit, hb']
      exact hI _ (y1, z) ⟨s1, L1, O1, hy, hy4, by dsimp only; rw [sel_s, Bool.eq_false_iff.mpr hb, hz]; rfl⟩
  · rintro e ⟨y1, z⟩ ⟨s1, L1, O1, hy, hy4, hz⟩
    dsimp only at hy hy4 hz
    have V1 := V.fr (f' := e) (fun b h1 h2 => s1 b (by omega))
    have W1 := W.fr (f' := e) (fun b h1 h2 => s1 b (by omega))
    simp (disch := first | omega | decide | assumption | exact Nat.le_of_ble_eq_true rfl) only [s109_5, s109_7, s109_8, s109_11, s109_14, s109_90, s109_91, ow_some, true_and, and_true, and_self, if_true, if_false, not_true, not_false_eq_true, Bool.false_eq_true, eq_self, Option.toList, List.cons_append, List.nil_append, ix_in, ix_cl, lt_in, lt_cl, lt_add, ix_one, vu_eq, vu_ne, arI_mk, arL_mk, arY_mZ, arY_mB, alen_mI, fld_sfl_ne, fld_sfl_same, Option.isSome_some, pok_i, b1z, b01, z10, b1o, Int32.zero_add, vu_vu, upd_eq, upd_ne, true_or, or_true, V1.v1, V1.v6, V1.v7, V1.v8, V1.v9, V1.i1, V1.i6, V1.i7, V1.i8, V1.i9, V1.r2, V1.r3, V1.r4, V1.r5, V1.pl, V1.a2, V1.a3, V1.a4, V1.a5, W1.v0, W1.v3, W1.v10, W1.v11, W1.v12, W1.v14, W1.v15, W1.v16, W1.v17, W1.v18, W1.r1, W1.r2, W1.r4, W1.r5, W1.r6, W1.r7, W1.r8, W1.r9, W1.r13, W1.a1, W1.a2, W1.a4, W1.a5, W1.a6, W1.a7, W1.a8, W1.a9, W1.a13, hS, ix_le, Nat.le_refl]
    exact ⟨s1, ⟨y1, L1, O1, hy, hy4⟩, by rw [hz]⟩

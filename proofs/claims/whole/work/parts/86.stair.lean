/-! the reference reads a stair -/
def m_cp (all fr : Nat → Int32) (j : Nat) : Nat → Int32 := fun i => if i < j then fr i else all i
theorem m_cp_s {all fr : Nat → Int32} {j : Nat} : upd (m_cp all fr j) j (fr j) = m_cp all fr (j + 1) := by
  funext i
  by_cases h : i = j
  · subst h; rw [upd_eq, m_cp, if_pos (by omega)]
  · rw [upd_ne h, m_cp, m_cp]
    by_cases h2 : i < j
    · rw [if_pos h2, if_pos (by omega)]
    · rw [if_neg h2, if_neg (by omega)]
def m_nb (all fr ag : Nat → Int32) (R j : Nat) : Nat → Int32 := fun i => if i = 53 then nI (2 ^ R - 1) else if 75 ≤ i ∧ i < 75 + j then fr 56 - ag (i - 75) else if i < 1394 then fr i else all i
theorem m_nb_s {all fr ag : Nat → Int32} {R j : Nat} (hj : j < 9) : upd (m_nb all fr ag R j) (75 + j) (fr 56 - ag j) = m_nb all fr ag R (j + 1) := by
  funext i
  by_cases h : i = 75 + j
  · subst h
    rw [upd_eq, m_nb, if_neg (by omega), if_pos (by omega), show 75 + j - 75 = j by omega]
  · rw [upd_ne h, m_nb, m_nb]
    by_cases h0 : i = 53
    · rw [if_pos h0, if_pos h0]
    · rw [if_neg h0, if_neg h0]
      by_cases h2 : 75 ≤ i ∧ i < 75 + j
      · have h3 : 75 ≤ i ∧ i < 75 + (j + 1) := by omega
        rw [if_pos h2, if_pos h3]
      · have h3 : ¬ (75 ≤ i ∧ i < 75 + (j + 1)) := by omega
        rw [if_neg h2, if_neg h3]
theorem m_nb_0 {all fr ag : Nat → Int32} {R : Nat} : upd (m_cp all fr 1394) 53 (nI (2 ^ R - 1)) = m_nb all fr ag R 0 := by
  funext i
  by_cases h : i = 53
  · subst h; rw [upd_eq, m_nb, if_pos rfl]
  · rw [upd_ne h, m_nb, if_neg h, if_neg (by omega)]; rfl
def m_new (all fr ag : Nat → Int32) (R : Nat) : Nat → Int32 := m_nb all fr ag R R
theorem new_fr {all fr ag : Nat → Int32} {R i : Nat} (h1 : i ≠ 53) (h2 : ¬ (75 ≤ i ∧ i < 84)) (h3 : i < 1394) (hR : R ≤ 9) : m_new all fr ag R i = fr i := by
  unfold m_new m_nb
  rw [if_neg h1, if_neg (by omega), if_pos h3]
theorem law_vd {wt : Bool} {fr : Nat → Int32} {F M : Nat} {b : Bool} (h : tyr wt (fun i => fr (494 + i)) M F [] = some [b]) : m_vd (fun i => fr (494 + F + i)) M 0 0 := by
  have h2 : tyr wt (fun i => fr (494 + (F + i))) M 0 [] = some [b] := by
    rw [ty_at (g := fun i => fr (494 + i)) (F := F) M 0 []]; exact h
  have h3 := ty_vd M 0 [] h2
  exact m_vd_cong M 0 0 (fun i _ _ => by show fr (494 + (F + i)) = fr (494 + F + i); rw [Nat.add_assoc]) h3
theorem FI.AL {S R n : Nat} {fr ag all : Nat → Int32} (h : FI S R n fr ag) : AL (m_new all fr ag R) S R := by
  obtain ⟨⟨a1, a2, a3, a4, a5, a6, a7⟩, h52⟩ := h
  have hR := a1.2.2
  refine ⟨by rw [new_fr (by omega) (by omega) (by omega) hR]; exact a2, a1.1, a1.2.1, by rw [new_fr (by omega) (by omega) (by omega) hR]; exact h52, hR, fun p hp => ?_, fun p hp => ?_, fun l hl => ?_⟩
  · rw [new_fr (by omega) (by omega) (by omega) hR]
    obtain ⟨v, hv, he⟩ := (a4 (57 + p) (by omega)).2.2.2.2.1 ⟨by omega, by omega⟩
    exact ⟨v, hv, he⟩
  · rw [new_fr (by omega) (by omega) (by omega) hR]
    rcases a5 p hp with z | ⟨j, b1, b2, b3, b4, b5⟩
    · exact Or.inl z
    · exact Or.inr ⟨j, by omega, b4⟩
  · rw [new_fr (by omega) (by omega) (by omega) hR]
    rcases a7 l hl with z | ⟨b1, F, M, b2, b3, b4, b5⟩
    · exact Or.inl z
    · have := a3.2
      refine Or.inr ⟨b1, F, M, by rw [new_fr (by omega) (by omega) (by omega) hR]; exact b2, by rw [new_fr (by omega) (by omega) (by omega) hR]; exact b3, by omega, ?_⟩
      exact m_vd_cong M 0 0 (fun i _ hi => (new_fr (by omega) (by omega) (by omega) hR).symm) (law_vd b5)
theorem p2m : ∀ R, R < 10 → (1 : Int32) <<< (nI R &&& 31) - 1 = nI (2 ^ R - 1) := by decide
theorem any_nI (y : Int32) : ∃ a, y = nI a := ⟨y.toBitVec.toNat, Int32.toBitVec_inj.mp (by show y.toBitVec = BitVec.ofNat 32 y.toBitVec.toNat; simp)⟩
/-- the state behind a text read -/
def o_read (s : m_T) (r : Lr) : m_T × Int32 := match r with
  | .inl (_, fr, ag) => ((m_fall (m_new s.1 fr ag (nR fr)) (nS fr) (nR fr) (2 ^ nR fr - 1), (0, 0, -1), s.2.2), fr 0)
  | .inr (w, p) => ((s.1, (0, w, nI p), s.2.2), -30 - w)
def rd_of (tx : Nat → Int32) (sz : Nat) (r : Lr) : Prop := ∃ nm fr0 ag k, (∀ i, i < 1394 → fr0 i = pl0 i) ∧ l_text tx sz k (lx tx sz 0 nm) fr0 ag r
theorem cv_lx {tx : Nat → Int32} {sz : Nat} {nm : Int32} : cv sz (lx tx sz 0 nm) := by
  obtain ⟨h1, h2, h3⟩ := lx_le (tx := tx) (sz := sz) (b := 0) (nm := nm) (by omega)
  refine ⟨⟨h2, ?_⟩, ?_⟩
  · rcases h3 with z | z <;> omega
  · rcases h3 with z | z
    · exact Or.inl z
    · exact Or.inr z.1
theorem PC.nums {f : Nat → e_C} {s : m_T} {t : Int32 × Int32 × Int32} {fr ag : Nat → Int32} {sz : Nat} {c : Cu} {wr wa rd x : Int32} {j : Nat} (P : PC f s fr ag sz c wr wa rd) (hj : (j = 5 ∧ t = (x, s.2.1.2)) ∨ (j = 13 ∧ t = (s.2.1.1, x, s.2.1.2.2)) ∨ (j = 14 ∧ t = (s.2.1.1, s.2.1.2.1, x))) : PC (va_up f 171 (sfl (f 171) j (.int x))) (s.1, t, s.2.2) fr ag sz c wr wa rd := by
  obtain ⟨⟨v, ⟨V, h1, h2, h3⟩, h4⟩, h5⟩ := P
  refine ⟨⟨v, ⟨V.nums hj, by rw [vu_ne (by decide)]; exact h1, by rw [vu_ne (by decide)]; exact h2, fun i hi => ?_⟩, h4⟩, h5⟩
  rw [vu_eq, fld_sfl_ne ?_]
  · exact h3 i hi
  · rcases hj with ⟨rfl, _⟩ | ⟨rfl, _⟩ | ⟨rfl, _⟩ <;> (revert hi; unfold p_L; revert i; decide)
theorem sp_stair {X : Nat × (Nat → Int32)} {d N K q : Nat} {f : Nat → e_C} {s : m_T} (V : MV f s) (hq : s.2.1.1 = nI q) (hq2 : q ≤ 900) {n : Int32} {a2 : Value} : TT X (d + 70) 173 0 [.ref 171, .int n, a2] [] f N K (fun f' n' k' v => n' = N ∧ k' = K ∧ SW f f' ∧ ((¬ (0 ≤ n.toInt ∧ n.toInt ≤ q) ∧ MV f' s ∧ v = some (.int (-3))) ∨ ((0 ≤ n.toInt ∧ n.toInt ≤ q) ∧ ∃ r, rd_of s.2.2.1 n.toInt.toNat r ∧ MV f' (o_read s r).1 ∧ v = some (.int (o_read s r).2)))) := by
  simp only [s173_0, s173_1, s173_2, V.i0, pok_i, true_and]
  have sm0 : SM f (va_up f 171 (sfl (f 171) 0 (.int 0))) := SM.up (by omega) (by omega)
  have V0 := V.num (j := 0) (x := 0) (by decide)
  generalize va_up f 171 (sfl (f 171) 0 (.int 0)) = f0 at sm0 V0 ⊢
  simp (disch := first | omega | decide | assumption | exact Nat.le_of_ble_eq_true rfl) only [s173_5, s173_6, s173_7, s173_8, s173_9, s173_12, ow_some, true_and, and_true, and_self, if_true, if_false, not_true, not_false_eq_true, Bool.false_eq_true, eq_self, Option.toList, List.cons_append, List.nil_append, ix_in, ix_cl, lt_in, lt_cl, lt_add, ix_one, vu_eq, vu_ne, arI_mk, arL_mk, arY_mZ, arY_mB, alen_mI, fld_sfl_ne, fld_sfl_same, Option.isSome_some, pok_i, b1z, b01, z10, b1o, Int32.zero_add, vu_vu, upd_eq, upd_ne, true_or, or_true, V0.r1, V0.r2, V0.r3, V0.r4, V0.r16, V0.r17, V0.r18, V0.r19, V0.r20, V0.r23, V0.r24, V0.r25, V0.r26, V0.r27, V0.r28, V0.r29, V0.r30, V0.c172, V0.c173, V0.c174, V0.c186, V0.c187, V0.c188, V0.n5, V0.n13, V0.n14, V0.i0, V0.i5, V0.i6, V0.i7, V0.i8, V0.i9, V0.i10, V0.i11, V0.i12, V0.i13, V0.i14, V0.i15, V0.i21, V0.i22, hq]
  rw [p173_13 (Nat.le_of_ble_eq_true rfl) sp_within]
  have hw : ((0 : Int64) ≤ n.toInt64 ∧ n.toInt64 ≤ (nI q).toInt64) = (((0 : Nat) : Int) ≤ n.toInt ∧ n.toInt ≤ (q : Int)) := wth (a := 0) (b := q) (by omega) (by omega)
  by_cases hn : ¬ (0 ≤ n.toInt ∧ n.toInt ≤ q)
  · have hn' : ((0 : Int64) ≤ n.toInt64 ∧ n.toInt64 ≤ (nI q).toInt64) = False := by rw [hw]; exact eq_false hn
    simp (disch := first | omega | decide | assumption | exact Nat.le_of_ble_eq_true rfl) only [s173_16, s173_19, s173_21, ow_some, true_and, and_true, and_self, if_true, if_false, not_true, not_false_eq_true, Bool.false_eq_true, eq_self, Option.toList, List.cons_append, List.nil_append, ix_in, ix_cl, lt_in, lt_cl, lt_add, ix_one, vu_eq, vu_ne, arI_mk, arL_mk, arY_mZ, arY_mB, alen_mI, fld_sfl_ne, fld_sfl_same, Option.isSome_some, pok_i, b1z, b01, z10, b1o, Int32.zero_add, vu_vu, upd_eq, upd_ne, true_or, or_true, V0.r1, V0.r2, V0.r3, V0.r4, V0.r16, V0.r17, V0.r18, V0.r19, V0.r20, V0.r23, V0.r24, V0.r25, V0.r26, V0.r27, V0.r28, V0.r29, V0.r30, V0.c172, V0.c173, V0.c174, V0.c186, V0.c187, V0.c188, V0.n5, V0.n13, V0.n14, V0.i0, V0.i5, V0.i6, V0.i7, V0.i8, V0.i9, V0.i10, V0.i11, V0.i12, V0.i13, V0.i14, V0.i15, V0.i21, V0.i22, hn']
    exact ⟨sm0.w, Or.inl ⟨hn, V0⟩⟩
  have hn := Classical.not_not.mp hn
  have hn' : ((0 : Int64) ≤ n.toInt64 ∧ n.toInt64 ≤ (nI q).toInt64) = True := by rw [hw]; exact eq_true hn
  obtain ⟨z, hz, rfl, hz2⟩ := i9 (v := n) (N := 901) hn.1 (by omega) (by omega)
  have e0 : nI 0 = 0 := rfl
  simp (disch := first | omega | decide | assumption | exact Nat.le_of_ble_eq_true rfl) only [s173_16, s173_22, s173_23, s173_24, ow_some, true_and, and_true, and_self, if_true, if_false, not_true, not_false_eq_true, Bool.false_eq_true, eq_self, Option.toList, List.cons_append, List.nil_append, ix_in, ix_cl, lt_in, lt_cl, lt_add, ix_one, vu_eq, vu_ne, arI_mk, arL_mk, arY_mZ, arY_mB, alen_mI, fld_sfl_ne, fld_sfl_same, Option.isSome_some, pok_i, b1z, b01, z10, b1o, Int32.zero_add, vu_vu, upd_eq, upd_ne, true_or, or_true, V0.r1, V0.r2, V0.r3, V0.r4, V0.r16, V0.r17, V0.r18, V0.r19, V0.r20, V0.r23, V0.r24, V0.r25, V0.r26, V0.r27, V0.r28, V0.r29, V0.r30, V0.c172, V0.c173, V0.c174, V0.c186, V0.c187, V0.c188, V0.n5, V0.n13, V0.n14, V0.i0, V0.i5, V0.i6, V0.i7, V0.i8, V0.i9, V0.i10, V0.i11, V0.i12, V0.i13, V0.i14, V0.i15, V0.i21, V0.i22, hn']
  have V1 := V0.num (j := 8) (x := nI z) (by decide)
  have f8 := fld_sfl_same (v := .int (nI z)) V0.i8
  have sm1 : SM f (va_up f0 171 (sfl (f0 171) 8 (.int (nI z)))) := sm0.tr (SM.up (by omega) (by omega))
  rw [← vu_eq (f := f0) (a := 171) (c := sfl (f0 171) 8 (.int (nI z)))] at f8
  generalize va_up f0 171 (sfl (f0 171) 8 (.int (nI z))) = f1 at V1 f8 sm1 ⊢
  simp (disch := first | omega | decide | assumption | exact Nat.le_of_ble_eq_true rfl) only [s173_27, s173_28, s173_29, ow_some, true_and, and_true, and_self, if_true, if_false, not_true, not_false_eq_true, Bool.false_eq_true, eq_self, Option.toList, List.cons_append, List.nil_append, ix_in, ix_cl, lt_in, lt_cl, lt_add, ix_one, vu_eq, vu_ne, arI_mk, arL_mk, arY_mZ, arY_mB, alen_mI, fld_sfl_ne, fld_sfl_same, Option.isSome_some, pok_i, b1z, b01, z10, b1o, Int32.zero_add, vu_vu, upd_eq, upd_ne, true_or, or_true, V1.r1, V1.r2, V1.r3, V1.r4, V1.r16, V1.r17, V1.r18, V1.r19, V1.r20, V1.r23, V1.r24, V1.r25, V1.r26, V1.r27, V1.r28, V1.r29, V1.r30, V1.c172, V1.c173, V1.c174, V1.c186, V1.c187, V1.c188, V1.n5, V1.n13, V1.n14, V1.i0, V1.i5, V1.i6, V1.i7, V1.i8, V1.i9, V1.i10, V1.i11, V1.i12, V1.i13, V1.i14, V1.i15, V1.i21, V1.i22]
  have V2 := V1.nums (j := 5) (x := 0) (t := (0, s.2.1.2)) (Or.inl ⟨rfl, rfl⟩)
  have g8 : fld (va_up f1 171 (sfl (f1 171) 5 (.int 0)) 171) 12 8 = some (.int (nI z)) := by rw [vu_eq, fld_sfl_ne (by decide)]; exact f8
  have sm2 : SM f (va_up f1 171 (sfl (f1 171) 5 (.int 0))) := sm1.tr (SM.up (by omega) (by omega))
  generalize va_up f1 171 (sfl (f1 171) 5 (.int 0)) = f2 at V2 g8 sm2 ⊢
  simp (disch := first | omega | decide | assumption | exact Nat.le_of_ble_eq_true rfl) only [s173_32, s173_33, s173_34, ow_some, true_and, and_true, and_self, if_true, if_false, not_true, not_false_eq_true, Bool.false_eq_true, eq_self, Option.toList, List.cons_append, List.nil_append, ix_in, ix_cl, lt_in, lt_cl, lt_add, ix_one, vu_eq, vu_ne, arI_mk, arL_mk, arY_mZ, arY_mB, alen_mI, fld_sfl_ne, fld_sfl_same, Option.isSome_some, pok_i, b1z, b01, z10, b1o, Int32.zero_add, vu_vu, upd_eq, upd_ne, true_or, or_true, V2.r1, V2.r2, V2.r3, V2.r4, V2.r16, V2.r17, V2.r18, V2.r19, V2.r20, V2.r23, V2.r24, V2.r25, V2.r26, V2.r27, V2.r28, V2.r29, V2.r30, V2.c172, V2.c173, V2.c174, V2.c186, V2.c187, V2.c188, V2.n5, V2.n13, V2.n14, V2.i0, V2.i5, V2.i6, V2.i7, V2.i8, V2.i9, V2.i10, V2.i11, V2.i12, V2.i13, V2.i14, V2.i15, V2.i21, V2.i22]
  have V3 := V2.num (j := 7) (x := 0) (by decide)
  have g7 := fld_sfl_same (v := .int 0) V2.i7
  rw [← vu_eq (f := f2) (a := 171) (c := sfl (f2 171) 7 (.int 0))] at g7
  have g8 : fld (va_up f2 171 (sfl (f2 171) 7 (.int 0)) 171) 12 8 = some (.int (nI z)) := by rw [vu_eq, fld_sfl_ne (by decide)]; exact g8
  have sm3 : SM f (va_up f2 171 (sfl (f2 171) 7 (.int 0))) := sm2.tr (SM.up (by omega) (by omega))
  generalize va_up f2 171 (sfl (f2 171) 7 (.int 0)) = f3 at V3 g7 g8 sm3 ⊢
  simp (disch := first | omega | decide | assumption | exact Nat.le_of_ble_eq_true rfl) only [s173_37, s173_38, s173_39, ow_some, true_and, and_true, and_self, if_true, if_false, not_true, not_false_eq_true, Bool.false_eq_true, eq_self, Option.toList, List.cons_append, List.nil_append, ix_in, ix_cl, lt_in, lt_cl, lt_add, ix_one, vu_eq, vu_ne, arI_mk, arL_mk, arY_mZ, arY_mB, alen_mI, fld_sfl_ne, fld_sfl_same, Option.isSome_some, pok_i, b1z, b01, z10, b1o, Int32.zero_add, vu_vu, upd_eq, upd_ne, true_or, or_true, V3.r1, V3.r2, V3.r3, V3.r4, V3.r16, V3.r17, V3.r18, V3.r19, V3.r20, V3.r23, V3.r24, V3.r25, V3.r26, V3.r27, V3.r28, V3.r29, V3.r30, V3.c172, V3.c173, V3.c174, V3.c186, V3.c187, V3.c188, V3.n5, V3.n13, V3.n14, V3.i0, V3.i5, V3.i6, V3.i7, V3.i8, V3.i9, V3.i10, V3.i11, V3.i12, V3.i13, V3.i14, V3.i15, V3.i21, V3.i22]
  have V4 := V3.num (j := 11) (x := 0) (by decide)
  have g11 := fld_sfl_same (v := .int 0) V3.i11
  rw [← vu_eq (f := f3) (a := 171) (c := sfl (f3 171) 11 (.int 0))] at g11
  have g7 : fld (va_up f3 171 (sfl (f3 171) 11 (.int 0)) 171) 12 7 = some (.int 0) := by rw [vu_eq, fld_sfl_ne (by decide)]; exact g7
  have g8 : fld (va_up f3 171 (sfl (f3 171) 11 (.int 0)) 171) 12 8 = some (.int (nI z)) := by rw [vu_eq, fld_sfl_ne (by decide)]; exact g8
  have sm4 : SM f (va_up f3 171 (sfl (f3 171) 11 (.int 0))) := sm3.tr (SM.up (by omega) (by omega))
  generalize va_up f3 171 (sfl (f3 171) 11 (.int 0)) = f4 at V4 g7 g8 g11 sm4 ⊢
  simp (disch := first | omega | decide | assumption | exact Nat.le_of_ble_eq_true rfl) only [s173_42, s173_43, ow_some, true_and, and_true, and_self, if_true, if_false, not_true, not_false_eq_true, Bool.false_eq_true, eq_self, Option.toList, List.cons_append, List.nil_append, ix_in, ix_cl, lt_in, lt_cl, lt_add, ix_one, vu_eq, vu_ne, arI_mk, arL_mk, arY_mZ, arY_mB, alen_mI, fld_sfl_ne, fld_sfl_same, Option.isSome_some, pok_i, b1z, b01, z10, b1o, Int32.zero_add, vu_vu, upd_eq, upd_ne, true_or, or_true, V4.r1, V4.r2, V4.r3, V4.r4, V4.r16, V4.r17, V4.r18, V4.r19, V4.r20, V4.r23, V4.r24, V4.r25, V4.r26, V4.r27, V4.r28, V4.r29, V4.r30, V4.c172, V4.c173, V4.c174, V4.c186, V4.c187, V4.c188, V4.n5, V4.n13, V4.n14, V4.i0, V4.i5, V4.i6, V4.i7, V4.i8, V4.i9, V4.i10, V4.i11, V4.i12, V4.i13, V4.i14, V4.i15, V4.i21, V4.i22]
  obtain ⟨fr, hfr⟩ := V4.e175
  refine k173_46 (rest := []) (Nat.le_of_ble_eq_true rfl) (sp_plain hfr (by omega) (by omega)) ?_
  rintro f5 n5 k5 v5 ⟨rfl, rfl, rfl, sx5, fr0, hfr0, hpl⟩
  have hpl' : ∀ i, i < 1394 → fr0 i = pl0 i := fun i hi => by rw [hpl i, if_pos hi]
  have sm5 : SM f f5 := sm4.tr (SM.sx sx5 (by decide))
  have o5 : f5 171 = f4 171 := sx5 171 (by decide)
  have V5 : MV f5 (s.1, (0, s.2.1.2), s.2.2) := by
    intro b h1 h2
    by_cases hb : b = 175
    · subst hb; exact ⟨fr0, by rw [hfr0]; rfl⟩
    · rw [sx5 b (by simpa using hb)]; exact V4 b h1 h2
  obtain ⟨ag, hag⟩ := V5.e176
  have ob5 := V5.ob.2.1
  obtain ⟨y6, hy6⟩ := ob5 6 (by decide)
  obtain ⟨y9, hy9⟩ := ob5 9 (by decide)
  obtain ⟨y10, hy10⟩ := ob5 10 (by decide)
  obtain ⟨y12, hy12⟩ := ob5 12 (by decide)
  obtain ⟨y15, hy15⟩ := ob5 15 (by decide)
  have g7 : fld (f5 171) 12 7 = some (.int 0) := by rw [o5]; exact g7
  have g8 : fld (f5 171) 12 8 = some (.int (nI z)) := by rw [o5]; exact g8
  have g11 : fld (f5 171) 12 11 = some (.int 0) := by rw [o5]; exact g11
  simp (disch := first | omega | decide | assumption | exact Nat.le_of_ble_eq_true rfl) only [s173_49, ow_some, true_and, and_true, and_self, if_true, if_false, not_true, not_false_eq_true, Bool.false_eq_true, eq_self, Option.toList, List.cons_append, List.nil_append, ix_in, ix_cl, lt_in, lt_cl, lt_add, ix_one, vu_eq, vu_ne, arI_mk, arL_mk, arY_mZ, arY_mB, alen_mI, fld_sfl_ne, fld_sfl_same, Option.isSome_some, pok_i, b1z, b01, z10, b1o, Int32.zero_add, vu_vu, upd_eq, upd_ne, true_or, or_true, V5.r1, V5.r2, V5.r3, V5.r4, V5.r16, V5.r17, V5.r18, V5.r19, V5.r20, V5.r23, V5.r24, V5.r25, V5.r26, V5.r27, V5.r28, V5.r29, V5.r30, V5.c172, V5.c173, V5.c174, V5.c186, V5.c187, V5.c188, V5.n5, V5.n13, V5.n14, V5.i0, V5.i5, V5.i6, V5.i7, V5.i8, V5.i9, V5.i10, V5.i11, V5.i12, V5.i13, V5.i14, V5.i15, V5.i21, V5.i22]
  obtain ⟨a6, ha6⟩ := any_nI y6
  have P5 : PC f5 (s.1, (0, s.2.1.2), s.2.2) fr0 ag z (a6, 0, y9, y10) 0 y12 y15 := by
    refine ⟨⟨fun j => if j = 6 then y6 else if j = 7 then 0 else if j = 8 then nI z else if j = 9 then y9 else if j = 10 then y10 else if j = 11 then 0 else if j = 12 then y12 else y15, ⟨V5, by rw [hfr0]; rfl, hag, ?_⟩, ha6, rfl, rfl, rfl, rfl, rfl, rfl, rfl⟩, Nat.zero_le _, by omega⟩
    intro j hj
    have hj' : j = 6 ∨ j = 7 ∨ j = 8 ∨ j = 9 ∨ j = 10 ∨ j = 11 ∨ j = 12 ∨ j = 15 := by simpa [p_L] using hj
    rcases hj' with rfl | rfl | rfl | rfl | rfl | rfl | rfl | rfl
    · exact hy6
    · exact g7
    · exact g8
    · exact hy9
    · exact hy10
    · exact g11
    · exact hy12
    · exact hy15
  refine k173_50 (cno_MR V5.mr) (Nat.le_of_ble_eq_true rfl) P5.next ?_
  rintro f6 n6 k6 v6 ⟨rfl, rfl, rfl, sm6, P6⟩
  have V6 := P6.V
  have sm6 := sm5.tr sm6
  have hc0 : nx s.2.2.1 z (a6, 0, y9, y10) = lx s.2.2.1 z 0 y10 := rfl
  rw [hc0] at P6
  obtain ⟨k, r, hr⟩ := text_tot (tx := s.2.2.1) (sz := z) (by omega) (ag := ag) hpl' (cv_lx (tx := s.2.2.1) (sz := z) (nm := y10))
  have hrd : rd_of s.2.2.1 z r := ⟨y10, fr0, ag, k, hpl', hr⟩
  have hFI : ∀ c' fr' ag', r = .inl (c', fr', ag') → ∃ S R n, FI S R n fr' ag' := by
    intro c' fr' ag' he
    rw [he] at hr
    exact text_FI (by omega) hpl' cv_lx hr
  have hzz : (nI z).toInt.toNat = z := by rw [hz2]; rfl
  rw [hzz]
  generalize hres : (fun f' n' k' v => n' = n6 ∧ k' = k6 ∧ SW f f' ∧ ((¬ (0 ≤ (nI z).toInt ∧ (nI z).toInt ≤ q) ∧ MV f' s ∧ v = some (.int (-3))) ∨ ((0 ≤ (nI z).toInt ∧ (nI z).toInt ≤ q) ∧ ∃ r, rd_of s.2.2.1 z r ∧ MV f' (o_read s r).1 ∧ v = some (.int (o_read s r).2))) : t_Q) = Q
  have hQ : ∀ f' v, SW f f' → MV f' (o_read s r).1 → v = some (.int (o_read s r).2) → Q f' n6 k6 v := by
    intro f' v h1 h2 h3
    rw [← hres]
    exact ⟨rfl, rfl, h1, Or.inr ⟨hn, r, hrd, h2, h3⟩⟩
  have endE : ∀ f' c' fr' ag' w p rd' u, r = .inr (w, p) → w ≠ 0 → SM f f' → PC f' (s.1, (0, s.2.1.2), s.2.2) fr' ag' z c' w (nI p) rd' → TT X (d + 70) 173 175 [.ref 171, .int (nI z), u] [] f' n6 k6 Q := by
    intro f' c' fr' ag' w p rd' u he hw sm P
    have V := P.V
    have Q0 := P.1
    simp (disch := first | omega | decide | assumption | exact Nat.le_of_ble_eq_true rfl) only [s173_175, s173_176, s173_177, s173_180, ow_some, true_and, and_true, and_self, if_true, if_false, not_true, not_false_eq_true, Bool.false_eq_true, eq_self, Option.toList, List.cons_append, List.nil_append, ix_in, ix_cl, lt_in, lt_cl, lt_add, ix_one, vu_eq, vu_ne, arI_mk, arL_mk, arY_mZ, arY_mB, alen_mI, fld_sfl_ne, fld_sfl_same, Option.isSome_some, pok_i, b1z, b01, z10, b1o, Int32.zero_add, vu_vu, upd_eq, upd_ne, true_or, or_true, V.r1, V.r2, V.r3, V.r4, V.r16, V.r17, V.r18, V.r19, V.r20, V.r23, V.r24, V.r25, V.r26, V.r27, V.r28, V.r29, V.r30, V.c172, V.c173, V.c174, V.c186, V.c187, V.c188, V.n5, V.n13, V.n14, V.i0, V.i5, V.i6, V.i7, V.i8, V.i9, V.i10, V.i11, V.i12, V.i13, V.i14, V.i15, V.i21, V.i22, Q0.f6, Q0.f7, Q0.f8, Q0.f9, Q0.f10, Q0.f11, Q0.f12, Q0.f15, Q0.c175, Q0.c176]
    have P1 := P.nums (j := 13) (x := w) (t := (0, w, s.2.1.2.2)) (Or.inr (Or.inl ⟨rfl, rfl⟩))
    have smA : SM f (va_up f' 171 (sfl (f' 171) 13 (.int w))) := sm.tr (SM.up (by omega) (by omega))
    generalize va_up f' 171 (sfl (f' 171) 13 (.int w)) = g1 at P1 smA ⊢
    have VA := P1.V
    have QA := P1.1
    simp (disch := first | omega | decide | assumption | exact Nat.le_of_ble_eq_true rfl) only [s173_183, s173_184, s173_185, s173_188, s173_191, s173_192, s173_195, s173_196, s173_199, ow_some, true_and, and_true, and_self, if_true, if_false, not_true, not_false_eq_true, Bool.false_eq_true, eq_self, Option.toList, List.cons_append, List.nil_append, ix_in, ix_cl, lt_in, lt_cl, lt_add, ix_one, vu_eq, vu_ne, arI_mk, arL_mk, arY_mZ, arY_mB, alen_mI, fld_sfl_ne, fld_sfl_same, Option.isSome_some, pok_i, b1z, b01, z10, b1o, Int32.zero_add, vu_vu, upd_eq, upd_ne, true_or, or_true, VA.r1, VA.r2, VA.r3, VA.r4, VA.r16, VA.r17, VA.r18, VA.r19, VA.r20, VA.r23, VA.r24, VA.r25, VA.r26, VA.r27, VA.r28, VA.r29, VA.r30, VA.c172, VA.c173, VA.c174, VA.c186, VA.c187, VA.c188, VA.n5, VA.n13, VA.n14, VA.i0, VA.i5, VA.i6, VA.i7, VA.i8, VA.i9, VA.i10, VA.i11, VA.i12, VA.i13, VA.i14, VA.i15, VA.i21, VA.i22, QA.f6, QA.f7, QA.f8, QA.f9, QA.f10, QA.f11, QA.f12, QA.f15, QA.c175, QA.c176, hw]
    have P2 := P1.nums (j := 14) (x := nI p) (t := (0, w, nI p)) (Or.inr (Or.inr ⟨rfl, rfl⟩))
    have smB : SM f (va_up g1 171 (sfl (g1 171) 14 (.int (nI p)))) := smA.tr (SM.up (by omega) (by omega))
    generalize va_up g1 171 (sfl (g1 171) 14 (.int (nI p))) = g2 at P2 smB ⊢
    have VB := P2.V
    have QB := P2.1
    simp (disch := first | omega | decide | assumption | exact Nat.le_of_ble_eq_true rfl) only [s173_202, s173_203, s173_206, s173_209, s173_211, s173_212, s173_215, s173_216, ow_some, true_and, and_true, and_self, if_true, if_false, not_true, not_false_eq_true, Bool.false_eq_true, eq_self, Option.toList, List.cons_append, List.nil_append, ix_in, ix_cl, lt_in, lt_cl, lt_add, ix_one, vu_eq, vu_ne, arI_mk, arL_mk, arY_mZ, arY_mB, alen_mI, fld_sfl_ne, fld_sfl_same, Option.isSome_some, pok_i, b1z, b01, z10, b1o, Int32.zero_add, vu_vu, upd_eq, upd_ne, true_or, or_true, VB.r1, VB.r2, VB.r3, VB.r4, VB.r16, VB.r17, VB.r18, VB.r19, VB.r20, VB.r23, VB.r24, VB.r25, VB.r26, VB.r27, VB.r28, VB.r29, VB.r30, VB.c172, VB.c173, VB.c174, VB.c186, VB.c187, VB.c188, VB.n5, VB.n13, VB.n14, VB.i0, VB.i5, VB.i6, VB.i7, VB.i8, VB.i9, VB.i10, VB.i11, VB.i12, VB.i13, VB.i14, VB.i15, VB.i21, VB.i22, QB.f6, QB.f7, QB.f8, QB.f9, QB.f10, QB.f11, QB.f12, QB.f15, QB.c175, QB.c176, hw]
    refine hQ _ _ smB.w ?_ ?_
    · rw [he]; exact VB
    · rw [he]; rfl
  have err144 : ∀ f' c' fr' ag' w p rd' u, r = .inr (w, p) → w ≠ 0 → SM f f' → PC f' (s.1, (0, s.2.1.2), s.2.2) fr' ag' z c' w (nI p) rd' → TT X (d + 70) 173 144 [.ref 171, .int (nI z), u] [] f' n6 k6 Q := by
    intro f' c' fr' ag' w p rd' u he hw sm P
    have V := P.V
    simp (disch := first | omega | decide | assumption | exact Nat.le_of_ble_eq_true rfl) only [s173_144, ow_some, true_and, and_true, and_self, if_true, if_false, not_true, not_false_eq_true, Bool.false_eq_true, eq_self, Option.toList, List.cons_append, List.nil_append, ix_in, ix_cl, lt_in, lt_cl, lt_add, ix_one, vu_eq, vu_ne, arI_mk, arL_mk, arY_mZ, arY_mB, alen_mI, fld_sfl_ne, fld_sfl_same, Option.isSome_some, pok_i, b1z, b01, z10, b1o, Int32.zero_add, vu_vu, upd_eq, upd_ne, true_or, or_true, V.r1, V.r2, V.r3, V.r4, V.r16, V.r17, V.r18, V.r19, V.r20, V.r23, V.r24, V.r25, V.r26, V.r27, V.r28, V.r29, V.r30, V.c172, V.c173, V.c174, V.c186, V.c187, V.c188, V.n5, V.n13, V.n14, V.i0, V.i5, V.i6, V.i7, V.i8, V.i9, V.i10, V.i11, V.i12, V.i13, V.i14, V.i15, V.i21, V.i22]
    refine k173_145 (cno_MR V.mr) (Nat.le_of_ble_eq_true rfl) (P.endE hw) ?_
    rintro g1 m1 l1 v1 ⟨rfl, rfl, rfl, smA, -, heA⟩
    obtain ⟨-, fr2, ag2, c2, rd2, P2⟩ := heA _ _ rfl
    have V2 := P2.V
    have Q2 := P2.1
    simp (disch := first | omega | decide | assumption | exact Nat.le_of_ble_eq_true rfl) only [s173_148, s173_149, s173_152, ow_some, true_and, and_true, and_self, if_true, if_false, not_true, not_false_eq_true, Bool.false_eq_true, eq_self, Option.toList, List.cons_append, List.nil_append, ix_in, ix_cl, lt_in, lt_cl, lt_add, ix_one, vu_eq, vu_ne, arI_mk, arL_mk, arY_mZ, arY_mB, alen_mI, fld_sfl_ne, fld_sfl_same, Option.isSome_some, pok_i, b1z, b01, z10, b1o, Int32.zero_add, vu_vu, upd_eq, upd_ne, true_or, or_true, V2.r1, V2.r2, V2.r3, V2.r4, V2.r16, V2.r17, V2.r18, V2.r19, V2.r20, V2.r23, V2.r24, V2.r25, V2.r26, V2.r27, V2.r28, V2.r29, V2.r30, V2.c172, V2.c173, V2.c174, V2.c186, V2.c187, V2.c188, V2.n5, V2.n13, V2.n14, V2.i0, V2.i5, V2.i6, V2.i7, V2.i8, V2.i9, V2.i10, V2.i11, V2.i12, V2.i13, V2.i14, V2.i15, V2.i21, V2.i22, Q2.f6, Q2.f7, Q2.f8, Q2.f9, Q2.f10, Q2.f11, Q2.f12, Q2.f15, Q2.c175, Q2.c176, hw]
    exact endE _ _ _ _ _ _ _ _ he hw (sm.tr smA) P2
  have endY : ∀ f' c' fr' ag' wa' rd' u, r = .inl (c', fr', ag') → SM f f' → PC f' (s.1, (0, s.2.1.2), s.2.2) fr' ag' z c' 0 wa' rd' → TT X (d + 70) 173 175 [.ref 171, .int (nI z), u] [] f' n6 k6 Q := by
    intro f' c' fr' ag' wa' rd' u he sm P
    have V := P.V
    have Q0 := P.1
    obtain ⟨S, R, nn, hI⟩ := hFI _ _ _ he
    have hR9 := hI.1.1.2.2
    have h52 : fr' 52 = nI R := hI.2
    have enR : nR fr' = R := by unfold nR; rw [h52]; exact ix_cl (by omega)
    have enS : nS fr' = S := by unfold nS; rw [hI.1.2.1]; exact ix_cl (by have := hI.1.1; omega)
    simp (disch := first | omega | decide | assumption | exact Nat.le_of_ble_eq_true rfl) only [s173_175, s173_176, s173_177, s173_180, ow_some, true_and, and_true, and_self, if_true, if_false, not_true, not_false_eq_true, Bool.false_eq_true, eq_self, Option.toList, List.cons_append, List.nil_append, ix_in, ix_cl, lt_in, lt_cl, lt_add, ix_one, vu_eq, vu_ne, arI_mk, arL_mk, arY_mZ, arY_mB, alen_mI, fld_sfl_ne, fld_sfl_same, Option.isSome_some, pok_i, b1z, b01, z10, b1o, Int32.zero_add, vu_vu, upd_eq, upd_ne, true_or, or_true, V.r1, V.r2, V.r3, V.r4, V.r16, V.r17, V.r18, V.r19, V.r20, V.r23, V.r24, V.r25, V.r26, V.r27, V.r28, V.r29, V.r30, V.c172, V.c173, V.c174, V.c186, V.c187, V.c188, V.n5, V.n13, V.n14, V.i0, V.i5, V.i6, V.i7, V.i8, V.i9, V.i10, V.i11, V.i12, V.i13, V.i14, V.i15, V.i21, V.i22, Q0.f6, Q0.f7, Q0.f8, Q0.f9, Q0.f10, Q0.f11, Q0.f12, Q0.f15, Q0.c175, Q0.c176]
    have P1 := P.nums (j := 13) (x := 0) (t := (0, 0, s.2.1.2.2)) (Or.inr (Or.inl ⟨rfl, rfl⟩))
    have smA : SM f (va_up f' 171 (sfl (f' 171) 13 (.int 0))) := sm.tr (SM.up (by omega) (by omega))
    generalize va_up f' 171 (sfl (f' 171) 13 (.int 0)) = g1 at P1 smA ⊢
    have VA := P1.V
    have QA := P1.1
    simp (disch := first | omega | decide | assumption | exact Nat.le_of_ble_eq_true rfl) only [s173_183, s173_184, s173_185, s173_188, s173_191, s173_192, s173_195, s173_196, s173_199, ow_some, true_and, and_true, and_self, if_true, if_false, not_true, not_false_eq_true, Bool.false_eq_true, eq_self, Option.toList, List.cons_append, List.nil_append, ix_in, ix_cl, lt_in, lt_cl, lt_add, ix_one, vu_eq, vu_ne, arI_mk, arL_mk, arY_mZ, arY_mB, alen_mI, fld_sfl_ne, fld_sfl_same, Option.isSome_some, pok_i, b1z, b01, z10, b1o, Int32.zero_add, vu_vu, upd_eq, upd_ne, true_or, or_true, VA.r1, VA.r2, VA.r3, VA.r4, VA.r16, VA.r17, VA.r18, VA.r19, VA.r20, VA.r23, VA.r24, VA.r25, VA.r26, VA.r27, VA.r28, VA.r29, VA.r30, VA.c172, VA.c173, VA.c174, VA.c186, VA.c187, VA.c188, VA.n5, VA.n13, VA.n14, VA.i0, VA.i5, VA.i6, VA.i7, VA.i8, VA.i9, VA.i10, VA.i11, VA.i12, VA.i13, VA.i14, VA.i15, VA.i21, VA.i22, QA.f6, QA.f7, QA.f8, QA.f9, QA.f10, QA.f11, QA.f12, QA.f15, QA.c175, QA.c176]
    have P2 := P1.nums (j := 14) (x := -1) (t := (0, 0, -1)) (Or.inr (Or.inr ⟨rfl, rfl⟩))
    have smB : SM f (va_up g1 171 (sfl (g1 171) 14 (.int (-1)))) := smA.tr (SM.up (by omega) (by omega))
    generalize va_up g1 171 (sfl (g1 171) 14 (.int (-1))) = g2 at P2 smB ⊢
    have VB := P2.V
    have QB := P2.1
    have cB := QB.c175
    have aB := QB.c176
    simp (disch := first | omega | decide | assumption | exact Nat.le_of_ble_eq_true rfl) only [s173_202, s173_203, s173_206, s173_209, s173_211, s173_212, s173_215, s173_216, s173_217, h173_218, ow_some, true_and, and_true, and_self, if_true, if_false, not_true, not_false_eq_true, Bool.false_eq_true, eq_self, Option.toList, List.cons_append, List.nil_append, ix_in, ix_cl, lt_in, lt_cl, lt_add, ix_one, vu_eq, vu_ne, arI_mk, arL_mk, arY_mZ, arY_mB, alen_mI, fld_sfl_ne, fld_sfl_same, Option.isSome_some, pok_i, b1z, b01, z10, b1o, Int32.zero_add, vu_vu, upd_eq, upd_ne, true_or, or_true, VB.r1, VB.r2, VB.r3, VB.r4, VB.r16, VB.r17, VB.r18, VB.r19, VB.r20, VB.r23, VB.r24, VB.r25, VB.r26, VB.r27, VB.r28, VB.r29, VB.r30, VB.c172, VB.c173, VB.c174, VB.c186, VB.c187, VB.c188, VB.n5, VB.n13, VB.n14, VB.i0, VB.i5, VB.i6, VB.i7, VB.i8, VB.i9, VB.i10, VB.i11, VB.i12, VB.i13, VB.i14, VB.i15, VB.i21, VB.i22, QB.f6, QB.f7, QB.f8, QB.f9, QB.f10, QB.f11, QB.f12, QB.f15, QB.c175, QB.c176]
    refine lp (fun j g (_ : Unit) => SM f g ∧ MV g (m_cp s.1 fr' j, (0, 0, -1), s.2.2) ∧ arI (g 175) = some (1394, fr') ∧ arI (g 176) = some (9, ag')) (fun j _ => [.ref 171, .int (nI z), .int (nI j)]) 1394 ?_ ?_ 0 g2 () (by omega) ⟨smB, ?_, cB, aB⟩
    · rintro j g _ hj ⟨smC, VC, c1, c2⟩ hL
      have hc : (1394 ≤ j) = False := eq_false (by omega)
      simp (disch := first | omega | decide | assumption | exact Nat.le_of_ble_eq_true rfl) only [s173_219, s173_220, s173_223, s173_226, s173_227, s173_230, s173_231, s173_232, s173_235, s173_236, s173_237, s173_238, h173_241, ow_some, true_and, and_true, and_self, if_true, if_false, not_true, not_false_eq_true, Bool.false_eq_true, eq_self, Option.toList, List.cons_append, List.nil_append, ix_in, ix_cl, lt_in, lt_cl, lt_add, ix_one, vu_eq, vu_ne, arI_mk, arL_mk, arY_mZ, arY_mB, alen_mI, fld_sfl_ne, fld_sfl_same, Option.isSome_some, pok_i, b1z, b01, z10, b1o, Int32.zero_add, vu_vu, upd_eq, upd_ne, true_or, or_true, VC.r1, VC.r2, VC.r3, VC.r4, VC.r16, VC.r17, VC.r18, VC.r19, VC.r20, VC.r23, VC.r24, VC.r25, VC.r26, VC.r27, VC.r28, VC.r29, VC.r30, VC.c172, VC.c173, VC.c174, VC.c186, VC.c187, VC.c188, VC.n5, VC.n13, VC.n14, VC.i0, VC.i5, VC.i6, VC.i7, VC.i8, VC.i9, VC.i10, VC.i11, VC.i12, VC.i13, VC.i14, VC.i15, VC.i21, VC.i22, lt_le, hc, c1, c2, m_cp_s]
      exact hL _ () ⟨smC.tr (SM.up (by omega) (by omega)), VC.all, by rw [vu_ne (by decide)]; exact c1, by rw [vu_ne (by decide)]; exact c2⟩
    · rintro g _ ⟨smC, VC, c1, c2⟩
      have e52 : m_cp s.1 fr' 1394 52 = nI R := by rw [m_cp, if_pos (by omega)]; exact h52
      have ep := p2m R (by omega)
      simp (disch := first | omega | decide | assumption | exact Nat.le_of_ble_eq_true rfl) only [s173_219, s173_220, s173_223, s173_244, s173_245, s173_248, s173_250, s173_251, s173_252, s173_255, s173_257, s173_258, s173_259, s173_260, s173_261, s173_262, h173_263, ow_some, true_and, and_true, and_self, if_true, if_false, not_true, not_false_eq_true, Bool.false_eq_true, eq_self, Option.toList, List.cons_append, List.nil_append, ix_in, ix_cl, lt_in, lt_cl, lt_add, ix_one, vu_eq, vu_ne, arI_mk, arL_mk, arY_mZ, arY_mB, alen_mI, fld_sfl_ne, fld_sfl_same, Option.isSome_some, pok_i, b1z, b01, z10, b1o, Int32.zero_add, vu_vu, upd_eq, upd_ne, true_or, or_true, VC.r1, VC.r2, VC.r3, VC.r4, VC.r16, VC.r17, VC.r18, VC.r19, VC.r20, VC.r23, VC.r24, VC.r25, VC.r26, VC.r27, VC.r28, VC.r29, VC.r30, VC.c172, VC.c173, VC.c174, VC.c186, VC.c187, VC.c188, VC.n5, VC.n13, VC.n14, VC.i0, VC.i5, VC.i6, VC.i7, VC.i8, VC.i9, VC.i10, VC.i11, VC.i12, VC.i13, VC.i14, VC.i15, VC.i21, VC.i22, lt_le, Nat.le_refl, e52, ep, m_nb_0 (ag := ag')]
      have VD := VC.all (all' := m_nb s.1 fr' ag' R 0)
      have smD : SM f (va_up g 172 (.inl (.int, 4182, .inl (m_nb s.1 fr' ag' R 0)))) := smC.tr (SM.up (by omega) (by omega))
      have c1' : arI (va_up g 172 (.inl (.int, 4182, .inl (m_nb s.1 fr' ag' R 0))) 175) = some (1394, fr') := by rw [vu_ne (by decide)]; exact c1
      have c2' : arI (va_up g 172 (.inl (.int, 4182, .inl (m_nb s.1 fr' ag' R 0))) 176) = some (9, ag') := by rw [vu_ne (by decide)]; exact c2
      generalize va_up g 172 (.inl (.int, 4182, .inl (m_nb s.1 fr' ag' R 0))) = g3 at VD smD c1' c2' ⊢
      refine lp (fun j g (_ : Unit) => SM f g ∧ MV g (m_nb s.1 fr' ag' R j, (0, 0, -1), s.2.2) ∧ arI (g 176) = some (9, ag')) (fun j _ => [.ref 171, .int (nI z), .int (nI j)]) R ?_ ?_ 0 g3 () (by omega) ⟨smD, VD, c2'⟩
      · rintro j g _ hj ⟨smE, VE, c2⟩ hL
        have hc : (R ≤ j) = False := eq_false (by omega)
        have e52 : m_nb s.1 fr' ag' R j 52 = nI R := by rw [m_nb, if_neg (by omega), if_neg (by omega), if_pos (by omega)]; exact h52
        have e56 : m_nb s.1 fr' ag' R j 56 = fr' 56 := by rw [m_nb, if_neg (by omega), if_neg (by omega), if_pos (by omega)]
        have hs := m_nb_s (all := s.1) (fr := fr') (ag := ag') (R := R) (j := j) (by omega)
        simp (disch := first | omega | decide | assumption | exact Nat.le_of_ble_eq_true rfl) only [s173_264, s173_265, s173_266, s173_269, s173_271, s173_272, s173_275, s173_276, s173_279, s173_281, s173_282, s173_283, s173_284, s173_287, s173_289, s173_290, s173_291, s173_294, s173_295, s173_296, s173_297, s173_298, h173_301, ow_some, true_and, and_true, and_self, if_true, if_false, not_true, not_false_eq_true, Bool.false_eq_true, eq_self, Option.toList, List.cons_append, List.nil_append, ix_in, ix_cl, lt_in, lt_cl, lt_add, ix_one, vu_eq, vu_ne, arI_mk, arL_mk, arY_mZ, arY_mB, alen_mI, fld_sfl_ne, fld_sfl_same, Option.isSome_some, pok_i, b1z, b01, z10, b1o, Int32.zero_add, vu_vu, upd_eq, upd_ne, true_or, or_true, VE.r1, VE.r2, VE.r3, VE.r4, VE.r16, VE.r17, VE.r18, VE.r19, VE.r20, VE.r23, VE.r24, VE.r25, VE.r26, VE.r27, VE.r28, VE.r29, VE.r30, VE.c172, VE.c173, VE.c174, VE.c186, VE.c187, VE.c188, VE.n5, VE.n13, VE.n14, VE.i0, VE.i5, VE.i6, VE.i7, VE.i8, VE.i9, VE.i10, VE.i11, VE.i12, VE.i13, VE.i14, VE.i15, VE.i21, VE.i22, e52, e56, ix_le, hc, c2, hs]
        exact hL _ () ⟨smE.tr (SM.up (by omega) (by omega)), VE.all, by rw [vu_ne (by decide)]; exact c2⟩
      · rintro g _ ⟨smE, VE, c2⟩
        have e52 : m_nb s.1 fr' ag' R R 52 = nI R := by rw [m_nb, if_neg (by omega), if_neg (by omega), if_pos (by omega)]; exact h52
        simp (disch := first | omega | decide | assumption | exact Nat.le_of_ble_eq_true rfl) only [s173_264, s173_265, s173_266, s173_269, s173_271, s173_272, s173_304, ow_some, true_and, and_true, and_self, if_true, if_false, not_true, not_false_eq_true, Bool.false_eq_true, eq_self, Option.toList, List.cons_append, List.nil_append, ix_in, ix_cl, lt_in, lt_cl, lt_add, ix_one, vu_eq, vu_ne, arI_mk, arL_mk, arY_mZ, arY_mB, alen_mI, fld_sfl_ne, fld_sfl_same, Option.isSome_some, pok_i, b1z, b01, z10, b1o, Int32.zero_add, vu_vu, upd_eq, upd_ne, true_or, or_true, VE.r1, VE.r2, VE.r3, VE.r4, VE.r16, VE.r17, VE.r18, VE.r19, VE.r20, VE.r23, VE.r24, VE.r25, VE.r26, VE.r27, VE.r28, VE.r29, VE.r30, VE.c172, VE.c173, VE.c174, VE.c186, VE.c187, VE.c188, VE.n5, VE.n13, VE.n14, VE.i0, VE.i5, VE.i6, VE.i7, VE.i8, VE.i9, VE.i10, VE.i11, VE.i12, VE.i13, VE.i14, VE.i15, VE.i21, VE.i22, e52, ix_le, Nat.le_refl]
        have A := hI.AL (all := s.1)
        have h53 : m_new s.1 fr' ag' R 53 = nI (2 ^ R - 1) := by unfold m_new m_nb; rw [if_pos rfl]
        have hlt : 2 ^ R - 1 < 512 := by have := pw9 hR9; omega
        refine k173_305 (cno_MR VE.mr) (Nat.le_of_ble_eq_true rfl) (sp_falls VE A h53 hlt) ?_
        rintro g4 n4 k4 v4 ⟨rfl, rfl, rfl, smF, VF⟩
        have e0 : m_fall (m_nb s.1 fr' ag' R R) S R (2 ^ R - 1) 0 = fr' 0 := by
          rw [fall_ne (by decide)]
          exact new_fr (by omega) (by omega) (by omega) hR9
        simp (disch := first | omega | decide | assumption | exact Nat.le_of_ble_eq_true rfl) only [s173_308, s173_309, s173_312, s173_313, s173_314, ow_some, true_and, and_true, and_self, if_true, if_false, not_true, not_false_eq_true, Bool.false_eq_true, eq_self, Option.toList, List.cons_append, List.nil_append, ix_in, ix_cl, lt_in, lt_cl, lt_add, ix_one, vu_eq, vu_ne, arI_mk, arL_mk, arY_mZ, arY_mB, alen_mI, fld_sfl_ne, fld_sfl_same, Option.isSome_some, pok_i, b1z, b01, z10, b1o, Int32.zero_add, vu_vu, upd_eq, upd_ne, true_or, or_true, VF.r1, VF.r2, VF.r3, VF.r4, VF.r16, VF.r17, VF.r18, VF.r19, VF.r20, VF.r23, VF.r24, VF.r25, VF.r26, VF.r27, VF.r28, VF.r29, VF.r30, VF.c172, VF.c173, VF.c174, VF.c186, VF.c187, VF.c188, VF.n5, VF.n13, VF.n14, VF.i0, VF.i5, VF.i6, VF.i7, VF.i8, VF.i9, VF.i10, VF.i11, VF.i12, VF.i13, VF.i14, VF.i15, VF.i21, VF.i22, e0]
        refine hQ _ _ (smE.tr smF).w ?_ ?_
        · rw [he]
          show MV g4 (m_fall (m_new s.1 fr' ag' (nR fr')) (nS fr') (nR fr') (2 ^ nR fr' - 1), (0, 0, -1), s.2.2)
          rw [enR, enS]
          exact VF
        · rw [he]; rfl
    · have : m_cp s.1 fr' 0 = s.1 := by funext i; rw [m_cp, if_neg (by omega)]
      rw [this]; exact VB
  simp (disch := first | omega | decide | assumption | exact Nat.le_of_ble_eq_true rfl) only [s173_53, s173_54, ow_some, true_and, and_true, and_self, if_true, if_false, not_true, not_false_eq_true, Bool.false_eq_true, eq_self, Option.toList, List.cons_append, List.nil_append, ix_in, ix_cl, lt_in, lt_cl, lt_add, ix_one, vu_eq, vu_ne, arI_mk, arL_mk, arY_mZ, arY_mB, alen_mI, fld_sfl_ne, fld_sfl_same, Option.isSome_some, pok_i, b1z, b01, z10, b1o, Int32.zero_add, vu_vu, upd_eq, upd_ne, true_or, or_true, V6.r1, V6.r2, V6.r3, V6.r4, V6.r16, V6.r17, V6.r18, V6.r19, V6.r20, V6.r23, V6.r24, V6.r25, V6.r26, V6.r27, V6.r28, V6.r29, V6.r30, V6.c172, V6.c173, V6.c174, V6.c186, V6.c187, V6.c188, V6.n5, V6.n13, V6.n14, V6.i0, V6.i5, V6.i6, V6.i7, V6.i8, V6.i9, V6.i10, V6.i11, V6.i12, V6.i13, V6.i14, V6.i15, V6.i21, V6.i22]
  rcases hr with ⟨hk, he⟩ | ⟨hk, hrest⟩
  · rw [p173_55 (cno_MR V6.mr) (Nat.le_of_ble_eq_true rfl) (P6.eatN (fun z => hk z.2))]
    simp (disch := first | omega | decide | assumption | exact Nat.le_of_ble_eq_true rfl) only [s173_58, s173_61, s173_62, ow_some, true_and, and_true, and_self, if_true, if_false, not_true, not_false_eq_true, Bool.false_eq_true, eq_self, Option.toList, List.cons_append, List.nil_append, ix_in, ix_cl, lt_in, lt_cl, lt_add, ix_one, vu_eq, vu_ne, arI_mk, arL_mk, arY_mZ, arY_mB, alen_mI, fld_sfl_ne, fld_sfl_same, Option.isSome_some, pok_i, b1z, b01, z10, b1o, Int32.zero_add, vu_vu, upd_eq, upd_ne, true_or, or_true, V6.r1, V6.r2, V6.r3, V6.r4, V6.r16, V6.r17, V6.r18, V6.r19, V6.r20, V6.r23, V6.r24, V6.r25, V6.r26, V6.r27, V6.r28, V6.r29, V6.r30, V6.c172, V6.c173, V6.c174, V6.c186, V6.c187, V6.c188, V6.n5, V6.n13, V6.n14, V6.i0, V6.i5, V6.i6, V6.i7, V6.i8, V6.i9, V6.i10, V6.i11, V6.i12, V6.i13, V6.i14, V6.i15, V6.i21, V6.i22]
    refine k173_63 (cno_MR V6.mr) (Nat.le_of_ble_eq_true rfl) (P6.fail (w := 2)) ?_
    rintro f7 n7 k7 v7 ⟨rfl, rfl, rfl, sm7, P7⟩
    have V7 := P7.V
    have Q7 := P7.1
    have hw : ft 2 (lx s.2.2.1 z 0 y10).2.2.1 ≠ 0 := ft_ne (by decide)
    simp (disch := first | omega | decide | assumption | exact Nat.le_of_ble_eq_true rfl) only [s173_66, s173_67, s173_70, s173_71, h173_72, ow_some, true_and, and_true, and_self, if_true, if_false, not_true, not_false_eq_true, Bool.false_eq_true, eq_self, Option.toList, List.cons_append, List.nil_append, ix_in, ix_cl, lt_in, lt_cl, lt_add, ix_one, vu_eq, vu_ne, arI_mk, arL_mk, arY_mZ, arY_mB, alen_mI, fld_sfl_ne, fld_sfl_same, Option.isSome_some, pok_i, b1z, b01, z10, b1o, Int32.zero_add, vu_vu, upd_eq, upd_ne, true_or, or_true, V7.r1, V7.r2, V7.r3, V7.r4, V7.r16, V7.r17, V7.r18, V7.r19, V7.r20, V7.r23, V7.r24, V7.r25, V7.r26, V7.r27, V7.r28, V7.r29, V7.r30, V7.c172, V7.c173, V7.c174, V7.c186, V7.c187, V7.c188, V7.n5, V7.n13, V7.n14, V7.i0, V7.i5, V7.i6, V7.i7, V7.i8, V7.i9, V7.i10, V7.i11, V7.i12, V7.i13, V7.i14, V7.i15, V7.i21, V7.i22, Q7.f6, Q7.f7, Q7.f8, Q7.f9, Q7.f10, Q7.f11, Q7.f12, Q7.f15, Q7.c175, Q7.c176]
    have P8 : PC (va_up f7 175 (.inl (.int, 1394, .inl (upd fr0 1 0)))) (s.1, (0, s.2.1.2), s.2.2) (upd fr0 1 0) ag z (lx s.2.2.1 z 0 y10) (ft 2 (lx s.2.2.1 z 0 y10).2.2.1) (nI (lx s.2.2.1 z 0 y10).1) y15 := ⟨Q7.fr', P7.2⟩
    have sm8 : SM f (va_up f7 175 (.inl (.int, 1394, .inl (upd fr0 1 0)))) := (sm6.tr sm7).tr (SM.up (by omega) (by omega))
    generalize va_up f7 175 (.inl (.int, 1394, .inl (upd fr0 1 0))) = f8' at P8 sm8 ⊢
    have V8 := P8.V
    have Q8 := P8.1
    unfold TH
    simp (disch := first | omega | decide | assumption | exact Nat.le_of_ble_eq_true rfl) only [s173_73, s173_74, s173_77, ow_some, true_and, and_true, and_self, if_true, if_false, not_true, not_false_eq_true, Bool.false_eq_true, eq_self, Option.toList, List.cons_append, List.nil_append, ix_in, ix_cl, lt_in, lt_cl, lt_add, ix_one, vu_eq, vu_ne, arI_mk, arL_mk, arY_mZ, arY_mB, alen_mI, fld_sfl_ne, fld_sfl_same, Option.isSome_some, pok_i, b1z, b01, z10, b1o, Int32.zero_add, vu_vu, upd_eq, upd_ne, true_or, or_true, V8.r1, V8.r2, V8.r3, V8.r4, V8.r16, V8.r17, V8.r18, V8.r19, V8.r20, V8.r23, V8.r24, V8.r25, V8.r26, V8.r27, V8.r28, V8.r29, V8.r30, V8.c172, V8.c173, V8.c174, V8.c186, V8.c187, V8.c188, V8.n5, V8.n13, V8.n14, V8.i0, V8.i5, V8.i6, V8.i7, V8.i8, V8.i9, V8.i10, V8.i11, V8.i12, V8.i13, V8.i14, V8.i15, V8.i21, V8.i22, Q8.f6, Q8.f7, Q8.f8, Q8.f9, Q8.f10, Q8.f11, Q8.f12, Q8.f15, Q8.c175, Q8.c176, hw]
    exact err144 _ _ _ _ _ _ _ _ he hw sm8 P8
  · refine k173_55 (cno_MR V6.mr) (Nat.le_of_ble_eq_true rfl) (P6.eatY hk) ?_
    rintro f7 n7 k7 v7 ⟨rfl, rfl, sm7, P7, rfl⟩
    have V7 := P7.V
    have Q7 := P7.1
    simp (disch := first | omega | decide | assumption | exact Nat.le_of_ble_eq_true rfl) only [s173_58, s173_66, s173_67, s173_70, s173_71, h173_72, ow_some, true_and, and_true, and_self, if_true, if_false, not_true, not_false_eq_true, Bool.false_eq_true, eq_self, Option.toList, List.cons_append, List.nil_append, ix_in, ix_cl, lt_in, lt_cl, lt_add, ix_one, vu_eq, vu_ne, arI_mk, arL_mk, arY_mZ, arY_mB, alen_mI, fld_sfl_ne, fld_sfl_same, Option.isSome_some, pok_i, b1z, b01, z10, b1o, Int32.zero_add, vu_vu, upd_eq, upd_ne, true_or, or_true, V7.r1, V7.r2, V7.r3, V7.r4, V7.r16, V7.r17, V7.r18, V7.r19, V7.r20, V7.r23, V7.r24, V7.r25, V7.r26, V7.r27, V7.r28, V7.r29, V7.r30, V7.c172, V7.c173, V7.c174, V7.c186, V7.c187, V7.c188, V7.n5, V7.n13, V7.n14, V7.i0, V7.i5, V7.i6, V7.i7, V7.i8, V7.i9, V7.i10, V7.i11, V7.i12, V7.i13, V7.i14, V7.i15, V7.i21, V7.i22, Q7.f6, Q7.f7, Q7.f8, Q7.f9, Q7.f10, Q7.f11, Q7.f12, Q7.f15, Q7.c175, Q7.c176]
    have P8 : PC (va_up f7 175 (.inl (.int, 1394, .inl (upd fr0 1 0)))) (s.1, (0, s.2.1.2), s.2.2) (upd fr0 1 0) ag z (nx s.2.2.1 z (lx s.2.2.1 z 0 y10)) 0 y12 y15 := ⟨Q7.fr', P7.2⟩
    have sm8 : SM f (va_up f7 175 (.inl (.int, 1394, .inl (upd fr0 1 0)))) := (sm6.tr sm7).tr (SM.up (by omega) (by omega))
    generalize va_up f7 175 (.inl (.int, 1394, .inl (upd fr0 1 0))) = f8' at P8 sm8 ⊢
    refine PC.loads (d := d + 62) 8 0 f8' _ _ y12 y15 rfl upd_eq P8 ?_ ?_
    · intro f9 c9 fr9 wa9 rd9 hl sm9 P9
      have V9 := P9.V
      simp (disch := first | omega | decide | assumption | exact Nat.le_of_ble_eq_true rfl) only [s173_144, ow_some, true_and, and_true, and_self, if_true, if_false, not_true, not_false_eq_true, Bool.false_eq_true, eq_self, Option.toList, List.cons_append, List.nil_append, ix_in, ix_cl, lt_in, lt_cl, lt_add, ix_one, vu_eq, vu_ne, arI_mk, arL_mk, arY_mZ, arY_mB, alen_mI, fld_sfl_ne, fld_sfl_same, Option.isSome_some, pok_i, b1z, b01, z10, b1o, Int32.zero_add, vu_vu, upd_eq, upd_ne, true_or, or_true, V9.r1, V9.r2, V9.r3, V9.r4, V9.r16, V9.r17, V9.r18, V9.r19, V9.r20, V9.r23, V9.r24, V9.r25, V9.r26, V9.r27, V9.r28, V9.r29, V9.r30, V9.c172, V9.c173, V9.c174, V9.c186, V9.c187, V9.c188, V9.n5, V9.n13, V9.n14, V9.i0, V9.i5, V9.i6, V9.i7, V9.i8, V9.i9, V9.i10, V9.i11, V9.i12, V9.i13, V9.i14, V9.i15, V9.i21, V9.i22]
      rcases hrest with ⟨e, hl2, -⟩ | ⟨c1, fr1, hl2, h3⟩
      · have hl := hl2.symm.trans hl; cases hl
      · have hl := hl2.symm.trans hl
        cases hl
        obtain ⟨j', -, b2, b3, b4, b5, b6⟩ := loads_LB 8 0 _ _ _ _ rfl (lb_start hpl') (cv_go (tx := s.2.2.1) cv_lx (by rw [hk]; decide)).1 cnm_nx hl2
        have hj := b2 rfl (by decide)
        refine k173_145 (cno_MR V9.mr) (Nat.le_of_ble_eq_true rfl) P9.endY ?_
        rintro g1 m1 l1 v1 ⟨rfl, rfl, rfl, smA, hoA, heA⟩
        rcases h3 with ⟨h30, he⟩ | ⟨h30, hlines⟩
        · obtain ⟨hw, fr2, ag2, c2, rd2, P2⟩ := heA _ _ (by rw [if_neg h30]; rfl)
          have V2 := P2.V
          have Q2 := P2.1
          simp (disch := first | omega | decide | assumption | exact Nat.le_of_ble_eq_true rfl) only [s173_148, s173_149, s173_152, ow_some, true_and, and_true, and_self, if_true, if_false, not_true, not_false_eq_true, Bool.false_eq_true, eq_self, Option.toList, List.cons_append, List.nil_append, ix_in, ix_cl, lt_in, lt_cl, lt_add, ix_one, vu_eq, vu_ne, arI_mk, arL_mk, arY_mZ, arY_mB, alen_mI, fld_sfl_ne, fld_sfl_same, Option.isSome_some, pok_i, b1z, b01, z10, b1o, Int32.zero_add, vu_vu, upd_eq, upd_ne, true_or, or_true, V2.r1, V2.r2, V2.r3, V2.r4, V2.r16, V2.r17, V2.r18, V2.r19, V2.r20, V2.r23, V2.r24, V2.r25, V2.r26, V2.r27, V2.r28, V2.r29, V2.r30, V2.c172, V2.c173, V2.c174, V2.c186, V2.c187, V2.c188, V2.n5, V2.n13, V2.n14, V2.i0, V2.i5, V2.i6, V2.i7, V2.i8, V2.i9, V2.i10, V2.i11, V2.i12, V2.i13, V2.i14, V2.i15, V2.i21, V2.i22, Q2.f6, Q2.f7, Q2.f8, Q2.f9, Q2.f10, Q2.f11, Q2.f12, Q2.f15, Q2.c175, Q2.c176, hw]
          exact endE _ _ _ _ _ _ _ _ he hw ((sm8.tr sm9).tr smA) P2
        · obtain ⟨wa2, rd2, P2⟩ := hoA _ _ _ (by rw [if_pos h30])
          rw [b4.S b3] at hlines
          have hI := b4.FI (ag := ag) hj b3
          have g3 := cv_go (tx := s.2.2.1) b5 (by rw [h30]; decide)
          have hLI : LI z j' 0 0 (nx s.2.2.1 z c9) (upd fr9 0 (fr9 0 + 1)) := (show LI z j' 0 0 (nx s.2.2.1 z c9) fr9 from ⟨g3.1, hI.1.2.1, hI.2, by omega, hI.1.2.2.1, by omega⟩).up (by omega) (by omega) (by omega)
          simp only [Option.toList, List.nil_append]
          refine PC.lines (d := d + 8) (s := (s.1, (0, s.2.1.2), s.2.2)) hj b3 k g1 0 0 _ _ _ wa2 rd2 r hlines hLI P2 ?_ ?_
          · intro f' c' fr' ag' wa' rd' he sm' P'
            exact endY _ _ _ _ _ _ _ he (((sm8.tr sm9).tr smA).tr sm') P'
          · intro f' c' fr' ag' w p' rd' he hw sm' P'
            exact endE _ _ _ _ _ _ _ _ he hw (((sm8.tr sm9).tr smA).tr sm') P'
    · intro f9 c9 fr9 w p9 rd9 hl hw sm9 P9
      rcases hrest with ⟨e, hl2, he⟩ | ⟨c1, fr1, hl2, h3⟩
      · have hl := hl2.symm.trans hl
        cases hl
        exact err144 _ _ _ _ _ _ _ _ he hw (sm8.tr sm9) P9
      · have hl := hl2.symm.trans hl; cases hl

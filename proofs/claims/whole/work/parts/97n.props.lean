/-! the class: the fewest props -/
def isM (A : Nat → Int32) (z0 z : Int32) (D : Nat → Prop) : Prop := z0.toInt ≤ z.toInt ∧ (∀ i, D i → (A i).toInt ≤ z.toInt) ∧ (z = z0 ∨ ∃ i, D i ∧ z = A i)
theorem isM_u {A : Nat → Int32} {z0 z z' : Int32} {D D' : Nat → Prop} (hD : ∀ i, D i ↔ D' i) (h : isM A z0 z D) (h' : isM A z0 z' D') : z = z' := by
  apply Int32.toInt_inj.mp
  obtain ⟨a1, a2, a3⟩ := h
  obtain ⟨b1, b2, b3⟩ := h'
  have c1 : z.toInt ≤ z'.toInt := by
    rcases a3 with e | ⟨i, hi, e⟩
    · rw [e]; exact b1
    · rw [e]; exact b2 i ((hD i).mp hi)
  have c2 : z'.toInt ≤ z.toInt := by
    rcases b3 with e | ⟨i, hi, e⟩
    · rw [e]; exact a1
    · rw [e]; exact a2 i ((hD i).mpr hi)
  omega
theorem fo_isM {A : Nat → Int32} {z0 : Int32} : ∀ n, isM A z0 (fo (fun i most => if most < A i then A i else most) z0 n) (fun i => i < n) := by
  intro n
  induction n with
  | zero => exact ⟨Int.le_refl _, fun i hi => absurd hi (by omega), Or.inl rfl⟩
  | succ n ih =>
    obtain ⟨a1, a2, a3⟩ := ih
    rw [fo_s]
    generalize fo (fun i most => if most < A i then A i else most) z0 n = z at a1 a2 a3 ⊢
    by_cases h : z < A n
    · rw [if_pos h]
      rw [Int32.lt_iff_toInt_lt] at h
      refine ⟨by omega, fun i hi => ?_, Or.inr ⟨n, by omega, rfl⟩⟩
      by_cases hin : i = n
      · subst hin; omega
      · have := a2 i (by omega); omega
    · rw [if_neg h]
      rw [Int32.lt_iff_toInt_lt] at h
      refine ⟨a1, fun i hi => ?_, ?_⟩
      · by_cases hin : i = n
        · subst hin; omega
        · exact a2 i (by omega)
      · rcases a3 with e | ⟨i, hi, e⟩
        · exact Or.inl e
        · exact Or.inr ⟨i, by omega, e⟩
theorem isM_mx {A : Nat → Int32} {z0 z : Int32} {D D' : Nat → Prop} {n : Nat} (h : isM A z0 z D) (hD : ∀ i, D' i ↔ (D i ∨ i = n)) : isM A z0 (mxI z (A n)) D' := by
  obtain ⟨a1, a2, a3⟩ := h
  have e := mxI_t (a := z) (b := A n)
  refine ⟨by omega, fun i hi => ?_, ?_⟩
  · rcases (hD i).mp hi with h1 | rfl
    · have := a2 i h1; omega
    · omega
  · unfold mxI
    split
    · exact Or.inr ⟨n, (hD n).mpr (Or.inr rfl), rfl⟩
    · rcases a3 with e | ⟨i, hi, e⟩
      · exact Or.inl e
      · exact Or.inr ⟨i, (hD i).mpr (Or.inl hi), e⟩
def pAg (x : Int32) : Int32 := if 0 < x then (x + 10 - 1) / 10 else 0
theorem sp_pAg {X : Nat × (Nat → Int32)} {d N K : Nat} {f : Nat → e_C} {x : Int32} : PU X d 105 [.int x] f N K (some (.int (pAg x))) := by
  have q10 : ((10 : Int32) = 0) = False := by decide
  unfold PU pAg
  by_cases h : 0 < x
  · rw [if_pos h]
    simp (disch := first | omega | decide | assumption | exact Nat.le_of_ble_eq_true rfl) only [s105_0, s105_1, s105_4, s105_5, s105_8, s105_9, s105_11, s105_12, s105_13, s105_14, s105_16, s105_17, ow_some, true_and, and_true, and_self, if_true, if_false, not_true, not_false_eq_true, Bool.false_eq_true, eq_self, Option.toList, List.cons_append, List.nil_append, ix_in, ix_cl, lt_in, lt_cl, lt_add, ix_one, vu_eq, vu_ne, arI_mk, arL_mk, arY_mZ, arY_mB, alen_mI, fld_sfl_ne, fld_sfl_same, Option.isSome_some, pok_i, b1z, b01, z10, b1o, Int32.zero_add, vu_vu, upd_eq, upd_ne, true_or, or_true, h, q10, ne_eq]
  · rw [if_neg h]
    simp (disch := first | omega | decide | assumption | exact Nat.le_of_ble_eq_true rfl) only [s105_0, s105_1, s105_4, s105_5, s105_8, s105_9, s105_11, s105_12, s105_13, s105_14, s105_16, s105_17, ow_some, true_and, and_true, and_self, if_true, if_false, not_true, not_false_eq_true, Bool.false_eq_true, eq_self, Option.toList, List.cons_append, List.nil_append, ix_in, ix_cl, lt_in, lt_cl, lt_add, ix_one, vu_eq, vu_ne, arI_mk, arL_mk, arY_mZ, arY_mB, alen_mI, fld_sfl_ne, fld_sfl_same, Option.isSome_some, pok_i, b1z, b01, z10, b1o, Int32.zero_add, vu_vu, upd_eq, upd_ne, true_or, or_true, h]
theorem pAg_n {x : Int32} : pAg (-x) = p_need x := by
  unfold pAg p_need
  by_cases h : 0 < -x
  · rw [if_pos h, if_pos h]
    congr 1
    generalize -x = z
    have : z + 10 - 1 = z + (10 - 1) := by rw [Int32.sub_eq_add_neg, Int32.sub_eq_add_neg, Int32.add_assoc]
    rw [this]; rfl
  · rw [if_neg h, if_neg h]
theorem ppt_at {all b : Nat → Int32} {S i l : Nat} (h : i ≤ l) : ∀ l', l ≤ l' → ppt all b S l' i = ppt all b S l i := by
  intro l' hl
  exact ind_le (F := fun k => ppt all b S k i) l' hl (fun j h1 h2 => by
    show ppt all b S (j + 1) i = ppt all b S j i
    rw [ppt, upd_ne (by omega)])
theorem sp_fewestProps {X : Nat × (Nat → Int32)} {d N K a pl C S R P q : Nat} {f : Nat → e_C} {y x r : Nat → Nat → Int32} {w v all br mo up : Nat → Int32} {li : Nat → Int64} (L : LV f q y) (V : SV f a pl w x) (W : PV f pl v r C) (G : CR all S P w x v r C) (I : IS all S R P) (hd : AD a pl q) (O : XV f q br mo up li) (hq : q = 160) {T : Nat} (hT5 : sub T (nT all) = true) {u3 u4 u5 u6 u7 : Value} : TT X (d + 4) 104 0 [.ref 159, .ref a, .int (nI T), u3, u4, u5, u6, u7] [] f N K (fun f' n' k' z => n' = N ∧ k' = K ∧ SI 162 171 f f' ∧ (∃ y' br' mo' up' li', LV f' q y' ∧ XV f' q br' mo' up' li' ∧ ∀ k, k < S → mo' k = ppt all (m_bo all T P) S S (k + 1) - ppt all (m_bo all T P) S S k) ∧ z = some (.int (ppt all (m_bo all T P) S S S))) := by
  have h8 := I.s8
  have h9 := I.p9
  have hS : v 0 = nI S := by rw [G.v0]; exact I.eS
  have o1 := O.1
  simp (disch := first | omega | decide | assumption | exact Nat.le_of_ble_eq_true rfl) only [s104_0, s104_1, s104_4, ow_some, true_and, and_true, and_self, if_true, if_false, not_true, not_false_eq_true, Bool.false_eq_true, eq_self, Option.toList, List.cons_append, List.nil_append, ix_in, ix_cl, lt_in, lt_cl, lt_add, ix_one, vu_eq, vu_ne, arI_mk, arL_mk, arY_mZ, arY_mB, alen_mI, fld_sfl_ne, fld_sfl_same, Option.isSome_some, pok_i, b1z, b01, z10, b1o, Int32.zero_add, vu_vu, upd_eq, upd_ne, true_or, or_true, o1]
  refine k104_5 L.cn (Nat.le_of_ble_eq_true rfl) (sp_weigh L V W G I hd) ?_
  rintro f1 n1 k1 v1 ⟨rfl, rfl, rfl, s1, y1, L1, -, hw1⟩
  have V1 := V.fr (f' := f1) (fun b h1 h2 => s1 b (by omega))
  have W1 := W.fr (f' := f1) (fun b h1 h2 => s1 b (by omega))
  have O1 : XV f1 q br mo up li := O.fr (s1 159 (by omega)) (fun b h1 h2 => s1 b (by omega))
  have q1 := O1.1
  simp (disch := first | omega | decide | assumption | exact Nat.le_of_ble_eq_true rfl) only [s104_8, s104_9, s104_12, s104_13, ow_some, true_and, and_true, and_self, if_true, if_false, not_true, not_false_eq_true, Bool.false_eq_true, eq_self, Option.toList, List.cons_append, List.nil_append, ix_in, ix_cl, lt_in, lt_cl, lt_add, ix_one, vu_eq, vu_ne, arI_mk, arL_mk, arY_mZ, arY_mB, alen_mI, fld_sfl_ne, fld_sfl_same, Option.isSome_some, pok_i, b1z, b01, z10, b1o, Int32.zero_add, vu_vu, upd_eq, upd_ne, true_or, or_true, q1]
  refine k104_14 L1.cn (Nat.le_of_ble_eq_true rfl) (sp_slackOf L1 V1 W1 G I hd hT5 hw1) ?_
  rintro f2 n2 k2 v2 ⟨rfl, rfl, s2, ⟨g2, L2, hg2⟩, rfl⟩
  have s2' : SI 162 171 f f2 := (s1.wd (by omega) (by omega)).tr (s2.wd (by omega) (by omega))
  have O2 : XV f2 q br mo up li := O1.fr (s2 159 (by omega)) (fun b h1 h2 => s2 b (by omega))
  obtain ⟨x1, x2, x3, x4, x5, x6, x7, x8, x9⟩ := id O2
  simp (disch := first | omega | decide | assumption | exact Nat.le_of_ble_eq_true rfl) only [s104_17, s104_18, s104_19, s104_22, s104_23, s104_24, s104_25, h104_26, ow_some, true_and, and_true, and_self, if_true, if_false, not_true, not_false_eq_true, Bool.false_eq_true, eq_self, Option.toList, List.cons_append, List.nil_append, ix_in, ix_cl, lt_in, lt_cl, lt_add, ix_one, vu_eq, vu_ne, arI_mk, arL_mk, arY_mZ, arY_mB, alen_mI, fld_sfl_ne, fld_sfl_same, Option.isSome_some, pok_i, b1z, b01, z10, b1o, Int32.zero_add, vu_vu, upd_eq, upd_ne, true_or, or_true, x4, x8]
  have O3 := O2.u9 (g := upd up 0 0)
  have L3 := L2.fr (f' := va_up f2 169 (.inl (.int, 9, .inl (upd up 0 0)))) (fun b h1 h2 => vu_ne (by omega))
  have s3 : SI 162 171 f (va_up f2 169 (.inl (.int, 9, .inl (upd up 0 0)))) := s2'.tr (SI.up (by omega) (by omega))
  generalize va_up f2 169 (.inl (.int, 9, .inl (upd up 0 0))) = f3 at O3 L3 s3 ⊢
  have bbd : ∀ k, k < S → -30000 ≤ gI all (m_bo all T P) k ∧ gI all (m_bo all T P) k ≤ 30000 := by
    intro k hk
    have h1 := bo_b (all := all) (T := T) (fun k hk => (I.pr hk).1) P k h9 (show k < 8 by omega)
    have h2 := I.bn.1 k (by omega)
    have h3 : (P : Int) ≤ 9 := by omega
    unfold gI
    omega
  refine lp (fun l e (z : (Nat → Int32) × (Nat → Int32) × Value × Value × Value × Value) => SI 162 171 f e ∧ LV e q (up2 y1 4 g2) ∧ XV e q br z.1 z.2.1 li ∧ (∀ i, i ≤ l → z.2.1 i = ppt all (m_bo all T P) S l i) ∧ ∀ k, k < l → z.1 k = ppt all (m_bo all T P) S l (k + 1) - ppt all (m_bo all T P) S l k) (fun l z => [.ref 159, .ref a, .int (nI T), .int (nI l), z.2.2.1, z.2.2.2.1, z.2.2.2.2.1, z.2.2.2.2.2]) S ?_ ?_ 0 f3 (mo, upd up 0 0, u4, u5, u6, u7) (by omega) ⟨s3, L3, O3, fun i hi => ?_, fun k hk => by omega⟩
  · rintro l e ⟨mo1, up1, z4, z5, z6, z7⟩ hl ⟨s4, L4, O4, hu, hm⟩ hI
    dsimp only at hu hm
    have V4 := V.fr (f' := e) (fun b h1 h2 => s4 b (by omega))
    have W4 := W.fr (f' := e) (fun b h1 h2 => s4 b (by omega))
    obtain ⟨c1, c2, c3, c4, c5, c6, c7, c8, c9⟩ := id O4
    have hc : (S ≤ l) = False := eq_false (by omega)
    have hul : up1 l = ppt all (m_bo all T P) S l l := hu l (Nat.le_refl _)
    simp (disch := first | omega | decide | assumption | exact Nat.le_of_ble_eq_true rfl) only [s104_27, s104_28, s104_29, s104_32, s104_35, s104_38, s104_39, s104_42, s104_43, s104_44, s104_46, s104_47, s104_50, s104_53, s104_54, s104_55, s104_56, s104_57, s104_58, s104_60, h104_61, ow_some, true_and, and_true, and_self, if_true, if_false, not_true, not_false_eq_true, Bool.false_eq_true, eq_self, Option.toList, List.cons_append, List.nil_append, ix_in, ix_cl, lt_in, lt_cl, lt_add, ix_one, vu_eq, vu_ne, arI_mk, arL_mk, arY_mZ, arY_mB, alen_mI, fld_sfl_ne, fld_sfl_same, Option.isSome_some, pok_i, b1z, b01, z10, b1o, Int32.zero_add, vu_vu, upd_eq, upd_ne, true_or, or_true, V4.v1, V4.v6, V4.v7, V4.v8, V4.v9, V4.i1, V4.i6, V4.i7, V4.i8, V4.i9, V4.r2, V4.r3, V4.r4, V4.r5, V4.pl, V4.a2, V4.a3, V4.a4, V4.a5, W4.v0, W4.v3, W4.v10, W4.v11, W4.v12, W4.v14, W4.v15, W4.v16, W4.v17, W4.v18, W4.r1, W4.r2, W4.r4, W4.r5, W4.r6, W4.r7, W4.r8, W4.r9, W4.r13, W4.a1, W4.a2, W4.a4, W4.a5, W4.a6, W4.a7, W4.a8, W4.a9, W4.a13, hS, ix_le, hc, c4, c8]
    -- the inner loop
    have jb1 := jI_b I.bn h8 (l + 1)
    have ej1 : (r 2 (l + 1)).toInt = jI all S (l + 1) := by rw [G.jt (by omega)]; rfl
    have en1 : (-r 2 (l + 1)).toInt = -jI all S (l + 1) := by rw [t_neg (by omega), ej1]
    have pb : ∀ i, i ≤ S → -240000 ≤ psum (gI all (m_bo all T P)) i ∧ psum (gI all (m_bo all T P)) i ≤ 240000 := by
      intro i hi
      have := ps_b bbd i hi
      have h : (i : Int) ≤ 8 := by omega
      omega
    suffices inner : ∀ (i : Nat) (lk ls : Int32) (z7 : Value), i ≤ l + 1 → lk.toInt = -(psum (gI all (m_bo all T P)) (l + 1) - psum (gI all (m_bo all T P)) i) - jI all S (l + 1) → isM (fun t => ppt all (m_bo all T P) S l t + p_need (m_over all (m_bo all T P) S t l)) (ppt all (m_bo all T P) S l l) ls (fun t => i ≤ t ∧ t ≤ l) → TH X (d + 4) 104 63 [.ref 159, .ref a, .int (nI T), .int (nI l), .int ls, .int lk, .int (if i = 0 then -1 else nI (i - 1)), z7] [] e n2 k2 (fun f' n' k' z => n' = n2 ∧ k' = k2 ∧ SI 162 171 f f' ∧ (∃ y' br' mo' up' li', LV f' q y' ∧ XV f' q br' mo' up' li' ∧ ∀ k, k < S → mo' k = ppt all (m_bo all T P) S S (k + 1) - ppt all (m_bo all T P) S S k) ∧ z = some (.int (ppt all (m_bo all T P) S S S))) by
      have := inner (l + 1) (-r 2 (l + 1)) (up1 l) z7 (Nat.le_refl _) (by rw [en1]; omega) (by rw [hul]; exact ⟨Int.le_refl _, fun t ht => by omega, Or.inl rfl⟩)
      rw [if_neg (Nat.succ_ne_zero l), show l + 1 - 1 = l by omega] at this
      exact this
    intro i
    induction i with
    | zero =>
      intro lk ls z7 _ hlk hls
      unfold TH
      have hm1 : ((-1 : Int32) < 0) = True := by decide
      rw [if_pos rfl]
      have els : ls = p_row all (m_bo all T P) S l (ppt all (m_bo all T P) S l) (l + 1) := isM_u (fun i => by constructor <;> intro h <;> omega) hls (fo_isM (l + 1))
      have hpp : ppt all (m_bo all T P) S (l + 1) = upd (ppt all (m_bo all T P) S l) (l + 1) ls := by rw [els]; rfl
      simp (disch := first | omega | decide | assumption | exact Nat.le_of_ble_eq_true rfl) only [s104_63, s104_65, s104_135, s104_136, s104_139, s104_140, s104_141, s104_142, s104_144, ow_some, true_and, and_true, and_self, if_true, if_false, not_true, not_false_eq_true, Bool.false_eq_true, eq_self, Option.toList, List.cons_append, List.nil_append, ix_in, ix_cl, lt_in, lt_cl, lt_add, ix_one, vu_eq, vu_ne, arI_mk, arL_mk, arY_mZ, arY_mB, alen_mI, fld_sfl_ne, fld_sfl_same, Option.isSome_some, pok_i, b1z, b01, z10, b1o, Int32.zero_add, vu_vu, upd_eq, upd_ne, true_or, or_true, hm1, c4, c8]
      have O5 := O4.u9 (g := upd up1 (l + 1) ls)
      have L5 := L4.fr (f' := va_up e 169 (.inl (.int, 9, .inl (upd up1 (l + 1) ls)))) (fun b h1 h2 => vu_ne (by omega))
      have s5 : SI 162 171 f (va_up e 169 (.inl (.int, 9, .inl (upd up1 (l + 1) ls)))) := s4.tr (SI.up (by omega) (by omega))
      generalize va_up e 169 (.inl (.int, 9, .inl (upd up1 (l + 1) ls))) = f5 at O5 L5 s5 ⊢
      obtain ⟨d1, d2, d3, d4, d5, d6, d7, d8, d9⟩ := id O5
      have eul : upd up1 (l + 1) ls l = ppt all (m_bo all T P) S l l := by rw [upd_ne (by omega)]; exact hul
      simp (disch := first | omega | decide | assumption | exact Nat.le_of_ble_eq_true rfl) only [s104_145, s104_146, s104_149, s104_150, s104_152, s104_153, s104_156, s104_157, s104_158, s104_159, s104_160, h104_163, ow_some, true_and, and_true, and_self, if_true, if_false, not_true, not_false_eq_true, Bool.false_eq_true, eq_self, Option.toList, List.cons_append, List.nil_append, ix_in, ix_cl, lt_in, lt_cl, lt_add, ix_one, vu_eq, vu_ne, arI_mk, arL_mk, arY_mZ, arY_mB, alen_mI, fld_sfl_ne, fld_sfl_same, Option.isSome_some, pok_i, b1z, b01, z10, b1o, Int32.zero_add, vu_vu, upd_eq, upd_ne, true_or, or_true, d3, d4, d7, d8, hul]
      refine hI _ (upd mo1 l (ls - ppt all (m_bo all T P) S l l), upd up1 (l + 1) ls, _, _, _, _) ⟨s5.tr (SI.up (by omega) (by omega)), L5.fr (fun b h1 h2 => vu_ne (by omega)), O5.u8, fun i hi => ?_, fun k hk => ?_⟩
      · dsimp only
        rw [hpp]
        by_cases h : i = l + 1
        · subst h; rw [upd_eq, upd_eq]
        · rw [upd_ne h, upd_ne h]; exact hu i (by omega)
      · dsimp only
        rw [hpp]
        by_cases h : k = l
        · subst h; rw [upd_eq, upd_eq, upd_ne (by omega)]
        · rw [upd_ne h, upd_ne (by omega), upd_ne (by omega)]; exact hm k (by omega)
    | succ i ih =>
      intro lk ls z7 hi hlk hls
      unfold TH
      have hz : ¬ i + 1 = 0 := by omega
      rw [if_neg hz, show i + 1 - 1 = i by omega]
      have hm1 : (nI i < 0) = False := eq_false (nI_pos (by omega))
      have hgi := bbd i (by omega)
      have p1 := pb (i + 1) (by omega)
      have p2 := pb (l + 1) (by omega)
      have p0 := pb i (by omega)
      have egi : gI all (m_bo all T P) i = (m_bo all T P i).toInt - (all (9 + i)).toInt := rfl
      have erow : up2 y1 4 g2 4 i = m_bo all T P i := by rw [up2_eq]; exact hg2 i (by omega)
      have eld : r 1 i = all (9 + i) := G.ld (by omega)
      have es : (all (9 + i) - m_bo all T P i).toInt = -gI all (m_bo all T P) i := by rw [t_sub (by omega) (by omega)]; omega
      have elk : (lk + (all (9 + i) - m_bo all T P i)).toInt = -(psum (gI all (m_bo all T P)) (l + 1) - psum (gI all (m_bo all T P)) i) - jI all S (l + 1) := by
        have hps : psum (gI all (m_bo all T P)) (i + 1) = psum (gI all (m_bo all T P)) i + gI all (m_bo all T P) i := ps_s
        rw [t_add (by omega) (by omega), es, hlk, hps]; omega
      have jb0 := jI_b I.bn h8 i
      have ej0 : (r 2 i).toInt = jI all S i := by rw [G.jt (by omega)]; rfl
      have eov : lk + (all (9 + i) - m_bo all T P i) - r 2 i = -m_over all (m_bo all T P) S i l := by
        apply Int32.toInt_inj.mp
        have ho := over_int I.bn bbd h8 (show i ≤ l by omega) hl
        have hvb := vij_b I.bn bbd h8 (show i ≤ l by omega) hl
        rw [t_sub (by omega) (by omega), t_neg (by omega), ho, elk, ej0]
        unfold vij
        omega
      have hui : up1 i = ppt all (m_bo all T P) S l i := hu i (by omega)
      have em : nI i + Int32.ofInt (-1) = if i = 0 then -1 else nI (i - 1) := by
        by_cases h : i = 0
        · subst h; rw [if_pos rfl]; decide
        · rw [if_neg h]
          obtain ⟨k, rfl⟩ : ∃ k, i = k + 1 := ⟨i - 1, by omega⟩
          exact pk_m1 k
      simp (disch := first | omega | decide | assumption | exact Nat.le_of_ble_eq_true rfl) only [s104_63, s104_65, s104_68, s104_70, s104_71, s104_74, s104_77, s104_79, s104_80, s104_81, s104_84, s104_87, s104_89, s104_90, s104_91, s104_92, s104_94, s104_96, s104_97, s104_100, s104_103, s104_105, s104_106, ow_some, true_and, and_true, and_self, if_true, if_false, not_true, not_false_eq_true, Bool.false_eq_true, eq_self, Option.toList, List.cons_append, List.nil_append, ix_in, ix_cl, lt_in, lt_cl, lt_add, ix_one, vu_eq, vu_ne, arI_mk, arL_mk, arY_mZ, arY_mB, alen_mI, fld_sfl_ne, fld_sfl_same, Option.isSome_some, pok_i, b1z, b01, z10, b1o, Int32.zero_add, vu_vu, upd_eq, upd_ne, true_or, or_true, V4.v1, V4.v6, V4.v7, V4.v8, V4.v9, V4.i1, V4.i6, V4.i7, V4.i8, V4.i9, V4.r2, V4.r3, V4.r4, V4.r5, V4.pl, V4.a2, V4.a3, V4.a4, V4.a5, W4.v0, W4.v3, W4.v10, W4.v11, W4.v12, W4.v14, W4.v15, W4.v16, W4.v17, W4.v18, W4.r1, W4.r2, W4.r4, W4.r5, W4.r6, W4.r7, W4.r8, W4.r9, W4.r13, W4.a1, W4.a2, W4.a4, W4.a5, W4.a6, W4.a7, W4.a8, W4.a9, W4.a13, L4.r0, L4.r1, L4.r2, L4.r3, L4.l0, L4.l1, L4.a0, L4.a1, L4.a2, L4.a3, L4.a4, hm1, c1, erow, eld]
      rw [p104_107 (Nat.le_of_ble_eq_true rfl) sp_pAg, eov, pAg_n]
      simp (disch := first | omega | decide | assumption | exact Nat.le_of_ble_eq_true rfl) only [s104_110, s104_112, s104_114, s104_115, s104_118, s104_120, s104_121, s104_123, ow_some, true_and, and_true, and_self, if_true, if_false, not_true, not_false_eq_true, Bool.false_eq_true, eq_self, Option.toList, List.cons_append, List.nil_append, ix_in, ix_cl, lt_in, lt_cl, lt_add, ix_one, vu_eq, vu_ne, arI_mk, arL_mk, arY_mZ, arY_mB, alen_mI, fld_sfl_ne, fld_sfl_same, Option.isSome_some, pok_i, b1z, b01, z10, b1o, Int32.zero_add, vu_vu, upd_eq, upd_ne, true_or, or_true, c4, c8, hui]
      rw [p104_124 (Nat.le_of_ble_eq_true rfl) sp_max]
      simp (disch := first | omega | decide | assumption | exact Nat.le_of_ble_eq_true rfl) only [s104_127, s104_129, h104_132, ow_some, true_and, and_true, and_self, if_true, if_false, not_true, not_false_eq_true, Bool.false_eq_true, eq_self, Option.toList, List.cons_append, List.nil_append, ix_in, ix_cl, lt_in, lt_cl, lt_add, ix_one, vu_eq, vu_ne, arI_mk, arL_mk, arY_mZ, arY_mB, alen_mI, fld_sfl_ne, fld_sfl_same, Option.isSome_some, pok_i, b1z, b01, z10, b1o, Int32.zero_add, vu_vu, upd_eq, upd_ne, true_or, or_true, em]
      exact ih _ _ _ (by omega) elk (isM_mx hls (fun t => by constructor <;> intro h <;> omega))
  · rintro e ⟨mo1, up1, z4, z5, z6, z7⟩ ⟨s4, L4, O4, hu, hm⟩
    dsimp only at hu hm
    have V4 := V.fr (f' := e) (fun b h1 h2 => s4 b (by omega))
    have W4 := W.fr (f' := e) (fun b h1 h2 => s4 b (by omega))
    obtain ⟨c1, c2, c3, c4, c5, c6, c7, c8, c9⟩ := id O4
    have huS := hu S (Nat.le_refl _)
    simp (disch := first | omega | decide | assumption | exact Nat.le_of_ble_eq_true rfl) only [s104_27, s104_28, s104_29, s104_32, s104_35, s104_166, s104_167, s104_170, s104_171, s104_174, s104_177, s104_178, ow_some, true_and, and_true, and_self, if_true, if_false, not_true, not_false_eq_true, Bool.false_eq_true, eq_self, Option.toList, List.cons_append, List.nil_append, ix_in, ix_cl, lt_in, lt_cl, lt_add, ix_one, vu_eq, vu_ne, arI_mk, arL_mk, arY_mZ, arY_mB, alen_mI, fld_sfl_ne, fld_sfl_same, Option.isSome_some, pok_i, b1z, b01, z10, b1o, Int32.zero_add, vu_vu, upd_eq, upd_ne, true_or, or_true, V4.v1, V4.v6, V4.v7, V4.v8, V4.v9, V4.i1, V4.i6, V4.i7, V4.i8, V4.i9, V4.r2, V4.r3, V4.r4, V4.r5, V4.pl, V4.a2, V4.a3, V4.a4, V4.a5, W4.v0, W4.v3, W4.v10, W4.v11, W4.v12, W4.v14, W4.v15, W4.v16, W4.v17, W4.v18, W4.r1, W4.r2, W4.r4, W4.r5, W4.r6, W4.r7, W4.r8, W4.r9, W4.r13, W4.a1, W4.a2, W4.a4, W4.a5, W4.a6, W4.a7, W4.a8, W4.a9, W4.a13, hS, ix_le, Nat.le_refl, c4, c8, huS]
    exact ⟨s4, _, br, mo1, up1, li, L4, O4, hm⟩
  · dsimp only
    rw [show i = 0 by omega, upd_eq]; rfl

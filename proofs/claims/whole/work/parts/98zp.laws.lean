/-! the class reads laws as the reference does -/
def CD (fr v : Nat → Int32) (r : Nat → Nat → Int32) (n : Nat) : Prop := v 14 = nI n ∧ ncs fr n ∧ ∀ i, i < n → r 13 i = tr (fr (494 + i))
def VO (v v' : Nat → Int32) (r r' : Nat → Nat → Int32) : Prop := (∀ i, i ≠ 14 → v' i = v i) ∧ ∀ i, i ≠ 13 → r' i = r i
theorem VO.rf {v : Nat → Int32} {r : Nat → Nat → Int32} : VO v v r r := ⟨fun _ _ => rfl, fun _ _ => rfl⟩
theorem VO.tr {v v1 v2 : Nat → Int32} {r r1 r2 : Nat → Nat → Int32} (h1 : VO v v1 r r1) (h2 : VO v1 v2 r1 r2) : VO v v2 r r2 := ⟨fun i hi => (h2.1 i hi).trans (h1.1 i hi), fun i hi => (h2.2 i hi).trans (h1.2 i hi)⟩
theorem VO.em {v : Nat → Int32} {r : Nat → Nat → Int32} {x : Int32} {g : Nat → Int32} : VO v (upd v 14 x) r (up2 r 13 g) := ⟨fun _ hi => upd_ne hi, fun _ hi => up2_ne hi⟩
theorem CD.em {fr v : Nat → Int32} {r : Nat → Nat → Int32} {n : Nat} {x x' : Int32} (h : CD fr v r n) (hn : n < 900) (hx : x' = tr x) : CD (em fr x) (upd v 14 (nI (n + 1))) (up2 r 13 (upd (r 13) n x')) (n + 1) := by
  refine ⟨upd_eq, h.2.1.em hn, fun i hi => ?_⟩
  rw [up2_eq]
  by_cases e : i = n
  · subst e; rw [upd_eq, em_at h.2.1, hx]
  · rw [upd_ne e, em_be h.2.1 (by omega)]; exact h.2.2 i (by omega)
def CQo (f : Nat → e_C) (b L : Nat) (kk pp : Nat → Int32) (T : Nat) (tx : Nat → Int32) (c0 : Cu) (t : Nat) (wt : Int32) (v : Nat → Int32) (r : Nat → Nat → Int32) (N K : Nat) (res : Rr) : t_Q := fun f' n' k' z => n' = N ∧ k' = K ∧ z = none ∧ SJ b f f' ∧ (∀ c fr, res = .inl (c, fr) → ∃ t' v' r' n2, t ≤ t' ∧ GA f' b L kk pp T tx c0 t' c wt v' r' ∧ CD fr v' r' n2 ∧ VO v v' r r') ∧ ∀ w p, res = .inr (w, p) → GE f' b L kk pp T w p
section RD
variable {X : Nat × (Nat → Int32)} {N K : Nat} {f f' : Nat → e_C} {b L T t t' : Nat} {kk pp v v' tx : Nat → Int32} {wt : Int32} {r r' : Nat → Nat → Int32} {c0 c : Cu}
theorem CQo.ok {fr : Nat → Int32} {n : Nat} (s : SJ b f f') (ht : t ≤ t') (A : GA f' b L kk pp T tx c0 t' c wt v' r') (C : CD fr v' r' n) (o : VO v v' r r') : CQo f b L kk pp T tx c0 t wt v r N K (.inl (c, fr)) f' N K none := ⟨rfl, rfl, rfl, s, (fun c' fr' h => by cases h; exact ⟨t', v', r', n, ht, A, C, o⟩), (fun w p h => by cases h)⟩
theorem CQo.er {w : Int32} {p : Nat} (s : SJ b f f') (G : GE f' b L kk pp T w p) : CQo f b L kk pp T tx c0 t wt v r N K (.inr (w, p)) f' N K none := ⟨rfl, rfl, rfl, s, (fun c' fr' h => by cases h), (fun w' p' h => by cases h; exact G)⟩
theorem CQo.sm {g f2 : Nat → e_C} {res : Rr} {n' k' : Nat} {z : Option Value} (s : SJ b f g) (ht : t ≤ t') (o : VO v v' r r') (h : CQo g b L kk pp T tx c0 t' wt v' r' N K res f2 n' k' z) : CQo f b L kk pp T tx c0 t wt v r N K res f2 n' k' z := by
  obtain ⟨h1, h2, h3, h4, h5, h6⟩ := h
  refine ⟨h1, h2, h3, s.tr h4, fun c fr e => ?_, h6⟩
  obtain ⟨t2, v2, r2, n2, q1, q2, q3, q4⟩ := h5 c fr e
  exact ⟨t2, v2, r2, n2, by omega, q2, q3, o.tr q4⟩
theorem ckl_lt {c : Cu} (h : kvd c) : (ck c < 1000) = ¬ (c.2.2.1 = 23) := by rw [i_nlt, ck_ge h]
theorem n3a : ((3 : Int32) = 40) = False ∧ ((3 : Int32) < 1000) = True ∧ ((3 : Int32) = 42) = False ∧ ((3 : Int32) = 43) = False ∧ ((3 : Int32) = 45) = False ∧ ((3 : Int32) = 116) = False ∧ ((3 : Int32) = 91) = False ∧ ((3 : Int32) = 61) = False ∧ ((3 : Int32) = 60) = False ∧ ((3 : Int32) = 62) = False ∧ ((3 : Int32) = 114) = False ∧ ((3 : Int32) = 115) = False := ⟨eq_false (by decide), eq_true (by decide), eq_false (by decide), eq_false (by decide), eq_false (by decide), eq_false (by decide), eq_false (by decide), eq_false (by decide), eq_false (by decide), eq_false (by decide), eq_false (by decide), eq_false (by decide)⟩
theorem GE.atom {d : Nat} {w x : Int32} {p : Nat} (G : GE f b L kk pp T w p) : PU X (d + 1) 40 [.ref 99, .int x] f N K none := by
  unfold PU
  have v4 := G.v4
  obtain ⟨e1, e2, -⟩ := n3a
  simp (disch := first | omega | decide | assumption | exact Nat.le_of_ble_eq_true rfl) only [s40_0, s40_1, s40_4, s40_6, s40_23, s40_24, s40_27, s40_29, s40_52, s40_53, s40_56, s40_59, s40_80, s40_81, s40_82, ow_some, true_and, and_true, and_self, if_true, if_false, not_true, not_false_eq_true, Bool.false_eq_true, eq_self, Option.toList, List.cons_append, List.nil_append, ix_in, ix_cl, lt_in, lt_cl, lt_add, ix_one, vu_eq, vu_ne, arI_mk, arL_mk, arY_mZ, arY_mB, alen_mI, fld_sfl_ne, fld_sfl_same, Option.isSome_some, pok_i, b1z, b01, z10, b1o, Int32.zero_add, vu_vu, upd_eq, upd_ne, true_or, or_true, v4, e1, e2, ne_eq]
  rw [p40_85 G.cn (Nat.le_of_ble_eq_true rfl) (G.fact rfl)]
  simp (disch := first | omega | decide | assumption | exact Nat.le_of_ble_eq_true rfl) only [s40_88, s40_89, s40_118, s40_119, ow_some, true_and, and_true, and_self, if_true, if_false, not_true, not_false_eq_true, Bool.false_eq_true, eq_self, Option.toList, List.cons_append, List.nil_append, ix_in, ix_cl, lt_in, lt_cl, lt_add, ix_one, vu_eq, vu_ne, arI_mk, arL_mk, arY_mZ, arY_mB, alen_mI, fld_sfl_ne, fld_sfl_same, Option.isSome_some, pok_i, b1z, b01, z10, b1o, Int32.zero_add, vu_vu, upd_eq, upd_ne, true_or, or_true, ne_eq]
  rw [p40_120 G.cn (Nat.le_of_ble_eq_true rfl) (G.fail (w' := 2))]
  simp (disch := first | omega | decide | assumption | exact Nat.le_of_ble_eq_true rfl) only [s40_123, ow_some, true_and, and_true, and_self, if_true, if_false, not_true, not_false_eq_true, Bool.false_eq_true, eq_self, Option.toList, List.cons_append, List.nil_append, ix_in, ix_cl, lt_in, lt_cl, lt_add, ix_one, vu_eq, vu_ne, arI_mk, arL_mk, arY_mZ, arY_mB, alen_mI, fld_sfl_ne, fld_sfl_same, Option.isSome_some, pok_i, b1z, b01, z10, b1o, Int32.zero_add, vu_vu, upd_eq, upd_ne, true_or, or_true]
theorem GE.termL {d g : Nat} {w x : Int32} {p : Nat} (G : GE f b L kk pp T w p) (hg : g ≤ T) (hT : T ≤ 901) {Q : t_Q} : TT X d 39 7 [.ref 99, .int x, .int (nI g)] [] f N K Q = Q f N K none := by
  have v4 := G.v4
  have v2 := G.v2
  obtain ⟨-, -, e42, e43, e45, -, -, -, -, -, e114, e115⟩ := n3a
  have c1 : (T < g) = False := eq_false (by omega)
  simp (disch := first | omega | decide | assumption | exact Nat.le_of_ble_eq_true rfl) only [s39_7, s39_8, s39_9, s39_12, s39_15, s39_16, s39_19, s39_21, s39_49, ow_some, true_and, and_true, and_self, if_true, if_false, not_true, not_false_eq_true, Bool.false_eq_true, eq_self, Option.toList, List.cons_append, List.nil_append, ix_in, ix_cl, lt_in, lt_cl, lt_add, ix_one, vu_eq, vu_ne, arI_mk, arL_mk, arY_mZ, arY_mB, alen_mI, fld_sfl_ne, fld_sfl_same, Option.isSome_some, pok_i, b1z, b01, z10, b1o, Int32.zero_add, vu_vu, upd_eq, upd_ne, true_or, or_true, v4, v2, ix_lt, c1, e42, ne_eq]
theorem GE.sumL {d g : Nat} {w x : Int32} {p : Nat} (G : GE f b L kk pp T w p) (hg : g ≤ T) (hT : T ≤ 901) {a3 : Value} {Q : t_Q} : TT X d 38 7 [.ref 99, .int x, .int (nI g), a3] [] f N K Q = Q f N K none := by
  have v4 := G.v4
  have v2 := G.v2
  obtain ⟨-, -, e42, e43, e45, -, -, -, -, -, e114, e115⟩ := n3a
  have c1 : (T < g) = False := eq_false (by omega)
  simp (disch := first | omega | decide | assumption | exact Nat.le_of_ble_eq_true rfl) only [s38_7, s38_8, s38_9, s38_12, s38_15, s38_16, s38_19, s38_21, s38_24, s38_25, s38_28, s38_30, s38_65, ow_some, true_and, and_true, and_self, if_true, if_false, not_true, not_false_eq_true, Bool.false_eq_true, eq_self, Option.toList, List.cons_append, List.nil_append, ix_in, ix_cl, lt_in, lt_cl, lt_add, ix_one, vu_eq, vu_ne, arI_mk, arL_mk, arY_mZ, arY_mB, alen_mI, fld_sfl_ne, fld_sfl_same, Option.isSome_some, pok_i, b1z, b01, z10, b1o, Int32.zero_add, vu_vu, upd_eq, upd_ne, true_or, or_true, v4, v2, ix_lt, c1, e43, e45, ne_eq]
theorem GE.bothL {d g : Nat} {w x : Int32} {p : Nat} (G : GE f b L kk pp T w p) (hg : g ≤ T) (hT : T ≤ 901) {Q : t_Q} : TT X d 44 7 [.ref 99, .int x, .int (nI g)] [] f N K Q = Q f N K none := by
  have v4 := G.v4
  have v2 := G.v2
  obtain ⟨-, -, e42, e43, e45, -, -, -, -, -, e114, e115⟩ := n3a
  have c1 : (T < g) = False := eq_false (by omega)
  simp (disch := first | omega | decide | assumption | exact Nat.le_of_ble_eq_true rfl) only [s44_7, s44_8, s44_9, s44_12, s44_15, s44_16, s44_19, s44_21, s44_49, ow_some, true_and, and_true, and_self, if_true, if_false, not_true, not_false_eq_true, Bool.false_eq_true, eq_self, Option.toList, List.cons_append, List.nil_append, ix_in, ix_cl, lt_in, lt_cl, lt_add, ix_one, vu_eq, vu_ne, arI_mk, arL_mk, arY_mZ, arY_mB, alen_mI, fld_sfl_ne, fld_sfl_same, Option.isSome_some, pok_i, b1z, b01, z10, b1o, Int32.zero_add, vu_vu, upd_eq, upd_ne, true_or, or_true, v4, v2, ix_lt, c1, e115, ne_eq]
theorem GE.truthL {d g : Nat} {w x : Int32} {p : Nat} (G : GE f b L kk pp T w p) (hg : g ≤ T) (hT : T ≤ 901) {Q : t_Q} : TT X d 43 7 [.ref 99, .int x, .int (nI g)] [] f N K Q = Q f N K none := by
  have v4 := G.v4
  have v2 := G.v2
  obtain ⟨-, -, e42, e43, e45, -, -, -, -, -, e114, e115⟩ := n3a
  have c1 : (T < g) = False := eq_false (by omega)
  simp (disch := first | omega | decide | assumption | exact Nat.le_of_ble_eq_true rfl) only [s43_7, s43_8, s43_9, s43_12, s43_15, s43_16, s43_19, s43_21, s43_49, ow_some, true_and, and_true, and_self, if_true, if_false, not_true, not_false_eq_true, Bool.false_eq_true, eq_self, Option.toList, List.cons_append, List.nil_append, ix_in, ix_cl, lt_in, lt_cl, lt_add, ix_one, vu_eq, vu_ne, arI_mk, arL_mk, arY_mZ, arY_mB, alen_mI, fld_sfl_ne, fld_sfl_same, Option.isSome_some, pok_i, b1z, b01, z10, b1o, Int32.zero_add, vu_vu, upd_eq, upd_ne, true_or, or_true, v4, v2, ix_lt, c1, e114, ne_eq]
theorem GE.term {d : Nat} {w x : Int32} {p : Nat} (G : GE f b L kk pp T w p) (hT : T ≤ 901) : PU X (d + 2) 39 [.ref 99, .int x, .float 0] f N K none := by
  unfold PU
  simp (disch := first | omega | decide | assumption | exact Nat.le_of_ble_eq_true rfl) only [s39_0, s39_1, ow_some, true_and, and_true, and_self, if_true, if_false, not_true, not_false_eq_true, Bool.false_eq_true, eq_self, Option.toList, List.cons_append, List.nil_append, ix_in, ix_cl, lt_in, lt_cl, lt_add, ix_one, vu_eq, vu_ne, arI_mk, arL_mk, arY_mZ, arY_mB, alen_mI, fld_sfl_ne, fld_sfl_same, Option.isSome_some, pok_i, b1z, b01, z10, b1o, Int32.zero_add, vu_vu, upd_eq, upd_ne, true_or, or_true]
  rw [p39_2 G.cn (Nat.le_of_ble_eq_true rfl) G.atom]
  simp (disch := first | omega | decide | assumption | exact Nat.le_of_ble_eq_true rfl) only [s39_5, h39_6, ow_some, true_and, and_true, and_self, if_true, if_false, not_true, not_false_eq_true, Bool.false_eq_true, eq_self, Option.toList, List.cons_append, List.nil_append, ix_in, ix_cl, lt_in, lt_cl, lt_add, ix_one, vu_eq, vu_ne, arI_mk, arL_mk, arY_mZ, arY_mB, alen_mI, fld_sfl_ne, fld_sfl_same, Option.isSome_some, pok_i, b1z, b01, z10, b1o, Int32.zero_add, vu_vu, upd_eq, upd_ne, true_or, or_true]
  have e0 : (0 : Int32) = nI 0 := rfl
  rw [e0]
  unfold TH
  rw [G.termL (by omega) hT]
  exact ⟨rfl, rfl, rfl, rfl⟩
theorem GE.sum {d : Nat} {w x : Int32} {p : Nat} (G : GE f b L kk pp T w p) (hT : T ≤ 901) : PU X (d + 3) 38 [.ref 99, .int x, .float 0, .float 0] f N K none := by
  unfold PU
  simp (disch := first | omega | decide | assumption | exact Nat.le_of_ble_eq_true rfl) only [s38_0, s38_1, ow_some, true_and, and_true, and_self, if_true, if_false, not_true, not_false_eq_true, Bool.false_eq_true, eq_self, Option.toList, List.cons_append, List.nil_append, ix_in, ix_cl, lt_in, lt_cl, lt_add, ix_one, vu_eq, vu_ne, arI_mk, arL_mk, arY_mZ, arY_mB, alen_mI, fld_sfl_ne, fld_sfl_same, Option.isSome_some, pok_i, b1z, b01, z10, b1o, Int32.zero_add, vu_vu, upd_eq, upd_ne, true_or, or_true]
  rw [p38_2 G.cn (Nat.le_of_ble_eq_true rfl) (G.term hT)]
  simp (disch := first | omega | decide | assumption | exact Nat.le_of_ble_eq_true rfl) only [s38_5, h38_6, ow_some, true_and, and_true, and_self, if_true, if_false, not_true, not_false_eq_true, Bool.false_eq_true, eq_self, Option.toList, List.cons_append, List.nil_append, ix_in, ix_cl, lt_in, lt_cl, lt_add, ix_one, vu_eq, vu_ne, arI_mk, arL_mk, arY_mZ, arY_mB, alen_mI, fld_sfl_ne, fld_sfl_same, Option.isSome_some, pok_i, b1z, b01, z10, b1o, Int32.zero_add, vu_vu, upd_eq, upd_ne, true_or, or_true]
  have e0 : (0 : Int32) = nI 0 := rfl
  rw [e0]
  unfold TH
  rw [G.sumL (by omega) hT]
  exact ⟨rfl, rfl, rfl, rfl⟩
theorem GE.unit {d : Nat} {w x : Int32} {p : Nat} (G : GE f b L kk pp T w p) (hT : T ≤ 901) : PU X (d + 4) 45 [.ref 99, .int x, .float 0] f N K none := by
  unfold PU
  have v4 := G.v4
  obtain ⟨-, -, -, -, -, e116, e91, e61, e60, e62, -⟩ := n3a
  simp (disch := first | omega | decide | assumption | exact Nat.le_of_ble_eq_true rfl) only [s45_0, s45_1, s45_4, s45_6, s45_9, s45_10, s45_13, s45_15, s45_32, s45_33, s45_36, s45_38, s45_65, s45_66, s45_69, s45_71, s45_94, s45_95, ow_some, true_and, and_true, and_self, if_true, if_false, not_true, not_false_eq_true, Bool.false_eq_true, eq_self, Option.toList, List.cons_append, List.nil_append, ix_in, ix_cl, lt_in, lt_cl, lt_add, ix_one, vu_eq, vu_ne, arI_mk, arL_mk, arY_mZ, arY_mB, alen_mI, fld_sfl_ne, fld_sfl_same, Option.isSome_some, pok_i, b1z, b01, z10, b1o, Int32.zero_add, vu_vu, upd_eq, upd_ne, true_or, or_true, v4, e116, e91, ne_eq]
  rw [p45_96 G.cn (Nat.le_of_ble_eq_true rfl) (G.sum hT)]
  simp (disch := first | omega | decide | assumption | exact Nat.le_of_ble_eq_true rfl) only [s45_99, s45_100, s45_103, s45_104, s45_105, s45_107, s45_110, s45_111, s45_113, s45_116, s45_117, s45_119, s45_146, s45_147, ow_some, true_and, and_true, and_self, if_true, if_false, not_true, not_false_eq_true, Bool.false_eq_true, eq_self, Option.toList, List.cons_append, List.nil_append, ix_in, ix_cl, lt_in, lt_cl, lt_add, ix_one, vu_eq, vu_ne, arI_mk, arL_mk, arY_mZ, arY_mB, alen_mI, fld_sfl_ne, fld_sfl_same, Option.isSome_some, pok_i, b1z, b01, z10, b1o, Int32.zero_add, vu_vu, upd_eq, upd_ne, true_or, or_true, v4, e61, e60, e62, ne_eq]
  rw [p45_148 G.cn (Nat.le_of_ble_eq_true rfl) (G.fail (w' := 2))]
  simp (disch := first | omega | decide | assumption | exact Nat.le_of_ble_eq_true rfl) only [s45_151, ow_some, true_and, and_true, and_self, if_true, if_false, not_true, not_false_eq_true, Bool.false_eq_true, eq_self, Option.toList, List.cons_append, List.nil_append, ix_in, ix_cl, lt_in, lt_cl, lt_add, ix_one, vu_eq, vu_ne, arI_mk, arL_mk, arY_mZ, arY_mB, alen_mI, fld_sfl_ne, fld_sfl_same, Option.isSome_some, pok_i, b1z, b01, z10, b1o, Int32.zero_add, vu_vu, upd_eq, upd_ne, true_or, or_true]
theorem GE.both {d : Nat} {w x : Int32} {p : Nat} (G : GE f b L kk pp T w p) (hT : T ≤ 901) : PU X (d + 5) 44 [.ref 99, .int x, .float 0] f N K none := by
  unfold PU
  simp (disch := first | omega | decide | assumption | exact Nat.le_of_ble_eq_true rfl) only [s44_0, s44_1, ow_some, true_and, and_true, and_self, if_true, if_false, not_true, not_false_eq_true, Bool.false_eq_true, eq_self, Option.toList, List.cons_append, List.nil_append, ix_in, ix_cl, lt_in, lt_cl, lt_add, ix_one, vu_eq, vu_ne, arI_mk, arL_mk, arY_mZ, arY_mB, alen_mI, fld_sfl_ne, fld_sfl_same, Option.isSome_some, pok_i, b1z, b01, z10, b1o, Int32.zero_add, vu_vu, upd_eq, upd_ne, true_or, or_true]
  rw [p44_2 G.cn (Nat.le_of_ble_eq_true rfl) (G.unit hT)]
  simp (disch := first | omega | decide | assumption | exact Nat.le_of_ble_eq_true rfl) only [s44_5, h44_6, ow_some, true_and, and_true, and_self, if_true, if_false, not_true, not_false_eq_true, Bool.false_eq_true, eq_self, Option.toList, List.cons_append, List.nil_append, ix_in, ix_cl, lt_in, lt_cl, lt_add, ix_one, vu_eq, vu_ne, arI_mk, arL_mk, arY_mZ, arY_mB, alen_mI, fld_sfl_ne, fld_sfl_same, Option.isSome_some, pok_i, b1z, b01, z10, b1o, Int32.zero_add, vu_vu, upd_eq, upd_ne, true_or, or_true]
  have e0 : (0 : Int32) = nI 0 := rfl
  rw [e0]
  unfold TH
  rw [G.bothL (by omega) hT]
  exact ⟨rfl, rfl, rfl, rfl⟩
theorem GE.truth {d : Nat} {w x : Int32} {p : Nat} (G : GE f b L kk pp T w p) (hT : T ≤ 901) : PU X (d + 6) 43 [.ref 99, .int x, .float 0] f N K none := by
  unfold PU
  simp (disch := first | omega | decide | assumption | exact Nat.le_of_ble_eq_true rfl) only [s43_0, s43_1, ow_some, true_and, and_true, and_self, if_true, if_false, not_true, not_false_eq_true, Bool.false_eq_true, eq_self, Option.toList, List.cons_append, List.nil_append, ix_in, ix_cl, lt_in, lt_cl, lt_add, ix_one, vu_eq, vu_ne, arI_mk, arL_mk, arY_mZ, arY_mB, alen_mI, fld_sfl_ne, fld_sfl_same, Option.isSome_some, pok_i, b1z, b01, z10, b1o, Int32.zero_add, vu_vu, upd_eq, upd_ne, true_or, or_true]
  rw [p43_2 G.cn (Nat.le_of_ble_eq_true rfl) (G.both hT)]
  simp (disch := first | omega | decide | assumption | exact Nat.le_of_ble_eq_true rfl) only [s43_5, h43_6, ow_some, true_and, and_true, and_self, if_true, if_false, not_true, not_false_eq_true, Bool.false_eq_true, eq_self, Option.toList, List.cons_append, List.nil_append, ix_in, ix_cl, lt_in, lt_cl, lt_add, ix_one, vu_eq, vu_ne, arI_mk, arL_mk, arY_mZ, arY_mB, alen_mI, fld_sfl_ne, fld_sfl_same, Option.isSome_some, pok_i, b1z, b01, z10, b1o, Int32.zero_add, vu_vu, upd_eq, upd_ne, true_or, or_true]
  have e0 : (0 : Int32) = nI 0 := rfl
  rw [e0]
  unfold TH
  rw [G.truthL (by omega) hT]
  exact ⟨rfl, rfl, rfl, rfl⟩
def tmC (X : Nat × (Nat → Int32)) (D m d g : Nat) (a3 : Value) (f : Nat → e_C) (N K : Nat) (Q : t_Q) : Prop := if m = 0 then TT X D 40 0 [.ref 99, .int (nI d)] [] f N K Q else if m = 1 then TT X D 39 0 [.ref 99, .int (nI d), .float 0] [] f N K Q else if m = 2 then TT X D 39 7 [.ref 99, .int (nI d), .int (nI g)] [] f N K Q else if m = 3 then TT X D 38 0 [.ref 99, .int (nI d), .float 0, .float 0] [] f N K Q else if m = 4 then TT X D 38 7 [.ref 99, .int (nI d), .int (nI g), a3] [] f N K Q else if m = 5 then TT X D 45 0 [.ref 99, .int (nI d), .float 0] [] f N K Q else if m = 6 then TT X D 44 0 [.ref 99, .int (nI d), .float 0] [] f N K Q else if m = 7 then TT X D 44 7 [.ref 99, .int (nI d), .int (nI g)] [] f N K Q else if m = 8 then TT X D 43 0 [.ref 99, .int (nI d), .float 0] [] f N K Q else TT X D 43 7 [.ref 99, .int (nI d), .int (nI g)] [] f N K Q
/-- what a row of the class's reader does -/
def cd_P (X : Nat × (Nat → Int32)) (b L : Nat) (kk pp : Nat → Int32) (T : Nat) (tx : Nat → Int32) (c0 : Cu) (rd : Int32) (m d : Nat) (c : Cu) (fr : Nat → Int32) (res : Rr) : Prop := ∀ (D N K : Nat) (f : Nat → e_C) (t : Nat) (v : Nat → Int32) (r : Nat → Nat → Int32) (n g : Nat) (a3 : Value), 10 + 6 * (6 - d) + rk m ≤ D → d ≤ 6 → g ≤ t → GA f b L kk pp T tx c0 t c rd v r → CD fr v r n → n ≤ c.1 → tmC X D m d g a3 f N K (CQo f b L kk pp T tx c0 t rd v r N K res)
theorem cd_sq {rd : Int32} {k m d : Nat} {fr : Nat → Int32} {res : Rr} {Kt : Cu → (Nat → Int32) → Prop} (hrs : sq (Rs tx L rd k m d c fr) Kt res) {n : Nat} (hcv : cv L c) (hz : L ≤ 900) (hC : CD fr v r n) (hle : n ≤ c.1) {Q : t_Q}
    (hok : ∀ c1 fr1 n1 t1 v1 r1 f1, Kt c1 fr1 → SJ b f f1 → t ≤ t1 → GA f1 b L kk pp T tx c0 t1 c1 rd v1 r1 → CD fr1 v1 r1 n1 → VO v v1 r r1 → cv L c1 → n1 + c.1 ≤ c1.1 + n → Q f1 N K none)
    (her : ∀ w p f1, res = .inr (w, p) → SJ b f f1 → GE f1 b L kk pp T w p → Q f1 N K none) : ∃ r1, Rs tx L rd k m d c fr r1 ∧ ∀ f1 n1 k1 v1, CQo f b L kk pp T tx c0 t rd v r N K r1 f1 n1 k1 v1 → v1 = none ∧ Q f1 n1 k1 v1 := by
  rcases hrs with ⟨c1, fr1, h1, h2⟩ | ⟨⟨w, p⟩, h1, h2⟩
  · refine ⟨_, h1, ?_⟩
    rintro f1 n1 k1 v1 ⟨rfl, rfl, rfl, s, ho, -⟩
    obtain ⟨i1, n2, i2, i3⟩ := rs_n _ _ _ _ _ _ h1 n hcv hz hC.2.1 hle _ _ rfl
    obtain ⟨t', v', r', n3, q1, q2, q3, q4⟩ := ho _ _ rfl
    have e : n3 = n2 := by rw [← q3.2.1.eq, ← i2.eq]
    subst e
    exact ⟨rfl, hok c1 fr1 n3 t' v' r' f1 h2 s q1 q2 q3 q4 i1 i3⟩
  · refine ⟨_, h1, ?_⟩
    rintro f1 n1 k1 v1 ⟨rfl, rfl, rfl, s, -, he⟩
    exact ⟨rfl, her w p f1 h2 s (he _ _ rfl)⟩
theorem cd_tt (Z : TKS tx L c0 T kk pp) {rd : Int32} (hrd : rd = 0 ∨ rd = 1) : ∀ (k m d : Nat) (c : Cu) (fr : Nat → Int32) (res : Rr), Rs tx L rd k m d c fr res → cd_P X b L kk pp T tx c0 rd m d c fr res := by
  have hz := Z.1.2.2
  have hT : T ≤ 901 := by have := Z.1.2.1; omega
  have hrd7 : rd ≠ 7 := by rcases hrd with rfl | rfl <;> decide
  intro k
  induction k with
  | zero => intro m d c fr res h; exact h.elim
  | succ k ih =>
    intro m d c fr res h D N K f t v r n g a3 hD hd hg A hC hle
    obtain ⟨D, rfl⟩ : ∃ D', D = D' + 10 := ⟨D - 10, by omega⟩
    obtain ⟨kv, hcv, -, -⟩ := A.kv Z
    have k4 := A.k4 Z
    have r6 := A.1.r6
    have v2 := A.1.v2
    have hc9 := hcv.1.2
    have htT := A.2.1
    rw [Rs] at h
    by_cases m0 : m = 0
    · rw [if_pos m0] at h
      subst m0
      show TT X (D + 10) 40 0 [.ref 99, .int (nI d)] [] f N K _
      have hrk : rk 0 = 1 := rfl
      have hrk3 : rk 3 = 3 := rfl
      have e40 : (ck c = 40) = (c.2.2.1 = 35) := ck_is kv 35 (by decide)
      have elt := ckl_lt kv
      rcases h with ⟨hk, he⟩ | ⟨hk, hw, he⟩ | ⟨hk, hd6, he⟩ | ⟨hk, hd6, hs⟩ | ⟨h1, h2, h3, he⟩
      · have x35 : (c.2.2.1 = 35) = False := eq_false (by rw [hk]; decide)
        have x23 : (c.2.2.1 = 23) = True := eq_true hk
        have g2 : c.1 < L := by rcases hcv.2 with z | z; have := hcv.1; omega; exact absurd z (by rw [hk]; decide)
        obtain ⟨q, q1, q2⟩ := kv.1 hk
        simp (disch := first | omega | decide | assumption | exact Nat.le_of_ble_eq_true rfl) only [s40_0, s40_1, s40_4, s40_6, s40_23, s40_24, s40_27, s40_29, s40_52, s40_53, s40_56, s40_59, s40_62, s40_63, s40_66, s40_67, s40_68, ow_some, true_and, and_true, and_self, if_true, if_false, not_true, not_false_eq_true, Bool.false_eq_true, eq_self, Option.toList, List.cons_append, List.nil_append, ix_in, ix_cl, lt_in, lt_cl, lt_add, ix_one, vu_eq, vu_ne, arI_mk, arL_mk, arY_mZ, arY_mB, alen_mI, fld_sfl_ne, fld_sfl_same, Option.isSome_some, pok_i, b1z, b01, z10, b1o, Int32.zero_add, vu_vu, upd_eq, upd_ne, true_or, or_true, k4, r6, e40, elt, x35, x23, ne_eq]
        refine k40_71 A.1.cn (Nat.le_of_ble_eq_true rfl) (A.num Z (lo := 0) (hi := 999) (tko_iff.mpr ⟨hk, by rw [q2, nI_toInt (by omega)]; show (0 : Int) ≤ _; omega, by rw [q2, nI_toInt (by omega)]; show _ ≤ (999 : Int); omega⟩)) ?_
        rintro f1 n1 k1 v1 ⟨rfl, rfl, rfl, s1, A1⟩
        simp only [Option.toList, List.cons_append, List.nil_append]
        refine k40_74 A1.1.pv.cn (Nat.le_of_ble_eq_true rfl) (A1.1.emit hC.1 (by omega)) ?_
        rintro f2 n2 k2 v2 ⟨rfl, rfl, rfl, s2, G2⟩
        simp (disch := first | omega | decide | assumption | exact Nat.le_of_ble_eq_true rfl) only [s40_77, s40_123, ow_some, true_and, and_true, and_self, if_true, if_false, not_true, not_false_eq_true, Bool.false_eq_true, eq_self, Option.toList, List.cons_append, List.nil_append, ix_in, ix_cl, lt_in, lt_cl, lt_add, ix_one, vu_eq, vu_ne, arI_mk, arL_mk, arY_mZ, arY_mB, alen_mI, fld_sfl_ne, fld_sfl_same, Option.isSome_some, pok_i, b1z, b01, z10, b1o, Int32.zero_add, vu_vu, upd_eq, upd_ne, true_or, or_true]
        rw [he]
        exact CQo.ok (s1.tr s2) (Nat.le_succ t) ⟨G2, A1.2⟩ (hC.em (by omega) (by rw [q2, tr_lo rfl (by omega)])) VO.em
      · have x35 : (c.2.2.1 = 35) = False := eq_false (fun z => hw (by rw [z]; rcases hrd with rfl | rfl <;> rfl))
        have x23 : (c.2.2.1 = 23) = False := eq_false hk
        have hne := wrd_ne hw
        have hne5 : c.2.2.1 ≠ 25 := fun z => hw (by rw [z]; rcases hrd with rfl | rfl <;> rfl)
        have g2 : c.1 < L := by rcases hcv.2 with z | z; have := hcv.1; omega; exact absurd z hne
        obtain ⟨q, q1, q2⟩ := wrd_v hw
        have hfc := fac_wrd kv hrd
        have hf1 := sp_factOf (X := X) (d := D + 9) (N := N) (K := K) (z := ck c) (A.1.v5 hrd7)
        rw [hfc] at hf1
        simp (disch := first | omega | decide | assumption | exact Nat.le_of_ble_eq_true rfl) only [s40_0, s40_1, s40_4, s40_6, s40_23, s40_24, s40_27, s40_29, s40_52, s40_53, s40_56, s40_59, s40_80, s40_81, s40_82, ow_some, true_and, and_true, and_self, if_true, if_false, not_true, not_false_eq_true, Bool.false_eq_true, eq_self, Option.toList, List.cons_append, List.nil_append, ix_in, ix_cl, lt_in, lt_cl, lt_add, ix_one, vu_eq, vu_ne, arI_mk, arL_mk, arY_mZ, arY_mB, alen_mI, fld_sfl_ne, fld_sfl_same, Option.isSome_some, pok_i, b1z, b01, z10, b1o, Int32.zero_add, vu_vu, upd_eq, upd_ne, true_or, or_true, k4, r6, e40, elt, x35, x23, ne_eq]
        rw [p40_85 A.1.cn (Nat.le_of_ble_eq_true rfl) hf1]
        have hw' : (wrd rd c.2.2.1 = -1) = False := eq_false hw
        simp (disch := first | omega | decide | assumption | exact Nat.le_of_ble_eq_true rfl) only [s40_88, s40_89, s40_92, s40_93, s40_96, s40_99, s40_100, s40_101, ow_some, true_and, and_true, and_self, if_true, if_false, not_true, not_false_eq_true, Bool.false_eq_true, eq_self, Option.toList, List.cons_append, List.nil_append, ix_in, ix_cl, lt_in, lt_cl, lt_add, ix_one, vu_eq, vu_ne, arI_mk, arL_mk, arY_mZ, arY_mB, alen_mI, fld_sfl_ne, fld_sfl_same, Option.isSome_some, pok_i, b1z, b01, z10, b1o, Int32.zero_add, vu_vu, upd_eq, upd_ne, true_or, or_true, k4, r6, hw']
        rw [p40_104 A.1.cn (Nat.le_of_ble_eq_true rfl) hf1]
        simp (disch := first | omega | decide | assumption | exact Nat.le_of_ble_eq_true rfl) only [s40_107, ow_some, true_and, and_true, and_self, if_true, if_false, not_true, not_false_eq_true, Bool.false_eq_true, eq_self, Option.toList, List.cons_append, List.nil_append, ix_in, ix_cl, lt_in, lt_cl, lt_add, ix_one, vu_eq, vu_ne, arI_mk, arL_mk, arY_mZ, arY_mB, alen_mI, fld_sfl_ne, fld_sfl_same, Option.isSome_some, pok_i, b1z, b01, z10, b1o, Int32.zero_add, vu_vu, upd_eq, upd_ne, true_or, or_true]
        refine k40_108 A.1.pv.cn (Nat.le_of_ble_eq_true rfl) (A.1.emit hC.1 (by omega)) ?_
        rintro f1 n1 k1 v1 ⟨rfl, rfl, rfl, s1, G1⟩
        have A1 : GA f1 b L kk pp T tx c0 t c rd (upd v 14 (nI (n + 1))) (up2 r 13 (upd (r 13) n (1000 + wrd rd c.2.2.1))) := ⟨G1, A.2⟩
        simp (disch := first | omega | decide | assumption | exact Nat.le_of_ble_eq_true rfl) only [s40_111, ow_some, true_and, and_true, and_self, if_true, if_false, not_true, not_false_eq_true, Bool.false_eq_true, eq_self, Option.toList, List.cons_append, List.nil_append, ix_in, ix_cl, lt_in, lt_cl, lt_add, ix_one, vu_eq, vu_ne, arI_mk, arL_mk, arY_mZ, arY_mB, alen_mI, fld_sfl_ne, fld_sfl_same, Option.isSome_some, pok_i, b1z, b01, z10, b1o, Int32.zero_add, vu_vu, upd_eq, upd_ne, true_or, or_true]
        refine k40_112 G1.cn (Nat.le_of_ble_eq_true rfl) (A1.next Z hne hne5) ?_
        rintro f2 n2 k2 v2 ⟨rfl, rfl, rfl, s2, A2⟩
        simp (disch := first | omega | decide | assumption | exact Nat.le_of_ble_eq_true rfl) only [s40_115, s40_123, ow_some, true_and, and_true, and_self, if_true, if_false, not_true, not_false_eq_true, Bool.false_eq_true, eq_self, Option.toList, List.cons_append, List.nil_append, ix_in, ix_cl, lt_in, lt_cl, lt_add, ix_one, vu_eq, vu_ne, arI_mk, arL_mk, arY_mZ, arY_mB, alen_mI, fld_sfl_ne, fld_sfl_same, Option.isSome_some, pok_i, b1z, b01, z10, b1o, Int32.zero_add, vu_vu, upd_eq, upd_ne, true_or, or_true]
        rw [he]
        refine CQo.ok (s1.tr s2) (Nat.le_succ t) A2 (hC.em (by omega) ?_) VO.em
        rw [q2, n1000, tr_lo rfl (by split at q1 <;> omega)]
      · have x35 : (c.2.2.1 = 35) = True := eq_true hk
        have c6 : (d < 6) = False := eq_false (by omega)
        simp (disch := first | omega | decide | assumption | exact Nat.le_of_ble_eq_true rfl) only [s40_0, s40_1, s40_4, s40_6, s40_9, s40_10, s40_12, s40_15, s40_16, ow_some, true_and, and_true, and_self, if_true, if_false, not_true, not_false_eq_true, Bool.false_eq_true, eq_self, Option.toList, List.cons_append, List.nil_append, ix_in, ix_cl, lt_in, lt_cl, lt_add, ix_one, vu_eq, vu_ne, arI_mk, arL_mk, arY_mZ, arY_mB, alen_mI, fld_sfl_ne, fld_sfl_same, Option.isSome_some, pok_i, b1z, b01, z10, b1o, Int32.zero_add, vu_vu, upd_eq, upd_ne, true_or, or_true, k4, e40, x35, tl_lt, c6, ne_eq]
        refine k40_17 A.1.cn (Nat.le_of_ble_eq_true rfl) (A.fail Z (w := 4) (by decide)) ?_
        rintro f1 n1 k1 v1 ⟨rfl, rfl, rfl, s1, E1⟩
        simp (disch := first | omega | decide | assumption | exact Nat.le_of_ble_eq_true rfl) only [s40_20, s40_123, ow_some, true_and, and_true, and_self, if_true, if_false, not_true, not_false_eq_true, Bool.false_eq_true, eq_self, Option.toList, List.cons_append, List.nil_append, ix_in, ix_cl, lt_in, lt_cl, lt_add, ix_one, vu_eq, vu_ne, arI_mk, arL_mk, arY_mZ, arY_mB, alen_mI, fld_sfl_ne, fld_sfl_same, Option.isSome_some, pok_i, b1z, b01, z10, b1o, Int32.zero_add, vu_vu, upd_eq, upd_ne, true_or, or_true]
        rw [he]
        exact CQo.er s1 E1
      · have x35 : (c.2.2.1 = 35) = True := eq_true hk
        have c6 : (d < 6) = True := eq_true hd6
        have g1 := cv_go (tx := tx) hcv (by rw [hk]; decide)
        simp (disch := first | omega | decide | assumption | exact Nat.le_of_ble_eq_true rfl) only [s40_0, s40_1, s40_4, s40_6, s40_9, s40_10, s40_12, s40_23, s40_24, s40_27, s40_29, s40_32, ow_some, true_and, and_true, and_self, if_true, if_false, not_true, not_false_eq_true, Bool.false_eq_true, eq_self, Option.toList, List.cons_append, List.nil_append, ix_in, ix_cl, lt_in, lt_cl, lt_add, ix_one, vu_eq, vu_ne, arI_mk, arL_mk, arY_mZ, arY_mB, alen_mI, fld_sfl_ne, fld_sfl_same, Option.isSome_some, pok_i, b1z, b01, z10, b1o, Int32.zero_add, vu_vu, upd_eq, upd_ne, true_or, or_true, k4, e40, x35, tl_lt, c6, ne_eq]
        refine k40_33 A.1.cn (Nat.le_of_ble_eq_true rfl) (A.next Z (by rw [hk]; decide) (by rw [hk]; decide)) ?_
        rintro f1 n1 k1 v1 ⟨rfl, rfl, rfl, s1, A1⟩
        simp (disch := first | omega | decide | assumption | exact Nat.le_of_ble_eq_true rfl) only [s40_36, s40_37, s40_38, s40_39, ow_some, true_and, and_true, and_self, if_true, if_false, not_true, not_false_eq_true, Bool.false_eq_true, eq_self, Option.toList, List.cons_append, List.nil_append, ix_in, ix_cl, lt_in, lt_cl, lt_add, ix_one, vu_eq, vu_ne, arI_mk, arL_mk, arY_mZ, arY_mB, alen_mI, fld_sfl_ne, fld_sfl_same, Option.isSome_some, pok_i, b1z, b01, z10, b1o, Int32.zero_add, vu_vu, upd_eq, upd_ne, true_or, or_true]
        obtain ⟨r1, hr1, hnx⟩ := cd_sq (N := n1) (K := k1) (f := f1) (b := b) (L := L) (kk := kk) (pp := pp) (T := T) (c0 := c0) (t := t + 1) (v := v) (r := r) (Q := fun f' n' k' z => TT X (D + 10) 40 43 [.ref 99, .int (nI d)] [] f' n' k' (CQo f b L kk pp T tx c0 t rd v r n1 k1 res)) hs g1.1 hz hC (by omega)
          (by
            intro c1 fr1 n2 t1 v1 r1 f2 hKt s2 ht1 A2 C2 o2 i1 i3
            simp (disch := first | omega | decide | assumption | exact Nat.le_of_ble_eq_true rfl) only [s40_43, s40_44, ow_some, true_and, and_true, and_self, if_true, if_false, not_true, not_false_eq_true, Bool.false_eq_true, eq_self, Option.toList, List.cons_append, List.nil_append, ix_in, ix_cl, lt_in, lt_cl, lt_add, ix_one, vu_eq, vu_ne, arI_mk, arL_mk, arY_mZ, arY_mB, alen_mI, fld_sfl_ne, fld_sfl_same, Option.isSome_some, pok_i, b1z, b01, z10, b1o, Int32.zero_add, vu_vu, upd_eq, upd_ne, true_or, or_true]
            rcases hKt with ⟨h36, he⟩ | ⟨h36, he⟩
            · refine k40_46 A2.1.cn (Nat.le_of_ble_eq_true rfl) (A2.exp Z 36 (by decide) (by decide) (by decide) h36) ?_
              rintro f3 n3 k3 v3 ⟨rfl, rfl, rfl, s3, A3⟩
              simp (disch := first | omega | decide | assumption | exact Nat.le_of_ble_eq_true rfl) only [s40_49, s40_123, ow_some, true_and, and_true, and_self, if_true, if_false, not_true, not_false_eq_true, Bool.false_eq_true, eq_self, Option.toList, List.cons_append, List.nil_append, ix_in, ix_cl, lt_in, lt_cl, lt_add, ix_one, vu_eq, vu_ne, arI_mk, arL_mk, arY_mZ, arY_mB, alen_mI, fld_sfl_ne, fld_sfl_same, Option.isSome_some, pok_i, b1z, b01, z10, b1o, Int32.zero_add, vu_vu, upd_eq, upd_ne, true_or, or_true]
              rw [he]
              exact CQo.ok ((s1.tr s2).tr s3) (by omega) A3 C2 o2
            · refine k40_46 A2.1.cn (Nat.le_of_ble_eq_true rfl) (A2.expN Z 36 (by decide) (by decide) h36) ?_
              rintro f3 n3 k3 v3 ⟨rfl, rfl, rfl, s3, E3⟩
              simp (disch := first | omega | decide | assumption | exact Nat.le_of_ble_eq_true rfl) only [s40_49, s40_123, ow_some, true_and, and_true, and_self, if_true, if_false, not_true, not_false_eq_true, Bool.false_eq_true, eq_self, Option.toList, List.cons_append, List.nil_append, ix_in, ix_cl, lt_in, lt_cl, lt_add, ix_one, vu_eq, vu_ne, arI_mk, arL_mk, arY_mZ, arY_mB, alen_mI, fld_sfl_ne, fld_sfl_same, Option.isSome_some, pok_i, b1z, b01, z10, b1o, Int32.zero_add, vu_vu, upd_eq, upd_ne, true_or, or_true]
              rw [he]
              exact CQo.er ((s1.tr s2).tr s3) E3)
          (by
            intro w p f2 he s2 E2
            simp (disch := first | omega | decide | assumption | exact Nat.le_of_ble_eq_true rfl) only [s40_43, s40_44, ow_some, true_and, and_true, and_self, if_true, if_false, not_true, not_false_eq_true, Bool.false_eq_true, eq_self, Option.toList, List.cons_append, List.nil_append, ix_in, ix_cl, lt_in, lt_cl, lt_add, ix_one, vu_eq, vu_ne, arI_mk, arL_mk, arY_mZ, arY_mB, alen_mI, fld_sfl_ne, fld_sfl_same, Option.isSome_some, pok_i, b1z, b01, z10, b1o, Int32.zero_add, vu_vu, upd_eq, upd_ne, true_or, or_true]
            rw [p40_46 E2.cn (Nat.le_of_ble_eq_true rfl) (E2.exp (by decide))]
            simp (disch := first | omega | decide | assumption | exact Nat.le_of_ble_eq_true rfl) only [s40_49, s40_123, ow_some, true_and, and_true, and_self, if_true, if_false, not_true, not_false_eq_true, Bool.false_eq_true, eq_self, Option.toList, List.cons_append, List.nil_append, ix_in, ix_cl, lt_in, lt_cl, lt_add, ix_one, vu_eq, vu_ne, arI_mk, arL_mk, arY_mZ, arY_mB, alen_mI, fld_sfl_ne, fld_sfl_same, Option.isSome_some, pok_i, b1z, b01, z10, b1o, Int32.zero_add, vu_vu, upd_eq, upd_ne, true_or, or_true]
            rw [he]
            exact CQo.er (s1.tr s2) E2)
        have sub := ih _ _ _ _ _ hr1 (D + 9) n1 k1 f1 (t + 1) v r n 0 (.float 0) (by omega) (by omega) (by omega) A1 hC (by omega)
        refine k40_40 A1.1.cn (Nat.le_of_ble_eq_true rfl) sub ?_
        intro f2 n2 k2 v2 hpo
        obtain ⟨hv, hq⟩ := hnx f2 n2 k2 v2 hpo
        subst hv
        exact hq
      · have x35 : (c.2.2.1 = 35) = False := eq_false h3
        have x23 : (c.2.2.1 = 23) = False := eq_false h1
        have hfc := fac_wrd kv hrd
        have hf1 := sp_factOf (X := X) (d := D + 9) (N := N) (K := K) (z := ck c) (A.1.v5 hrd7)
        rw [hfc, h2] at hf1
        simp (disch := first | omega | decide | assumption | exact Nat.le_of_ble_eq_true rfl) only [s40_0, s40_1, s40_4, s40_6, s40_23, s40_24, s40_27, s40_29, s40_52, s40_53, s40_56, s40_59, s40_80, s40_81, s40_82, ow_some, true_and, and_true, and_self, if_true, if_false, not_true, not_false_eq_true, Bool.false_eq_true, eq_self, Option.toList, List.cons_append, List.nil_append, ix_in, ix_cl, lt_in, lt_cl, lt_add, ix_one, vu_eq, vu_ne, arI_mk, arL_mk, arY_mZ, arY_mB, alen_mI, fld_sfl_ne, fld_sfl_same, Option.isSome_some, pok_i, b1z, b01, z10, b1o, Int32.zero_add, vu_vu, upd_eq, upd_ne, true_or, or_true, k4, r6, e40, elt, x35, x23, ne_eq]
        rw [p40_85 A.1.cn (Nat.le_of_ble_eq_true rfl) hf1]
        simp (disch := first | omega | decide | assumption | exact Nat.le_of_ble_eq_true rfl) only [s40_88, s40_89, s40_118, s40_119, ow_some, true_and, and_true, and_self, if_true, if_false, not_true, not_false_eq_true, Bool.false_eq_true, eq_self, Option.toList, List.cons_append, List.nil_append, ix_in, ix_cl, lt_in, lt_cl, lt_add, ix_one, vu_eq, vu_ne, arI_mk, arL_mk, arY_mZ, arY_mB, alen_mI, fld_sfl_ne, fld_sfl_same, Option.isSome_some, pok_i, b1z, b01, z10, b1o, Int32.zero_add, vu_vu, upd_eq, upd_ne, true_or, or_true]
        refine k40_120 A.1.cn (Nat.le_of_ble_eq_true rfl) (A.fail Z (w := 2) (by decide)) ?_
        rintro f1 n1 k1 v1 ⟨rfl, rfl, rfl, s1, E1⟩
        simp (disch := first | omega | decide | assumption | exact Nat.le_of_ble_eq_true rfl) only [s40_123, ow_some, true_and, and_true, and_self, if_true, if_false, not_true, not_false_eq_true, Bool.false_eq_true, eq_self, Option.toList, List.cons_append, List.nil_append, ix_in, ix_cl, lt_in, lt_cl, lt_add, ix_one, vu_eq, vu_ne, arI_mk, arL_mk, arY_mZ, arY_mB, alen_mI, fld_sfl_ne, fld_sfl_same, Option.isSome_some, pok_i, b1z, b01, z10, b1o, Int32.zero_add, vu_vu, upd_eq, upd_ne, true_or, or_true]
        rw [he]
        exact CQo.er s1 E1
    · rw [if_neg m0] at h
      by_cases m5 : m = 5
      · rw [if_pos m5] at h
        subst m5
        have hrk : rk 5 = 4 := rfl
        have hrk3 : rk 3 = 3 := rfl
        have hrk8 : rk 8 = 6 := rfl
        have e116 : (ck c = 116) = (c.2.2.1 = 20) := ck_is kv 20 (by decide)
        have e91 : (ck c = 91) = (c.2.2.1 = 37) := ck_is kv 37 (by decide)
        show TT X (D + 10) 45 0 [.ref 99, .int (nI d), .float 0] [] f N K _
        rcases h with ⟨hk, hd6, he⟩ | ⟨hk, hd6, hs⟩ | ⟨hk, hd6, hs⟩ | ⟨hk1, hk2, hs⟩
        · have c6 : (d < 6) = False := eq_false (by omega)
          have main : TT X (D + 10) 45 18 [.ref 99, .int (nI d), .float 0] [] f N K (CQo f b L kk pp T tx c0 t rd v r N K res) := by
            simp (disch := first | omega | decide | assumption | exact Nat.le_of_ble_eq_true rfl) only [s45_18, s45_19, s45_21, s45_24, s45_25, ow_some, true_and, and_true, and_self, if_true, if_false, not_true, not_false_eq_true, Bool.false_eq_true, eq_self, Option.toList, List.cons_append, List.nil_append, ix_in, ix_cl, lt_in, lt_cl, lt_add, ix_one, vu_eq, vu_ne, arI_mk, arL_mk, arY_mZ, arY_mB, alen_mI, fld_sfl_ne, fld_sfl_same, Option.isSome_some, pok_i, b1z, b01, z10, b1o, Int32.zero_add, vu_vu, upd_eq, upd_ne, true_or, or_true, tl_lt, c6]
            refine k45_26 A.1.cn (Nat.le_of_ble_eq_true rfl) (A.fail Z (w := 4) (by decide)) ?_
            rintro f1 n1 k1 v1 ⟨rfl, rfl, rfl, s1, E1⟩
            simp (disch := first | omega | decide | assumption | exact Nat.le_of_ble_eq_true rfl) only [s45_29, s45_151, ow_some, true_and, and_true, and_self, if_true, if_false, not_true, not_false_eq_true, Bool.false_eq_true, eq_self, Option.toList, List.cons_append, List.nil_append, ix_in, ix_cl, lt_in, lt_cl, lt_add, ix_one, vu_eq, vu_ne, arI_mk, arL_mk, arY_mZ, arY_mB, alen_mI, fld_sfl_ne, fld_sfl_same, Option.isSome_some, pok_i, b1z, b01, z10, b1o, Int32.zero_add, vu_vu, upd_eq, upd_ne, true_or, or_true]
            rw [he]
            exact CQo.er s1 E1
          rcases hk with hk | hk
          · have x20 : (c.2.2.1 = 20) = True := eq_true hk
            simp (disch := first | omega | decide | assumption | exact Nat.le_of_ble_eq_true rfl) only [s45_0, s45_1, s45_4, s45_6, ow_some, true_and, and_true, and_self, if_true, if_false, not_true, not_false_eq_true, Bool.false_eq_true, eq_self, Option.toList, List.cons_append, List.nil_append, ix_in, ix_cl, lt_in, lt_cl, lt_add, ix_one, vu_eq, vu_ne, arI_mk, arL_mk, arY_mZ, arY_mB, alen_mI, fld_sfl_ne, fld_sfl_same, Option.isSome_some, pok_i, b1z, b01, z10, b1o, Int32.zero_add, vu_vu, upd_eq, upd_ne, true_or, or_true, k4, e116, x20, ne_eq]
            exact main
          · have x20 : (c.2.2.1 = 20) = False := eq_false (by rw [hk]; decide)
            have x37 : (c.2.2.1 = 37) = True := eq_true hk
            simp (disch := first | omega | decide | assumption | exact Nat.le_of_ble_eq_true rfl) only [s45_0, s45_1, s45_4, s45_6, s45_9, s45_10, s45_13, s45_15, ow_some, true_and, and_true, and_self, if_true, if_false, not_true, not_false_eq_true, Bool.false_eq_true, eq_self, Option.toList, List.cons_append, List.nil_append, ix_in, ix_cl, lt_in, lt_cl, lt_add, ix_one, vu_eq, vu_ne, arI_mk, arL_mk, arY_mZ, arY_mB, alen_mI, fld_sfl_ne, fld_sfl_same, Option.isSome_some, pok_i, b1z, b01, z10, b1o, Int32.zero_add, vu_vu, upd_eq, upd_ne, true_or, or_true, k4, e116, e91, x20, x37, ne_eq]
            exact main
        · have x20 : (c.2.2.1 = 20) = True := eq_true hk
          have c6 : (d < 6) = True := eq_true hd6
          have g1 := cv_go (tx := tx) hcv (by rw [hk]; decide)
          simp (disch := first | omega | decide | assumption | exact Nat.le_of_ble_eq_true rfl) only [s45_0, s45_1, s45_4, s45_6, s45_18, s45_19, s45_21, s45_32, s45_33, s45_36, s45_38, s45_41, ow_some, true_and, and_true, and_self, if_true, if_false, not_true, not_false_eq_true, Bool.false_eq_true, eq_self, Option.toList, List.cons_append, List.nil_append, ix_in, ix_cl, lt_in, lt_cl, lt_add, ix_one, vu_eq, vu_ne, arI_mk, arL_mk, arY_mZ, arY_mB, alen_mI, fld_sfl_ne, fld_sfl_same, Option.isSome_some, pok_i, b1z, b01, z10, b1o, Int32.zero_add, vu_vu, upd_eq, upd_ne, true_or, or_true, k4, e116, x20, tl_lt, c6, ne_eq]
          refine k45_42 A.1.cn (Nat.le_of_ble_eq_true rfl) (A.next Z (by rw [hk]; decide) (by rw [hk]; decide)) ?_
          rintro f1 n1 k1 v1 ⟨rfl, rfl, rfl, s1, A1⟩
          simp (disch := first | omega | decide | assumption | exact Nat.le_of_ble_eq_true rfl) only [s45_45, s45_46, s45_47, s45_48, ow_some, true_and, and_true, and_self, if_true, if_false, not_true, not_false_eq_true, Bool.false_eq_true, eq_self, Option.toList, List.cons_append, List.nil_append, ix_in, ix_cl, lt_in, lt_cl, lt_add, ix_one, vu_eq, vu_ne, arI_mk, arL_mk, arY_mZ, arY_mB, alen_mI, fld_sfl_ne, fld_sfl_same, Option.isSome_some, pok_i, b1z, b01, z10, b1o, Int32.zero_add, vu_vu, upd_eq, upd_ne, true_or, or_true]
          obtain ⟨r1, hr1, hnx⟩ := cd_sq (N := n1) (K := k1) (f := f1) (b := b) (L := L) (kk := kk) (pp := pp) (T := T) (c0 := c0) (t := t + 1) (v := v) (r := r) (Q := fun f' n' k' z => TT X (D + 10) 45 52 [.ref 99, .int (nI d), .float 0] [] f' n' k' (CQo f b L kk pp T tx c0 t rd v r n1 k1 res)) hs g1.1 hz hC (by omega)
            (by
              intro c1 fr1 n2 t1 v1 r1 f2 hKt s2 ht1 A2 C2 o2 i1 i3
              have q6 := A2.1.r6
              have := i1.1.2
              simp (disch := first | omega | decide | assumption | exact Nat.le_of_ble_eq_true rfl) only [s45_52, s45_53, s45_56, ow_some, true_and, and_true, and_self, if_true, if_false, not_true, not_false_eq_true, Bool.false_eq_true, eq_self, Option.toList, List.cons_append, List.nil_append, ix_in, ix_cl, lt_in, lt_cl, lt_add, ix_one, vu_eq, vu_ne, arI_mk, arL_mk, arY_mZ, arY_mB, alen_mI, fld_sfl_ne, fld_sfl_same, Option.isSome_some, pok_i, b1z, b01, z10, b1o, Int32.zero_add, vu_vu, upd_eq, upd_ne, true_or, or_true, q6]
              refine k45_59 A2.1.pv.cn (Nat.le_of_ble_eq_true rfl) (A2.1.emit C2.1 (by omega)) ?_
              rintro f3 n3 k3 v3 ⟨rfl, rfl, rfl, s3, G3⟩
              simp (disch := first | omega | decide | assumption | exact Nat.le_of_ble_eq_true rfl) only [s45_62, s45_151, ow_some, true_and, and_true, and_self, if_true, if_false, not_true, not_false_eq_true, Bool.false_eq_true, eq_self, Option.toList, List.cons_append, List.nil_append, ix_in, ix_cl, lt_in, lt_cl, lt_add, ix_one, vu_eq, vu_ne, arI_mk, arL_mk, arY_mZ, arY_mB, alen_mI, fld_sfl_ne, fld_sfl_same, Option.isSome_some, pok_i, b1z, b01, z10, b1o, Int32.zero_add, vu_vu, upd_eq, upd_ne, true_or, or_true]
              rw [hKt]
              exact CQo.ok ((s1.tr s2).tr s3) (by omega) ⟨G3, A2.2⟩ (C2.em (by omega) (by decide)) (o2.tr VO.em))
            (by
              intro w p f2 he s2 E2
              have q6 := E2.r6
              obtain ⟨v2, r2, n2, PV2, -⟩ := E2.pv
              simp (disch := first | omega | decide | assumption | exact Nat.le_of_ble_eq_true rfl) only [s45_52, s45_53, s45_56, ow_some, true_and, and_true, and_self, if_true, if_false, not_true, not_false_eq_true, Bool.false_eq_true, eq_self, Option.toList, List.cons_append, List.nil_append, ix_in, ix_cl, lt_in, lt_cl, lt_add, ix_one, vu_eq, vu_ne, arI_mk, arL_mk, arY_mZ, arY_mB, alen_mI, fld_sfl_ne, fld_sfl_same, Option.isSome_some, pok_i, b1z, b01, z10, b1o, Int32.zero_add, vu_vu, upd_eq, upd_ne, true_or, or_true, q6]
              refine k45_59 PV2.cn (Nat.le_of_ble_eq_true rfl) E2.emit ?_
              rintro f3 n3 k3 v3 ⟨rfl, rfl, rfl, s3, E3⟩
              simp (disch := first | omega | decide | assumption | exact Nat.le_of_ble_eq_true rfl) only [s45_62, s45_151, ow_some, true_and, and_true, and_self, if_true, if_false, not_true, not_false_eq_true, Bool.false_eq_true, eq_self, Option.toList, List.cons_append, List.nil_append, ix_in, ix_cl, lt_in, lt_cl, lt_add, ix_one, vu_eq, vu_ne, arI_mk, arL_mk, arY_mZ, arY_mB, alen_mI, fld_sfl_ne, fld_sfl_same, Option.isSome_some, pok_i, b1z, b01, z10, b1o, Int32.zero_add, vu_vu, upd_eq, upd_ne, true_or, or_true]
              rw [he]
              exact CQo.er ((s1.tr s2).tr s3) E3)
          have sub := ih _ _ _ _ _ hr1 (D + 9) n1 k1 f1 (t + 1) v r n 0 (.float 0) (by omega) (by omega) (by omega) A1 hC (by omega)
          refine k45_49 A1.1.cn (Nat.le_of_ble_eq_true rfl) sub ?_
          intro f2 n2 k2 v2 hpo
          obtain ⟨hv, hq⟩ := hnx f2 n2 k2 v2 hpo
          subst hv
          exact hq
        · have x20 : (c.2.2.1 = 20) = False := eq_false (by rw [hk]; decide)
          have x37 : (c.2.2.1 = 37) = True := eq_true hk
          have c6 : (d < 6) = True := eq_true hd6
          have g1 := cv_go (tx := tx) hcv (by rw [hk]; decide)
          simp (disch := first | omega | decide | assumption | exact Nat.le_of_ble_eq_true rfl) only [s45_0, s45_1, s45_4, s45_6, s45_9, s45_10, s45_13, s45_15, s45_18, s45_19, s45_21, s45_32, s45_33, s45_36, s45_38, s45_65, s45_66, s45_69, s45_71, s45_74, ow_some, true_and, and_true, and_self, if_true, if_false, not_true, not_false_eq_true, Bool.false_eq_true, eq_self, Option.toList, List.cons_append, List.nil_append, ix_in, ix_cl, lt_in, lt_cl, lt_add, ix_one, vu_eq, vu_ne, arI_mk, arL_mk, arY_mZ, arY_mB, alen_mI, fld_sfl_ne, fld_sfl_same, Option.isSome_some, pok_i, b1z, b01, z10, b1o, Int32.zero_add, vu_vu, upd_eq, upd_ne, true_or, or_true, k4, e116, e91, x20, x37, tl_lt, c6, ne_eq]
          refine k45_75 A.1.cn (Nat.le_of_ble_eq_true rfl) (A.next Z (by rw [hk]; decide) (by rw [hk]; decide)) ?_
          rintro f1 n1 k1 v1 ⟨rfl, rfl, rfl, s1, A1⟩
          simp (disch := first | omega | decide | assumption | exact Nat.le_of_ble_eq_true rfl) only [s45_78, s45_79, s45_80, s45_81, ow_some, true_and, and_true, and_self, if_true, if_false, not_true, not_false_eq_true, Bool.false_eq_true, eq_self, Option.toList, List.cons_append, List.nil_append, ix_in, ix_cl, lt_in, lt_cl, lt_add, ix_one, vu_eq, vu_ne, arI_mk, arL_mk, arY_mZ, arY_mB, alen_mI, fld_sfl_ne, fld_sfl_same, Option.isSome_some, pok_i, b1z, b01, z10, b1o, Int32.zero_add, vu_vu, upd_eq, upd_ne, true_or, or_true]
          obtain ⟨r1, hr1, hnx⟩ := cd_sq (N := n1) (K := k1) (f := f1) (b := b) (L := L) (kk := kk) (pp := pp) (T := T) (c0 := c0) (t := t + 1) (v := v) (r := r) (Q := fun f' n' k' z => TT X (D + 10) 45 85 [.ref 99, .int (nI d), .float 0] [] f' n' k' (CQo f b L kk pp T tx c0 t rd v r n1 k1 res)) hs g1.1 hz hC (by omega)
            (by
              intro c1 fr1 n2 t1 v1 r1 f2 hKt s2 ht1 A2 C2 o2 i1 i3
              simp (disch := first | omega | decide | assumption | exact Nat.le_of_ble_eq_true rfl) only [s45_85, s45_86, ow_some, true_and, and_true, and_self, if_true, if_false, not_true, not_false_eq_true, Bool.false_eq_true, eq_self, Option.toList, List.cons_append, List.nil_append, ix_in, ix_cl, lt_in, lt_cl, lt_add, ix_one, vu_eq, vu_ne, arI_mk, arL_mk, arY_mZ, arY_mB, alen_mI, fld_sfl_ne, fld_sfl_same, Option.isSome_some, pok_i, b1z, b01, z10, b1o, Int32.zero_add, vu_vu, upd_eq, upd_ne, true_or, or_true]
              rcases hKt with ⟨h38, he⟩ | ⟨h38, he⟩
              · refine k45_88 A2.1.cn (Nat.le_of_ble_eq_true rfl) (A2.exp Z 38 (by decide) (by decide) (by decide) h38) ?_
                rintro f3 n3 k3 v3 ⟨rfl, rfl, rfl, s3, A3⟩
                simp (disch := first | omega | decide | assumption | exact Nat.le_of_ble_eq_true rfl) only [s45_91, s45_151, ow_some, true_and, and_true, and_self, if_true, if_false, not_true, not_false_eq_true, Bool.false_eq_true, eq_self, Option.toList, List.cons_append, List.nil_append, ix_in, ix_cl, lt_in, lt_cl, lt_add, ix_one, vu_eq, vu_ne, arI_mk, arL_mk, arY_mZ, arY_mB, alen_mI, fld_sfl_ne, fld_sfl_same, Option.isSome_some, pok_i, b1z, b01, z10, b1o, Int32.zero_add, vu_vu, upd_eq, upd_ne, true_or, or_true]
                rw [he]
                exact CQo.ok ((s1.tr s2).tr s3) (by omega) A3 C2 o2
              · refine k45_88 A2.1.cn (Nat.le_of_ble_eq_true rfl) (A2.expN Z 38 (by decide) (by decide) h38) ?_
                rintro f3 n3 k3 v3 ⟨rfl, rfl, rfl, s3, E3⟩
                simp (disch := first | omega | decide | assumption | exact Nat.le_of_ble_eq_true rfl) only [s45_91, s45_151, ow_some, true_and, and_true, and_self, if_true, if_false, not_true, not_false_eq_true, Bool.false_eq_true, eq_self, Option.toList, List.cons_append, List.nil_append, ix_in, ix_cl, lt_in, lt_cl, lt_add, ix_one, vu_eq, vu_ne, arI_mk, arL_mk, arY_mZ, arY_mB, alen_mI, fld_sfl_ne, fld_sfl_same, Option.isSome_some, pok_i, b1z, b01, z10, b1o, Int32.zero_add, vu_vu, upd_eq, upd_ne, true_or, or_true]
                rw [he]
                exact CQo.er ((s1.tr s2).tr s3) E3)
            (by
              intro w p f2 he s2 E2
              simp (disch := first | omega | decide | assumption | exact Nat.le_of_ble_eq_true rfl) only [s45_85, s45_86, ow_some, true_and, and_true, and_self, if_true, if_false, not_true, not_false_eq_true, Bool.false_eq_true, eq_self, Option.toList, List.cons_append, List.nil_append, ix_in, ix_cl, lt_in, lt_cl, lt_add, ix_one, vu_eq, vu_ne, arI_mk, arL_mk, arY_mZ, arY_mB, alen_mI, fld_sfl_ne, fld_sfl_same, Option.isSome_some, pok_i, b1z, b01, z10, b1o, Int32.zero_add, vu_vu, upd_eq, upd_ne, true_or, or_true]
              rw [p45_88 E2.cn (Nat.le_of_ble_eq_true rfl) (E2.exp (by decide))]
              simp (disch := first | omega | decide | assumption | exact Nat.le_of_ble_eq_true rfl) only [s45_91, s45_151, ow_some, true_and, and_true, and_self, if_true, if_false, not_true, not_false_eq_true, Bool.false_eq_true, eq_self, Option.toList, List.cons_append, List.nil_append, ix_in, ix_cl, lt_in, lt_cl, lt_add, ix_one, vu_eq, vu_ne, arI_mk, arL_mk, arY_mZ, arY_mB, alen_mI, fld_sfl_ne, fld_sfl_same, Option.isSome_some, pok_i, b1z, b01, z10, b1o, Int32.zero_add, vu_vu, upd_eq, upd_ne, true_or, or_true]
              rw [he]
              exact CQo.er (s1.tr s2) E2)
          have sub := ih _ _ _ _ _ hr1 (D + 9) n1 k1 f1 (t + 1) v r n 0 (.float 0) (by omega) (by omega) (by omega) A1 hC (by omega)
          refine k45_82 A1.1.cn (Nat.le_of_ble_eq_true rfl) sub ?_
          intro f2 n2 k2 v2 hpo
          obtain ⟨hv, hq⟩ := hnx f2 n2 k2 v2 hpo
          subst hv
          exact hq
        · have x20 : (c.2.2.1 = 20) = False := eq_false hk1
          have x37 : (c.2.2.1 = 37) = False := eq_false hk2
          simp (disch := first | omega | decide | assumption | exact Nat.le_of_ble_eq_true rfl) only [s45_0, s45_1, s45_4, s45_6, s45_9, s45_10, s45_13, s45_15, s45_32, s45_33, s45_36, s45_38, s45_65, s45_66, s45_69, s45_71, s45_94, s45_95, ow_some, true_and, and_true, and_self, if_true, if_false, not_true, not_false_eq_true, Bool.false_eq_true, eq_self, Option.toList, List.cons_append, List.nil_append, ix_in, ix_cl, lt_in, lt_cl, lt_add, ix_one, vu_eq, vu_ne, arI_mk, arL_mk, arY_mZ, arY_mB, alen_mI, fld_sfl_ne, fld_sfl_same, Option.isSome_some, pok_i, b1z, b01, z10, b1o, Int32.zero_add, vu_vu, upd_eq, upd_ne, true_or, or_true, k4, e116, e91, x20, x37, ne_eq]
          obtain ⟨r1, hr1, hnx⟩ := cd_sq (N := N) (K := K) (f := f) (b := b) (L := L) (kk := kk) (pp := pp) (T := T) (c0 := c0) (t := t) (v := v) (r := r) (Q := fun f' n' k' z => TT X (D + 10) 45 99 [.ref 99, .int (nI d), .float 0] [] f' n' k' (CQo f b L kk pp T tx c0 t rd v r N K res)) hs hcv hz hC hle
            (by
              intro c1 fr1 n2 t1 v1 r1 f2 hKt s2 ht1 A2 C2 o2 i1 i3
              obtain ⟨kv2, -, -, -⟩ := A2.kv Z
              have q4 := A2.k4 Z
              have e61 : (ck c1 = 61) = (c1.2.2.1 = 39) := ck_is kv2 39 (by decide)
              have e60 : (ck c1 = 60) = (c1.2.2.1 = 40) := ck_is kv2 40 (by decide)
              have e62 : (ck c1 = 62) = (c1.2.2.1 = 41) := ck_is kv2 41 (by decide)
              rcases hKt with ⟨h3, hs2⟩ | ⟨⟨h39, h40, h41⟩, he⟩
              · have g1 := cv_go (tx := tx) i1 (by rcases h3 with z | z | z <;> (rw [z]; decide))
                have main : TT X (D + 10) 45 122 [.ref 99, .int (nI d), .int (ck c1)] [] f2 N K (CQo f b L kk pp T tx c0 t rd v r N K res) := by
                  simp (disch := first | omega | decide | assumption | exact Nat.le_of_ble_eq_true rfl) only [s45_122, ow_some, true_and, and_true, and_self, if_true, if_false, not_true, not_false_eq_true, Bool.false_eq_true, eq_self, Option.toList, List.cons_append, List.nil_append, ix_in, ix_cl, lt_in, lt_cl, lt_add, ix_one, vu_eq, vu_ne, arI_mk, arL_mk, arY_mZ, arY_mB, alen_mI, fld_sfl_ne, fld_sfl_same, Option.isSome_some, pok_i, b1z, b01, z10, b1o, Int32.zero_add, vu_vu, upd_eq, upd_ne, true_or, or_true]
                  refine k45_123 A2.1.cn (Nat.le_of_ble_eq_true rfl) (A2.next Z (by rcases h3 with z | z | z <;> (rw [z]; decide)) (by rcases h3 with z | z | z <;> (rw [z]; decide))) ?_
                  rintro f3 n3 k3 v3 ⟨rfl, rfl, rfl, s3, A3⟩
                  simp (disch := first | omega | decide | assumption | exact Nat.le_of_ble_eq_true rfl) only [s45_126, s45_127, ow_some, true_and, and_true, and_self, if_true, if_false, not_true, not_false_eq_true, Bool.false_eq_true, eq_self, Option.toList, List.cons_append, List.nil_append, ix_in, ix_cl, lt_in, lt_cl, lt_add, ix_one, vu_eq, vu_ne, arI_mk, arL_mk, arY_mZ, arY_mB, alen_mI, fld_sfl_ne, fld_sfl_same, Option.isSome_some, pok_i, b1z, b01, z10, b1o, Int32.zero_add, vu_vu, upd_eq, upd_ne, true_or, or_true]
                  have hx : (2000 : Int32) + ck c1 = tr (cmc c1.2.2.1) := by
                    rcases h3 with z | z | z
                    · rw [of_eq_true (e61.trans (eq_true z)), z]; decide
                    · rw [of_eq_true (e60.trans (eq_true z)), z]; decide
                    · rw [of_eq_true (e62.trans (eq_true z)), z]; decide
                  obtain ⟨r2, hr2, hnx2⟩ := cd_sq (N := n3) (K := k3) (f := f3) (b := b) (L := L) (kk := kk) (pp := pp) (T := T) (c0 := c0) (t := t1 + 1) (v := v1) (r := r1) (Q := fun f' n' k' z => TT X (D + 10) 45 131 [.ref 99, .int (nI d), .int (ck c1)] [] f' n' k' (CQo f b L kk pp T tx c0 t rd v r n3 k3 res)) hs2 g1.1 hz C2 (by omega)
                    (by
                      intro c2 fr2 n4 t2 v2 r2 f4 hKt2 s4 ht2 A4 C4 o4 j1 j3
                      have q6 := A4.1.r6
                      have := j1.1.2
                      simp (disch := first | omega | decide | assumption | exact Nat.le_of_ble_eq_true rfl) only [s45_131, s45_132, s45_135, s45_138, s45_139, ow_some, true_and, and_true, and_self, if_true, if_false, not_true, not_false_eq_true, Bool.false_eq_true, eq_self, Option.toList, List.cons_append, List.nil_append, ix_in, ix_cl, lt_in, lt_cl, lt_add, ix_one, vu_eq, vu_ne, arI_mk, arL_mk, arY_mZ, arY_mB, alen_mI, fld_sfl_ne, fld_sfl_same, Option.isSome_some, pok_i, b1z, b01, z10, b1o, Int32.zero_add, vu_vu, upd_eq, upd_ne, true_or, or_true, q6]
                      refine k45_140 A4.1.pv.cn (Nat.le_of_ble_eq_true rfl) (A4.1.emit C4.1 (by omega)) ?_
                      rintro f5 n5 k5 v5 ⟨rfl, rfl, rfl, s5, G5⟩
                      simp (disch := first | omega | decide | assumption | exact Nat.le_of_ble_eq_true rfl) only [s45_143, s45_151, ow_some, true_and, and_true, and_self, if_true, if_false, not_true, not_false_eq_true, Bool.false_eq_true, eq_self, Option.toList, List.cons_append, List.nil_append, ix_in, ix_cl, lt_in, lt_cl, lt_add, ix_one, vu_eq, vu_ne, arI_mk, arL_mk, arY_mZ, arY_mB, alen_mI, fld_sfl_ne, fld_sfl_same, Option.isSome_some, pok_i, b1z, b01, z10, b1o, Int32.zero_add, vu_vu, upd_eq, upd_ne, true_or, or_true]
                      rw [hKt2]
                      exact CQo.ok (((s2.tr s3).tr s4).tr s5) (by omega) ⟨G5, A4.2⟩ (C4.em (by omega) hx) ((o2.tr o4).tr VO.em))
                    (by
                      intro w p f4 he s4 E4
                      have q6 := E4.r6
                      obtain ⟨v4, r4, n4, PV4, -⟩ := E4.pv
                      simp (disch := first | omega | decide | assumption | exact Nat.le_of_ble_eq_true rfl) only [s45_131, s45_132, s45_135, s45_138, s45_139, ow_some, true_and, and_true, and_self, if_true, if_false, not_true, not_false_eq_true, Bool.false_eq_true, eq_self, Option.toList, List.cons_append, List.nil_append, ix_in, ix_cl, lt_in, lt_cl, lt_add, ix_one, vu_eq, vu_ne, arI_mk, arL_mk, arY_mZ, arY_mB, alen_mI, fld_sfl_ne, fld_sfl_same, Option.isSome_some, pok_i, b1z, b01, z10, b1o, Int32.zero_add, vu_vu, upd_eq, upd_ne, true_or, or_true, q6]
                      refine k45_140 PV4.cn (Nat.le_of_ble_eq_true rfl) E4.emit ?_
                      rintro f5 n5 k5 v5 ⟨rfl, rfl, rfl, s5, E5⟩
                      simp (disch := first | omega | decide | assumption | exact Nat.le_of_ble_eq_true rfl) only [s45_143, s45_151, ow_some, true_and, and_true, and_self, if_true, if_false, not_true, not_false_eq_true, Bool.false_eq_true, eq_self, Option.toList, List.cons_append, List.nil_append, ix_in, ix_cl, lt_in, lt_cl, lt_add, ix_one, vu_eq, vu_ne, arI_mk, arL_mk, arY_mZ, arY_mB, alen_mI, fld_sfl_ne, fld_sfl_same, Option.isSome_some, pok_i, b1z, b01, z10, b1o, Int32.zero_add, vu_vu, upd_eq, upd_ne, true_or, or_true]
                      rw [he]
                      exact CQo.er (((s2.tr s3).tr s4).tr s5) E5)
                  have sub := ih _ _ _ _ _ hr2 (D + 9) n3 k3 f3 (t1 + 1) v1 r1 n2 0 (.float 0) (by omega) hd (by omega) A3 C2 (by omega)
                  refine k45_128 A3.1.cn (Nat.le_of_ble_eq_true rfl) sub ?_
                  intro f6 n6 k6 v6 hpo
                  obtain ⟨hv, hq⟩ := hnx2 f6 n6 k6 v6 hpo
                  subst hv
                  exact hq
                rcases h3 with h3 | h3 | h3
                · have y39 : (c1.2.2.1 = 39) = True := eq_true h3
                  simp (disch := first | omega | decide | assumption | exact Nat.le_of_ble_eq_true rfl) only [s45_99, s45_100, s45_103, s45_104, s45_105, s45_107, ow_some, true_and, and_true, and_self, if_true, if_false, not_true, not_false_eq_true, Bool.false_eq_true, eq_self, Option.toList, List.cons_append, List.nil_append, ix_in, ix_cl, lt_in, lt_cl, lt_add, ix_one, vu_eq, vu_ne, arI_mk, arL_mk, arY_mZ, arY_mB, alen_mI, fld_sfl_ne, fld_sfl_same, Option.isSome_some, pok_i, b1z, b01, z10, b1o, Int32.zero_add, vu_vu, upd_eq, upd_ne, true_or, or_true, q4, e61, y39, ne_eq]
                  exact main
                · have y39 : (c1.2.2.1 = 39) = False := eq_false (by rw [h3]; decide)
                  have y40 : (c1.2.2.1 = 40) = True := eq_true h3
                  simp (disch := first | omega | decide | assumption | exact Nat.le_of_ble_eq_true rfl) only [s45_99, s45_100, s45_103, s45_104, s45_105, s45_107, s45_110, s45_111, s45_113, ow_some, true_and, and_true, and_self, if_true, if_false, not_true, not_false_eq_true, Bool.false_eq_true, eq_self, Option.toList, List.cons_append, List.nil_append, ix_in, ix_cl, lt_in, lt_cl, lt_add, ix_one, vu_eq, vu_ne, arI_mk, arL_mk, arY_mZ, arY_mB, alen_mI, fld_sfl_ne, fld_sfl_same, Option.isSome_some, pok_i, b1z, b01, z10, b1o, Int32.zero_add, vu_vu, upd_eq, upd_ne, true_or, or_true, q4, e61, e60, y39, y40, ne_eq]
                  exact main
                · have y39 : (c1.2.2.1 = 39) = False := eq_false (by rw [h3]; decide)
                  have y40 : (c1.2.2.1 = 40) = False := eq_false (by rw [h3]; decide)
                  have y41 : (c1.2.2.1 = 41) = True := eq_true h3
                  simp (disch := first | omega | decide | assumption | exact Nat.le_of_ble_eq_true rfl) only [s45_99, s45_100, s45_103, s45_104, s45_105, s45_107, s45_110, s45_111, s45_113, s45_116, s45_117, s45_119, ow_some, true_and, and_true, and_self, if_true, if_false, not_true, not_false_eq_true, Bool.false_eq_true, eq_self, Option.toList, List.cons_append, List.nil_append, ix_in, ix_cl, lt_in, lt_cl, lt_add, ix_one, vu_eq, vu_ne, arI_mk, arL_mk, arY_mZ, arY_mB, alen_mI, fld_sfl_ne, fld_sfl_same, Option.isSome_some, pok_i, b1z, b01, z10, b1o, Int32.zero_add, vu_vu, upd_eq, upd_ne, true_or, or_true, q4, e61, e60, e62, y39, y40, y41, ne_eq]
                  exact main
              · have y39 : (c1.2.2.1 = 39) = False := eq_false h39
                have y40 : (c1.2.2.1 = 40) = False := eq_false h40
                have y41 : (c1.2.2.1 = 41) = False := eq_false h41
                simp (disch := first | omega | decide | assumption | exact Nat.le_of_ble_eq_true rfl) only [s45_99, s45_100, s45_103, s45_104, s45_105, s45_107, s45_110, s45_111, s45_113, s45_116, s45_117, s45_119, s45_146, s45_147, ow_some, true_and, and_true, and_self, if_true, if_false, not_true, not_false_eq_true, Bool.false_eq_true, eq_self, Option.toList, List.cons_append, List.nil_append, ix_in, ix_cl, lt_in, lt_cl, lt_add, ix_one, vu_eq, vu_ne, arI_mk, arL_mk, arY_mZ, arY_mB, alen_mI, fld_sfl_ne, fld_sfl_same, Option.isSome_some, pok_i, b1z, b01, z10, b1o, Int32.zero_add, vu_vu, upd_eq, upd_ne, true_or, or_true, q4, e61, e60, e62, y39, y40, y41, ne_eq]
                refine k45_148 A2.1.cn (Nat.le_of_ble_eq_true rfl) (A2.fail Z (w := 2) (by decide)) ?_
                rintro f3 n3 k3 v3 ⟨rfl, rfl, rfl, s3, E3⟩
                simp (disch := first | omega | decide | assumption | exact Nat.le_of_ble_eq_true rfl) only [s45_151, ow_some, true_and, and_true, and_self, if_true, if_false, not_true, not_false_eq_true, Bool.false_eq_true, eq_self, Option.toList, List.cons_append, List.nil_append, ix_in, ix_cl, lt_in, lt_cl, lt_add, ix_one, vu_eq, vu_ne, arI_mk, arL_mk, arY_mZ, arY_mB, alen_mI, fld_sfl_ne, fld_sfl_same, Option.isSome_some, pok_i, b1z, b01, z10, b1o, Int32.zero_add, vu_vu, upd_eq, upd_ne, true_or, or_true]
                rw [he]
                exact CQo.er (s2.tr s3) E3)
            (by
              intro w p f2 he s2 E2
              have q4 := E2.v4
              obtain ⟨-, -, -, -, -, -, -, e61, e60, e62, -⟩ := n3a
              simp (disch := first | omega | decide | assumption | exact Nat.le_of_ble_eq_true rfl) only [s45_99, s45_100, s45_103, s45_104, s45_105, s45_107, s45_110, s45_111, s45_113, s45_116, s45_117, s45_119, s45_146, s45_147, ow_some, true_and, and_true, and_self, if_true, if_false, not_true, not_false_eq_true, Bool.false_eq_true, eq_self, Option.toList, List.cons_append, List.nil_append, ix_in, ix_cl, lt_in, lt_cl, lt_add, ix_one, vu_eq, vu_ne, arI_mk, arL_mk, arY_mZ, arY_mB, alen_mI, fld_sfl_ne, fld_sfl_same, Option.isSome_some, pok_i, b1z, b01, z10, b1o, Int32.zero_add, vu_vu, upd_eq, upd_ne, true_or, or_true, q4, e61, e60, e62, ne_eq]
              rw [p45_148 E2.cn (Nat.le_of_ble_eq_true rfl) (E2.fail (w' := 2))]
              simp (disch := first | omega | decide | assumption | exact Nat.le_of_ble_eq_true rfl) only [s45_151, ow_some, true_and, and_true, and_self, if_true, if_false, not_true, not_false_eq_true, Bool.false_eq_true, eq_self, Option.toList, List.cons_append, List.nil_append, ix_in, ix_cl, lt_in, lt_cl, lt_add, ix_one, vu_eq, vu_ne, arI_mk, arL_mk, arY_mZ, arY_mB, alen_mI, fld_sfl_ne, fld_sfl_same, Option.isSome_some, pok_i, b1z, b01, z10, b1o, Int32.zero_add, vu_vu, upd_eq, upd_ne, true_or, or_true]
              rw [he]
              exact CQo.er s2 E2)
          have sub := ih _ _ _ _ _ hr1 (D + 9) N K f t v r n 0 (.float 0) (by omega) hd (by omega) A hC hle
          refine k45_96 A.1.cn (Nat.le_of_ble_eq_true rfl) sub ?_
          intro f2 n2 k2 v2 hpo
          obtain ⟨hv, hq⟩ := hnx f2 n2 k2 v2 hpo
          subst hv
          exact hq
      · rw [if_neg m5] at h
        by_cases mcc : m = 1 ∨ m = 3 ∨ m = 6 ∨ m = 8
        · rw [if_pos mcc] at h
          rcases mcc with mc | mc | mc | mc
          · subst mc
            have hsb : sb 1 = 0 := rfl
            rw [hsb] at h
            show TT X (D + 10) 39 0 [.ref 99, .int (nI d), .float 0] [] f N K _
            simp (disch := first | omega | decide | assumption | exact Nat.le_of_ble_eq_true rfl) only [s39_0, s39_1, ow_some, true_and, and_true, and_self, if_true, if_false, not_true, not_false_eq_true, Bool.false_eq_true, eq_self, Option.toList, List.cons_append, List.nil_append, ix_in, ix_cl, lt_in, lt_cl, lt_add, ix_one, vu_eq, vu_ne, arI_mk, arL_mk, arY_mZ, arY_mB, alen_mI, fld_sfl_ne, fld_sfl_same, Option.isSome_some, pok_i, b1z, b01, z10, b1o, Int32.zero_add, vu_vu, upd_eq, upd_ne, true_or, or_true]
            obtain ⟨r1, hr1, hnx⟩ := cd_sq (N := N) (K := K) (f := f) (b := b) (L := L) (kk := kk) (pp := pp) (T := T) (c0 := c0) (t := t) (v := v) (r := r) (Q := fun f' n' k' z => TT X (D + 10) 39 5 [.ref 99, .int (nI d), .float 0] [] f' n' k' (CQo f b L kk pp T tx c0 t rd v r N K res)) h hcv hz hC hle
              (by
                intro c1 fr1 n2 t1 v1 r1 f2 hKt s2 ht1 A2 C2 o2 i1 i3
                have tt := ih 2 d c1 fr1 res hKt (D + 10) N K f2 t1 v1 r1 n2 0 (.float 0) (by have : rk 2 = rk 1 := rfl; omega) hd (by omega) A2 C2 (by omega)
                simp (disch := first | omega | decide | assumption | exact Nat.le_of_ble_eq_true rfl) only [s39_5, h39_6, ow_some, true_and, and_true, and_self, if_true, if_false, not_true, not_false_eq_true, Bool.false_eq_true, eq_self, Option.toList, List.cons_append, List.nil_append, ix_in, ix_cl, lt_in, lt_cl, lt_add, ix_one, vu_eq, vu_ne, arI_mk, arL_mk, arY_mZ, arY_mB, alen_mI, fld_sfl_ne, fld_sfl_same, Option.isSome_some, pok_i, b1z, b01, z10, b1o, Int32.zero_add, vu_vu, upd_eq, upd_ne, true_or, or_true]
                exact (show TT X (D + 10) 39 7 [.ref 99, .int (nI d), .int (nI 0)] [] f2 N K _ from tt).mono (fun _ _ _ _ h => CQo.sm s2 ht1 o2 h))
              (by
                intro w p f2 he s2 E2
                simp (disch := first | omega | decide | assumption | exact Nat.le_of_ble_eq_true rfl) only [s39_5, h39_6, ow_some, true_and, and_true, and_self, if_true, if_false, not_true, not_false_eq_true, Bool.false_eq_true, eq_self, Option.toList, List.cons_append, List.nil_append, ix_in, ix_cl, lt_in, lt_cl, lt_add, ix_one, vu_eq, vu_ne, arI_mk, arL_mk, arY_mZ, arY_mB, alen_mI, fld_sfl_ne, fld_sfl_same, Option.isSome_some, pok_i, b1z, b01, z10, b1o, Int32.zero_add, vu_vu, upd_eq, upd_ne, true_or, or_true]
                have e0 : (0 : Int32) = nI 0 := rfl
                rw [e0]
                unfold TH
                rw [E2.termL (by omega) hT, he]
                exact CQo.er s2 E2)
            have hrr : rk 0 + 1 ≤ rk 1 := by decide
            have sub := ih _ _ _ _ _ hr1 (D + 9) N K f t v r n 0 (.float 0) (by omega) hd (by omega) A hC hle
            refine k39_2 A.1.cn (Nat.le_of_ble_eq_true rfl) sub ?_
            intro f2 n2 k2 v2 hpo
            obtain ⟨hv, hq⟩ := hnx f2 n2 k2 v2 hpo
            subst hv
            exact hq
          · subst mc
            have hsb : sb 3 = 1 := rfl
            rw [hsb] at h
            show TT X (D + 10) 38 0 [.ref 99, .int (nI d), .float 0, .float 0] [] f N K _
            simp (disch := first | omega | decide | assumption | exact Nat.le_of_ble_eq_true rfl) only [s38_0, s38_1, ow_some, true_and, and_true, and_self, if_true, if_false, not_true, not_false_eq_true, Bool.false_eq_true, eq_self, Option.toList, List.cons_append, List.nil_append, ix_in, ix_cl, lt_in, lt_cl, lt_add, ix_one, vu_eq, vu_ne, arI_mk, arL_mk, arY_mZ, arY_mB, alen_mI, fld_sfl_ne, fld_sfl_same, Option.isSome_some, pok_i, b1z, b01, z10, b1o, Int32.zero_add, vu_vu, upd_eq, upd_ne, true_or, or_true]
            obtain ⟨r1, hr1, hnx⟩ := cd_sq (N := N) (K := K) (f := f) (b := b) (L := L) (kk := kk) (pp := pp) (T := T) (c0 := c0) (t := t) (v := v) (r := r) (Q := fun f' n' k' z => TT X (D + 10) 38 5 [.ref 99, .int (nI d), .float 0, .float 0] [] f' n' k' (CQo f b L kk pp T tx c0 t rd v r N K res)) h hcv hz hC hle
              (by
                intro c1 fr1 n2 t1 v1 r1 f2 hKt s2 ht1 A2 C2 o2 i1 i3
                have tt := ih 4 d c1 fr1 res hKt (D + 10) N K f2 t1 v1 r1 n2 0 (.float 0) (by have : rk 4 = rk 3 := rfl; omega) hd (by omega) A2 C2 (by omega)
                simp (disch := first | omega | decide | assumption | exact Nat.le_of_ble_eq_true rfl) only [s38_5, h38_6, ow_some, true_and, and_true, and_self, if_true, if_false, not_true, not_false_eq_true, Bool.false_eq_true, eq_self, Option.toList, List.cons_append, List.nil_append, ix_in, ix_cl, lt_in, lt_cl, lt_add, ix_one, vu_eq, vu_ne, arI_mk, arL_mk, arY_mZ, arY_mB, alen_mI, fld_sfl_ne, fld_sfl_same, Option.isSome_some, pok_i, b1z, b01, z10, b1o, Int32.zero_add, vu_vu, upd_eq, upd_ne, true_or, or_true]
                exact (show TT X (D + 10) 38 7 [.ref 99, .int (nI d), .int (nI 0), .float 0] [] f2 N K _ from tt).mono (fun _ _ _ _ h => CQo.sm s2 ht1 o2 h))
              (by
                intro w p f2 he s2 E2
                simp (disch := first | omega | decide | assumption | exact Nat.le_of_ble_eq_true rfl) only [s38_5, h38_6, ow_some, true_and, and_true, and_self, if_true, if_false, not_true, not_false_eq_true, Bool.false_eq_true, eq_self, Option.toList, List.cons_append, List.nil_append, ix_in, ix_cl, lt_in, lt_cl, lt_add, ix_one, vu_eq, vu_ne, arI_mk, arL_mk, arY_mZ, arY_mB, alen_mI, fld_sfl_ne, fld_sfl_same, Option.isSome_some, pok_i, b1z, b01, z10, b1o, Int32.zero_add, vu_vu, upd_eq, upd_ne, true_or, or_true]
                have e0 : (0 : Int32) = nI 0 := rfl
                rw [e0]
                unfold TH
                rw [E2.sumL (by omega) hT, he]
                exact CQo.er s2 E2)
            have hrr : rk 1 + 1 ≤ rk 3 := by decide
            have sub := ih _ _ _ _ _ hr1 (D + 9) N K f t v r n 0 (.float 0) (by omega) hd (by omega) A hC hle
            refine k38_2 A.1.cn (Nat.le_of_ble_eq_true rfl) sub ?_
            intro f2 n2 k2 v2 hpo
            obtain ⟨hv, hq⟩ := hnx f2 n2 k2 v2 hpo
            subst hv
            exact hq
          · subst mc
            have hsb : sb 6 = 5 := rfl
            rw [hsb] at h
            show TT X (D + 10) 44 0 [.ref 99, .int (nI d), .float 0] [] f N K _
            simp (disch := first | omega | decide | assumption | exact Nat.le_of_ble_eq_true rfl) only [s44_0, s44_1, ow_some, true_and, and_true, and_self, if_true, if_false, not_true, not_false_eq_true, Bool.false_eq_true, eq_self, Option.toList, List.cons_append, List.nil_append, ix_in, ix_cl, lt_in, lt_cl, lt_add, ix_one, vu_eq, vu_ne, arI_mk, arL_mk, arY_mZ, arY_mB, alen_mI, fld_sfl_ne, fld_sfl_same, Option.isSome_some, pok_i, b1z, b01, z10, b1o, Int32.zero_add, vu_vu, upd_eq, upd_ne, true_or, or_true]
            obtain ⟨r1, hr1, hnx⟩ := cd_sq (N := N) (K := K) (f := f) (b := b) (L := L) (kk := kk) (pp := pp) (T := T) (c0 := c0) (t := t) (v := v) (r := r) (Q := fun f' n' k' z => TT X (D + 10) 44 5 [.ref 99, .int (nI d), .float 0] [] f' n' k' (CQo f b L kk pp T tx c0 t rd v r N K res)) h hcv hz hC hle
              (by
                intro c1 fr1 n2 t1 v1 r1 f2 hKt s2 ht1 A2 C2 o2 i1 i3
                have tt := ih 7 d c1 fr1 res hKt (D + 10) N K f2 t1 v1 r1 n2 0 (.float 0) (by have : rk 7 = rk 6 := rfl; omega) hd (by omega) A2 C2 (by omega)
                simp (disch := first | omega | decide | assumption | exact Nat.le_of_ble_eq_true rfl) only [s44_5, h44_6, ow_some, true_and, and_true, and_self, if_true, if_false, not_true, not_false_eq_true, Bool.false_eq_true, eq_self, Option.toList, List.cons_append, List.nil_append, ix_in, ix_cl, lt_in, lt_cl, lt_add, ix_one, vu_eq, vu_ne, arI_mk, arL_mk, arY_mZ, arY_mB, alen_mI, fld_sfl_ne, fld_sfl_same, Option.isSome_some, pok_i, b1z, b01, z10, b1o, Int32.zero_add, vu_vu, upd_eq, upd_ne, true_or, or_true]
                exact (show TT X (D + 10) 44 7 [.ref 99, .int (nI d), .int (nI 0)] [] f2 N K _ from tt).mono (fun _ _ _ _ h => CQo.sm s2 ht1 o2 h))
              (by
                intro w p f2 he s2 E2
                simp (disch := first | omega | decide | assumption | exact Nat.le_of_ble_eq_true rfl) only [s44_5, h44_6, ow_some, true_and, and_true, and_self, if_true, if_false, not_true, not_false_eq_true, Bool.false_eq_true, eq_self, Option.toList, List.cons_append, List.nil_append, ix_in, ix_cl, lt_in, lt_cl, lt_add, ix_one, vu_eq, vu_ne, arI_mk, arL_mk, arY_mZ, arY_mB, alen_mI, fld_sfl_ne, fld_sfl_same, Option.isSome_some, pok_i, b1z, b01, z10, b1o, Int32.zero_add, vu_vu, upd_eq, upd_ne, true_or, or_true]
                have e0 : (0 : Int32) = nI 0 := rfl
                rw [e0]
                unfold TH
                rw [E2.bothL (by omega) hT, he]
                exact CQo.er s2 E2)
            have hrr : rk 5 + 1 ≤ rk 6 := by decide
            have sub := ih _ _ _ _ _ hr1 (D + 9) N K f t v r n 0 (.float 0) (by omega) hd (by omega) A hC hle
            refine k44_2 A.1.cn (Nat.le_of_ble_eq_true rfl) sub ?_
            intro f2 n2 k2 v2 hpo
            obtain ⟨hv, hq⟩ := hnx f2 n2 k2 v2 hpo
            subst hv
            exact hq
          · subst mc
            have hsb : sb 8 = 6 := rfl
            rw [hsb] at h
            show TT X (D + 10) 43 0 [.ref 99, .int (nI d), .float 0] [] f N K _
            simp (disch := first | omega | decide | assumption | exact Nat.le_of_ble_eq_true rfl) only [s43_0, s43_1, ow_some, true_and, and_true, and_self, if_true, if_false, not_true, not_false_eq_true, Bool.false_eq_true, eq_self, Option.toList, List.cons_append, List.nil_append, ix_in, ix_cl, lt_in, lt_cl, lt_add, ix_one, vu_eq, vu_ne, arI_mk, arL_mk, arY_mZ, arY_mB, alen_mI, fld_sfl_ne, fld_sfl_same, Option.isSome_some, pok_i, b1z, b01, z10, b1o, Int32.zero_add, vu_vu, upd_eq, upd_ne, true_or, or_true]
            obtain ⟨r1, hr1, hnx⟩ := cd_sq (N := N) (K := K) (f := f) (b := b) (L := L) (kk := kk) (pp := pp) (T := T) (c0 := c0) (t := t) (v := v) (r := r) (Q := fun f' n' k' z => TT X (D + 10) 43 5 [.ref 99, .int (nI d), .float 0] [] f' n' k' (CQo f b L kk pp T tx c0 t rd v r N K res)) h hcv hz hC hle
              (by
                intro c1 fr1 n2 t1 v1 r1 f2 hKt s2 ht1 A2 C2 o2 i1 i3
                have tt := ih 9 d c1 fr1 res hKt (D + 10) N K f2 t1 v1 r1 n2 0 (.float 0) (by have : rk 9 = rk 8 := rfl; omega) hd (by omega) A2 C2 (by omega)
                simp (disch := first | omega | decide | assumption | exact Nat.le_of_ble_eq_true rfl) only [s43_5, h43_6, ow_some, true_and, and_true, and_self, if_true, if_false, not_true, not_false_eq_true, Bool.false_eq_true, eq_self, Option.toList, List.cons_append, List.nil_append, ix_in, ix_cl, lt_in, lt_cl, lt_add, ix_one, vu_eq, vu_ne, arI_mk, arL_mk, arY_mZ, arY_mB, alen_mI, fld_sfl_ne, fld_sfl_same, Option.isSome_some, pok_i, b1z, b01, z10, b1o, Int32.zero_add, vu_vu, upd_eq, upd_ne, true_or, or_true]
                exact (show TT X (D + 10) 43 7 [.ref 99, .int (nI d), .int (nI 0)] [] f2 N K _ from tt).mono (fun _ _ _ _ h => CQo.sm s2 ht1 o2 h))
              (by
                intro w p f2 he s2 E2
                simp (disch := first | omega | decide | assumption | exact Nat.le_of_ble_eq_true rfl) only [s43_5, h43_6, ow_some, true_and, and_true, and_self, if_true, if_false, not_true, not_false_eq_true, Bool.false_eq_true, eq_self, Option.toList, List.cons_append, List.nil_append, ix_in, ix_cl, lt_in, lt_cl, lt_add, ix_one, vu_eq, vu_ne, arI_mk, arL_mk, arY_mZ, arY_mB, alen_mI, fld_sfl_ne, fld_sfl_same, Option.isSome_some, pok_i, b1z, b01, z10, b1o, Int32.zero_add, vu_vu, upd_eq, upd_ne, true_or, or_true]
                have e0 : (0 : Int32) = nI 0 := rfl
                rw [e0]
                unfold TH
                rw [E2.truthL (by omega) hT, he]
                exact CQo.er s2 E2)
            have hrr : rk 6 + 1 ≤ rk 8 := by decide
            have sub := ih _ _ _ _ _ hr1 (D + 9) N K f t v r n 0 (.float 0) (by omega) hd (by omega) A hC hle
            refine k43_2 A.1.cn (Nat.le_of_ble_eq_true rfl) sub ?_
            intro f2 n2 k2 v2 hpo
            obtain ⟨hv, hq⟩ := hnx f2 n2 k2 v2 hpo
            subst hv
            exact hq
        · rw [if_neg mcc] at h
          by_cases m9 : m ≤ 9
          · rw [if_pos m9] at h
            have cg : (T < g) = False := eq_false (by omega)
            rcases (show m = 2 ∨ m = 4 ∨ m = 7 ∨ m = 9 by omega) with ml | ml | ml | ml
            · subst ml
              have hsb : sb 2 = 0 := rfl
              have ek : (ck c = 42) = (c.2.2.1 = 34) := ck_is kv 34 (by decide)
              show TT X (D + 10) 39 7 [.ref 99, .int (nI d), .int (nI g)] [] f N K _
              rcases h with ⟨ho, he⟩ | ⟨x, ho, hs⟩
              · have hk : (c.2.2.1 = 34) = False := eq_false (fun z => by rw [z] at ho; exact absurd ho (by decide))
                simp (disch := first | omega | decide | assumption | exact Nat.le_of_ble_eq_true rfl) only [s39_7, s39_8, s39_9, s39_12, s39_15, s39_16, s39_19, s39_21, s39_49, ow_some, true_and, and_true, and_self, if_true, if_false, not_true, not_false_eq_true, Bool.false_eq_true, eq_self, Option.toList, List.cons_append, List.nil_append, ix_in, ix_cl, lt_in, lt_cl, lt_add, ix_one, vu_eq, vu_ne, arI_mk, arL_mk, arY_mZ, arY_mB, alen_mI, fld_sfl_ne, fld_sfl_same, Option.isSome_some, pok_i, b1z, b01, z10, b1o, Int32.zero_add, vu_vu, upd_eq, upd_ne, true_or, or_true, k4, v2, ix_lt, cg, ek, hk, ne_eq]
                rw [he]
                exact CQo.ok SJ.rf (Nat.le_refl t) A hC VO.rf
              · have hk : c.2.2.1 = 34 := by
                  by_cases z : c.2.2.1 = 34
                  · exact z
                  · unfold opc at ho; simp [z] at ho
                have hx : x = 3002 := by rw [hk] at ho; exact (Option.some.inj (ho.symm.trans (show opc 2 34 = some 3002 by decide)))
                subst hx
                rw [hsb] at hs
                have hk' : (c.2.2.1 = 34) = True := eq_true hk
                have g1 := cv_go (tx := tx) hcv (by rw [hk]; decide)
                simp (disch := first | omega | decide | assumption | exact Nat.le_of_ble_eq_true rfl) only [s39_7, s39_8, s39_9, s39_12, s39_15, s39_16, s39_19, s39_21, s39_24, ow_some, true_and, and_true, and_self, if_true, if_false, not_true, not_false_eq_true, Bool.false_eq_true, eq_self, Option.toList, List.cons_append, List.nil_append, ix_in, ix_cl, lt_in, lt_cl, lt_add, ix_one, vu_eq, vu_ne, arI_mk, arL_mk, arY_mZ, arY_mB, alen_mI, fld_sfl_ne, fld_sfl_same, Option.isSome_some, pok_i, b1z, b01, z10, b1o, Int32.zero_add, vu_vu, upd_eq, upd_ne, true_or, or_true, k4, v2, ix_lt, cg, ek, hk', ne_eq]
                refine k39_25 A.1.cn (Nat.le_of_ble_eq_true rfl) (A.next Z (by rw [hk]; decide) (by rw [hk]; decide)) ?_
                rintro f1 n1 k1 v1 ⟨rfl, rfl, rfl, s1, A1⟩
                simp (disch := first | omega | decide | assumption | exact Nat.le_of_ble_eq_true rfl) only [s39_28, s39_29, ow_some, true_and, and_true, and_self, if_true, if_false, not_true, not_false_eq_true, Bool.false_eq_true, eq_self, Option.toList, List.cons_append, List.nil_append, ix_in, ix_cl, lt_in, lt_cl, lt_add, ix_one, vu_eq, vu_ne, arI_mk, arL_mk, arY_mZ, arY_mB, alen_mI, fld_sfl_ne, fld_sfl_same, Option.isSome_some, pok_i, b1z, b01, z10, b1o, Int32.zero_add, vu_vu, upd_eq, upd_ne, true_or, or_true]
                obtain ⟨r1, hr1, hnx⟩ := cd_sq (N := n1) (K := k1) (f := f1) (b := b) (L := L) (kk := kk) (pp := pp) (T := T) (c0 := c0) (t := t + 1) (v := v) (r := r) (Q := fun f' n' k' z => TT X (D + 10) 39 33 [.ref 99, .int (nI d), .int (nI g)] [] f' n' k' (CQo f b L kk pp T tx c0 t rd v r n1 k1 res)) hs g1.1 hz hC (by omega)
                  (by
                    intro c1 fr1 n2 t1 v1 r1 f2 hKt s2 ht1 A2 C2 o2 i1 i3
                    have q6 := A2.1.r6
                    have := i1.1.2
                    simp (disch := first | omega | decide | assumption | exact Nat.le_of_ble_eq_true rfl) only [s39_33, s39_34, s39_37, ow_some, true_and, and_true, and_self, if_true, if_false, not_true, not_false_eq_true, Bool.false_eq_true, eq_self, Option.toList, List.cons_append, List.nil_append, ix_in, ix_cl, lt_in, lt_cl, lt_add, ix_one, vu_eq, vu_ne, arI_mk, arL_mk, arY_mZ, arY_mB, alen_mI, fld_sfl_ne, fld_sfl_same, Option.isSome_some, pok_i, b1z, b01, z10, b1o, Int32.zero_add, vu_vu, upd_eq, upd_ne, true_or, or_true, q6]
                    refine k39_40 A2.1.pv.cn (Nat.le_of_ble_eq_true rfl) (A2.1.emit C2.1 (by omega)) ?_
                    rintro f3 n3 k3 v3 ⟨rfl, rfl, rfl, s3, G3⟩
                    simp (disch := first | omega | decide | assumption | exact Nat.le_of_ble_eq_true rfl) only [s39_43, h39_46, ow_some, true_and, and_true, and_self, if_true, if_false, not_true, not_false_eq_true, Bool.false_eq_true, eq_self, Option.toList, List.cons_append, List.nil_append, ix_in, ix_cl, lt_in, lt_cl, lt_add, ix_one, vu_eq, vu_ne, arI_mk, arL_mk, arY_mZ, arY_mB, alen_mI, fld_sfl_ne, fld_sfl_same, Option.isSome_some, pok_i, b1z, b01, z10, b1o, Int32.zero_add, vu_vu, upd_eq, upd_ne, true_or, or_true]
                    have tt := ih 2 d c1 _ res hKt (D + 10) n3 k3 f3 t1 _ _ (n2 + 1) (g + 1) (.float 0) hD hd (by omega) ⟨G3, A2.2⟩ (C2.em (x' := 2042) (by omega) (by decide)) (by omega)
                    exact (show TT X (D + 10) 39 7 [.ref 99, .int (nI d), .int (nI (g + 1))] [] f3 n3 k3 _ from tt).mono (fun _ _ _ _ h => CQo.sm ((s1.tr s2).tr s3) (by omega) (o2.tr VO.em) h))
                  (by
                    intro w p f2 he s2 E2
                    have q6 := E2.r6
                    obtain ⟨v2, r2, n2, PV2, -⟩ := E2.pv
                    simp (disch := first | omega | decide | assumption | exact Nat.le_of_ble_eq_true rfl) only [s39_33, s39_34, s39_37, ow_some, true_and, and_true, and_self, if_true, if_false, not_true, not_false_eq_true, Bool.false_eq_true, eq_self, Option.toList, List.cons_append, List.nil_append, ix_in, ix_cl, lt_in, lt_cl, lt_add, ix_one, vu_eq, vu_ne, arI_mk, arL_mk, arY_mZ, arY_mB, alen_mI, fld_sfl_ne, fld_sfl_same, Option.isSome_some, pok_i, b1z, b01, z10, b1o, Int32.zero_add, vu_vu, upd_eq, upd_ne, true_or, or_true, q6]
                    refine k39_40 PV2.cn (Nat.le_of_ble_eq_true rfl) E2.emit ?_
                    rintro f3 n3 k3 v3 ⟨rfl, rfl, rfl, s3, E3⟩
                    simp (disch := first | omega | decide | assumption | exact Nat.le_of_ble_eq_true rfl) only [s39_43, h39_46, ow_some, true_and, and_true, and_self, if_true, if_false, not_true, not_false_eq_true, Bool.false_eq_true, eq_self, Option.toList, List.cons_append, List.nil_append, ix_in, ix_cl, lt_in, lt_cl, lt_add, ix_one, vu_eq, vu_ne, arI_mk, arL_mk, arY_mZ, arY_mB, alen_mI, fld_sfl_ne, fld_sfl_same, Option.isSome_some, pok_i, b1z, b01, z10, b1o, Int32.zero_add, vu_vu, upd_eq, upd_ne, true_or, or_true]
                    show TT X (D + 10) 39 7 [.ref 99, .int (nI d), .int (nI (g + 1))] [] f3 n3 k3 _
                    rw [E3.termL (by omega) hT, he]
                    exact CQo.er ((s1.tr s2).tr s3) E3)
                have hrr : rk 0 + 1 ≤ rk 2 := by decide
                have sub := ih _ _ _ _ _ hr1 (D + 9) n1 k1 f1 (t + 1) v r n 0 (.float 0) (by omega) hd (by omega) A1 hC (by omega)
                refine k39_30 A1.1.cn (Nat.le_of_ble_eq_true rfl) sub ?_
                intro f2 n2 k2 v2 hpo
                obtain ⟨hv, hq⟩ := hnx f2 n2 k2 v2 hpo
                subst hv
                exact hq
            · subst ml
              have hsb : sb 4 = 1 := rfl
              have e43 : (ck c = 43) = (c.2.2.1 = 32) := ck_is kv 32 (by decide)
              have e45 : (ck c = 45) = (c.2.2.1 = 33) := ck_is kv 33 (by decide)
              show TT X (D + 10) 38 7 [.ref 99, .int (nI d), .int (nI g), a3] [] f N K _
              rcases h with ⟨ho, he⟩ | ⟨x, ho, hs⟩
              · have hk : (c.2.2.1 = 32) = False := eq_false (fun z => by rw [z] at ho; exact absurd ho (by decide))
                have hk2 : (c.2.2.1 = 33) = False := eq_false (fun z => by rw [z] at ho; exact absurd ho (by decide))
                simp (disch := first | omega | decide | assumption | exact Nat.le_of_ble_eq_true rfl) only [s38_7, s38_8, s38_9, s38_12, s38_15, s38_16, s38_19, s38_21, s38_24, s38_25, s38_28, s38_30, s38_65, ow_some, true_and, and_true, and_self, if_true, if_false, not_true, not_false_eq_true, Bool.false_eq_true, eq_self, Option.toList, List.cons_append, List.nil_append, ix_in, ix_cl, lt_in, lt_cl, lt_add, ix_one, vu_eq, vu_ne, arI_mk, arL_mk, arY_mZ, arY_mB, alen_mI, fld_sfl_ne, fld_sfl_same, Option.isSome_some, pok_i, b1z, b01, z10, b1o, Int32.zero_add, vu_vu, upd_eq, upd_ne, true_or, or_true, k4, v2, ix_lt, cg, e43, e45, hk, hk2, ne_eq]
                rw [he]
                exact CQo.ok SJ.rf (Nat.le_refl t) A hC VO.rf
              · have hk : c.2.2.1 = 32 ∨ c.2.2.1 = 33 := by
                  by_cases z : c.2.2.1 = 32
                  · exact Or.inl z
                  · by_cases z2 : c.2.2.1 = 33
                    · exact Or.inr z2
                    · unfold opc at ho; simp [z, z2] at ho
                have hx : (2000 : Int32) + ck c = tr x := by
                  rcases hk with z | z
                  · rw [z] at ho
                    rw [of_eq_true (e43.trans (eq_true z)), ← Option.some.inj (ho.symm.trans (show opc 4 32 = some 3000 by decide)).symm]; decide
                  · rw [z] at ho
                    rw [of_eq_true (e45.trans (eq_true z)), ← Option.some.inj (ho.symm.trans (show opc 4 33 = some 3001 by decide)).symm]; decide
                rw [hsb] at hs
                have g1 := cv_go (tx := tx) hcv (by rcases hk with z | z <;> (rw [z]; decide))
                have main : TT X (D + 10) 38 33 [.ref 99, .int (nI d), .int (nI g), a3] [] f N K (CQo f b L kk pp T tx c0 t rd v r N K res) := by
                  simp (disch := first | omega | decide | assumption | exact Nat.le_of_ble_eq_true rfl) only [s38_33, s38_34, s38_37, s38_38, ow_some, true_and, and_true, and_self, if_true, if_false, not_true, not_false_eq_true, Bool.false_eq_true, eq_self, Option.toList, List.cons_append, List.nil_append, ix_in, ix_cl, lt_in, lt_cl, lt_add, ix_one, vu_eq, vu_ne, arI_mk, arL_mk, arY_mZ, arY_mB, alen_mI, fld_sfl_ne, fld_sfl_same, Option.isSome_some, pok_i, b1z, b01, z10, b1o, Int32.zero_add, vu_vu, upd_eq, upd_ne, true_or, or_true, k4]
                  refine k38_39 A.1.cn (Nat.le_of_ble_eq_true rfl) (A.next Z (by rcases hk with z | z <;> (rw [z]; decide)) (by rcases hk with z | z <;> (rw [z]; decide))) ?_
                  rintro f1 n1 k1 v1 ⟨rfl, rfl, rfl, s1, A1⟩
                  simp (disch := first | omega | decide | assumption | exact Nat.le_of_ble_eq_true rfl) only [s38_42, s38_43, ow_some, true_and, and_true, and_self, if_true, if_false, not_true, not_false_eq_true, Bool.false_eq_true, eq_self, Option.toList, List.cons_append, List.nil_append, ix_in, ix_cl, lt_in, lt_cl, lt_add, ix_one, vu_eq, vu_ne, arI_mk, arL_mk, arY_mZ, arY_mB, alen_mI, fld_sfl_ne, fld_sfl_same, Option.isSome_some, pok_i, b1z, b01, z10, b1o, Int32.zero_add, vu_vu, upd_eq, upd_ne, true_or, or_true]
                  obtain ⟨r1, hr1, hnx⟩ := cd_sq (N := n1) (K := k1) (f := f1) (b := b) (L := L) (kk := kk) (pp := pp) (T := T) (c0 := c0) (t := t + 1) (v := v) (r := r) (Q := fun f' n' k' z => TT X (D + 10) 38 47 [.ref 99, .int (nI d), .int (nI g), .int (ck c)] [] f' n' k' (CQo f b L kk pp T tx c0 t rd v r n1 k1 res)) hs g1.1 hz hC (by omega)
                    (by
                      intro c1 fr1 n2 t1 v1 r1 f2 hKt s2 ht1 A2 C2 o2 i1 i3
                      have q6 := A2.1.r6
                      have := i1.1.2
                      simp (disch := first | omega | decide | assumption | exact Nat.le_of_ble_eq_true rfl) only [s38_47, s38_48, s38_51, s38_54, s38_55, ow_some, true_and, and_true, and_self, if_true, if_false, not_true, not_false_eq_true, Bool.false_eq_true, eq_self, Option.toList, List.cons_append, List.nil_append, ix_in, ix_cl, lt_in, lt_cl, lt_add, ix_one, vu_eq, vu_ne, arI_mk, arL_mk, arY_mZ, arY_mB, alen_mI, fld_sfl_ne, fld_sfl_same, Option.isSome_some, pok_i, b1z, b01, z10, b1o, Int32.zero_add, vu_vu, upd_eq, upd_ne, true_or, or_true, q6]
                      refine k38_56 A2.1.pv.cn (Nat.le_of_ble_eq_true rfl) (A2.1.emit C2.1 (by omega)) ?_
                      rintro f3 n3 k3 v3 ⟨rfl, rfl, rfl, s3, G3⟩
                      simp (disch := first | omega | decide | assumption | exact Nat.le_of_ble_eq_true rfl) only [s38_59, h38_62, ow_some, true_and, and_true, and_self, if_true, if_false, not_true, not_false_eq_true, Bool.false_eq_true, eq_self, Option.toList, List.cons_append, List.nil_append, ix_in, ix_cl, lt_in, lt_cl, lt_add, ix_one, vu_eq, vu_ne, arI_mk, arL_mk, arY_mZ, arY_mB, alen_mI, fld_sfl_ne, fld_sfl_same, Option.isSome_some, pok_i, b1z, b01, z10, b1o, Int32.zero_add, vu_vu, upd_eq, upd_ne, true_or, or_true]
                      have tt := ih 4 d c1 _ res hKt (D + 10) n3 k3 f3 t1 _ _ (n2 + 1) (g + 1) (.int (ck c)) hD hd (by omega) ⟨G3, A2.2⟩ (C2.em (by omega) hx) (by omega)
                      exact (show TT X (D + 10) 38 7 [.ref 99, .int (nI d), .int (nI (g + 1)), .int (ck c)] [] f3 n3 k3 _ from tt).mono (fun _ _ _ _ h => CQo.sm ((s1.tr s2).tr s3) (by omega) (o2.tr VO.em) h))
                    (by
                      intro w p f2 he s2 E2
                      have q6 := E2.r6
                      obtain ⟨v2, r2, n2, PV2, -⟩ := E2.pv
                      simp (disch := first | omega | decide | assumption | exact Nat.le_of_ble_eq_true rfl) only [s38_47, s38_48, s38_51, s38_54, s38_55, ow_some, true_and, and_true, and_self, if_true, if_false, not_true, not_false_eq_true, Bool.false_eq_true, eq_self, Option.toList, List.cons_append, List.nil_append, ix_in, ix_cl, lt_in, lt_cl, lt_add, ix_one, vu_eq, vu_ne, arI_mk, arL_mk, arY_mZ, arY_mB, alen_mI, fld_sfl_ne, fld_sfl_same, Option.isSome_some, pok_i, b1z, b01, z10, b1o, Int32.zero_add, vu_vu, upd_eq, upd_ne, true_or, or_true, q6]
                      refine k38_56 PV2.cn (Nat.le_of_ble_eq_true rfl) E2.emit ?_
                      rintro f3 n3 k3 v3 ⟨rfl, rfl, rfl, s3, E3⟩
                      simp (disch := first | omega | decide | assumption | exact Nat.le_of_ble_eq_true rfl) only [s38_59, h38_62, ow_some, true_and, and_true, and_self, if_true, if_false, not_true, not_false_eq_true, Bool.false_eq_true, eq_self, Option.toList, List.cons_append, List.nil_append, ix_in, ix_cl, lt_in, lt_cl, lt_add, ix_one, vu_eq, vu_ne, arI_mk, arL_mk, arY_mZ, arY_mB, alen_mI, fld_sfl_ne, fld_sfl_same, Option.isSome_some, pok_i, b1z, b01, z10, b1o, Int32.zero_add, vu_vu, upd_eq, upd_ne, true_or, or_true]
                      show TT X (D + 10) 38 7 [.ref 99, .int (nI d), .int (nI (g + 1)), .int (ck c)] [] f3 n3 k3 _
                      rw [E3.sumL (by omega) hT, he]
                      exact CQo.er ((s1.tr s2).tr s3) E3)
                  have hrr : rk 1 + 1 ≤ rk 4 := by decide
                  have sub := ih _ _ _ _ _ hr1 (D + 9) n1 k1 f1 (t + 1) v r n 0 (.float 0) (by omega) hd (by omega) A1 hC (by omega)
                  refine k38_44 A1.1.cn (Nat.le_of_ble_eq_true rfl) sub ?_
                  intro f2 n2 k2 v2 hpo
                  obtain ⟨hv, hq⟩ := hnx f2 n2 k2 v2 hpo
                  subst hv
                  exact hq
                rcases hk with h3 | h3
                · have y : (c.2.2.1 = 32) = True := eq_true h3
                  simp (disch := first | omega | decide | assumption | exact Nat.le_of_ble_eq_true rfl) only [s38_7, s38_8, s38_9, s38_12, s38_15, s38_16, s38_19, s38_21, ow_some, true_and, and_true, and_self, if_true, if_false, not_true, not_false_eq_true, Bool.false_eq_true, eq_self, Option.toList, List.cons_append, List.nil_append, ix_in, ix_cl, lt_in, lt_cl, lt_add, ix_one, vu_eq, vu_ne, arI_mk, arL_mk, arY_mZ, arY_mB, alen_mI, fld_sfl_ne, fld_sfl_same, Option.isSome_some, pok_i, b1z, b01, z10, b1o, Int32.zero_add, vu_vu, upd_eq, upd_ne, true_or, or_true, k4, v2, ix_lt, cg, e43, y, ne_eq]
                  exact main
                · have y0 : (c.2.2.1 = 32) = False := eq_false (by rw [h3]; decide)
                  have y : (c.2.2.1 = 33) = True := eq_true h3
                  simp (disch := first | omega | decide | assumption | exact Nat.le_of_ble_eq_true rfl) only [s38_7, s38_8, s38_9, s38_12, s38_15, s38_16, s38_19, s38_21, s38_24, s38_25, s38_28, s38_30, ow_some, true_and, and_true, and_self, if_true, if_false, not_true, not_false_eq_true, Bool.false_eq_true, eq_self, Option.toList, List.cons_append, List.nil_append, ix_in, ix_cl, lt_in, lt_cl, lt_add, ix_one, vu_eq, vu_ne, arI_mk, arL_mk, arY_mZ, arY_mB, alen_mI, fld_sfl_ne, fld_sfl_same, Option.isSome_some, pok_i, b1z, b01, z10, b1o, Int32.zero_add, vu_vu, upd_eq, upd_ne, true_or, or_true, k4, v2, ix_lt, cg, e43, e45, y0, y, ne_eq]
                  exact main
            · subst ml
              have hsb : sb 7 = 5 := rfl
              have ek : (ck c = 115) = (c.2.2.1 = 18) := ck_is kv 18 (by decide)
              show TT X (D + 10) 44 7 [.ref 99, .int (nI d), .int (nI g)] [] f N K _
              rcases h with ⟨ho, he⟩ | ⟨x, ho, hs⟩
              · have hk : (c.2.2.1 = 18) = False := eq_false (fun z => by rw [z] at ho; exact absurd ho (by decide))
                simp (disch := first | omega | decide | assumption | exact Nat.le_of_ble_eq_true rfl) only [s44_7, s44_8, s44_9, s44_12, s44_15, s44_16, s44_19, s44_21, s44_49, ow_some, true_and, and_true, and_self, if_true, if_false, not_true, not_false_eq_true, Bool.false_eq_true, eq_self, Option.toList, List.cons_append, List.nil_append, ix_in, ix_cl, lt_in, lt_cl, lt_add, ix_one, vu_eq, vu_ne, arI_mk, arL_mk, arY_mZ, arY_mB, alen_mI, fld_sfl_ne, fld_sfl_same, Option.isSome_some, pok_i, b1z, b01, z10, b1o, Int32.zero_add, vu_vu, upd_eq, upd_ne, true_or, or_true, k4, v2, ix_lt, cg, ek, hk, ne_eq]
                rw [he]
                exact CQo.ok SJ.rf (Nat.le_refl t) A hC VO.rf
              · have hk : c.2.2.1 = 18 := by
                  by_cases z : c.2.2.1 = 18
                  · exact z
                  · unfold opc at ho; simp [z] at ho
                have hx : x = 3007 := by rw [hk] at ho; exact (Option.some.inj (ho.symm.trans (show opc 7 18 = some 3007 by decide)))
                subst hx
                rw [hsb] at hs
                have hk' : (c.2.2.1 = 18) = True := eq_true hk
                have g1 := cv_go (tx := tx) hcv (by rw [hk]; decide)
                simp (disch := first | omega | decide | assumption | exact Nat.le_of_ble_eq_true rfl) only [s44_7, s44_8, s44_9, s44_12, s44_15, s44_16, s44_19, s44_21, s44_24, ow_some, true_and, and_true, and_self, if_true, if_false, not_true, not_false_eq_true, Bool.false_eq_true, eq_self, Option.toList, List.cons_append, List.nil_append, ix_in, ix_cl, lt_in, lt_cl, lt_add, ix_one, vu_eq, vu_ne, arI_mk, arL_mk, arY_mZ, arY_mB, alen_mI, fld_sfl_ne, fld_sfl_same, Option.isSome_some, pok_i, b1z, b01, z10, b1o, Int32.zero_add, vu_vu, upd_eq, upd_ne, true_or, or_true, k4, v2, ix_lt, cg, ek, hk', ne_eq]
                refine k44_25 A.1.cn (Nat.le_of_ble_eq_true rfl) (A.next Z (by rw [hk]; decide) (by rw [hk]; decide)) ?_
                rintro f1 n1 k1 v1 ⟨rfl, rfl, rfl, s1, A1⟩
                simp (disch := first | omega | decide | assumption | exact Nat.le_of_ble_eq_true rfl) only [s44_28, s44_29, ow_some, true_and, and_true, and_self, if_true, if_false, not_true, not_false_eq_true, Bool.false_eq_true, eq_self, Option.toList, List.cons_append, List.nil_append, ix_in, ix_cl, lt_in, lt_cl, lt_add, ix_one, vu_eq, vu_ne, arI_mk, arL_mk, arY_mZ, arY_mB, alen_mI, fld_sfl_ne, fld_sfl_same, Option.isSome_some, pok_i, b1z, b01, z10, b1o, Int32.zero_add, vu_vu, upd_eq, upd_ne, true_or, or_true]
                obtain ⟨r1, hr1, hnx⟩ := cd_sq (N := n1) (K := k1) (f := f1) (b := b) (L := L) (kk := kk) (pp := pp) (T := T) (c0 := c0) (t := t + 1) (v := v) (r := r) (Q := fun f' n' k' z => TT X (D + 10) 44 33 [.ref 99, .int (nI d), .int (nI g)] [] f' n' k' (CQo f b L kk pp T tx c0 t rd v r n1 k1 res)) hs g1.1 hz hC (by omega)
                  (by
                    intro c1 fr1 n2 t1 v1 r1 f2 hKt s2 ht1 A2 C2 o2 i1 i3
                    have q6 := A2.1.r6
                    have := i1.1.2
                    simp (disch := first | omega | decide | assumption | exact Nat.le_of_ble_eq_true rfl) only [s44_33, s44_34, s44_37, ow_some, true_and, and_true, and_self, if_true, if_false, not_true, not_false_eq_true, Bool.false_eq_true, eq_self, Option.toList, List.cons_append, List.nil_append, ix_in, ix_cl, lt_in, lt_cl, lt_add, ix_one, vu_eq, vu_ne, arI_mk, arL_mk, arY_mZ, arY_mB, alen_mI, fld_sfl_ne, fld_sfl_same, Option.isSome_some, pok_i, b1z, b01, z10, b1o, Int32.zero_add, vu_vu, upd_eq, upd_ne, true_or, or_true, q6]
                    refine k44_40 A2.1.pv.cn (Nat.le_of_ble_eq_true rfl) (A2.1.emit C2.1 (by omega)) ?_
                    rintro f3 n3 k3 v3 ⟨rfl, rfl, rfl, s3, G3⟩
                    simp (disch := first | omega | decide | assumption | exact Nat.le_of_ble_eq_true rfl) only [s44_43, h44_46, ow_some, true_and, and_true, and_self, if_true, if_false, not_true, not_false_eq_true, Bool.false_eq_true, eq_self, Option.toList, List.cons_append, List.nil_append, ix_in, ix_cl, lt_in, lt_cl, lt_add, ix_one, vu_eq, vu_ne, arI_mk, arL_mk, arY_mZ, arY_mB, alen_mI, fld_sfl_ne, fld_sfl_same, Option.isSome_some, pok_i, b1z, b01, z10, b1o, Int32.zero_add, vu_vu, upd_eq, upd_ne, true_or, or_true]
                    have tt := ih 7 d c1 _ res hKt (D + 10) n3 k3 f3 t1 _ _ (n2 + 1) (g + 1) (.float 0) hD hd (by omega) ⟨G3, A2.2⟩ (C2.em (x' := 2002) (by omega) (by decide)) (by omega)
                    exact (show TT X (D + 10) 44 7 [.ref 99, .int (nI d), .int (nI (g + 1))] [] f3 n3 k3 _ from tt).mono (fun _ _ _ _ h => CQo.sm ((s1.tr s2).tr s3) (by omega) (o2.tr VO.em) h))
                  (by
                    intro w p f2 he s2 E2
                    have q6 := E2.r6
                    obtain ⟨v2, r2, n2, PV2, -⟩ := E2.pv
                    simp (disch := first | omega | decide | assumption | exact Nat.le_of_ble_eq_true rfl) only [s44_33, s44_34, s44_37, ow_some, true_and, and_true, and_self, if_true, if_false, not_true, not_false_eq_true, Bool.false_eq_true, eq_self, Option.toList, List.cons_append, List.nil_append, ix_in, ix_cl, lt_in, lt_cl, lt_add, ix_one, vu_eq, vu_ne, arI_mk, arL_mk, arY_mZ, arY_mB, alen_mI, fld_sfl_ne, fld_sfl_same, Option.isSome_some, pok_i, b1z, b01, z10, b1o, Int32.zero_add, vu_vu, upd_eq, upd_ne, true_or, or_true, q6]
                    refine k44_40 PV2.cn (Nat.le_of_ble_eq_true rfl) E2.emit ?_
                    rintro f3 n3 k3 v3 ⟨rfl, rfl, rfl, s3, E3⟩
                    simp (disch := first | omega | decide | assumption | exact Nat.le_of_ble_eq_true rfl) only [s44_43, h44_46, ow_some, true_and, and_true, and_self, if_true, if_false, not_true, not_false_eq_true, Bool.false_eq_true, eq_self, Option.toList, List.cons_append, List.nil_append, ix_in, ix_cl, lt_in, lt_cl, lt_add, ix_one, vu_eq, vu_ne, arI_mk, arL_mk, arY_mZ, arY_mB, alen_mI, fld_sfl_ne, fld_sfl_same, Option.isSome_some, pok_i, b1z, b01, z10, b1o, Int32.zero_add, vu_vu, upd_eq, upd_ne, true_or, or_true]
                    show TT X (D + 10) 44 7 [.ref 99, .int (nI d), .int (nI (g + 1))] [] f3 n3 k3 _
                    rw [E3.bothL (by omega) hT, he]
                    exact CQo.er ((s1.tr s2).tr s3) E3)
                have hrr : rk 5 + 1 ≤ rk 7 := by decide
                have sub := ih _ _ _ _ _ hr1 (D + 9) n1 k1 f1 (t + 1) v r n 0 (.float 0) (by omega) hd (by omega) A1 hC (by omega)
                refine k44_30 A1.1.cn (Nat.le_of_ble_eq_true rfl) sub ?_
                intro f2 n2 k2 v2 hpo
                obtain ⟨hv, hq⟩ := hnx f2 n2 k2 v2 hpo
                subst hv
                exact hq
            · subst ml
              have hsb : sb 9 = 6 := rfl
              have ek : (ck c = 114) = (c.2.2.1 = 19) := ck_is kv 19 (by decide)
              show TT X (D + 10) 43 7 [.ref 99, .int (nI d), .int (nI g)] [] f N K _
              rcases h with ⟨ho, he⟩ | ⟨x, ho, hs⟩
              · have hk : (c.2.2.1 = 19) = False := eq_false (fun z => by rw [z] at ho; exact absurd ho (by decide))
                simp (disch := first | omega | decide | assumption | exact Nat.le_of_ble_eq_true rfl) only [s43_7, s43_8, s43_9, s43_12, s43_15, s43_16, s43_19, s43_21, s43_49, ow_some, true_and, and_true, and_self, if_true, if_false, not_true, not_false_eq_true, Bool.false_eq_true, eq_self, Option.toList, List.cons_append, List.nil_append, ix_in, ix_cl, lt_in, lt_cl, lt_add, ix_one, vu_eq, vu_ne, arI_mk, arL_mk, arY_mZ, arY_mB, alen_mI, fld_sfl_ne, fld_sfl_same, Option.isSome_some, pok_i, b1z, b01, z10, b1o, Int32.zero_add, vu_vu, upd_eq, upd_ne, true_or, or_true, k4, v2, ix_lt, cg, ek, hk, ne_eq]
                rw [he]
                exact CQo.ok SJ.rf (Nat.le_refl t) A hC VO.rf
              · have hk : c.2.2.1 = 19 := by
                  by_cases z : c.2.2.1 = 19
                  · exact z
                  · unfold opc at ho; simp [z] at ho
                have hx : x = 3008 := by rw [hk] at ho; exact (Option.some.inj (ho.symm.trans (show opc 9 19 = some 3008 by decide)))
                subst hx
                rw [hsb] at hs
                have hk' : (c.2.2.1 = 19) = True := eq_true hk
                have g1 := cv_go (tx := tx) hcv (by rw [hk]; decide)
                simp (disch := first | omega | decide | assumption | exact Nat.le_of_ble_eq_true rfl) only [s43_7, s43_8, s43_9, s43_12, s43_15, s43_16, s43_19, s43_21, s43_24, ow_some, true_and, and_true, and_self, if_true, if_false, not_true, not_false_eq_true, Bool.false_eq_true, eq_self, Option.toList, List.cons_append, List.nil_append, ix_in, ix_cl, lt_in, lt_cl, lt_add, ix_one, vu_eq, vu_ne, arI_mk, arL_mk, arY_mZ, arY_mB, alen_mI, fld_sfl_ne, fld_sfl_same, Option.isSome_some, pok_i, b1z, b01, z10, b1o, Int32.zero_add, vu_vu, upd_eq, upd_ne, true_or, or_true, k4, v2, ix_lt, cg, ek, hk', ne_eq]
                refine k43_25 A.1.cn (Nat.le_of_ble_eq_true rfl) (A.next Z (by rw [hk]; decide) (by rw [hk]; decide)) ?_
                rintro f1 n1 k1 v1 ⟨rfl, rfl, rfl, s1, A1⟩
                simp (disch := first | omega | decide | assumption | exact Nat.le_of_ble_eq_true rfl) only [s43_28, s43_29, ow_some, true_and, and_true, and_self, if_true, if_false, not_true, not_false_eq_true, Bool.false_eq_true, eq_self, Option.toList, List.cons_append, List.nil_append, ix_in, ix_cl, lt_in, lt_cl, lt_add, ix_one, vu_eq, vu_ne, arI_mk, arL_mk, arY_mZ, arY_mB, alen_mI, fld_sfl_ne, fld_sfl_same, Option.isSome_some, pok_i, b1z, b01, z10, b1o, Int32.zero_add, vu_vu, upd_eq, upd_ne, true_or, or_true]
                obtain ⟨r1, hr1, hnx⟩ := cd_sq (N := n1) (K := k1) (f := f1) (b := b) (L := L) (kk := kk) (pp := pp) (T := T) (c0 := c0) (t := t + 1) (v := v) (r := r) (Q := fun f' n' k' z => TT X (D + 10) 43 33 [.ref 99, .int (nI d), .int (nI g)] [] f' n' k' (CQo f b L kk pp T tx c0 t rd v r n1 k1 res)) hs g1.1 hz hC (by omega)
                  (by
                    intro c1 fr1 n2 t1 v1 r1 f2 hKt s2 ht1 A2 C2 o2 i1 i3
                    have q6 := A2.1.r6
                    have := i1.1.2
                    simp (disch := first | omega | decide | assumption | exact Nat.le_of_ble_eq_true rfl) only [s43_33, s43_34, s43_37, ow_some, true_and, and_true, and_self, if_true, if_false, not_true, not_false_eq_true, Bool.false_eq_true, eq_self, Option.toList, List.cons_append, List.nil_append, ix_in, ix_cl, lt_in, lt_cl, lt_add, ix_one, vu_eq, vu_ne, arI_mk, arL_mk, arY_mZ, arY_mB, alen_mI, fld_sfl_ne, fld_sfl_same, Option.isSome_some, pok_i, b1z, b01, z10, b1o, Int32.zero_add, vu_vu, upd_eq, upd_ne, true_or, or_true, q6]
                    refine k43_40 A2.1.pv.cn (Nat.le_of_ble_eq_true rfl) (A2.1.emit C2.1 (by omega)) ?_
                    rintro f3 n3 k3 v3 ⟨rfl, rfl, rfl, s3, G3⟩
                    simp (disch := first | omega | decide | assumption | exact Nat.le_of_ble_eq_true rfl) only [s43_43, h43_46, ow_some, true_and, and_true, and_self, if_true, if_false, not_true, not_false_eq_true, Bool.false_eq_true, eq_self, Option.toList, List.cons_append, List.nil_append, ix_in, ix_cl, lt_in, lt_cl, lt_add, ix_one, vu_eq, vu_ne, arI_mk, arL_mk, arY_mZ, arY_mB, alen_mI, fld_sfl_ne, fld_sfl_same, Option.isSome_some, pok_i, b1z, b01, z10, b1o, Int32.zero_add, vu_vu, upd_eq, upd_ne, true_or, or_true]
                    have tt := ih 9 d c1 _ res hKt (D + 10) n3 k3 f3 t1 _ _ (n2 + 1) (g + 1) (.float 0) hD hd (by omega) ⟨G3, A2.2⟩ (C2.em (x' := 2001) (by omega) (by decide)) (by omega)
                    exact (show TT X (D + 10) 43 7 [.ref 99, .int (nI d), .int (nI (g + 1))] [] f3 n3 k3 _ from tt).mono (fun _ _ _ _ h => CQo.sm ((s1.tr s2).tr s3) (by omega) (o2.tr VO.em) h))
                  (by
                    intro w p f2 he s2 E2
                    have q6 := E2.r6
                    obtain ⟨v2, r2, n2, PV2, -⟩ := E2.pv
                    simp (disch := first | omega | decide | assumption | exact Nat.le_of_ble_eq_true rfl) only [s43_33, s43_34, s43_37, ow_some, true_and, and_true, and_self, if_true, if_false, not_true, not_false_eq_true, Bool.false_eq_true, eq_self, Option.toList, List.cons_append, List.nil_append, ix_in, ix_cl, lt_in, lt_cl, lt_add, ix_one, vu_eq, vu_ne, arI_mk, arL_mk, arY_mZ, arY_mB, alen_mI, fld_sfl_ne, fld_sfl_same, Option.isSome_some, pok_i, b1z, b01, z10, b1o, Int32.zero_add, vu_vu, upd_eq, upd_ne, true_or, or_true, q6]
                    refine k43_40 PV2.cn (Nat.le_of_ble_eq_true rfl) E2.emit ?_
                    rintro f3 n3 k3 v3 ⟨rfl, rfl, rfl, s3, E3⟩
                    simp (disch := first | omega | decide | assumption | exact Nat.le_of_ble_eq_true rfl) only [s43_43, h43_46, ow_some, true_and, and_true, and_self, if_true, if_false, not_true, not_false_eq_true, Bool.false_eq_true, eq_self, Option.toList, List.cons_append, List.nil_append, ix_in, ix_cl, lt_in, lt_cl, lt_add, ix_one, vu_eq, vu_ne, arI_mk, arL_mk, arY_mZ, arY_mB, alen_mI, fld_sfl_ne, fld_sfl_same, Option.isSome_some, pok_i, b1z, b01, z10, b1o, Int32.zero_add, vu_vu, upd_eq, upd_ne, true_or, or_true]
                    show TT X (D + 10) 43 7 [.ref 99, .int (nI d), .int (nI (g + 1))] [] f3 n3 k3 _
                    rw [E3.truthL (by omega) hT, he]
                    exact CQo.er ((s1.tr s2).tr s3) E3)
                have hrr : rk 6 + 1 ≤ rk 9 := by decide
                have sub := ih _ _ _ _ _ hr1 (D + 9) n1 k1 f1 (t + 1) v r n 0 (.float 0) (by omega) hd (by omega) A1 hC (by omega)
                refine k43_30 A1.1.cn (Nat.le_of_ble_eq_true rfl) sub ?_
                intro f2 n2 k2 v2 hpo
                obtain ⟨hv, hq⟩ := hnx f2 n2 k2 v2 hpo
                subst hv
                exact hq
          · rw [if_neg m9] at h; exact h.elim
end RD

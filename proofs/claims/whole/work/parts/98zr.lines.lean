/-! the class reads lines as the reference does -/
def LO (f : Nat → e_C) (b L : Nat) (kk pp : Nat → Int32) (T : Nat) (tx : Nat → Int32) (c0 : Cu) (t S N K : Nat) (res : Lr) : t_Q := fun f' n' k' z => n' = N ∧ k' = K ∧ z = none ∧ SJ b f f' ∧ (∀ c fr ag, res = .inl (c, fr, ag) → ∃ t' wt' v' r' A' n2, t ≤ t' ∧ GA f' b L kk pp T tx c0 t' c wt' v' r' ∧ PN S A' n2 fr ag v' r' ∧ fr 52 = nI A') ∧ ∀ w p, res = .inr (w, p) → GE f' b L kk pp T w p
def FO (f : Nat → e_C) (b L : Nat) (kk pp : Nat → Int32) (T : Nat) (tx : Nat → Int32) (c0 : Cu) (t S A N K : Nat) (res : Lr) : t_Q := fun f' n' k' z => n' = N ∧ k' = K ∧ z = none ∧ SJ b f f' ∧ (∀ c fr ag, res = .inl (c, fr, ag) → ∃ t' wt' v' r' n2, t ≤ t' ∧ GA f' b L kk pp T tx c0 t' c wt' v' r' ∧ PN S A n2 fr ag v' r') ∧ ∀ w p, res = .inr (w, p) → GE f' b L kk pp T w p
section RD
variable {X : Nat × (Nat → Int32)} {d N K : Nat} {f f' : Nat → e_C} {b L T t t' : Nat} {kk pp v v' tx : Nat → Int32} {wt wt' : Int32} {r r' : Nat → Nat → Int32} {c0 c : Cu} {S A n : Nat} {fr ag : Nat → Int32}
theorem LO.ok (s : SJ b f f') (ht : t ≤ t') (G : GA f' b L kk pp T tx c0 t' c wt' v' r') (P : PN S A n fr ag v' r') (hA : fr 52 = nI A) : LO f b L kk pp T tx c0 t S N K (.inl (c, fr, ag)) f' N K none := ⟨rfl, rfl, rfl, s, (fun c' fr' ag' h => by cases h; exact ⟨t', wt', v', r', A, n, ht, G, P, hA⟩), (fun w p h => by cases h)⟩
theorem LO.er {w : Int32} {p : Nat} (s : SJ b f f') (G : GE f' b L kk pp T w p) : LO f b L kk pp T tx c0 t S N K (.inr (w, p)) f' N K none := ⟨rfl, rfl, rfl, s, (fun c' fr' ag' h => by cases h), (fun w' p' h => by cases h; exact G)⟩
theorem FO.ok (s : SJ b f f') (ht : t ≤ t') (G : GA f' b L kk pp T tx c0 t' c wt' v' r') (P : PN S A n fr ag v' r') : FO f b L kk pp T tx c0 t S A N K (.inl (c, fr, ag)) f' N K none := ⟨rfl, rfl, rfl, s, (fun c' fr' ag' h => by cases h; exact ⟨t', wt', v', r', n, ht, G, P⟩), (fun w p h => by cases h)⟩
theorem FO.er {w : Int32} {p : Nat} (s : SJ b f f') (G : GE f' b L kk pp T w p) : FO f b L kk pp T tx c0 t S A N K (.inr (w, p)) f' N K none := ⟨rfl, rfl, rfl, s, (fun c' fr' ag' h => by cases h), (fun w' p' h => by cases h; exact G)⟩
theorem LO.sm {g f2 : Nat → e_C} {res : Lr} {n' k' : Nat} {z : Option Value} (s : SJ b f g) (ht : t ≤ t') (h : LO g b L kk pp T tx c0 t' S N K res f2 n' k' z) : LO f b L kk pp T tx c0 t S N K res f2 n' k' z := by
  obtain ⟨h1, h2, h3, h4, h5, h6⟩ := h
  refine ⟨h1, h2, h3, s.tr h4, fun c fr ag e => ?_, h6⟩
  obtain ⟨t2, wt2, v2, r2, A2, n2, q1, q2⟩ := h5 c fr ag e
  exact ⟨t2, wt2, v2, r2, A2, n2, by omega, q2⟩
theorem z0i : (0 : Int32) = nI 0 := rfl
theorem sp_jointLine (Z : TKS tx L c0 T kk pp) (G : GA f b L kk pp T tx c0 t c wt v r) (P : PN S A n fr ag v r) (h1 : 1 ≤ S) (hS : fr 1 = nI S) (hA : fr 52 = nI A) (hk : c.2.2.1 = 1) {u1 : Value} : TT X (d + 2) 32 0 [.ref 99, u1] [] f N K (LO f b L kk pp T tx c0 t S N K (l_joint tx L S c fr ag)) := by
  obtain ⟨s2, -⟩ := s_2 S (by have := P.1.1; omega) h1
  have i0 := i999
  simp (disch := first | omega | decide | assumption | exact Nat.le_of_ble_eq_true rfl) only [s32_0, ow_some, true_and, and_true, and_self, if_true, if_false, not_true, not_false_eq_true, Bool.false_eq_true, eq_self, Option.toList, List.cons_append, List.nil_append, ix_in, ix_cl, lt_in, lt_cl, lt_add, ix_one, vu_eq, vu_ne, arI_mk, arL_mk, arY_mZ, arY_mB, alen_mI, fld_sfl_ne, fld_sfl_same, Option.isSome_some, pok_i, b1z, b01, z10, b1o, Int32.zero_add, vu_vu, upd_eq, upd_ne, true_or, or_true]
  refine k32_1 G.1.cn (Nat.le_of_ble_eq_true rfl) (G.next Z (by rw [hk]; decide) (by rw [hk]; decide)) ?_
  rintro f1 n1 k1 v1 ⟨rfl, rfl, rfl, s1, G1⟩
  unfold l_joint
  generalize nx tx L c = c1 at G1 ⊢
  have e25 : ∀ (w : Int32) (p q : Nat) f', q < 8 → SJ b f f' → GE f' b L kk pp T w p → TT X (d + 2) 32 25 [.ref 99, .int (nI q)] [] f' n1 k1 (LO f b L kk pp T tx c0 t S n1 k1 (.inr (w, p))) := by
    intro w p q f' hq s E
    obtain ⟨v2, r2, m2, P2, h14, hm⟩ := E.pv
    have q6 := E.r6
    simp (disch := first | omega | decide | assumption | exact Nat.le_of_ble_eq_true rfl) only [s32_25, s32_26, s32_29, s32_32, s32_33, s32_34, s32_35, s32_36, s32_37, ow_some, true_and, and_true, and_self, if_true, if_false, not_true, not_false_eq_true, Bool.false_eq_true, eq_self, Option.toList, List.cons_append, List.nil_append, ix_in, ix_cl, lt_in, lt_cl, lt_add, ix_one, vu_eq, vu_ne, arI_mk, arL_mk, arY_mZ, arY_mB, alen_mI, fld_sfl_ne, fld_sfl_same, Option.isSome_some, pok_i, b1z, b01, z10, b1o, Int32.zero_add, vu_vu, upd_eq, upd_ne, true_or, or_true, P2.v0, P2.v3, P2.v10, P2.v11, P2.v12, P2.v14, P2.v15, P2.v16, P2.v17, P2.v18, P2.r1, P2.r2, P2.r4, P2.r5, P2.r6, P2.r7, P2.r8, P2.r9, P2.r13, P2.a1, P2.a2, P2.a4, P2.a5, P2.a6, P2.a7, P2.a8, P2.a9, P2.a13, q6]
    rw [p32_40 E.cn (Nat.le_of_ble_eq_true rfl) E.num]
    simp (disch := first | omega | decide | assumption | exact Nat.le_of_ble_eq_true rfl) only [s32_43, s32_44, ow_some, true_and, and_true, and_self, if_true, if_false, not_true, not_false_eq_true, Bool.false_eq_true, eq_self, Option.toList, List.cons_append, List.nil_append, ix_in, ix_cl, lt_in, lt_cl, lt_add, ix_one, vu_eq, vu_ne, arI_mk, arL_mk, arY_mZ, arY_mB, alen_mI, fld_sfl_ne, fld_sfl_same, Option.isSome_some, pok_i, b1z, b01, z10, b1o, Int32.zero_add, vu_vu, upd_eq, upd_ne, true_or, or_true, P2.v0, P2.v3, P2.v10, P2.v11, P2.v12, P2.v14, P2.v15, P2.v16, P2.v17, P2.v18, P2.r1, P2.r2, P2.r4, P2.r5, P2.r6, P2.r7, P2.r8, P2.r9, P2.r13, P2.a1, P2.a2, P2.a4, P2.a5, P2.a6, P2.a7, P2.a8, P2.a9, P2.a13]
    exact LO.er (s.tr (SJ.up (by omega))) (E.pl (fun a h => vu_ne (by omega)) P2.s2 h14 hm)
  have e18 : ∀ (w : Int32) (p : Nat) f' u, SJ b f f' → GE f' b L kk pp T w p → TT X (d + 2) 32 18 [.ref 99, u] [.int 0] f' n1 k1 (LO f b L kk pp T tx c0 t S n1 k1 (.inr (w, p))) := by
    intro w p f' u s E
    simp (disch := first | omega | decide | assumption | exact Nat.le_of_ble_eq_true rfl) only [s32_18, s32_19, s32_20, ow_some, true_and, and_true, and_self, if_true, if_false, not_true, not_false_eq_true, Bool.false_eq_true, eq_self, Option.toList, List.cons_append, List.nil_append, ix_in, ix_cl, lt_in, lt_cl, lt_add, ix_one, vu_eq, vu_ne, arI_mk, arL_mk, arY_mZ, arY_mB, alen_mI, fld_sfl_ne, fld_sfl_same, Option.isSome_some, pok_i, b1z, b01, z10, b1o, Int32.zero_add, vu_vu, upd_eq, upd_ne, true_or, or_true]
    rw [p32_22 E.cn (Nat.le_of_ble_eq_true rfl) (E.exp (by decide))]
    simp only [Option.toList, List.nil_append]
    exact e25 w p 0 f' (by omega) s E
  have P1 := G1.1.pv
  have q6 := G1.1.r6
  have e0 : v 0 = nI S := P.2.1.1.trans hS
  simp (disch := first | omega | decide | assumption | exact Nat.le_of_ble_eq_true rfl) only [s32_4, s32_5, s32_6, s32_7, s32_10, s32_13, s32_14, ow_some, true_and, and_true, and_self, if_true, if_false, not_true, not_false_eq_true, Bool.false_eq_true, eq_self, Option.toList, List.cons_append, List.nil_append, ix_in, ix_cl, lt_in, lt_cl, lt_add, ix_one, vu_eq, vu_ne, arI_mk, arL_mk, arY_mZ, arY_mB, alen_mI, fld_sfl_ne, fld_sfl_same, Option.isSome_some, pok_i, b1z, b01, z10, b1o, Int32.zero_add, vu_vu, upd_eq, upd_ne, true_or, or_true, P1.v0, P1.v3, P1.v10, P1.v11, P1.v12, P1.v14, P1.v15, P1.v16, P1.v17, P1.v18, P1.r1, P1.r2, P1.r4, P1.r5, P1.r6, P1.r7, P1.r8, P1.r9, P1.r13, P1.a1, P1.a2, P1.a4, P1.a5, P1.a6, P1.a7, P1.a8, P1.a9, P1.a13, q6, e0]
  by_cases t1 : tko c1 0 ((S : Int) - 2) = true
  · rw [if_pos t1]
    refine k32_15 G1.1.cn (Nat.le_of_ble_eq_true rfl) (G1.num Z (lo := 0) (hi := nI S - 2) (by rw [i0.2.1, s2]; exact t1)) ?_
    rintro f2 n2 k2 v2 ⟨rfl, rfl, rfl, sj2, G2⟩
    obtain ⟨t1a, t1b, t1c⟩ := tko_iff.mp t1
    have h8 := P.1.1
    obtain ⟨q, hq, hq1, hq2⟩ := i9 (v := c1.2.2.2) (N := 8) t1b (by omega) (by omega)
    rw [hq2, Int.toNat_natCast]
    have hqS : q + 1 < S := by omega
    generalize nx tx L c1 = c2 at G2 ⊢
    simp (disch := first | omega | decide | assumption | exact Nat.le_of_ble_eq_true rfl) only [s32_18, s32_19, s32_20, ow_some, true_and, and_true, and_self, if_true, if_false, not_true, not_false_eq_true, Bool.false_eq_true, eq_self, Option.toList, List.cons_append, List.nil_append, ix_in, ix_cl, lt_in, lt_cl, lt_add, ix_one, vu_eq, vu_ne, arI_mk, arL_mk, arY_mZ, arY_mB, alen_mI, fld_sfl_ne, fld_sfl_same, Option.isSome_some, pok_i, b1z, b01, z10, b1o, Int32.zero_add, vu_vu, upd_eq, upd_ne, true_or, or_true, hq1]
    by_cases t2 : c2.2.2.1 = 2
    · rw [if_pos t2]
      refine k32_22 G2.1.cn (Nat.le_of_ble_eq_true rfl) (G2.exp Z 2 (by decide) (by decide) (by decide) t2) ?_
      rintro f3 n3 k3 v3 ⟨rfl, rfl, rfl, sj3, G3⟩
      generalize nx tx L c2 = c3 at G3 ⊢
      have P3 := G3.1.pv
      have q63 := G3.1.r6
      simp (disch := first | omega | decide | assumption | exact Nat.le_of_ble_eq_true rfl) only [s32_25, s32_26, s32_29, s32_32, s32_33, s32_34, s32_35, s32_36, s32_37, ow_some, true_and, and_true, and_self, if_true, if_false, not_true, not_false_eq_true, Bool.false_eq_true, eq_self, Option.toList, List.cons_append, List.nil_append, ix_in, ix_cl, lt_in, lt_cl, lt_add, ix_one, vu_eq, vu_ne, arI_mk, arL_mk, arY_mZ, arY_mB, alen_mI, fld_sfl_ne, fld_sfl_same, Option.isSome_some, pok_i, b1z, b01, z10, b1o, Int32.zero_add, vu_vu, upd_eq, upd_ne, true_or, or_true, P3.v0, P3.v3, P3.v10, P3.v11, P3.v12, P3.v14, P3.v15, P3.v16, P3.v17, P3.v18, P3.r1, P3.r2, P3.r4, P3.r5, P3.r6, P3.r7, P3.r8, P3.r9, P3.r13, P3.a1, P3.a2, P3.a4, P3.a5, P3.a6, P3.a7, P3.a8, P3.a9, P3.a13, q63]
      by_cases t3 : tko c3 0 999 = true
      · rw [if_pos t3]
        refine k32_40 G3.1.cn (Nat.le_of_ble_eq_true rfl) (G3.num Z (lo := 0) (hi := 999) t3) ?_
        rintro f4 n4 k4 v4 ⟨rfl, rfl, rfl, sj4, G4⟩
        have P4 := G4.1.pv
        simp (disch := first | omega | decide | assumption | exact Nat.le_of_ble_eq_true rfl) only [s32_43, s32_44, ow_some, true_and, and_true, and_self, if_true, if_false, not_true, not_false_eq_true, Bool.false_eq_true, eq_self, Option.toList, List.cons_append, List.nil_append, ix_in, ix_cl, lt_in, lt_cl, lt_add, ix_one, vu_eq, vu_ne, arI_mk, arL_mk, arY_mZ, arY_mB, alen_mI, fld_sfl_ne, fld_sfl_same, Option.isSome_some, pok_i, b1z, b01, z10, b1o, Int32.zero_add, vu_vu, upd_eq, upd_ne, true_or, or_true, P4.v0, P4.v3, P4.v10, P4.v11, P4.v12, P4.v14, P4.v15, P4.v16, P4.v17, P4.v18, P4.r1, P4.r2, P4.r4, P4.r5, P4.r6, P4.r7, P4.r8, P4.r9, P4.r13, P4.a1, P4.a2, P4.a4, P4.a5, P4.a6, P4.a7, P4.a8, P4.a9, P4.a13]
        exact LO.ok ((((s1.tr sj2).tr sj3).tr sj4).tr (SJ.up (by omega))) (by omega) ⟨G4.1.pl (fun a h => vu_ne (by omega)) P4.s2 rfl, G4.2⟩ (P.joint hqS) (by rw [upd_ne (by omega)]; exact hA)
      · rw [if_neg t3]
        refine k32_40 G3.1.cn (Nat.le_of_ble_eq_true rfl) (G3.numN Z (lo := 0) (hi := 999) t3) ?_
        rintro f4 n4 k4 v4 ⟨rfl, rfl, rfl, sj4, E4⟩
        obtain ⟨w4, r4, m4, P4, h14, hm⟩ := E4.pv
        simp (disch := first | omega | decide | assumption | exact Nat.le_of_ble_eq_true rfl) only [s32_43, s32_44, ow_some, true_and, and_true, and_self, if_true, if_false, not_true, not_false_eq_true, Bool.false_eq_true, eq_self, Option.toList, List.cons_append, List.nil_append, ix_in, ix_cl, lt_in, lt_cl, lt_add, ix_one, vu_eq, vu_ne, arI_mk, arL_mk, arY_mZ, arY_mB, alen_mI, fld_sfl_ne, fld_sfl_same, Option.isSome_some, pok_i, b1z, b01, z10, b1o, Int32.zero_add, vu_vu, upd_eq, upd_ne, true_or, or_true, P4.v0, P4.v3, P4.v10, P4.v11, P4.v12, P4.v14, P4.v15, P4.v16, P4.v17, P4.v18, P4.r1, P4.r2, P4.r4, P4.r5, P4.r6, P4.r7, P4.r8, P4.r9, P4.r13, P4.a1, P4.a2, P4.a4, P4.a5, P4.a6, P4.a7, P4.a8, P4.a9, P4.a13]
        exact LO.er ((((s1.tr sj2).tr sj3).tr sj4).tr (SJ.up (by omega))) (E4.pl (fun a h => vu_ne (by omega)) P4.s2 h14 hm)
    · rw [if_neg t2]
      refine k32_22 G2.1.cn (Nat.le_of_ble_eq_true rfl) (G2.expN Z 2 (by decide) (by decide) t2) ?_
      rintro f3 n3 k3 v3 ⟨rfl, rfl, rfl, sj3, E3⟩
      simp only [Option.toList, List.nil_append]
      exact e25 _ _ q f3 (by omega) ((s1.tr sj2).tr sj3) E3
  · rw [if_neg t1]
    refine k32_15 G1.1.cn (Nat.le_of_ble_eq_true rfl) (G1.numN Z (lo := 0) (hi := nI S - 2) (by rw [i0.2.1, s2]; exact t1)) ?_
    rintro f2 n2 k2 v2 ⟨rfl, rfl, rfl, sj2, E2⟩
    simp only [Option.toList, List.cons_append, List.nil_append]
    exact e18 _ _ f2 _ (s1.tr sj2) E2
/-- a number told alone: quota and day -/
theorem sp_quotaLine (Z : TKS tx L c0 T kk pp) (G : GA f b L kk pp T tx c0 t c wt v r) (P : PN S A n fr ag v r) (hA : fr 52 = nI A) (hk : c.2.2.1 = 10) : TT X (d + 2) 31 100 [.ref 99] [] f N K (LO f b L kk pp T tx c0 t S N K (l_num tx L 2 1 9 c fr ag)) := by
  have i0 := i999
  simp (disch := first | omega | decide | assumption | exact Nat.le_of_ble_eq_true rfl) only [s31_100, ow_some, true_and, and_true, and_self, if_true, if_false, not_true, not_false_eq_true, Bool.false_eq_true, eq_self, Option.toList, List.cons_append, List.nil_append, ix_in, ix_cl, lt_in, lt_cl, lt_add, ix_one, vu_eq, vu_ne, arI_mk, arL_mk, arY_mZ, arY_mB, alen_mI, fld_sfl_ne, fld_sfl_same, Option.isSome_some, pok_i, b1z, b01, z10, b1o, Int32.zero_add, vu_vu, upd_eq, upd_ne, true_or, or_true]
  refine k31_101 G.1.cn (Nat.le_of_ble_eq_true rfl) (G.next Z (by rw [hk]; decide) (by rw [hk]; decide)) ?_
  rintro f1 n1 k1 v1 ⟨rfl, rfl, rfl, s1, G1⟩
  unfold l_num
  generalize nx tx L c = c1 at G1 ⊢
  have q6 := G1.1.r6
  simp (disch := first | omega | decide | assumption | exact Nat.le_of_ble_eq_true rfl) only [s31_104, s31_105, s31_108, s31_109, s31_110, ow_some, true_and, and_true, and_self, if_true, if_false, not_true, not_false_eq_true, Bool.false_eq_true, eq_self, Option.toList, List.cons_append, List.nil_append, ix_in, ix_cl, lt_in, lt_cl, lt_add, ix_one, vu_eq, vu_ne, arI_mk, arL_mk, arY_mZ, arY_mB, alen_mI, fld_sfl_ne, fld_sfl_same, Option.isSome_some, pok_i, b1z, b01, z10, b1o, Int32.zero_add, vu_vu, upd_eq, upd_ne, true_or, or_true, q6]
  by_cases t1 : tko c1 1 9 = true
  · rw [if_pos t1]
    refine k31_112 G1.1.cn (Nat.le_of_ble_eq_true rfl) (G1.num Z (lo := 1) (hi := 9) t1) ?_
    rintro f2 n2 k2 v2 ⟨rfl, rfl, rfl, s2, G2⟩
    have P2 := G2.1.pv
    have i10 := P2.i10
    simp (disch := first | omega | decide | assumption | exact Nat.le_of_ble_eq_true rfl) only [s31_115, s31_118, s31_162, ow_some, true_and, and_true, and_self, if_true, if_false, not_true, not_false_eq_true, Bool.false_eq_true, eq_self, Option.toList, List.cons_append, List.nil_append, ix_in, ix_cl, lt_in, lt_cl, lt_add, ix_one, vu_eq, vu_ne, arI_mk, arL_mk, arY_mZ, arY_mB, alen_mI, fld_sfl_ne, fld_sfl_same, Option.isSome_some, pok_i, b1z, b01, z10, b1o, Int32.zero_add, vu_vu, upd_eq, upd_ne, true_or, or_true, i10]
    exact LO.ok ((s1.tr s2).tr (SJ.up (by omega))) (by omega) ⟨G2.1.pl (fun a h => vu_ne (by omega)) (P2.set (i := 10) (by decide)) (upd_ne (by decide)), G2.2⟩ (P.one (Or.inr (Or.inl ⟨rfl, rfl⟩))) (by rw [upd_ne (by omega)]; exact hA)
  · rw [if_neg t1]
    refine k31_112 G1.1.cn (Nat.le_of_ble_eq_true rfl) (G1.numN Z (lo := 1) (hi := 9) t1) ?_
    rintro f2 n2 k2 v2 ⟨rfl, rfl, rfl, s2, E2⟩
    obtain ⟨w4, r4, m4, P4, h14, hm⟩ := E2.pv
    have i10 := P4.i10
    simp (disch := first | omega | decide | assumption | exact Nat.le_of_ble_eq_true rfl) only [s31_115, s31_118, s31_162, ow_some, true_and, and_true, and_self, if_true, if_false, not_true, not_false_eq_true, Bool.false_eq_true, eq_self, Option.toList, List.cons_append, List.nil_append, ix_in, ix_cl, lt_in, lt_cl, lt_add, ix_one, vu_eq, vu_ne, arI_mk, arL_mk, arY_mZ, arY_mB, alen_mI, fld_sfl_ne, fld_sfl_same, Option.isSome_some, pok_i, b1z, b01, z10, b1o, Int32.zero_add, vu_vu, upd_eq, upd_ne, true_or, or_true, i10]
    exact LO.er ((s1.tr s2).tr (SJ.up (by omega))) (E2.pl (fun a h => vu_ne (by omega)) (P4.set (i := 10) (by decide)) ((upd_ne (by decide)).trans h14) hm)
theorem sp_dayLine (Z : TKS tx L c0 T kk pp) (G : GA f b L kk pp T tx c0 t c wt v r) (P : PN S A n fr ag v r) (hA : fr 52 = nI A) (hk : c.2.2.1 = 13) : TT X (d + 2) 31 135 [.ref 99] [] f N K (LO f b L kk pp T tx c0 t S N K (l_num tx L 56 0 999 c fr ag)) := by
  have i0 := i999
  simp (disch := first | omega | decide | assumption | exact Nat.le_of_ble_eq_true rfl) only [s31_135, ow_some, true_and, and_true, and_self, if_true, if_false, not_true, not_false_eq_true, Bool.false_eq_true, eq_self, Option.toList, List.cons_append, List.nil_append, ix_in, ix_cl, lt_in, lt_cl, lt_add, ix_one, vu_eq, vu_ne, arI_mk, arL_mk, arY_mZ, arY_mB, alen_mI, fld_sfl_ne, fld_sfl_same, Option.isSome_some, pok_i, b1z, b01, z10, b1o, Int32.zero_add, vu_vu, upd_eq, upd_ne, true_or, or_true]
  refine k31_136 G.1.cn (Nat.le_of_ble_eq_true rfl) (G.next Z (by rw [hk]; decide) (by rw [hk]; decide)) ?_
  rintro f1 n1 k1 v1 ⟨rfl, rfl, rfl, s1, G1⟩
  unfold l_num
  generalize nx tx L c = c1 at G1 ⊢
  have q6 := G1.1.r6
  simp (disch := first | omega | decide | assumption | exact Nat.le_of_ble_eq_true rfl) only [s31_139, s31_140, s31_143, s31_144, s31_145, ow_some, true_and, and_true, and_self, if_true, if_false, not_true, not_false_eq_true, Bool.false_eq_true, eq_self, Option.toList, List.cons_append, List.nil_append, ix_in, ix_cl, lt_in, lt_cl, lt_add, ix_one, vu_eq, vu_ne, arI_mk, arL_mk, arY_mZ, arY_mB, alen_mI, fld_sfl_ne, fld_sfl_same, Option.isSome_some, pok_i, b1z, b01, z10, b1o, Int32.zero_add, vu_vu, upd_eq, upd_ne, true_or, or_true, q6]
  by_cases t1 : tko c1 0 999 = true
  · rw [if_pos t1]
    refine k31_148 G1.1.cn (Nat.le_of_ble_eq_true rfl) (G1.num Z (lo := 0) (hi := 999) t1) ?_
    rintro f2 n2 k2 v2 ⟨rfl, rfl, rfl, s2, G2⟩
    have P2 := G2.1.pv
    have i11 := P2.i11
    simp (disch := first | omega | decide | assumption | exact Nat.le_of_ble_eq_true rfl) only [s31_151, s31_154, s31_162, ow_some, true_and, and_true, and_self, if_true, if_false, not_true, not_false_eq_true, Bool.false_eq_true, eq_self, Option.toList, List.cons_append, List.nil_append, ix_in, ix_cl, lt_in, lt_cl, lt_add, ix_one, vu_eq, vu_ne, arI_mk, arL_mk, arY_mZ, arY_mB, alen_mI, fld_sfl_ne, fld_sfl_same, Option.isSome_some, pok_i, b1z, b01, z10, b1o, Int32.zero_add, vu_vu, upd_eq, upd_ne, true_or, or_true, i11]
    exact LO.ok ((s1.tr s2).tr (SJ.up (by omega))) (by omega) ⟨G2.1.pl (fun a h => vu_ne (by omega)) (P2.set (i := 11) (by decide)) (upd_ne (by decide)), G2.2⟩ (P.one (Or.inr (Or.inr (Or.inl ⟨rfl, rfl⟩)))) (by rw [upd_ne (by omega)]; exact hA)
  · rw [if_neg t1]
    refine k31_148 G1.1.cn (Nat.le_of_ble_eq_true rfl) (G1.numN Z (lo := 0) (hi := 999) t1) ?_
    rintro f2 n2 k2 v2 ⟨rfl, rfl, rfl, s2, E2⟩
    obtain ⟨w4, r4, m4, P4, h14, hm⟩ := E2.pv
    have i11 := P4.i11
    simp (disch := first | omega | decide | assumption | exact Nat.le_of_ble_eq_true rfl) only [s31_151, s31_154, s31_162, ow_some, true_and, and_true, and_self, if_true, if_false, not_true, not_false_eq_true, Bool.false_eq_true, eq_self, Option.toList, List.cons_append, List.nil_append, ix_in, ix_cl, lt_in, lt_cl, lt_add, ix_one, vu_eq, vu_ne, arI_mk, arL_mk, arY_mZ, arY_mB, alen_mI, fld_sfl_ne, fld_sfl_same, Option.isSome_some, pok_i, b1z, b01, z10, b1o, Int32.zero_add, vu_vu, upd_eq, upd_ne, true_or, or_true, i11]
    exact LO.er ((s1.tr s2).tr (SJ.up (by omega))) (E2.pl (fun a h => vu_ne (by omega)) (P4.set (i := 11) (by decide)) ((upd_ne (by decide)).trans h14) hm)
end RD

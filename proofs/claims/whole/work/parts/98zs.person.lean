/-! the class reads people, couples, laws, lines -/
def l_fin (R : Nat) (res : Lr) : Lr := match res with
  | .inr e => .inr e
  | .inl q => .inl (q.1, upd q.2.1 52 (nI (R + 1)), q.2.2)
section RD
variable {X : Nat × (Nat → Int32)} {d N K : Nat} {f f' : Nat → e_C} {b L T t t' : Nat} {kk pp v v' tx : Nat → Int32} {wt wt' : Int32} {r r' : Nat → Nat → Int32} {c0 c : Cu} {S A R n : Nat} {fr ag : Nat → Int32}
theorem sp_flag (Z : TKS tx L c0 T kk pp) (G : GA f b L kk pp T tx c0 t c wt v r) (P : PN S (R + 1) n fr ag v r) {res : Lr} (hf : l_flag tx L R c fr ag = some res) {u2 : Value} : TT X (d + 2) 34 0 [.ref 99, .int (nI R), u2] [] f N K (FO f b L kk pp T tx c0 (t + 1) S (R + 1) N K res) := by
  have hR : R < 9 := by have := P.1.2; omega
  have hkv := G.kv Z
  have k4 := G.k4 Z
  have e106 : (ck c = 106) = (c.2.2.1 = 6) := ck_is hkv.1 6 (by decide)
  have e107 : (ck c = 107) = (c.2.2.1 = 7) := ck_is hkv.1 7 (by decide)
  have hk : c.2.2.1 = 6 ∨ c.2.2.1 = 7 ∨ c.2.2.1 = 8 := by
    unfold l_flag at hf
    by_cases z6 : c.2.2.1 = 6
    · exact Or.inl z6
    · by_cases z7 : c.2.2.1 = 7
      · exact Or.inr (Or.inl z7)
      · by_cases z8 : c.2.2.1 = 8
        · exact Or.inr (Or.inr z8)
        · rw [if_neg z6, if_neg z7, if_neg z8] at hf; cases hf
  simp (disch := first | omega | decide | assumption | exact Nat.le_of_ble_eq_true rfl) only [s34_0, s34_1, s34_4, s34_5, ow_some, true_and, and_true, and_self, if_true, if_false, not_true, not_false_eq_true, Bool.false_eq_true, eq_self, Option.toList, List.cons_append, List.nil_append, ix_in, ix_cl, lt_in, lt_cl, lt_add, ix_one, vu_eq, vu_ne, arI_mk, arL_mk, arY_mZ, arY_mB, alen_mI, fld_sfl_ne, fld_sfl_same, Option.isSome_some, pok_i, b1z, b01, z10, b1o, Int32.zero_add, vu_vu, upd_eq, upd_ne, true_or, or_true, k4]
  refine k34_6 G.1.cn (Nat.le_of_ble_eq_true rfl) (G.next Z (by rcases hk with z | z | z <;> (rw [z]; decide)) (by rcases hk with z | z | z <;> (rw [z]; decide))) ?_
  rintro f1 n1 k1 v1 ⟨rfl, rfl, rfl, s1, G1⟩
  unfold l_flag at hf
  generalize nx tx L c = c1 at G1 hf
  have P1 := G1.1.pv
  have q6 := G1.1.r6
  rcases hk with hk | hk | hk
  · rw [if_pos hk] at hf
    have y6 : (c.2.2.1 = 6) = True := eq_true hk
    simp (disch := first | omega | decide | assumption | exact Nat.le_of_ble_eq_true rfl) only [s34_9, s34_10, s34_12, s34_15, s34_16, s34_19, s34_22, s34_23, s34_24, s34_25, ow_some, true_and, and_true, and_self, if_true, if_false, not_true, not_false_eq_true, Bool.false_eq_true, eq_self, Option.toList, List.cons_append, List.nil_append, ix_in, ix_cl, lt_in, lt_cl, lt_add, ix_one, vu_eq, vu_ne, arI_mk, arL_mk, arY_mZ, arY_mB, alen_mI, fld_sfl_ne, fld_sfl_same, Option.isSome_some, pok_i, b1z, b01, z10, b1o, Int32.zero_add, vu_vu, upd_eq, upd_ne, true_or, or_true, P1.v0, P1.v3, P1.v10, P1.v11, P1.v12, P1.v14, P1.v15, P1.v16, P1.v17, P1.v18, P1.r1, P1.r2, P1.r4, P1.r5, P1.r6, P1.r7, P1.r8, P1.r9, P1.r13, P1.a1, P1.a2, P1.a4, P1.a5, P1.a6, P1.a7, P1.a8, P1.a9, P1.a13, q6, e106, y6, ne_eq]
    by_cases t1 : tko c1 0 99 = true
    · rw [if_pos t1] at hf
      cases hf
      refine k34_27 G1.1.cn (Nat.le_of_ble_eq_true rfl) (G1.num Z (lo := 0) (hi := 99) t1) ?_
      rintro f2 n2 k2 v2 ⟨rfl, rfl, rfl, s2, G2⟩
      have P2 := G2.1.pv
      simp (disch := first | omega | decide | assumption | exact Nat.le_of_ble_eq_true rfl) only [s34_30, s34_31, s34_76, ow_some, true_and, and_true, and_self, if_true, if_false, not_true, not_false_eq_true, Bool.false_eq_true, eq_self, Option.toList, List.cons_append, List.nil_append, ix_in, ix_cl, lt_in, lt_cl, lt_add, ix_one, vu_eq, vu_ne, arI_mk, arL_mk, arY_mZ, arY_mB, alen_mI, fld_sfl_ne, fld_sfl_same, Option.isSome_some, pok_i, b1z, b01, z10, b1o, Int32.zero_add, vu_vu, upd_eq, upd_ne, true_or, or_true, P2.v0, P2.v3, P2.v10, P2.v11, P2.v12, P2.v14, P2.v15, P2.v16, P2.v17, P2.v18, P2.r1, P2.r2, P2.r4, P2.r5, P2.r6, P2.r7, P2.r8, P2.r9, P2.r13, P2.a1, P2.a2, P2.a4, P2.a5, P2.a6, P2.a7, P2.a8, P2.a9, P2.a13]
      exact FO.ok ((s1.tr s2).tr (SJ.up (by omega))) (by omega) ⟨G2.1.pl (fun a h => vu_ne (by omega)) P2.s6 rfl, G2.2⟩ P.age
    · rw [if_neg t1] at hf
      cases hf
      refine k34_27 G1.1.cn (Nat.le_of_ble_eq_true rfl) (G1.numN Z (lo := 0) (hi := 99) t1) ?_
      rintro f2 n2 k2 v2 ⟨rfl, rfl, rfl, s2, E2⟩
      obtain ⟨w4, r4, m4, P4, h14, hm⟩ := E2.pv
      simp (disch := first | omega | decide | assumption | exact Nat.le_of_ble_eq_true rfl) only [s34_30, s34_31, s34_76, ow_some, true_and, and_true, and_self, if_true, if_false, not_true, not_false_eq_true, Bool.false_eq_true, eq_self, Option.toList, List.cons_append, List.nil_append, ix_in, ix_cl, lt_in, lt_cl, lt_add, ix_one, vu_eq, vu_ne, arI_mk, arL_mk, arY_mZ, arY_mB, alen_mI, fld_sfl_ne, fld_sfl_same, Option.isSome_some, pok_i, b1z, b01, z10, b1o, Int32.zero_add, vu_vu, upd_eq, upd_ne, true_or, or_true, P4.v0, P4.v3, P4.v10, P4.v11, P4.v12, P4.v14, P4.v15, P4.v16, P4.v17, P4.v18, P4.r1, P4.r2, P4.r4, P4.r5, P4.r6, P4.r7, P4.r8, P4.r9, P4.r13, P4.a1, P4.a2, P4.a4, P4.a5, P4.a6, P4.a7, P4.a8, P4.a9, P4.a13]
      exact FO.er ((s1.tr s2).tr (SJ.up (by omega))) (E2.pl (fun a h => vu_ne (by omega)) P4.s6 h14 hm)
  · rw [if_neg (by rw [hk]; decide), if_pos hk] at hf
    have y6 : (c.2.2.1 = 6) = False := eq_false (by rw [hk]; decide)
    have y7 : (c.2.2.1 = 7) = True := eq_true hk
    simp (disch := first | omega | decide | assumption | exact Nat.le_of_ble_eq_true rfl) only [s34_9, s34_10, s34_12, s34_34, s34_35, s34_37, s34_40, s34_41, s34_44, s34_47, s34_48, s34_49, s34_50, ow_some, true_and, and_true, and_self, if_true, if_false, not_true, not_false_eq_true, Bool.false_eq_true, eq_self, Option.toList, List.cons_append, List.nil_append, ix_in, ix_cl, lt_in, lt_cl, lt_add, ix_one, vu_eq, vu_ne, arI_mk, arL_mk, arY_mZ, arY_mB, alen_mI, fld_sfl_ne, fld_sfl_same, Option.isSome_some, pok_i, b1z, b01, z10, b1o, Int32.zero_add, vu_vu, upd_eq, upd_ne, true_or, or_true, P1.v0, P1.v3, P1.v10, P1.v11, P1.v12, P1.v14, P1.v15, P1.v16, P1.v17, P1.v18, P1.r1, P1.r2, P1.r4, P1.r5, P1.r6, P1.r7, P1.r8, P1.r9, P1.r13, P1.a1, P1.a2, P1.a4, P1.a5, P1.a6, P1.a7, P1.a8, P1.a9, P1.a13, q6, e106, e107, y6, y7, ne_eq]
    by_cases t1 : tko c1 0 10 = true
    · rw [if_pos t1] at hf
      cases hf
      refine k34_52 G1.1.cn (Nat.le_of_ble_eq_true rfl) (G1.num Z (lo := 0) (hi := 10) t1) ?_
      rintro f2 n2 k2 v2 ⟨rfl, rfl, rfl, s2, G2⟩
      have P2 := G2.1.pv
      simp (disch := first | omega | decide | assumption | exact Nat.le_of_ble_eq_true rfl) only [s34_55, s34_56, s34_76, ow_some, true_and, and_true, and_self, if_true, if_false, not_true, not_false_eq_true, Bool.false_eq_true, eq_self, Option.toList, List.cons_append, List.nil_append, ix_in, ix_cl, lt_in, lt_cl, lt_add, ix_one, vu_eq, vu_ne, arI_mk, arL_mk, arY_mZ, arY_mB, alen_mI, fld_sfl_ne, fld_sfl_same, Option.isSome_some, pok_i, b1z, b01, z10, b1o, Int32.zero_add, vu_vu, upd_eq, upd_ne, true_or, or_true, P2.v0, P2.v3, P2.v10, P2.v11, P2.v12, P2.v14, P2.v15, P2.v16, P2.v17, P2.v18, P2.r1, P2.r2, P2.r4, P2.r5, P2.r6, P2.r7, P2.r8, P2.r9, P2.r13, P2.a1, P2.a2, P2.a4, P2.a5, P2.a6, P2.a7, P2.a8, P2.a9, P2.a13]
      exact FO.ok ((s1.tr s2).tr (SJ.up (by omega))) (by omega) ⟨G2.1.pl (fun a h => vu_ne (by omega)) P2.s7 rfl, G2.2⟩ (P.row hR (Or.inl ⟨rfl, rfl⟩))
    · rw [if_neg t1] at hf
      cases hf
      refine k34_52 G1.1.cn (Nat.le_of_ble_eq_true rfl) (G1.numN Z (lo := 0) (hi := 10) t1) ?_
      rintro f2 n2 k2 v2 ⟨rfl, rfl, rfl, s2, E2⟩
      obtain ⟨w4, r4, m4, P4, h14, hm⟩ := E2.pv
      simp (disch := first | omega | decide | assumption | exact Nat.le_of_ble_eq_true rfl) only [s34_55, s34_56, s34_76, ow_some, true_and, and_true, and_self, if_true, if_false, not_true, not_false_eq_true, Bool.false_eq_true, eq_self, Option.toList, List.cons_append, List.nil_append, ix_in, ix_cl, lt_in, lt_cl, lt_add, ix_one, vu_eq, vu_ne, arI_mk, arL_mk, arY_mZ, arY_mB, alen_mI, fld_sfl_ne, fld_sfl_same, Option.isSome_some, pok_i, b1z, b01, z10, b1o, Int32.zero_add, vu_vu, upd_eq, upd_ne, true_or, or_true, P4.v0, P4.v3, P4.v10, P4.v11, P4.v12, P4.v14, P4.v15, P4.v16, P4.v17, P4.v18, P4.r1, P4.r2, P4.r4, P4.r5, P4.r6, P4.r7, P4.r8, P4.r9, P4.r13, P4.a1, P4.a2, P4.a4, P4.a5, P4.a6, P4.a7, P4.a8, P4.a9, P4.a13]
      exact FO.er ((s1.tr s2).tr (SJ.up (by omega))) (E2.pl (fun a h => vu_ne (by omega)) P4.s7 h14 hm)
  · rw [if_neg (by rw [hk]; decide), if_neg (by rw [hk]; decide), if_pos hk] at hf
    have y6 : (c.2.2.1 = 6) = False := eq_false (by rw [hk]; decide)
    have y7 : (c.2.2.1 = 7) = False := eq_false (by rw [hk]; decide)
    simp (disch := first | omega | decide | assumption | exact Nat.le_of_ble_eq_true rfl) only [s34_9, s34_10, s34_12, s34_34, s34_35, s34_37, s34_59, s34_60, s34_63, s34_66, s34_67, s34_68, s34_69, ow_some, true_and, and_true, and_self, if_true, if_false, not_true, not_false_eq_true, Bool.false_eq_true, eq_self, Option.toList, List.cons_append, List.nil_append, ix_in, ix_cl, lt_in, lt_cl, lt_add, ix_one, vu_eq, vu_ne, arI_mk, arL_mk, arY_mZ, arY_mB, alen_mI, fld_sfl_ne, fld_sfl_same, Option.isSome_some, pok_i, b1z, b01, z10, b1o, Int32.zero_add, vu_vu, upd_eq, upd_ne, true_or, or_true, P1.v0, P1.v3, P1.v10, P1.v11, P1.v12, P1.v14, P1.v15, P1.v16, P1.v17, P1.v18, P1.r1, P1.r2, P1.r4, P1.r5, P1.r6, P1.r7, P1.r8, P1.r9, P1.r13, P1.a1, P1.a2, P1.a4, P1.a5, P1.a6, P1.a7, P1.a8, P1.a9, P1.a13, q6, e106, e107, y6, y7, ne_eq]
    by_cases t1 : tko c1 0 999 = true
    · rw [if_pos t1] at hf
      cases hf
      refine k34_72 G1.1.cn (Nat.le_of_ble_eq_true rfl) (G1.num Z (lo := 0) (hi := 999) t1) ?_
      rintro f2 n2 k2 v2 ⟨rfl, rfl, rfl, s2, G2⟩
      have P2 := G2.1.pv
      simp (disch := first | omega | decide | assumption | exact Nat.le_of_ble_eq_true rfl) only [s34_75, s34_76, ow_some, true_and, and_true, and_self, if_true, if_false, not_true, not_false_eq_true, Bool.false_eq_true, eq_self, Option.toList, List.cons_append, List.nil_append, ix_in, ix_cl, lt_in, lt_cl, lt_add, ix_one, vu_eq, vu_ne, arI_mk, arL_mk, arY_mZ, arY_mB, alen_mI, fld_sfl_ne, fld_sfl_same, Option.isSome_some, pok_i, b1z, b01, z10, b1o, Int32.zero_add, vu_vu, upd_eq, upd_ne, true_or, or_true, P2.v0, P2.v3, P2.v10, P2.v11, P2.v12, P2.v14, P2.v15, P2.v16, P2.v17, P2.v18, P2.r1, P2.r2, P2.r4, P2.r5, P2.r6, P2.r7, P2.r8, P2.r9, P2.r13, P2.a1, P2.a2, P2.a4, P2.a5, P2.a6, P2.a7, P2.a8, P2.a9, P2.a13]
      exact FO.ok ((s1.tr s2).tr (SJ.up (by omega))) (by omega) ⟨G2.1.pl (fun a h => vu_ne (by omega)) P2.s8 rfl, G2.2⟩ (P.row hR (Or.inr (Or.inl ⟨rfl, rfl⟩)))
    · rw [if_neg t1] at hf
      cases hf
      refine k34_72 G1.1.cn (Nat.le_of_ble_eq_true rfl) (G1.numN Z (lo := 0) (hi := 999) t1) ?_
      rintro f2 n2 k2 v2 ⟨rfl, rfl, rfl, s2, E2⟩
      obtain ⟨w4, r4, m4, P4, h14, hm⟩ := E2.pv
      simp (disch := first | omega | decide | assumption | exact Nat.le_of_ble_eq_true rfl) only [s34_75, s34_76, ow_some, true_and, and_true, and_self, if_true, if_false, not_true, not_false_eq_true, Bool.false_eq_true, eq_self, Option.toList, List.cons_append, List.nil_append, ix_in, ix_cl, lt_in, lt_cl, lt_add, ix_one, vu_eq, vu_ne, arI_mk, arL_mk, arY_mZ, arY_mB, alen_mI, fld_sfl_ne, fld_sfl_same, Option.isSome_some, pok_i, b1z, b01, z10, b1o, Int32.zero_add, vu_vu, upd_eq, upd_ne, true_or, or_true, P4.v0, P4.v3, P4.v10, P4.v11, P4.v12, P4.v14, P4.v15, P4.v16, P4.v17, P4.v18, P4.r1, P4.r2, P4.r4, P4.r5, P4.r6, P4.r7, P4.r8, P4.r9, P4.r13, P4.a1, P4.a2, P4.a4, P4.a5, P4.a6, P4.a7, P4.a8, P4.a9, P4.a13]
      exact FO.er ((s1.tr s2).tr (SJ.up (by omega))) (E2.pl (fun a h => vu_ne (by omega)) P4.s8 h14 hm)
theorem n3b : ((3 : Int32) = 106) = False ∧ ((3 : Int32) = 107) = False ∧ ((3 : Int32) = 108) = False := ⟨eq_false (by decide), eq_false (by decide), eq_false (by decide)⟩
/-- behind a fault the rest of a person's line changes nothing that counts -/
theorem GE.pers {w : Int32} {p g : Nat} (E : GE f b L kk pp T w p) (hg : g ≤ T) (hT : T ≤ 901) (s : SJ b f' f) {x : Int32} : TT X d 33 69 [.ref 99, .int x, .int (nI g)] [] f N K (LO f' b L kk pp T tx c0 t S N K (.inr (w, p))) := by
  obtain ⟨v2, r2, m2, P2, h14, hm⟩ := E.pv
  have v4 := E.v4
  have v2' := E.v2
  have q6 := E.r6
  have i3 := P2.i3
  have v3 := P2.v3
  obtain ⟨e1, e2, e3⟩ := n3b
  have cg : (T < g) = False := eq_false (by omega)
  simp (disch := first | omega | decide | assumption | exact Nat.le_of_ble_eq_true rfl) only [s33_69, s33_70, s33_71, s33_74, s33_77, s33_78, s33_81, s33_83, s33_86, s33_87, s33_90, s33_92, s33_95, s33_96, s33_99, s33_101, s33_115, s33_116, s33_119, s33_119i, s33_120, s33_123, s33_124, s33_125, s33_128, ow_some, true_and, and_true, and_self, if_true, if_false, not_true, not_false_eq_true, Bool.false_eq_true, eq_self, Option.toList, List.cons_append, List.nil_append, ix_in, ix_cl, lt_in, lt_cl, lt_add, ix_one, vu_eq, vu_ne, arI_mk, arL_mk, arY_mZ, arY_mB, alen_mI, fld_sfl_ne, fld_sfl_same, Option.isSome_some, pok_i, b1z, b01, z10, b1o, Int32.zero_add, vu_vu, upd_eq, upd_ne, true_or, or_true, v4, v2', q6, i3, v3, e1, e2, e3, ix_lt, cg, ne_eq]
  exact LO.er (s.tr (SJ.up (by omega))) (E.pl (fun a h => vu_ne (by omega)) (P2.set (i := 3) (by decide)) ((upd_ne (by decide)).trans h14) hm)
theorem sp_flagsC (Z : TKS tx L c0 T kk pp) {f0 : Nat → e_C} {t0 : Nat} : ∀ (k : Nat) (f : Nat → e_C) (t g : Nat) (c : Cu) (wt : Int32) (fr ag v : Nat → Int32) (r : Nat → Nat → Int32) (n : Nat) (res : Lr), GA f b L kk pp T tx c0 t c wt v r → PN S (R + 1) n fr ag v r → fr 52 = nI R → g ≤ t → t0 ≤ t → SJ b f0 f → l_flags tx L R k c fr ag = some res → TT X (d + 3) 33 69 [.ref 99, .int (nI R), .int (nI g)] [] f N K (LO f0 b L kk pp T tx c0 t0 S N K (l_fin R res)) := by
  have hT : T ≤ 901 := by have := Z.1.2.1; have := Z.1.2.2; omega
  intro k
  induction k with
  | zero => intro f t g c wt fr ag v r n res G P h52 hg ht0 s hf; cases hf
  | succ k ih =>
    intro f t g c wt fr ag v r n res G P h52 hg ht0 s hf
    have hR : R < 9 := by have := P.1.2; omega
    have htT := G.2.1
    have hkv := G.kv Z
    have k4 := G.k4 Z
    have v2 := G.1.v2
    have cg : (T < g) = False := eq_false (by omega)
    have e106 : (ck c = 106) = (c.2.2.1 = 6) := ck_is hkv.1 6 (by decide)
    have e107 : (ck c = 107) = (c.2.2.1 = 7) := ck_is hkv.1 7 (by decide)
    have e108 : (ck c = 108) = (c.2.2.1 = 8) := ck_is hkv.1 8 (by decide)
    rw [l_flags] at hf
    cases hq : l_flag tx L R c fr ag with
    | none =>
      rw [hq] at hf
      cases hf
      have h678 : (c.2.2.1 = 6) = False ∧ (c.2.2.1 = 7) = False ∧ (c.2.2.1 = 8) = False := by
        unfold l_flag at hq
        refine ⟨eq_false (fun z => ?_), eq_false (fun z => ?_), eq_false (fun z => ?_)⟩
        · rw [if_pos z] at hq; cases hq
        · rw [if_neg (by rw [z]; decide), if_pos z] at hq; cases hq
        · rw [if_neg (by rw [z]; decide), if_neg (by rw [z]; decide), if_pos z] at hq; cases hq
      obtain ⟨y6, y7, y8⟩ := h678
      have P2 := G.1.pv
      have q6 := G.1.r6
      have i3 := P2.i3
      have v3 := P2.v3
      have e3 : v 3 = nI R := P.2.1.2.1.trans h52
      simp (disch := first | omega | decide | assumption | exact Nat.le_of_ble_eq_true rfl) only [s33_69, s33_70, s33_71, s33_74, s33_77, s33_78, s33_81, s33_83, s33_86, s33_87, s33_90, s33_92, s33_95, s33_96, s33_99, s33_101, s33_115, s33_116, s33_119, s33_119i, s33_120, s33_123, s33_124, s33_125, s33_128, ow_some, true_and, and_true, and_self, if_true, if_false, not_true, not_false_eq_true, Bool.false_eq_true, eq_self, Option.toList, List.cons_append, List.nil_append, ix_in, ix_cl, lt_in, lt_cl, lt_add, ix_one, vu_eq, vu_ne, arI_mk, arL_mk, arY_mZ, arY_mB, alen_mI, fld_sfl_ne, fld_sfl_same, Option.isSome_some, pok_i, b1z, b01, z10, b1o, Int32.zero_add, vu_vu, upd_eq, upd_ne, true_or, or_true, k4, v2, q6, i3, v3, e3, e106, e107, e108, y6, y7, y8, ix_lt, cg, ne_eq]
      exact LO.ok (s.tr (SJ.up (by omega))) ht0 ⟨G.1.pl (fun a h => vu_ne (by omega)) (P2.set (i := 3) (by decide)) (upd_ne (by decide)), G.2⟩ (P.one (Or.inr (Or.inr (Or.inr ⟨rfl, rfl⟩)))) upd_eq
    | some res1 =>
      rw [hq] at hf
      have main : TT X (d + 3) 33 104 [.ref 99, .int (nI R), .int (nI g)] [] f N K (LO f0 b L kk pp T tx c0 t0 S N K (l_fin R res)) := by
        simp (disch := first | omega | decide | assumption | exact Nat.le_of_ble_eq_true rfl) only [s33_104, s33_105, ow_some, true_and, and_true, and_self, if_true, if_false, not_true, not_false_eq_true, Bool.false_eq_true, eq_self, Option.toList, List.cons_append, List.nil_append, ix_in, ix_cl, lt_in, lt_cl, lt_add, ix_one, vu_eq, vu_ne, arI_mk, arL_mk, arY_mZ, arY_mB, alen_mI, fld_sfl_ne, fld_sfl_same, Option.isSome_some, pok_i, b1z, b01, z10, b1o, Int32.zero_add, vu_vu, upd_eq, upd_ne, true_or, or_true]
        refine k33_106 G.1.cn (Nat.le_of_ble_eq_true rfl) (sp_flag (d := d) Z G P hq) ?_
        rintro f1 n1 k1 v1 ⟨rfl, rfl, rfl, s1, ho, he⟩
        simp (disch := first | omega | decide | assumption | exact Nat.le_of_ble_eq_true rfl) only [s33_109, h33_112, ow_some, true_and, and_true, and_self, if_true, if_false, not_true, not_false_eq_true, Bool.false_eq_true, eq_self, Option.toList, List.cons_append, List.nil_append, ix_in, ix_cl, lt_in, lt_cl, lt_add, ix_one, vu_eq, vu_ne, arI_mk, arL_mk, arY_mZ, arY_mB, alen_mI, fld_sfl_ne, fld_sfl_same, Option.isSome_some, pok_i, b1z, b01, z10, b1o, Int32.zero_add, vu_vu, upd_eq, upd_ne, true_or, or_true]
        rcases res1 with ⟨c1, fr1, ag1⟩ | ⟨w, p⟩
        · obtain ⟨t1, wt1, v1, r1, m1, q1, G1, P1⟩ := ho _ _ _ rfl
          have hf' : l_flags tx L R k c1 fr1 ag1 = some res := hf
          exact ih f1 t1 (g + 1) c1 wt1 fr1 ag1 v1 r1 m1 res G1 P1 (by rw [flag_52 hR hq]; exact h52) (by omega) (by omega) (s.tr s1) hf'
        · cases hf
          have E1 := he _ _ rfl
          exact E1.pers (by omega) hT (s.tr s1)
      have hk : c.2.2.1 = 6 ∨ c.2.2.1 = 7 ∨ c.2.2.1 = 8 := by
        unfold l_flag at hq
        by_cases z6 : c.2.2.1 = 6
        · exact Or.inl z6
        · by_cases z7 : c.2.2.1 = 7
          · exact Or.inr (Or.inl z7)
          · by_cases z8 : c.2.2.1 = 8
            · exact Or.inr (Or.inr z8)
            · rw [if_neg z6, if_neg z7, if_neg z8] at hq; cases hq
      rcases hk with hk | hk | hk
      · have y6 : (c.2.2.1 = 6) = True := eq_true hk
        simp (disch := first | omega | decide | assumption | exact Nat.le_of_ble_eq_true rfl) only [s33_69, s33_70, s33_71, s33_74, s33_77, s33_78, s33_81, s33_83, ow_some, true_and, and_true, and_self, if_true, if_false, not_true, not_false_eq_true, Bool.false_eq_true, eq_self, Option.toList, List.cons_append, List.nil_append, ix_in, ix_cl, lt_in, lt_cl, lt_add, ix_one, vu_eq, vu_ne, arI_mk, arL_mk, arY_mZ, arY_mB, alen_mI, fld_sfl_ne, fld_sfl_same, Option.isSome_some, pok_i, b1z, b01, z10, b1o, Int32.zero_add, vu_vu, upd_eq, upd_ne, true_or, or_true, k4, v2, e106, y6, ix_lt, cg, ne_eq]
        exact main
      · have y6 : (c.2.2.1 = 6) = False := eq_false (by rw [hk]; decide)
        have y7 : (c.2.2.1 = 7) = True := eq_true hk
        simp (disch := first | omega | decide | assumption | exact Nat.le_of_ble_eq_true rfl) only [s33_69, s33_70, s33_71, s33_74, s33_77, s33_78, s33_81, s33_83, s33_86, s33_87, s33_90, s33_92, ow_some, true_and, and_true, and_self, if_true, if_false, not_true, not_false_eq_true, Bool.false_eq_true, eq_self, Option.toList, List.cons_append, List.nil_append, ix_in, ix_cl, lt_in, lt_cl, lt_add, ix_one, vu_eq, vu_ne, arI_mk, arL_mk, arY_mZ, arY_mB, alen_mI, fld_sfl_ne, fld_sfl_same, Option.isSome_some, pok_i, b1z, b01, z10, b1o, Int32.zero_add, vu_vu, upd_eq, upd_ne, true_or, or_true, k4, v2, e106, e107, y6, y7, ix_lt, cg, ne_eq]
        exact main
      · have y6 : (c.2.2.1 = 6) = False := eq_false (by rw [hk]; decide)
        have y7 : (c.2.2.1 = 7) = False := eq_false (by rw [hk]; decide)
        have y8 : (c.2.2.1 = 8) = True := eq_true hk
        simp (disch := first | omega | decide | assumption | exact Nat.le_of_ble_eq_true rfl) only [s33_69, s33_70, s33_71, s33_74, s33_77, s33_78, s33_81, s33_83, s33_86, s33_87, s33_90, s33_92, s33_95, s33_96, s33_99, s33_101, ow_some, true_and, and_true, and_self, if_true, if_false, not_true, not_false_eq_true, Bool.false_eq_true, eq_self, Option.toList, List.cons_append, List.nil_append, ix_in, ix_cl, lt_in, lt_cl, lt_add, ix_one, vu_eq, vu_ne, arI_mk, arL_mk, arY_mZ, arY_mB, alen_mI, fld_sfl_ne, fld_sfl_same, Option.isSome_some, pok_i, b1z, b01, z10, b1o, Int32.zero_add, vu_vu, upd_eq, upd_ne, true_or, or_true, k4, v2, e106, e107, e108, y6, y7, y8, ix_lt, cg, ne_eq]
        exact main
theorem sp_personLine (Z : TKS tx L c0 T kk pp) {k : Nat} {res : Lr} (G : GA f b L kk pp T tx c0 t c wt v r) (P : PN S R n fr ag v r) (h1 : 1 ≤ S) (hS : fr 1 = nI S) (hR : fr 52 = nI R) (hk : c.2.2.1 = 3) (hr : l_person tx L S R k c fr ag = some res) {u2 : Value} : TT X (d + 3) 33 0 [.ref 99, .int (nI R), u2] [] f N K (LO f b L kk pp T tx c0 t S N K res) := by
  have hT : T ≤ 901 := by have := Z.1.2.1; have := Z.1.2.2; omega
  obtain ⟨-, s2⟩ := s_2 S (by have := P.1.1; omega) h1
  have i0 := i999
  have hR9 := P.1.2
  unfold l_person at hr
  by_cases h9 : R = 9
  · rw [if_pos h9] at hr
    cases hr
    have c9 : (R < 9) = False := eq_false (by omega)
    simp (disch := first | omega | decide | assumption | exact Nat.le_of_ble_eq_true rfl) only [s33_0, s33_1, s33_3, s33_6, s33_7, ow_some, true_and, and_true, and_self, if_true, if_false, not_true, not_false_eq_true, Bool.false_eq_true, eq_self, Option.toList, List.cons_append, List.nil_append, ix_in, ix_cl, lt_in, lt_cl, lt_add, ix_one, vu_eq, vu_ne, arI_mk, arL_mk, arY_mZ, arY_mB, alen_mI, fld_sfl_ne, fld_sfl_same, Option.isSome_some, pok_i, b1z, b01, z10, b1o, Int32.zero_add, vu_vu, upd_eq, upd_ne, true_or, or_true, tl_lt, c9]
    refine k33_8 G.1.cn (Nat.le_of_ble_eq_true rfl) (G.fail Z (w := 4) (by decide)) ?_
    rintro f1 n1 k1 v1 ⟨rfl, rfl, rfl, s1, E1⟩
    simp (disch := first | omega | decide | assumption | exact Nat.le_of_ble_eq_true rfl) only [s33_11, ow_some, true_and, and_true, and_self, if_true, if_false, not_true, not_false_eq_true, Bool.false_eq_true, eq_self, Option.toList, List.cons_append, List.nil_append, ix_in, ix_cl, lt_in, lt_cl, lt_add, ix_one, vu_eq, vu_ne, arI_mk, arL_mk, arY_mZ, arY_mB, alen_mI, fld_sfl_ne, fld_sfl_same, Option.isSome_some, pok_i, b1z, b01, z10, b1o, Int32.zero_add, vu_vu, upd_eq, upd_ne, true_or, or_true]
    exact LO.er s1 E1
  · rw [if_neg h9] at hr
    have c9 : (R < 9) = True := eq_true (by omega)
    simp (disch := first | omega | decide | assumption | exact Nat.le_of_ble_eq_true rfl) only [s33_0, s33_1, s33_3, s33_12, ow_some, true_and, and_true, and_self, if_true, if_false, not_true, not_false_eq_true, Bool.false_eq_true, eq_self, Option.toList, List.cons_append, List.nil_append, ix_in, ix_cl, lt_in, lt_cl, lt_add, ix_one, vu_eq, vu_ne, arI_mk, arL_mk, arY_mZ, arY_mB, alen_mI, fld_sfl_ne, fld_sfl_same, Option.isSome_some, pok_i, b1z, b01, z10, b1o, Int32.zero_add, vu_vu, upd_eq, upd_ne, true_or, or_true, tl_lt, c9]
    refine k33_13 G.1.cn (Nat.le_of_ble_eq_true rfl) (G.next Z (by rw [hk]; decide) (by rw [hk]; decide)) ?_
    rintro f1 n1 k1 v1 ⟨rfl, rfl, rfl, s1, G1⟩
    generalize nx tx L c = c1 at G1 hr
    -- wrong behind the build's word
    have e66 : ∀ (w : Int32) (p : Nat) f' u, SJ b f f' → GE f' b L kk pp T w p → TT X (d + 3) 33 66 [.ref 99, .int (nI R), u] [.int 0, .int (nI R), .ref (b + 2 + 4)] f' n1 k1 (LO f b L kk pp T tx c0 t S n1 k1 (.inr (w, p))) := by
      intro w p f' u s E
      obtain ⟨v2, r2, m2, P2, h14, hm⟩ := E.pv
      simp (disch := first | omega | decide | assumption | exact Nat.le_of_ble_eq_true rfl) only [s33_66, s33_67, h33_68, ow_some, true_and, and_true, and_self, if_true, if_false, not_true, not_false_eq_true, Bool.false_eq_true, eq_self, Option.toList, List.cons_append, List.nil_append, ix_in, ix_cl, lt_in, lt_cl, lt_add, ix_one, vu_eq, vu_ne, arI_mk, arL_mk, arY_mZ, arY_mB, alen_mI, fld_sfl_ne, fld_sfl_same, Option.isSome_some, pok_i, b1z, b01, z10, b1o, Int32.zero_add, vu_vu, upd_eq, upd_ne, true_or, or_true, P2.v0, P2.v3, P2.v10, P2.v11, P2.v12, P2.v14, P2.v15, P2.v16, P2.v17, P2.v18, P2.r1, P2.r2, P2.r4, P2.r5, P2.r6, P2.r7, P2.r8, P2.r9, P2.r13, P2.a1, P2.a2, P2.a4, P2.a5, P2.a6, P2.a7, P2.a8, P2.a9, P2.a13]
      have E2 := E.pl (fun a h => vu_ne (by omega)) (P2.s5 (g := upd (r2 5) R 0)) h14 hm
      rw [z0i]
      exact E2.pers (by omega) hT (s.tr (SJ.up (by omega)))
    have e51 : ∀ (w : Int32) (p : Nat) f' u, SJ b f f' → GE f' b L kk pp T w p → TT X (d + 3) 33 51 [.ref 99, .int (nI R), u] [] f' n1 k1 (LO f b L kk pp T tx c0 t S n1 k1 (.inr (w, p))) := by
      intro w p f' u s E
      obtain ⟨v2, r2, m2, P2, h14, hm⟩ := E.pv
      have q6 := E.r6
      simp (disch := first | omega | decide | assumption | exact Nat.le_of_ble_eq_true rfl) only [s33_51, s33_52, s33_55, s33_58, s33_59, s33_60, s33_61, ow_some, true_and, and_true, and_self, if_true, if_false, not_true, not_false_eq_true, Bool.false_eq_true, eq_self, Option.toList, List.cons_append, List.nil_append, ix_in, ix_cl, lt_in, lt_cl, lt_add, ix_one, vu_eq, vu_ne, arI_mk, arL_mk, arY_mZ, arY_mB, alen_mI, fld_sfl_ne, fld_sfl_same, Option.isSome_some, pok_i, b1z, b01, z10, b1o, Int32.zero_add, vu_vu, upd_eq, upd_ne, true_or, or_true, P2.v0, P2.v3, P2.v10, P2.v11, P2.v12, P2.v14, P2.v15, P2.v16, P2.v17, P2.v18, P2.r1, P2.r2, P2.r4, P2.r5, P2.r6, P2.r7, P2.r8, P2.r9, P2.r13, P2.a1, P2.a2, P2.a4, P2.a5, P2.a6, P2.a7, P2.a8, P2.a9, P2.a13, q6]
      rw [p33_63 E.cn (Nat.le_of_ble_eq_true rfl) E.num]
      simp only [Option.toList, List.cons_append, List.nil_append]
      exact e66 w p f' u s E
    have e44 : ∀ (w : Int32) (p : Nat) f' u, SJ b f f' → GE f' b L kk pp T w p → TT X (d + 3) 33 44 [.ref 99, .int (nI R), u] [.int 0, .int (nI R), .ref (b + 2 + 3)] f' n1 k1 (LO f b L kk pp T tx c0 t S n1 k1 (.inr (w, p))) := by
      intro w p f' u s E
      obtain ⟨v2, r2, m2, P2, h14, hm⟩ := E.pv
      simp (disch := first | omega | decide | assumption | exact Nat.le_of_ble_eq_true rfl) only [s33_44, s33_45, s33_46, ow_some, true_and, and_true, and_self, if_true, if_false, not_true, not_false_eq_true, Bool.false_eq_true, eq_self, Option.toList, List.cons_append, List.nil_append, ix_in, ix_cl, lt_in, lt_cl, lt_add, ix_one, vu_eq, vu_ne, arI_mk, arL_mk, arY_mZ, arY_mB, alen_mI, fld_sfl_ne, fld_sfl_same, Option.isSome_some, pok_i, b1z, b01, z10, b1o, Int32.zero_add, vu_vu, upd_eq, upd_ne, true_or, or_true, P2.v0, P2.v3, P2.v10, P2.v11, P2.v12, P2.v14, P2.v15, P2.v16, P2.v17, P2.v18, P2.r1, P2.r2, P2.r4, P2.r5, P2.r6, P2.r7, P2.r8, P2.r9, P2.r13, P2.a1, P2.a2, P2.a4, P2.a5, P2.a6, P2.a7, P2.a8, P2.a9, P2.a13]
      have E2 := E.pl (fun a h => vu_ne (by omega)) (P2.s4 (g := upd (r2 4) R 0)) h14 hm
      rw [p33_48 E2.cn (Nat.le_of_ble_eq_true rfl) (E2.exp (by decide))]
      simp only [Option.toList, List.nil_append]
      exact e51 w p _ u (s.tr (SJ.up (by omega))) E2
    have e22 : ∀ (w : Int32) (p : Nat) f' u, SJ b f f' → GE f' b L kk pp T w p → TT X (d + 3) 33 22 [.ref 99, .int (nI R), u] [] f' n1 k1 (LO f b L kk pp T tx c0 t S n1 k1 (.inr (w, p))) := by
      intro w p f' u s E
      obtain ⟨v2, r2, m2, P2, h14, hm⟩ := E.pv
      have q6 := E.r6
      simp (disch := first | omega | decide | assumption | exact Nat.le_of_ble_eq_true rfl) only [s33_22, s33_23, s33_26, s33_29, s33_30, s33_31, s33_32, s33_33, s33_36, s33_39, s33_40, ow_some, true_and, and_true, and_self, if_true, if_false, not_true, not_false_eq_true, Bool.false_eq_true, eq_self, Option.toList, List.cons_append, List.nil_append, ix_in, ix_cl, lt_in, lt_cl, lt_add, ix_one, vu_eq, vu_ne, arI_mk, arL_mk, arY_mZ, arY_mB, alen_mI, fld_sfl_ne, fld_sfl_same, Option.isSome_some, pok_i, b1z, b01, z10, b1o, Int32.zero_add, vu_vu, upd_eq, upd_ne, true_or, or_true, P2.v0, P2.v3, P2.v10, P2.v11, P2.v12, P2.v14, P2.v15, P2.v16, P2.v17, P2.v18, P2.r1, P2.r2, P2.r4, P2.r5, P2.r6, P2.r7, P2.r8, P2.r9, P2.r13, P2.a1, P2.a2, P2.a4, P2.a5, P2.a6, P2.a7, P2.a8, P2.a9, P2.a13, q6]
      rw [p33_41 E.cn (Nat.le_of_ble_eq_true rfl) E.num]
      simp only [Option.toList, List.cons_append, List.nil_append]
      exact e44 w p f' u s E
    simp (disch := first | omega | decide | assumption | exact Nat.le_of_ble_eq_true rfl) only [s33_16, s33_17, ow_some, true_and, and_true, and_self, if_true, if_false, not_true, not_false_eq_true, Bool.false_eq_true, eq_self, Option.toList, List.cons_append, List.nil_append, ix_in, ix_cl, lt_in, lt_cl, lt_add, ix_one, vu_eq, vu_ne, arI_mk, arL_mk, arY_mZ, arY_mB, alen_mI, fld_sfl_ne, fld_sfl_same, Option.isSome_some, pok_i, b1z, b01, z10, b1o, Int32.zero_add, vu_vu, upd_eq, upd_ne, true_or, or_true]
    by_cases t1 : c1.2.2.1 = 4
    · rw [if_pos t1] at hr
      refine k33_19 G1.1.cn (Nat.le_of_ble_eq_true rfl) (G1.exp Z 4 (by decide) (by decide) (by decide) t1) ?_
      rintro f2 n2 k2 v2 ⟨rfl, rfl, rfl, sj2, G2⟩
      generalize nx tx L c1 = c2 at G2 hr
      have P2 := G2.1.pv
      have q6 := G2.1.r6
      have e0 : v 0 = nI S := P.2.1.1.trans hS
      simp (disch := first | omega | decide | assumption | exact Nat.le_of_ble_eq_true rfl) only [s33_22, s33_23, s33_26, s33_29, s33_30, s33_31, s33_32, s33_33, s33_36, s33_39, s33_40, ow_some, true_and, and_true, and_self, if_true, if_false, not_true, not_false_eq_true, Bool.false_eq_true, eq_self, Option.toList, List.cons_append, List.nil_append, ix_in, ix_cl, lt_in, lt_cl, lt_add, ix_one, vu_eq, vu_ne, arI_mk, arL_mk, arY_mZ, arY_mB, alen_mI, fld_sfl_ne, fld_sfl_same, Option.isSome_some, pok_i, b1z, b01, z10, b1o, Int32.zero_add, vu_vu, upd_eq, upd_ne, true_or, or_true, P2.v0, P2.v3, P2.v10, P2.v11, P2.v12, P2.v14, P2.v15, P2.v16, P2.v17, P2.v18, P2.r1, P2.r2, P2.r4, P2.r5, P2.r6, P2.r7, P2.r8, P2.r9, P2.r13, P2.a1, P2.a2, P2.a4, P2.a5, P2.a6, P2.a7, P2.a8, P2.a9, P2.a13, q6, e0]
      by_cases t2 : tko c2 0 ((S : Int) - 1) = true
      · rw [if_pos t2] at hr
        refine k33_41 G2.1.cn (Nat.le_of_ble_eq_true rfl) (G2.num Z (lo := 0) (hi := nI S - 1) (by rw [i0.2.1, s2]; exact t2)) ?_
        rintro f3 n3 k3 v3 ⟨rfl, rfl, rfl, sj3, G3⟩
        generalize nx tx L c2 = c3 at G3 hr
        have P3 := G3.1.pv
        simp (disch := first | omega | decide | assumption | exact Nat.le_of_ble_eq_true rfl) only [s33_44, s33_45, s33_46, ow_some, true_and, and_true, and_self, if_true, if_false, not_true, not_false_eq_true, Bool.false_eq_true, eq_self, Option.toList, List.cons_append, List.nil_append, ix_in, ix_cl, lt_in, lt_cl, lt_add, ix_one, vu_eq, vu_ne, arI_mk, arL_mk, arY_mZ, arY_mB, alen_mI, fld_sfl_ne, fld_sfl_same, Option.isSome_some, pok_i, b1z, b01, z10, b1o, Int32.zero_add, vu_vu, upd_eq, upd_ne, true_or, or_true, P3.v0, P3.v3, P3.v10, P3.v11, P3.v12, P3.v14, P3.v15, P3.v16, P3.v17, P3.v18, P3.r1, P3.r2, P3.r4, P3.r5, P3.r6, P3.r7, P3.r8, P3.r9, P3.r13, P3.a1, P3.a2, P3.a4, P3.a5, P3.a6, P3.a7, P3.a8, P3.a9, P3.a13]
        have G3' : GA (va_up f3 (b + 2 + 3) (.inl (.int, 9, .inl (upd (r 4) R c2.2.2.2)))) b L kk pp T tx c0 (t + 1 + 1 + 1) c3 wt v (up2 r 4 (upd (r 4) R c2.2.2.2)) := ⟨G3.1.pl (fun a h => vu_ne (by omega)) P3.s4 rfl, G3.2⟩
        have sj3' : SJ b f (va_up f3 (b + 2 + 3) (.inl (.int, 9, .inl (upd (r 4) R c2.2.2.2)))) := ((s1.tr sj2).tr sj3).tr (SJ.up (by omega))
        generalize va_up f3 (b + 2 + 3) (.inl (.int, 9, .inl (upd (r 4) R c2.2.2.2))) = f3' at G3' sj3' ⊢
        by_cases t3 : c3.2.2.1 = 5
        · rw [if_pos t3] at hr
          refine k33_48 G3'.1.cn (Nat.le_of_ble_eq_true rfl) (G3'.exp Z 5 (by decide) (by decide) (by decide) t3) ?_
          rintro f4 n4 k4 v4 ⟨rfl, rfl, rfl, sj4, G4⟩
          generalize nx tx L c3 = c4 at G4 hr
          have P4 := G4.1.pv
          have q64 := G4.1.r6
          simp (disch := first | omega | decide | assumption | exact Nat.le_of_ble_eq_true rfl) only [s33_51, s33_52, s33_55, s33_58, s33_59, s33_60, s33_61, ow_some, true_and, and_true, and_self, if_true, if_false, not_true, not_false_eq_true, Bool.false_eq_true, eq_self, Option.toList, List.cons_append, List.nil_append, ix_in, ix_cl, lt_in, lt_cl, lt_add, ix_one, vu_eq, vu_ne, arI_mk, arL_mk, arY_mZ, arY_mB, alen_mI, fld_sfl_ne, fld_sfl_same, Option.isSome_some, pok_i, b1z, b01, z10, b1o, Int32.zero_add, vu_vu, upd_eq, upd_ne, true_or, or_true, P4.v0, P4.v3, P4.v10, P4.v11, P4.v12, P4.v14, P4.v15, P4.v16, P4.v17, P4.v18, P4.r1, P4.r2, P4.r4, P4.r5, P4.r6, P4.r7, P4.r8, P4.r9, P4.r13, P4.a1, P4.a2, P4.a4, P4.a5, P4.a6, P4.a7, P4.a8, P4.a9, P4.a13, q64]
          by_cases t4 : tko c4 0 99 = true
          · rw [if_pos t4] at hr
            refine k33_63 G4.1.cn (Nat.le_of_ble_eq_true rfl) (G4.num Z (lo := 0) (hi := 99) t4) ?_
            rintro f5 n5 k5 v5 ⟨rfl, rfl, rfl, sj5, G5⟩
            generalize nx tx L c4 = c5 at G5 hr
            have P5 := G5.1.pv
            simp (disch := first | omega | decide | assumption | exact Nat.le_of_ble_eq_true rfl) only [s33_66, s33_67, h33_68, ow_some, true_and, and_true, and_self, if_true, if_false, not_true, not_false_eq_true, Bool.false_eq_true, eq_self, Option.toList, List.cons_append, List.nil_append, ix_in, ix_cl, lt_in, lt_cl, lt_add, ix_one, vu_eq, vu_ne, arI_mk, arL_mk, arY_mZ, arY_mB, alen_mI, fld_sfl_ne, fld_sfl_same, Option.isSome_some, pok_i, b1z, b01, z10, b1o, Int32.zero_add, vu_vu, upd_eq, upd_ne, true_or, or_true, P5.v0, P5.v3, P5.v10, P5.v11, P5.v12, P5.v14, P5.v15, P5.v16, P5.v17, P5.v18, P5.r1, P5.r2, P5.r4, P5.r5, P5.r6, P5.r7, P5.r8, P5.r9, P5.r13, P5.a1, P5.a2, P5.a4, P5.a5, P5.a6, P5.a7, P5.a8, P5.a9, P5.a13, up2_ne]
            have G5' : GA (va_up f5 (b + 2 + 4) (.inl (.int, 9, .inl (upd (r 5) R c4.2.2.2)))) b L kk pp T tx c0 (t + 1 + 1 + 1 + 1 + 1) c5 wt v (up2 (up2 r 4 (upd (r 4) R c2.2.2.2)) 5 (upd (r 5) R c4.2.2.2)) := ⟨G5.1.pl (fun a h => vu_ne (by omega)) P5.s5 rfl, G5.2⟩
            have sj5' : SJ b f (va_up f5 (b + 2 + 4) (.inl (.int, 9, .inl (upd (r 5) R c4.2.2.2)))) := ((sj3'.tr sj4).tr sj5).tr (SJ.up (by omega))
            generalize va_up f5 (b + 2 + 4) (.inl (.int, 9, .inl (upd (r 5) R c4.2.2.2))) = f5' at G5' sj5' ⊢
            have h52 : upd (upd fr (57 + R) c2.2.2.2) (66 + R) c4.2.2.2 52 = nI R := by rw [upd_ne (by omega), upd_ne (by omega)]; exact hR
            cases hq : l_flags tx L R k c5 (upd (upd fr (57 + R) c2.2.2.2) (66 + R) c4.2.2.2) (upd ag R 0) with
            | none => rw [hq] at hr; cases hr
            | some rq =>
              have main := sp_flagsC (X := X) (d := d) (N := n5) (K := k5) Z (f0 := f) (t0 := t) k f5' (t + 1 + 1 + 1 + 1 + 1) 0 c5 wt _ _ v _ n rq G5' (P.person (x := c2.2.2.2) (y := c4.2.2.2) (by omega)) h52 (by omega) (by omega) sj5' hq
              have hres : res = l_fin R rq := by
                rw [hq] at hr
                rcases rq with q | e
                · exact (Option.some.inj hr).symm
                · exact (Option.some.inj hr).symm
              rw [hres, z0i]
              exact main
          · rw [if_neg t4] at hr
            cases hr
            refine k33_63 G4.1.cn (Nat.le_of_ble_eq_true rfl) (G4.numN Z (lo := 0) (hi := 99) t4) ?_
            rintro f5 n5 k5 v5 ⟨rfl, rfl, rfl, sj5, E5⟩
            simp only [Option.toList, List.cons_append, List.nil_append]
            exact e66 _ _ _ _ ((sj3'.tr sj4).tr sj5) E5
        · rw [if_neg t3] at hr
          cases hr
          refine k33_48 G3'.1.cn (Nat.le_of_ble_eq_true rfl) (G3'.expN Z 5 (by decide) (by decide) t3) ?_
          rintro f4 n4 k4 v4 ⟨rfl, rfl, rfl, sj4, E4⟩
          simp only [Option.toList, List.nil_append]
          exact e51 _ _ _ _ (sj3'.tr sj4) E4
      · rw [if_neg t2] at hr
        cases hr
        refine k33_41 G2.1.cn (Nat.le_of_ble_eq_true rfl) (G2.numN Z (lo := 0) (hi := nI S - 1) (by rw [i0.2.1, s2]; exact t2)) ?_
        rintro f3 n3 k3 v3 ⟨rfl, rfl, rfl, sj3, E3⟩
        simp only [Option.toList, List.cons_append, List.nil_append]
        exact e44 _ _ _ _ ((s1.tr sj2).tr sj3) E3
    · rw [if_neg t1] at hr
      cases hr
      refine k33_19 G1.1.cn (Nat.le_of_ble_eq_true rfl) (G1.expN Z 4 (by decide) (by decide) t1) ?_
      rintro f2 n2 k2 v2 ⟨rfl, rfl, rfl, sj2, E2⟩
      simp only [Option.toList, List.nil_append]
      exact e22 _ _ _ _ (s1.tr sj2) E2
end RD

/-! the class reads the stair's line, and then the others -/
def LDP (j : Nat) (fr v : Nat → Int32) (r : Nat → Nat → Int32) : Prop := (v 0 = (if j = 0 then 1 else nI j) ∧ v 3 = 0 ∧ v 10 = 1 ∧ v 11 = 0 ∧ v 12 = 0 ∧ v 14 = 0 ∧ v 15 = -1 ∧ v 17 = -1) ∧ (∀ k, k < j → r 1 k = fr (9 + k)) ∧ (∀ i k, i ≠ 1 → i ≠ 8 → i ≠ 9 → r i k = 0) ∧ ∀ k, k < 9 → r 8 k = -1 ∧ r 9 k = -1
theorem pl0_0 {i : Nat} (h1 : i ≠ 1) (h2 : i ≠ 2) (h3 : ¬ (34 ≤ i ∧ i < 52)) : pl0 i = 0 := by unfold pl0; rw [if_neg (by omega), if_neg h3]
theorem pl0_n {i : Nat} (h3 : 34 ≤ i ∧ i < 52) : pl0 i = -1 := by unfold pl0; rw [if_neg (by omega), if_pos h3]
theorem LDP.pn {j : Nat} {fr ag v : Nat → Int32} {r : Nat → Nat → Int32} (h : LDP j fr v r) (B : LB j fr) (h1 : 1 ≤ j) (h8 : j ≤ 8) : PN j 0 0 fr ag v r := by
  obtain ⟨⟨a0, a3, a10, a11, a12, a14, a15, a17⟩, b, c, d⟩ := h
  obtain ⟨q1, q2, q3, q4⟩ := B
  rw [if_neg (by omega)] at a0
  have z : ∀ i, i < 93 → i ≠ 1 → i ≠ 2 → ¬ (34 ≤ i ∧ i < 52) → ¬ (9 ≤ i ∧ i < 17) → fr i = 0 := fun i h1 h2 h3 h4 h5 => by rw [q2 i h1 h2 (by omega), pl0_0 h2 h3 h4]
  refine ⟨⟨h8, by omega⟩, ⟨by rw [a0, q4], by rw [a3, z 52 (by omega) (by omega) (by omega) (by omega) (by omega)], ?_, by rw [a11, z 56 (by omega) (by omega) (by omega) (by omega) (by omega)], by rw [a12, z 0 (by omega) (by omega) (by omega) (by omega) (by omega)]⟩, ⟨a14, ⟨q1, by omega⟩, fun i hi => absurd hi (by omega)⟩, b, ⟨c 2 0 (by omega) (by omega) (by omega), fun k hk => ?_, fun k hk hk2 => z _ (by omega) (by omega) (by omega) (by omega) (by omega)⟩, fun p hp => absurd hp (by omega), fun p hp hp2 => c 6 p (by omega) (by omega) (by omega), fun p hp => ⟨?_, ?_, ?_⟩, Or.inl ⟨z 3 (by omega) (by omega) (by omega) (by omega) (by omega), a15⟩, Or.inl ⟨z 4 (by omega) (by omega) (by omega) (by omega) (by omega), a17⟩⟩
  · rw [a10, q2 2 (by omega) (by omega) (by omega)]; rfl
  · rw [c 2 (k + 1) (by omega) (by omega) (by omega), z _ (by omega) (by omega) (by omega) (by omega) (by omega)]
  · rw [c 7 p (by omega) (by omega) (by omega), z _ (by omega) (by omega) (by omega) (by omega) (by omega)]
  · rw [(d p hp).1, q2 _ (by omega) (by omega) (by omega), pl0_n (by omega)]
  · rw [(d p hp).2, q2 _ (by omega) (by omega) (by omega), pl0_n (by omega)]
theorem LDP.up {j : Nat} {fr v : Nat → Int32} {r : Nat → Nat → Int32} {x : Int32} (h : LDP j fr v r) (hj : j ≤ 7) : LDP (j + 1) (upd (upd fr (9 + j) x) 1 (nI (j + 1))) (upd v 0 (nI (j + 1))) (up2 r 1 (upd (r 1) j x)) := by
  obtain ⟨⟨a0, a3, a10, a11, a12, a14, a15, a17⟩, b, c, d⟩ := h
  refine ⟨⟨by rw [upd_eq, if_neg (by omega)], by rw [upd_ne (by decide)]; exact a3, by rw [upd_ne (by decide)]; exact a10, by rw [upd_ne (by decide)]; exact a11, by rw [upd_ne (by decide)]; exact a12, by rw [upd_ne (by decide)]; exact a14, by rw [upd_ne (by decide)]; exact a15, by rw [upd_ne (by decide)]; exact a17⟩, fun k hk => ?_, fun i k h1 h2 h3 => by rw [up2_ne h1]; exact c i k h1 h2 h3, fun k hk => by rw [up2_ne (by decide), up2_ne (by decide)]; exact d k hk⟩
  rw [up2_eq, upd_ne (show 9 + k ≠ 1 by omega)]
  by_cases e : k = j
  · subst e; rw [upd_eq, upd_eq]
  · rw [upd_ne e, upd_ne (by omega)]; exact b k (by omega)
theorem LDP.v1 {fr v : Nat → Int32} {r : Nat → Nat → Int32} (h : LDP 1 fr v r) : LDP 1 fr v r := h
def SLO (f : Nat → e_C) (b L : Nat) (kk pp : Nat → Int32) (T : Nat) (tx : Nat → Int32) (c0 : Cu) (N K k : Nat) (ag : Nat → Int32) (res : Lr) : t_Q := fun f' n' k' z => n' = N ∧ k' = K ∧ z = none ∧ SJ b f f' ∧ ((∃ w p, res = .inr (w, p) ∧ GE f' b L kk pp T w p) ∨ ∃ t c wt v r S fr, GA f' b L kk pp T tx c0 t c wt v r ∧ PN S 0 0 fr ag v r ∧ LI L S 0 0 c fr ∧ (1 ≤ S ∧ S ≤ 8) ∧ l_lines tx L S k c fr ag res)
section RD
variable {X : Nat × (Nat → Int32)} {d N K : Nat} {f f' : Nat → e_C} {b L T t t' : Nat} {kk pp v v' tx : Nat → Int32} {wt wt' : Int32} {r r' : Nat → Nat → Int32} {c0 c : Cu} {S A R n : Nat} {fr ag : Nat → Int32}
theorem n3c : ((3 : Int32) < 1000) = True := eq_true (by decide)
/-- behind a fault: the rest of the stair's line -/
theorem GE.sl77 {w : Int32} {p k : Nat} {res : Lr} (E : GE f b L kk pp T w p) (s : SJ b f' f) (he : res = .inr (w, p)) {u : Value} : TT X (d + 2) 26 77 [.ref 99, u] [] f N K (SLO f' b L kk pp T tx c0 N K k ag res) := by
  simp (disch := first | omega | decide | assumption | exact Nat.le_of_ble_eq_true rfl) only [s26_77, s26_78, ow_some, true_and, and_true, and_self, if_true, if_false, not_true, not_false_eq_true, Bool.false_eq_true, eq_self, Option.toList, List.cons_append, List.nil_append, ix_in, ix_cl, lt_in, lt_cl, lt_add, ix_one, vu_eq, vu_ne, arI_mk, arL_mk, arY_mZ, arY_mB, alen_mI, fld_sfl_ne, fld_sfl_same, Option.isSome_some, pok_i, b1z, b01, z10, b1o, Int32.zero_add, vu_vu, upd_eq, upd_ne, true_or, or_true]
  rw [p26_80 E.cn (Nat.le_of_ble_eq_true rfl) (E.exp (by decide))]
  obtain ⟨v2, r2, m2, P2, h14, hm⟩ := E.pv
  have q6 := E.r6
  have i12 := P2.i12
  have v12 := P2.v12
  simp (disch := first | omega | decide | assumption | exact Nat.le_of_ble_eq_true rfl) only [s26_83, s26_84, s26_87, s26_87i, s26_88, s26_91, s26_92, s26_93, s26_96, ow_some, true_and, and_true, and_self, if_true, if_false, not_true, not_false_eq_true, Bool.false_eq_true, eq_self, Option.toList, List.cons_append, List.nil_append, ix_in, ix_cl, lt_in, lt_cl, lt_add, ix_one, vu_eq, vu_ne, arI_mk, arL_mk, arY_mZ, arY_mB, alen_mI, fld_sfl_ne, fld_sfl_same, Option.isSome_some, pok_i, b1z, b01, z10, b1o, Int32.zero_add, vu_vu, upd_eq, upd_ne, true_or, or_true, q6, i12, v12]
  exact ⟨rfl, rfl, rfl, s.tr (SJ.up (by omega)), Or.inl ⟨w, p, he, E.pl (fun a h => vu_ne (by omega)) (P2.set (i := 12) (by decide)) ((upd_ne (by decide)).trans h14) hm⟩⟩
theorem GE.sl25 {w : Int32} {p k j : Nat} {res : Lr} (E : GE f b L kk pp T w p) (s : SJ b f' f) (he : res = .inr (w, p)) (hj : j ≤ 8) : TT X (d + 2) 26 25 [.ref 99, .int (nI j)] [] f N K (SLO f' b L kk pp T tx c0 N K k ag res) := by
  have v4 := E.v4
  by_cases h : j < 8
  · have c8 : (8 ≤ j) = False := eq_false (by omega)
    simp (disch := first | omega | decide | assumption | exact Nat.le_of_ble_eq_true rfl) only [s26_25, s26_26, s26_28, s26_31, s26_32, s26_35, s26_38, ow_some, true_and, and_true, and_self, if_true, if_false, not_true, not_false_eq_true, Bool.false_eq_true, eq_self, Option.toList, List.cons_append, List.nil_append, ix_in, ix_cl, lt_in, lt_cl, lt_add, ix_one, vu_eq, vu_ne, arI_mk, arL_mk, arY_mZ, arY_mB, alen_mI, fld_sfl_ne, fld_sfl_same, Option.isSome_some, pok_i, b1z, b01, z10, b1o, Int32.zero_add, vu_vu, upd_eq, upd_ne, true_or, or_true, v4, lt_le, c8, n3c]
    exact E.sl77 s he
  · have c8 : (8 ≤ j) = True := eq_true (by omega)
    simp (disch := first | omega | decide | assumption | exact Nat.le_of_ble_eq_true rfl) only [s26_25, s26_26, s26_28, ow_some, true_and, and_true, and_self, if_true, if_false, not_true, not_false_eq_true, Bool.false_eq_true, eq_self, Option.toList, List.cons_append, List.nil_append, ix_in, ix_cl, lt_in, lt_cl, lt_add, ix_one, vu_eq, vu_ne, arI_mk, arL_mk, arY_mZ, arY_mB, alen_mI, fld_sfl_ne, fld_sfl_same, Option.isSome_some, pok_i, b1z, b01, z10, b1o, Int32.zero_add, vu_vu, upd_eq, upd_ne, true_or, or_true, lt_le, c8]
    exact E.sl77 s he
theorem sp_loadsC (Z : TKS tx L c0 T kk pp) {f0 : Nat → e_C} {k : Nat} {res : Lr} : ∀ (m j : Nat) (f : Nat → e_C) (t : Nat) (c : Cu) (v fr : Nat → Int32) (r : Nat → Nat → Int32), j + m = 8 → 1 ≤ j → GA f b L kk pp T tx c0 t c wt v r → LDP j fr v r → LB j fr → SJ b f0 f → ((∃ e, l_loads tx L m j c fr = .inr e ∧ res = .inr e) ∨ ∃ c1 fr1, l_loads tx L m j c fr = .inl (c1, fr1) ∧ ((c1.2.2.1 ≠ 30 ∧ res = fl' 2 c1) ∨ (c1.2.2.1 = 30 ∧ l_lines tx L (nS fr1) k (nx tx L c1) (upd fr1 0 (fr1 0 + 1)) ag res))) → TT X (d + 2) 26 25 [.ref 99, .int (nI j)] [] f N K (SLO f0 b L kk pp T tx c0 N K k ag res) := by
  -- behind the loads
  have tail : ∀ (j : Nat) (f : Nat → e_C) (t : Nat) (c : Cu) (v fr : Nat → Int32) (r : Nat → Nat → Int32), 1 ≤ j → j ≤ 8 → GA f b L kk pp T tx c0 t c wt v r → LDP j fr v r → LB j fr → SJ b f0 f → ((c.2.2.1 ≠ 30 ∧ res = fl' 2 c) ∨ (c.2.2.1 = 30 ∧ l_lines tx L (nS fr) k (nx tx L c) (upd fr 0 (fr 0 + 1)) ag res)) → ∀ u, TT X (d + 2) 26 77 [.ref 99, u] [] f N K (SLO f0 b L kk pp T tx c0 N K k ag res) := by
    intro j f t c v fr r h1 h8 G D B s h u
    simp (disch := first | omega | decide | assumption | exact Nat.le_of_ble_eq_true rfl) only [s26_77, s26_78, ow_some, true_and, and_true, and_self, if_true, if_false, not_true, not_false_eq_true, Bool.false_eq_true, eq_self, Option.toList, List.cons_append, List.nil_append, ix_in, ix_cl, lt_in, lt_cl, lt_add, ix_one, vu_eq, vu_ne, arI_mk, arL_mk, arY_mZ, arY_mB, alen_mI, fld_sfl_ne, fld_sfl_same, Option.isSome_some, pok_i, b1z, b01, z10, b1o, Int32.zero_add, vu_vu, upd_eq, upd_ne, true_or, or_true]
    rcases h with ⟨h30, he⟩ | ⟨h30, hl⟩
    · refine k26_80 G.1.cn (Nat.le_of_ble_eq_true rfl) (G.expN Z 30 (by decide) (by decide) h30) ?_
      rintro f1 n1 k1 v1 ⟨rfl, rfl, rfl, s1, E⟩
      obtain ⟨v2, r2, m2, P2, h14, hm⟩ := E.pv
      have q6 := E.r6
      have i12 := P2.i12
      have v12 := P2.v12
      simp (disch := first | omega | decide | assumption | exact Nat.le_of_ble_eq_true rfl) only [s26_83, s26_84, s26_87, s26_87i, s26_88, s26_91, s26_92, s26_93, s26_96, ow_some, true_and, and_true, and_self, if_true, if_false, not_true, not_false_eq_true, Bool.false_eq_true, eq_self, Option.toList, List.cons_append, List.nil_append, ix_in, ix_cl, lt_in, lt_cl, lt_add, ix_one, vu_eq, vu_ne, arI_mk, arL_mk, arY_mZ, arY_mB, alen_mI, fld_sfl_ne, fld_sfl_same, Option.isSome_some, pok_i, b1z, b01, z10, b1o, Int32.zero_add, vu_vu, upd_eq, upd_ne, true_or, or_true, q6, i12, v12]
      exact ⟨rfl, rfl, rfl, (s.tr s1).tr (SJ.up (by omega)), Or.inl ⟨_, _, he, E.pl (fun a h => vu_ne (by omega)) (P2.set (i := 12) (by decide)) ((upd_ne (by decide)).trans h14) hm⟩⟩
    · refine k26_80 G.1.cn (Nat.le_of_ble_eq_true rfl) (G.exp Z 30 (by decide) (by decide) (by decide) h30) ?_
      rintro f1 n1 k1 v1 ⟨rfl, rfl, rfl, s1, G1⟩
      have P := D.pn (ag := ag) B h1 h8
      have e12 : v 12 = fr 0 := P.2.1.2.2.2.2
      have P2 := G1.1.pv
      have q6 := G1.1.r6
      have i12 := P2.i12
      have v12 := P2.v12
      simp (disch := first | omega | decide | assumption | exact Nat.le_of_ble_eq_true rfl) only [s26_83, s26_84, s26_87, s26_87i, s26_88, s26_91, s26_92, s26_93, s26_96, ow_some, true_and, and_true, and_self, if_true, if_false, not_true, not_false_eq_true, Bool.false_eq_true, eq_self, Option.toList, List.cons_append, List.nil_append, ix_in, ix_cl, lt_in, lt_cl, lt_add, ix_one, vu_eq, vu_ne, arI_mk, arL_mk, arY_mZ, arY_mB, alen_mI, fld_sfl_ne, fld_sfl_same, Option.isSome_some, pok_i, b1z, b01, z10, b1o, Int32.zero_add, vu_vu, upd_eq, upd_ne, true_or, or_true, q6, i12, v12, e12]
      have hI := B.FI (ag := ag) h1 h8
      have hcv := (G.kv Z).2.1
      have g3 := cv_go (tx := tx) hcv (by rw [h30]; decide)
      have hLI : LI L j 0 0 (nx tx L c) (upd fr 0 (fr 0 + 1)) := (show LI L j 0 0 (nx tx L c) fr from ⟨g3.1, hI.1.2.1, hI.2, by omega, hI.1.2.2.1, by omega⟩).up (by omega) (by omega) (by omega)
      rw [B.S h8] at hl
      exact ⟨rfl, rfl, rfl, (s.tr s1).tr (SJ.up (by omega)), Or.inr ⟨_, _, wt, _, _, j, _, ⟨G1.1.pl (fun a h => vu_ne (by omega)) (P2.set (i := 12) (by decide)) (upd_ne (by decide)), G1.2⟩, P.one (Or.inl ⟨rfl, rfl⟩), hLI, ⟨h1, h8⟩, hl⟩⟩
  intro m
  induction m with
  | zero =>
    intro j f t c v fr r hm h1 G D B s h
    have c8 : (8 ≤ j) = True := eq_true (by omega)
    simp (disch := first | omega | decide | assumption | exact Nat.le_of_ble_eq_true rfl) only [s26_25, s26_26, s26_28, ow_some, true_and, and_true, and_self, if_true, if_false, not_true, not_false_eq_true, Bool.false_eq_true, eq_self, Option.toList, List.cons_append, List.nil_append, ix_in, ix_cl, lt_in, lt_cl, lt_add, ix_one, vu_eq, vu_ne, arI_mk, arL_mk, arY_mZ, arY_mB, alen_mI, fld_sfl_ne, fld_sfl_same, Option.isSome_some, pok_i, b1z, b01, z10, b1o, Int32.zero_add, vu_vu, upd_eq, upd_ne, true_or, or_true, lt_le, c8]
    rcases h with ⟨e, h, -⟩ | ⟨c1, fr1, h, h2⟩
    · cases h
    · cases h
      exact tail j f t _ v _ r h1 (by omega) G D B s h2 _
  | succ m ih =>
    intro j f t c v fr r hm h1 G D B s h
    rw [loads_s] at h
    have hkv := (G.kv Z).1
    have k4 := G.k4 Z
    have c8 : (8 ≤ j) = False := eq_false (by omega)
    have elt := ckl_lt hkv
    by_cases h23 : c.2.2.1 = 23
    · rw [if_pos (Or.inr h23)] at h
      have x23 : (c.2.2.1 = 23) = True := eq_true h23
      have P1 := G.1.pv
      have q6 := G.1.r6
      simp (disch := first | omega | decide | assumption | exact Nat.le_of_ble_eq_true rfl) only [s26_25, s26_26, s26_28, s26_31, s26_32, s26_35, s26_38, s26_41, s26_42, s26_45, s26_48, s26_49, s26_50, s26_51, ow_some, true_and, and_true, and_self, if_true, if_false, not_true, not_false_eq_true, Bool.false_eq_true, eq_self, Option.toList, List.cons_append, List.nil_append, ix_in, ix_cl, lt_in, lt_cl, lt_add, ix_one, vu_eq, vu_ne, arI_mk, arL_mk, arY_mZ, arY_mB, alen_mI, fld_sfl_ne, fld_sfl_same, Option.isSome_some, pok_i, b1z, b01, z10, b1o, Int32.zero_add, vu_vu, upd_eq, upd_ne, true_or, or_true, P1.v0, P1.v3, P1.v10, P1.v11, P1.v12, P1.v14, P1.v15, P1.v16, P1.v17, P1.v18, P1.r1, P1.r2, P1.r4, P1.r5, P1.r6, P1.r7, P1.r8, P1.r9, P1.r13, P1.a1, P1.a2, P1.a4, P1.a5, P1.a6, P1.a7, P1.a8, P1.a9, P1.a13, k4, q6, lt_le, c8, elt, x23]
      obtain ⟨q, q1, q2⟩ := hkv.1 h23
      have t1 : tko c 0 999 = true := tko_iff.mpr ⟨h23, by rw [q2, nI_toInt (by omega)]; omega, by rw [q2, nI_toInt (by omega)]; omega⟩
      rw [if_pos t1] at h
      refine k26_54 G.1.cn (Nat.le_of_ble_eq_true rfl) (G.num Z (lo := 0) (hi := 999) t1) ?_
      rintro f1 n1 k1 v1 ⟨rfl, rfl, rfl, s1, G1⟩
      have P2 := G1.1.pv
      simp (disch := first | omega | decide | assumption | exact Nat.le_of_ble_eq_true rfl) only [s26_57, ow_some, true_and, and_true, and_self, if_true, if_false, not_true, not_false_eq_true, Bool.false_eq_true, eq_self, Option.toList, List.cons_append, List.nil_append, ix_in, ix_cl, lt_in, lt_cl, lt_add, ix_one, vu_eq, vu_ne, arI_mk, arL_mk, arY_mZ, arY_mB, alen_mI, fld_sfl_ne, fld_sfl_same, Option.isSome_some, pok_i, b1z, b01, z10, b1o, Int32.zero_add, vu_vu, upd_eq, upd_ne, true_or, or_true, P2.v0, P2.v3, P2.v10, P2.v11, P2.v12, P2.v14, P2.v15, P2.v16, P2.v17, P2.v18, P2.r1, P2.r2, P2.r4, P2.r5, P2.r6, P2.r7, P2.r8, P2.r9, P2.r13, P2.a1, P2.a2, P2.a4, P2.a5, P2.a6, P2.a7, P2.a8, P2.a9, P2.a13]
      have G2 : GA (va_up f1 (b + 2 + 1) (.inl (.int, 8, .inl (upd (r 1) j c.2.2.2)))) b L kk pp T tx c0 (t + 1) (nx tx L c) wt v (up2 r 1 (upd (r 1) j c.2.2.2)) := ⟨G1.1.pl (fun a h => vu_ne (by omega)) P2.s1 rfl, G1.2⟩
      have s2 : SJ b f0 (va_up f1 (b + 2 + 1) (.inl (.int, 8, .inl (upd (r 1) j c.2.2.2)))) := (s.tr s1).tr (SJ.up (by omega))
      generalize va_up f1 (b + 2 + 1) (.inl (.int, 8, .inl (upd (r 1) j c.2.2.2))) = f2 at G2 s2 ⊢
      have P3 := G2.1.pv
      have q63 := G2.1.r6
      have i0 := P3.i0
      have v0 := P3.v0
      have e0 : v 0 = nI j := by rw [D.1.1, if_neg (by omega)]
      simp (disch := first | omega | decide | assumption | exact Nat.le_of_ble_eq_true rfl) only [s26_58, s26_59, s26_62, s26_62i, s26_63, s26_66, s26_67, s26_68, s26_71, h26_74, ow_some, true_and, and_true, and_self, if_true, if_false, not_true, not_false_eq_true, Bool.false_eq_true, eq_self, Option.toList, List.cons_append, List.nil_append, ix_in, ix_cl, lt_in, lt_cl, lt_add, ix_one, vu_eq, vu_ne, arI_mk, arL_mk, arY_mZ, arY_mB, alen_mI, fld_sfl_ne, fld_sfl_same, Option.isSome_some, pok_i, b1z, b01, z10, b1o, Int32.zero_add, vu_vu, upd_eq, upd_ne, true_or, or_true, q63, i0, v0, e0]
      have B' : LB (j + 1) (upd (upd fr (9 + j) c.2.2.2) 1 (nI (j + 1))) := by
        obtain ⟨b1, b2, b3, b4⟩ := B
        refine ⟨by rw [upd_ne (by omega), upd_ne (by omega)]; exact b1, fun i h1 h2 h3 => by rw [upd_ne h2, upd_ne (by omega)]; exact b2 i h1 h2 (by omega), fun i h1 h2 => ?_, upd_eq⟩
        rw [upd_ne (by omega)]
        by_cases e : i = 9 + j
        · subst e; rw [upd_eq]; exact ⟨q, q1, q2⟩
        · rw [upd_ne e]; exact b3 i h1 (by omega)
      exact ih (j + 1) _ (t + 1) (nx tx L c) _ _ _ (by omega) (by omega) ⟨G2.1.pl (fun a h => vu_ne (by omega)) (P3.set (i := 0) (by decide)) (upd_ne (by decide)), G2.2⟩ (D.up (by omega)) B' (s2.tr (SJ.up (by omega))) h
    · rw [if_neg (fun z => by rcases z with z | z; omega; exact h23 z)] at h
      have x23 : (c.2.2.1 = 23) = False := eq_false h23
      simp (disch := first | omega | decide | assumption | exact Nat.le_of_ble_eq_true rfl) only [s26_25, s26_26, s26_28, s26_31, s26_32, s26_35, s26_38, ow_some, true_and, and_true, and_self, if_true, if_false, not_true, not_false_eq_true, Bool.false_eq_true, eq_self, Option.toList, List.cons_append, List.nil_append, ix_in, ix_cl, lt_in, lt_cl, lt_add, ix_one, vu_eq, vu_ne, arI_mk, arL_mk, arY_mZ, arY_mB, alen_mI, fld_sfl_ne, fld_sfl_same, Option.isSome_some, pok_i, b1z, b01, z10, b1o, Int32.zero_add, vu_vu, upd_eq, upd_ne, true_or, or_true, k4, lt_le, c8, elt, x23, not_false_eq_true]
      rcases h with ⟨e, h, -⟩ | ⟨c1, fr1, h, h2⟩
      · cases h
      · cases h
        exact tail j f t _ v _ r h1 (by omega) G D B s h2 _
theorem sp_stairLine (Z : TKS tx L c0 T kk pp) {k : Nat} {res : Lr} {fr0 : Nat → Int32} (G : GA f b L kk pp T tx c0 0 c0 wt v r) (hP : planI v r) (h0 : ∀ i, i < 1394 → fr0 i = pl0 i) (h : l_text tx L k c0 fr0 ag res) {u1 : Value} : TT X (d + 2) 26 0 [.ref 99, u1] [] f N K (SLO f b L kk pp T tx c0 N K k ag res) := by
  have i1 : (1 : Int32) = nI 1 := rfl
  have e22 : ∀ (w : Int32) (p : Nat) f' u, SJ b f f' → GE f' b L kk pp T w p → res = .inr (w, p) → TT X (d + 2) 26 22 [.ref 99, u] [.int 0, .int 0, .ref (b + 2 + 1)] f' N K (SLO f b L kk pp T tx c0 N K k ag res) := by
    intro w p f' u s E he
    obtain ⟨v2, r2, m2, P2, h14, hm⟩ := E.pv
    have z0 := z0i
    have a1 := P2.a1
    rw [z0]
    simp (disch := first | omega | decide | assumption | exact Nat.le_of_ble_eq_true rfl) only [s26_22, s26_23, h26_24, ow_some, true_and, and_true, and_self, if_true, if_false, not_true, not_false_eq_true, Bool.false_eq_true, eq_self, Option.toList, List.cons_append, List.nil_append, ix_in, ix_cl, lt_in, lt_cl, lt_add, ix_one, vu_eq, vu_ne, arI_mk, arL_mk, arY_mZ, arY_mB, alen_mI, fld_sfl_ne, fld_sfl_same, Option.isSome_some, pok_i, b1z, b01, z10, b1o, Int32.zero_add, vu_vu, upd_eq, upd_ne, true_or, or_true, a1]
    have E2 := E.pl (fun a h => vu_ne (by omega)) (P2.s1 (g := upd (r2 1) 0 (nI 0))) h14 hm
    rw [i1]
    exact E2.sl25 (s.tr (SJ.up (by omega))) he (by omega)
  simp (disch := first | omega | decide | assumption | exact Nat.le_of_ble_eq_true rfl) only [s26_0, s26_1, ow_some, true_and, and_true, and_self, if_true, if_false, not_true, not_false_eq_true, Bool.false_eq_true, eq_self, Option.toList, List.cons_append, List.nil_append, ix_in, ix_cl, lt_in, lt_cl, lt_add, ix_one, vu_eq, vu_ne, arI_mk, arL_mk, arY_mZ, arY_mB, alen_mI, fld_sfl_ne, fld_sfl_same, Option.isSome_some, pok_i, b1z, b01, z10, b1o, Int32.zero_add, vu_vu, upd_eq, upd_ne, true_or, or_true]
  rcases h with ⟨hk, he⟩ | ⟨hk, h⟩
  · refine k26_3 G.1.cn (Nat.le_of_ble_eq_true rfl) (G.expN Z 0 (by decide) (by decide) hk) ?_
    rintro f1 n1 k1 v1 ⟨rfl, rfl, rfl, s1, E1⟩
    obtain ⟨v2, r2, m2, P2, h14, hm⟩ := E1.pv
    have q6 := E1.r6
    simp (disch := first | omega | decide | assumption | exact Nat.le_of_ble_eq_true rfl) only [s26_6, s26_7, s26_10, s26_13, s26_14, s26_15, s26_16, ow_some, true_and, and_true, and_self, if_true, if_false, not_true, not_false_eq_true, Bool.false_eq_true, eq_self, Option.toList, List.cons_append, List.nil_append, ix_in, ix_cl, lt_in, lt_cl, lt_add, ix_one, vu_eq, vu_ne, arI_mk, arL_mk, arY_mZ, arY_mB, alen_mI, fld_sfl_ne, fld_sfl_same, Option.isSome_some, pok_i, b1z, b01, z10, b1o, Int32.zero_add, vu_vu, upd_eq, upd_ne, true_or, or_true, P2.v0, P2.v3, P2.v10, P2.v11, P2.v12, P2.v14, P2.v15, P2.v16, P2.v17, P2.v18, P2.r1, P2.r2, P2.r4, P2.r5, P2.r6, P2.r7, P2.r8, P2.r9, P2.r13, P2.a1, P2.a2, P2.a4, P2.a5, P2.a6, P2.a7, P2.a8, P2.a9, P2.a13, q6]
    rw [p26_19 E1.cn (Nat.le_of_ble_eq_true rfl) E1.num]
    simp only [Option.toList, List.cons_append, List.nil_append]
    exact e22 _ _ f1 _ s1 E1 he
  · refine k26_3 G.1.cn (Nat.le_of_ble_eq_true rfl) (G.exp Z 0 (by decide) (by decide) (by decide) hk) ?_
    rintro f1 n1 k1 v1 ⟨rfl, rfl, rfl, s1, G1⟩
    have P1 := G1.1.pv
    have q6 := G1.1.r6
    have hkv := (G1.kv Z).1
    simp (disch := first | omega | decide | assumption | exact Nat.le_of_ble_eq_true rfl) only [s26_6, s26_7, s26_10, s26_13, s26_14, s26_15, s26_16, ow_some, true_and, and_true, and_self, if_true, if_false, not_true, not_false_eq_true, Bool.false_eq_true, eq_self, Option.toList, List.cons_append, List.nil_append, ix_in, ix_cl, lt_in, lt_cl, lt_add, ix_one, vu_eq, vu_ne, arI_mk, arL_mk, arY_mZ, arY_mB, alen_mI, fld_sfl_ne, fld_sfl_same, Option.isSome_some, pok_i, b1z, b01, z10, b1o, Int32.zero_add, vu_vu, upd_eq, upd_ne, true_or, or_true, P1.v0, P1.v3, P1.v10, P1.v11, P1.v12, P1.v14, P1.v15, P1.v16, P1.v17, P1.v18, P1.r1, P1.r2, P1.r4, P1.r5, P1.r6, P1.r7, P1.r8, P1.r9, P1.r13, P1.a1, P1.a2, P1.a4, P1.a5, P1.a6, P1.a7, P1.a8, P1.a9, P1.a13, q6]
    rw [loads_s, if_pos (Or.inl rfl)] at h
    generalize nx tx L c0 = c1 at G1 h hkv
    by_cases t1 : tko c1 0 999 = true
    · rw [if_pos t1] at h
      obtain ⟨q, q1, q2, -⟩ := tko_v hkv.1 t1
      refine k26_19 G1.1.cn (Nat.le_of_ble_eq_true rfl) (G1.num Z (lo := 0) (hi := 999) t1) ?_
      rintro f2 n2 k2 v2 ⟨rfl, rfl, rfl, s2, G2⟩
      have P2 := G2.1.pv
      have a1 := P2.a1
      have z0 := z0i
      simp only [Option.toList, List.cons_append, List.nil_append]
      rw [z0]
      simp (disch := first | omega | decide | assumption | exact Nat.le_of_ble_eq_true rfl) only [s26_22, s26_23, h26_24, ow_some, true_and, and_true, and_self, if_true, if_false, not_true, not_false_eq_true, Bool.false_eq_true, eq_self, Option.toList, List.cons_append, List.nil_append, ix_in, ix_cl, lt_in, lt_cl, lt_add, ix_one, vu_eq, vu_ne, arI_mk, arL_mk, arY_mZ, arY_mB, alen_mI, fld_sfl_ne, fld_sfl_same, Option.isSome_some, pok_i, b1z, b01, z10, b1o, Int32.zero_add, vu_vu, upd_eq, upd_ne, true_or, or_true, a1]
      rw [i1]
      have D0 : LDP 0 (upd fr0 1 0) v r := by
        obtain ⟨⟨b0, b3, b10, b11, b12, b14, b15, b16, b17, b18⟩, c1, c2⟩ := hP
        exact ⟨⟨b0, b3, b10, b11, b12, b14, b15, b17⟩, fun k hk => absurd hk (by omega), fun i k _ h2 h3 => c1 i k h2 h3, c2⟩
      have D1 : LDP 1 (upd (upd (upd fr0 1 0) (9 + 0) c1.2.2.2) 1 (nI (0 + 1))) v (up2 r 1 (upd (r 1) 0 c1.2.2.2)) := by
        have := D0.up (x := c1.2.2.2) (by omega)
        have e : upd v 0 (nI (0 + 1)) = v := by
          funext i
          by_cases hi : i = 0
          · subst hi; rw [upd_eq, hP.1.1]; rfl
          · rw [upd_ne hi]
        rw [e] at this
        exact this
      have B1 : LB 1 (upd (upd (upd fr0 1 0) (9 + 0) c1.2.2.2) 1 (nI (0 + 1))) := by
        obtain ⟨b1, b2, b3, b4⟩ := lb_start h0
        refine ⟨by rw [upd_ne (by omega), upd_ne (by omega)]; exact b1, fun i h1 h2 h3 => by rw [upd_ne h2, upd_ne (by omega)]; exact b2 i h1 h2 (by omega), fun i h1 h2 => ?_, upd_eq⟩
        obtain rfl : i = 9 := by omega
        rw [upd_ne (by omega), upd_eq]
        exact ⟨q, q1, q2⟩
      exact sp_loadsC Z 7 1 _ _ _ v _ _ rfl (by omega) ⟨G2.1.pl (fun a h => vu_ne (by omega)) P2.s1 rfl, G2.2⟩ D1 B1 ((s1.tr s2).tr (SJ.up (by omega))) h
    · rw [if_neg t1] at h
      rcases h with ⟨e, h, he⟩ | ⟨c2, fr1, h, -⟩
      · cases h
        refine k26_19 G1.1.cn (Nat.le_of_ble_eq_true rfl) (G1.numN Z (lo := 0) (hi := 999) t1) ?_
        rintro f2 n2 k2 v2 ⟨rfl, rfl, rfl, s2, E2⟩
        simp only [Option.toList, List.cons_append, List.nil_append]
        exact e22 _ _ f2 _ (s1.tr s2) E2 he
      · cases h
end RD

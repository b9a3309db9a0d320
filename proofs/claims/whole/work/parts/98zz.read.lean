/-! the class reads a text -/
theorem TT.all {X : Nat × (Nat → Int32)} {d mi pc n k : Nat} {lv st : List Value} {f : Nat → e_C} {α : Type} {P : α → Prop} {Q : α → t_Q} (h0 : ∃ r, P r) (h : ∀ r, P r → TT X d mi pc lv st f n k (Q r)) : TT X d mi pc lv st f n k (fun f' n' k' v => ∀ r, P r → Q r f' n' k' v) := by
  obtain ⟨r0, p0⟩ := h0
  obtain ⟨N, f', n', k', v, e, -⟩ := h r0 p0
  refine ⟨N, f', n', k', v, e, fun r pr => ?_⟩
  obtain ⟨N2, f2, n2, k2, v2, e2, q2⟩ := h r pr
  have := ev_one e e2
  cases this
  exact q2
/-- fields of the reader that are known -/
def RX (f : Nat → e_C) (b L : Nat) (kk pp : Nat → Int32) (T : Nat) (S : List (Nat × Value)) : Prop := RS f b L kk pp T ∧ ∀ p ∈ S, fld (f 99) 3 p.1 = some p.2
section RX
variable {X : Nat × (Nat → Int32)} {d N K : Nat} {f f' : Nat → e_C} {b L T : Nat} {kk pp : Nat → Int32} {S : List (Nat × Value)}
theorem RS.frm {t : Nat} (h : RS f b L kk pp t) (h1 : f' 99 = f 99) (h2 : f' 100 = f 100) (h3 : f' 101 = f 101) : RS f' b L kk pp t := by
  unfold RS RDJ; rw [h1, h2, h3]; exact h
theorem RX.frm (h : RX f b L kk pp T S) (h1 : f' 99 = f 99) (h2 : f' 100 = f 100) (h3 : f' 101 = f 101) : RX f' b L kk pp T S := ⟨h.1.frm h1 h2 h3, by rw [h1]; exact h.2⟩
theorem RX.set {i : Nat} {z : Value} (h : RX f b L kk pp T S) (h1 : 3 ≤ i) (h2 : i < 9) (hS : ∀ p ∈ S, p.1 ≠ i) : RX (va_up f 99 (sfl (f 99) i z)) b L kk pp T ((i, z) :: S) := by
  obtain ⟨⟨hb, r0, r1, r2, rd, a0, a1⟩, hs⟩ := h
  refine ⟨⟨hb, by rw [vu_eq, fld_sfl_ne (by omega)]; exact r0, by rw [vu_eq, fld_sfl_ne (by omega)]; exact r1, by rw [vu_eq, fld_sfl_ne (by omega)]; exact r2, rd.set h2, by rw [vu_ne (by omega)]; exact a0, by rw [vu_ne (by omega)]; exact a1⟩, fun p hp => ?_⟩
  rcases List.mem_cons.mp hp with rfl | hp
  · rw [vu_eq]; exact fld_sfl_same (rd i h2)
  · rw [vu_eq, fld_sfl_ne (hS p hp)]; exact hs p hp
theorem RW.rdv {u : Nat → Int32} (h : RW f b L kk pp u) : RDV f := by
  refine ⟨fun j hj => ?_, ⟨h.r0, h.r1⟩, ⟨kk, h.a0⟩, pp, h.a1⟩
  rcases (show j = 0 ∨ j = 1 ∨ j = 2 ∨ j = 3 ∨ j = 4 ∨ j = 5 ∨ j = 6 ∨ j = 7 ∨ j = 8 by omega) with rfl | rfl | rfl | rfl | rfl | rfl | rfl | rfl | rfl
  · rw [h.r0]; rfl
  · rw [h.r1]; rfl
  · exact h.i2
  · exact h.i3
  · exact h.i4
  · exact h.i5
  · rw [h.r6]; rfl
  · exact h.i7
  · exact h.i8
end RX
/-- behind all lines -/
def LQo (f : Nat → e_C) (b L : Nat) (kk pp : Nat → Int32) (T : Nat) (tx : Nat → Int32) (c0 : Cu) (S N K : Nat) (res : Lr) : t_Q := fun f' n' k' z => n' = N ∧ k' = K ∧ z = some (.ref (b + 2)) ∧ SJ b f f' ∧ ((∃ w p, res = .inr (w, p) ∧ GE f' b L kk pp T w p) ∨ ∃ c fr ag R n t wt v r, res = .inl (c, fr, ag) ∧ GA f' b L kk pp T tx c0 t c wt v r ∧ PN S R n fr ag v r ∧ (fr 1 = nI S ∧ fr 52 = nI R))
section RD
variable {X : Nat × (Nat → Int32)} {d N K : Nat} {f f' : Nat → e_C} {b L T t t' : Nat} {kk pp v v' tx : Nat → Int32} {wt wt' : Int32} {r r' : Nat → Nat → Int32} {c0 c : Cu} {S A R n : Nat} {fr ag : Nat → Int32}
theorem GE.fin {w : Int32} {p : Nat} {g : Nat} {res : Lr} (E : GE f b L kk pp T w p) (s : SJ b f' f) (he : res = .inr (w, p)) (hg : g ≤ 901) (hT : T ≤ 901) {x y z : Value} : TT X d 18 71 [.ref 99, x, y, z, .int (nI g)] [] f N K (LQo f' b L kk pp T tx c0 S N K res) := by
  have v2 := E.v2
  have v7 := E.v7
  have q6 := E.r6
  have hw := eq_false E.1
  by_cases h : T < g
  · have c1 : (T < g) = True := eq_true h
    simp (disch := first | omega | decide | assumption | exact Nat.le_of_ble_eq_true rfl) only [s18_71, s18_73, s18_74, s18_77, s18_123, s18_124, s18_127, ow_some, true_and, and_true, and_self, if_true, if_false, not_true, not_false_eq_true, Bool.false_eq_true, eq_self, Option.toList, List.cons_append, List.nil_append, ix_in, ix_cl, lt_in, lt_cl, lt_add, ix_one, vu_eq, vu_ne, arI_mk, arL_mk, arY_mZ, arY_mB, alen_mI, fld_sfl_ne, fld_sfl_same, Option.isSome_some, pok_i, b1z, b01, z10, b1o, Int32.zero_add, vu_vu, upd_eq, upd_ne, true_or, or_true, v2, q6, ix_lt, c1]
    exact ⟨rfl, rfl, rfl, s, Or.inl ⟨w, p, he, E⟩⟩
  · have c1 : (T < g) = False := eq_false h
    simp (disch := first | omega | decide | assumption | exact Nat.le_of_ble_eq_true rfl) only [s18_71, s18_73, s18_74, s18_77, s18_80, s18_81, s18_84, s18_123, s18_124, s18_127, ow_some, true_and, and_true, and_self, if_true, if_false, not_true, not_false_eq_true, Bool.false_eq_true, eq_self, Option.toList, List.cons_append, List.nil_append, ix_in, ix_cl, lt_in, lt_cl, lt_add, ix_one, vu_eq, vu_ne, arI_mk, arL_mk, arY_mZ, arY_mB, alen_mI, fld_sfl_ne, fld_sfl_same, Option.isSome_some, pok_i, b1z, b01, z10, b1o, Int32.zero_add, vu_vu, upd_eq, upd_ne, true_or, or_true, v2, v7, q6, ix_lt, c1, hw, ne_eq]
    exact ⟨rfl, rfl, rfl, s, Or.inl ⟨w, p, he, E⟩⟩
theorem GE.l94 {w : Int32} {p : Nat} {g : Nat} {res : Lr} (E : GE f b L kk pp T w p) (s : SJ b f' f) (he : res = .inr (w, p)) (hg : g + 1 ≤ 901) (hT : T ≤ 901) {x y z : Value} : TT X d 18 104 [.ref 99, x, y, z, .int (nI g)] [] f N K (LQo f' b L kk pp T tx c0 S N K res) := by
  obtain ⟨v2, r2, m2, P2, h14, hm⟩ := E.pv
  have q6 := E.r6
  have i12 := P2.i12
  have v12 := P2.v12
  simp (disch := first | omega | decide | assumption | exact Nat.le_of_ble_eq_true rfl) only [s18_104, s18_105, s18_108, s18_108i, s18_109, s18_112, s18_113, s18_114, s18_117, h18_120, ow_some, true_and, and_true, and_self, if_true, if_false, not_true, not_false_eq_true, Bool.false_eq_true, eq_self, Option.toList, List.cons_append, List.nil_append, ix_in, ix_cl, lt_in, lt_cl, lt_add, ix_one, vu_eq, vu_ne, arI_mk, arL_mk, arY_mZ, arY_mB, alen_mI, fld_sfl_ne, fld_sfl_same, Option.isSome_some, pok_i, b1z, b01, z10, b1o, Int32.zero_add, vu_vu, upd_eq, upd_ne, true_or, or_true, q6, i12, v12]
  exact GE.fin (E.pl (fun a h => vu_ne (by omega)) (P2.set (i := 12) (by decide)) ((upd_ne (by decide)).trans h14) hm) (s.tr (SJ.up (by omega))) he hg hT
theorem sp_linesC (Z : TKS tx L c0 T kk pp) {f0 : Nat → e_C} {x y z : Value} {res : Lr} (h1 : 1 ≤ S) (h8 : S ≤ 8) : ∀ (k : Nat) (f : Nat → e_C) (t g : Nat) (c : Cu) (wt : Int32) (fr ag v : Nat → Int32) (r : Nat → Nat → Int32) (R n : Nat), GA f b L kk pp T tx c0 t c wt v r → PN S R n fr ag v r → LI L S R n c fr → g ≤ t → SJ b f0 f → l_lines tx L S k c fr ag res → TT X (d + 63) 18 71 [.ref 99, x, y, z, .int (nI g)] [] f N K (LQo f0 b L kk pp T tx c0 S N K res) := by
  have hz := Z.1.2.2
  have hT : T ≤ 901 := by have := Z.1.2.1; omega
  intro k
  induction k with
  | zero => intro f t g c wt fr ag v r R n G P I hg s h; exact h.elim
  | succ k ih =>
    intro f t g c wt fr ag v r R n G P I hg s h
    have htT := G.2.1
    have hkv := (G.kv Z).1
    have k4 := G.k4 Z
    have v2 := G.1.v2
    have v7 := G.1.v7
    have q6 := G.1.r6
    have cg : (T < g) = False := eq_false (by omega)
    have e0 : (ck c = 0) = (c.2.2.1 = 24) := ck_is hkv 24 (by decide)
    rcases h with ⟨h24, he⟩ | ⟨h24, r1, hl, h2⟩
    · have x24 : (c.2.2.1 = 24) = True := eq_true h24
      simp (disch := first | omega | decide | assumption | exact Nat.le_of_ble_eq_true rfl) only [s18_71, s18_73, s18_74, s18_77, s18_80, s18_81, s18_84, s18_87, s18_88, s18_91, s18_123, s18_124, s18_127, ow_some, true_and, and_true, and_self, if_true, if_false, not_true, not_false_eq_true, Bool.false_eq_true, eq_self, Option.toList, List.cons_append, List.nil_append, ix_in, ix_cl, lt_in, lt_cl, lt_add, ix_one, vu_eq, vu_ne, arI_mk, arL_mk, arY_mZ, arY_mB, alen_mI, fld_sfl_ne, fld_sfl_same, Option.isSome_some, pok_i, b1z, b01, z10, b1o, Int32.zero_add, vu_vu, upd_eq, upd_ne, true_or, or_true, v2, v7, k4, q6, ix_lt, cg, e0, x24, ne_eq]
      exact ⟨rfl, rfl, rfl, s, Or.inr ⟨c, fr, ag, R, n, t, wt, v, r, he, G, P, I.2.1, I.2.2.1⟩⟩
    · have x24 : (c.2.2.1 = 24) = False := eq_false h24
      have hR : nR fr = R := by unfold nR; rw [I.2.2.1]; exact ix_cl (by have := I.2.2.2.1; omega)
      rw [hR] at hl
      simp (disch := first | omega | decide | assumption | exact Nat.le_of_ble_eq_true rfl) only [s18_71, s18_73, s18_74, s18_77, s18_80, s18_81, s18_84, s18_87, s18_88, s18_91, s18_94, ow_some, true_and, and_true, and_self, if_true, if_false, not_true, not_false_eq_true, Bool.false_eq_true, eq_self, Option.toList, List.cons_append, List.nil_append, ix_in, ix_cl, lt_in, lt_cl, lt_add, ix_one, vu_eq, vu_ne, arI_mk, arL_mk, arY_mZ, arY_mB, alen_mI, fld_sfl_ne, fld_sfl_same, Option.isSome_some, pok_i, b1z, b01, z10, b1o, Int32.zero_add, vu_vu, upd_eq, upd_ne, true_or, or_true, v2, v7, k4, ix_lt, cg, e0, x24, ne_eq]
      refine k18_95 G.1.cn (Nat.le_of_ble_eq_true rfl) (sp_lineC (d := d) Z G P h1 I.2.1 I.2.2.1 I.2.2.2.2.2 hl) ?_
      rintro f1 n1 k1 v1 ⟨rfl, rfl, rfl, s1, ho, he⟩
      simp (disch := first | omega | decide | assumption | exact Nat.le_of_ble_eq_true rfl) only [s18_98, s18_99, ow_some, true_and, and_true, and_self, if_true, if_false, not_true, not_false_eq_true, Bool.false_eq_true, eq_self, Option.toList, List.cons_append, List.nil_append, ix_in, ix_cl, lt_in, lt_cl, lt_add, ix_one, vu_eq, vu_ne, arI_mk, arL_mk, arY_mZ, arY_mB, alen_mI, fld_sfl_ne, fld_sfl_same, Option.isSome_some, pok_i, b1z, b01, z10, b1o, Int32.zero_add, vu_vu, upd_eq, upd_ne, true_or, or_true]
      rcases h2 with ⟨⟨w, p⟩, e1, e2⟩ | ⟨c1, fr1, ag1, e1, h3⟩
      · have E := he w p e1
        rw [p18_101 E.cn (Nat.le_of_ble_eq_true rfl) (E.exp (by decide))]
        simp only [Option.toList, List.nil_append]
        exact E.l94 (s.tr s1) e2 (by omega) hT
      · obtain ⟨t1, wt1, v1, r1', A1, n2, q1, G1, P1, hA1⟩ := ho _ _ _ e1
        rw [e1] at hl
        obtain ⟨R', n', I1⟩ := line_LI hz h8 I h24 hl
        have hAR : A1 = R' := by
          have := I1.2.2.1
          rw [hA1, ix_eq (by have := P1.1.2; omega) (by have := I1.2.2.2.1; omega)] at this
          exact this
        have hnn : n2 = n' := by rw [← P1.2.2.1.2.1.eq, ← I1.2.2.2.2.1.eq]
        subst hAR
        subst hnn
        rcases h3 with ⟨h30, e2⟩ | ⟨h30, hl2⟩
        · refine k18_101 G1.1.cn (Nat.le_of_ble_eq_true rfl) (G1.expN Z 30 (by decide) (by decide) h30) ?_
          rintro f2 nx2 kx2 vx2 ⟨rfl, rfl, rfl, s2, E⟩
          simp only [Option.toList, List.nil_append]
          exact E.l94 ((s.tr s1).tr s2) e2 (by omega) hT
        · refine k18_101 G1.1.cn (Nat.le_of_ble_eq_true rfl) (G1.exp Z 30 (by decide) (by decide) (by decide) h30) ?_
          rintro f2 nx2 kx2 vx2 ⟨rfl, rfl, rfl, s2, G2⟩
          have e12 : v1 12 = fr1 0 := P1.2.1.2.2.2.2
          have P2 := G2.1.pv
          have q62 := G2.1.r6
          have i12 := P2.i12
          have v12 := P2.v12
          simp (disch := first | omega | decide | assumption | exact Nat.le_of_ble_eq_true rfl) only [s18_104, s18_105, s18_108, s18_108i, s18_109, s18_112, s18_113, s18_114, s18_117, h18_120, ow_some, true_and, and_true, and_self, if_true, if_false, not_true, not_false_eq_true, Bool.false_eq_true, eq_self, Option.toList, List.cons_append, List.nil_append, ix_in, ix_cl, lt_in, lt_cl, lt_add, ix_one, vu_eq, vu_ne, arI_mk, arL_mk, arY_mZ, arY_mB, alen_mI, fld_sfl_ne, fld_sfl_same, Option.isSome_some, pok_i, b1z, b01, z10, b1o, Int32.zero_add, vu_vu, upd_eq, upd_ne, true_or, or_true, q62, i12, v12, e12]
          have g3 := cv_go (tx := tx) I1.1 (by rw [h30]; decide)
          have hLI := (show LI L S A1 n2 (nx tx L c1) fr1 from ⟨g3.1, I1.2.1, I1.2.2.1, I1.2.2.2.1, I1.2.2.2.2.1, by have := I1.2.2.2.2.2; omega⟩).up (i := 0) (x := fr1 0 + 1) (by omega) (by omega) (by omega)
          exact ih _ (t1 + 1) (g + 1) (nx tx L c1) wt1 _ _ _ _ A1 n2 ⟨G2.1.pl (fun a h => vu_ne (by omega)) (P2.set (i := 12) (by decide)) (upd_ne (by decide)), G2.2⟩ (P1.one (Or.inl ⟨rfl, rfl⟩)) hLI (by omega) (((s.tr s1).tr s2).tr (SJ.up (by omega))) hl2
end RD
/-- what is left of a read text -/
def RO (f : Nat → e_C) (b K L : Nat) (res : Lr) : t_Q := fun f' n' k' z => n' = b + 12 ∧ k' ≤ K + 3 * L + 200 ∧ z = some (.ref (b + 2)) ∧ SK b f f' ∧ RDV f' ∧ ((∃ w p, res = .inr (w, p) ∧ w ≠ 0 ∧ fld (f' 99) 3 7 = some (.int w) ∧ fld (f' 99) 3 8 = some (.int (nI p))) ∨ ∃ c fr ag S R n v r, res = .inl (c, fr, ag) ∧ (fld (f' 99) 3 7 = some (.int 0) ∧ fld (f' 99) 3 8 = some (.int (-1))) ∧ PV f' (b + 2) v r L ∧ PN S R n fr ag v r ∧ n ≤ L ∧ (fr 1 = nI S ∧ fr 52 = nI R))
section RDO
variable {X : Nat × (Nat → Int32)} {d b K : Nat} {f f0 : Nat → e_C} {tb tx ag : Nat → Int32} {L k : Nat} {nm : Int32}
theorem sp_read {fr0 : Nat → Int32} {res : Lr} (hL9 : L ≤ 900) (B : TB f tb tx L) (V : RDV f) (hN : 187 ≤ b) (h0 : ∀ i, i < 1394 → fr0 i = pl0 i) (h : l_text tx L k (lx tx L 0 nm) fr0 ag res) {u3 u4 : Value} : TT X (d + 63) 18 0 [.ref 99, .ref 1, .int (nI L), u3, u4] [] f (b + 2) K (RO f b K L res) := by
  have hal := alen_B B.1
  have mn : PU X (d + 62) 303 [.int (nI L), .int (nI 900)] f (b + 2) K (some (.int (nI L))) := by
    have := sp_min (X := X) (d := d + 62) (N := b + 2) (K := K) (f := f) (a := nI L) (b := nI 900)
    have e : mnI (nI L) (nI 900) = nI L := by
      unfold mnI
      rw [if_neg]
      rw [ix_lt (by omega) (by omega)]; omega
    rwa [e] at this
  have mx : PU X (d + 62) 302 [.int 0, .int (nI L)] f (b + 2) K (some (.int (nI L))) := by
    have := sp_max (X := X) (d := d + 62) (N := b + 2) (K := K) (f := f) (a := 0) (b := nI L)
    have e : mxI 0 (nI L) = nI L := by
      unfold mxI
      by_cases hl : (0 : Int32) < nI L
      · rw [if_pos hl]
      · rw [if_neg hl]
        rw [lit_nI 0, ix_lt (by omega) (by omega)] at hl
        rw [show L = 0 by omega]; rfl
    rwa [e] at this
  have cn : cno (f 99) = some 3 := cno_fld (j := 0) (V.1 0 (by omega))
  have mm : PU X (d + 62) 303 [.int (nI 900), .int (nI 900)] f (b + 2) K (some (.int (nI 900))) := by
    have := sp_min (X := X) (d := d + 62) (N := b + 2) (K := K) (f := f) (a := nI 900) (b := nI 900)
    rwa [show mnI (nI 900) (nI 900) = nI 900 by unfold mnI; split <;> rfl] at this
  obtain ⟨V0, ⟨q00, q01⟩, ⟨kk0, b00⟩, pp0, b01⟩ := V
  have V : RDV f := ⟨V0, ⟨q00, q01⟩, ⟨kk0, b00⟩, pp0, b01⟩
  have hal2 : alen (f 100) = some 901 := alen_I b00
  have e900 : nI 901 - 1 = nI 900 := by decide
  simp (disch := first | omega | decide | assumption | exact Nat.le_of_ble_eq_true rfl) only [s18_0, s18_1, s18_2, y18_3, s18_4, s18_5, y18_8, s18_9, s18_10, ow_some, true_and, and_true, and_self, if_true, if_false, not_true, not_false_eq_true, Bool.false_eq_true, eq_self, Option.toList, List.cons_append, List.nil_append, ix_in, ix_cl, lt_in, lt_cl, lt_add, ix_one, vu_eq, vu_ne, arI_mk, arL_mk, arY_mZ, arY_mB, alen_mI, fld_sfl_ne, fld_sfl_same, Option.isSome_some, pok_i, b1z, b01, z10, b1o, Int32.zero_add, vu_vu, upd_eq, upd_ne, true_or, or_true, hal, q00, hal2, e900]
  rw [p18_11 (Nat.le_of_ble_eq_true rfl) mm]
  simp only [Option.toList, List.cons_append, List.nil_append]
  rw [p18_14 (Nat.le_of_ble_eq_true rfl) mn]
  simp only [Option.toList, List.cons_append, List.nil_append]
  rw [p18_17 (Nat.le_of_ble_eq_true rfl) mx]
  simp (disch := first | omega | decide | assumption | exact Nat.le_of_ble_eq_true rfl) only [s18_20, s18_21, s18_22, s18_23, ow_some, true_and, and_true, and_self, if_true, if_false, not_true, not_false_eq_true, Bool.false_eq_true, eq_self, Option.toList, List.cons_append, List.nil_append, ix_in, ix_cl, lt_in, lt_cl, lt_add, ix_one, vu_eq, vu_ne, arI_mk, arL_mk, arY_mZ, arY_mB, alen_mI, fld_sfl_ne, fld_sfl_same, Option.isSome_some, pok_i, b1z, b01, z10, b1o, Int32.zero_add, vu_vu, upd_eq, upd_ne, true_or, or_true]
  refine k18_24 cn (Nat.le_of_ble_eq_true rfl) (sp_split (d := d + 55) (nm := nm) rfl hL9 B V hN) ?_
  rintro f1 n1 k1 v1 ⟨rfl, hk1, rfl, s1, T, kk, pp, R1, Z⟩
  subst k1
  generalize hc0 : lx tx L 0 nm = c0 at Z h
  have X1 : RX f1 b L kk pp T [] := ⟨R1, fun p hp => absurd hp (by simp)⟩
  have j7 := X1.1.2.2.2.2.1 7 (by omega)
  simp (disch := first | omega | decide | assumption | exact Nat.le_of_ble_eq_true rfl) only [s18_27, s18_28, s18_29, ow_some, true_and, and_true, and_self, if_true, if_false, not_true, not_false_eq_true, Bool.false_eq_true, eq_self, Option.toList, List.cons_append, List.nil_append, ix_in, ix_cl, lt_in, lt_cl, lt_add, ix_one, vu_eq, vu_ne, arI_mk, arL_mk, arY_mZ, arY_mB, alen_mI, fld_sfl_ne, fld_sfl_same, Option.isSome_some, pok_i, b1z, b01, z10, b1o, Int32.zero_add, vu_vu, upd_eq, upd_ne, true_or, or_true, j7]
  have X2 := X1.set (i := 7) (z := .int 0) (by omega) (by omega) (by simp)
  have s2 : SK b f (va_up f1 99 (sfl (f1 99) 7 (.int 0))) := s1.tr (SK.up (by omega))
  generalize va_up f1 99 (sfl (f1 99) 7 (.int 0)) = f2 at X2 s2 ⊢
  have j8 := X2.1.2.2.2.2.1 8 (by omega)
  simp (disch := first | omega | decide | assumption | exact Nat.le_of_ble_eq_true rfl) only [s18_32, s18_33, s18_34, ow_some, true_and, and_true, and_self, if_true, if_false, not_true, not_false_eq_true, Bool.false_eq_true, eq_self, Option.toList, List.cons_append, List.nil_append, ix_in, ix_cl, lt_in, lt_cl, lt_add, ix_one, vu_eq, vu_ne, arI_mk, arL_mk, arY_mZ, arY_mB, alen_mI, fld_sfl_ne, fld_sfl_same, Option.isSome_some, pok_i, b1z, b01, z10, b1o, Int32.zero_add, vu_vu, upd_eq, upd_ne, true_or, or_true, j8]
  have X3 := X2.set (i := 8) (z := .int (-1)) (by omega) (by omega) (by simp)
  have s3 : SK b f (va_up f2 99 (sfl (f2 99) 8 (.int (-1)))) := s2.tr (SK.up (by omega))
  generalize va_up f2 99 (sfl (f2 99) 8 (.int (-1))) = f3 at X3 s3 ⊢
  simp (disch := first | omega | decide | assumption | exact Nat.le_of_ble_eq_true rfl) only [s18_37, ow_some, true_and, and_true, and_self, if_true, if_false, not_true, not_false_eq_true, Bool.false_eq_true, eq_self, Option.toList, List.cons_append, List.nil_append, ix_in, ix_cl, lt_in, lt_cl, lt_add, ix_one, vu_eq, vu_ne, arI_mk, arL_mk, arY_mZ, arY_mB, alen_mI, fld_sfl_ne, fld_sfl_same, Option.isSome_some, pok_i, b1z, b01, z10, b1o, Int32.zero_add, vu_vu, upd_eq, upd_ne, true_or, or_true]
  rw [s18_38]
  simp (disch := first | omega | decide | assumption | exact Nat.le_of_ble_eq_true rfl) only [s18_41, s18_41i, s18_42, ow_some, true_and, and_true, and_self, if_true, if_false, not_true, not_false_eq_true, Bool.false_eq_true, eq_self, Option.toList, List.cons_append, List.nil_append, ix_in, ix_cl, lt_in, lt_cl, lt_add, ix_one, vu_eq, vu_ne, arI_mk, arL_mk, arY_mZ, arY_mB, alen_mI, fld_sfl_ne, fld_sfl_same, Option.isSome_some, pok_i, b1z, b01, z10, b1o, Int32.zero_add, vu_vu, upd_eq, upd_ne, true_or, or_true]
  refine k18_43 (by rw [vu_eq]; rfl) (Nat.le_of_ble_eq_true rfl) (sp_planI (d := d + 61) (p := b + 2) (C := L) (by omega) (by rw [vu_eq])) ?_
  rintro f4 n4 k4 v4 ⟨rfl, rfl, rfl, s4, v, r, P4, pI⟩
  have q4 : ∀ a, a < b + 2 → f4 a = f3 a := fun a ha => by rw [s4 a (by omega), vu_ne (by omega)]
  have X4 : RX f4 b L kk pp T _ := X3.frm (q4 99 (by omega)) (q4 100 (by omega)) (q4 101 (by omega))
  have s4' : SK b f f4 := fun a p q => by rw [q4 a (by omega)]; exact s3 a p q
  have j6 := X4.1.2.2.2.2.1 6 (by omega)
  simp (disch := first | omega | decide | assumption | exact Nat.le_of_ble_eq_true rfl) only [s18_46, ow_some, true_and, and_true, and_self, if_true, if_false, not_true, not_false_eq_true, Bool.false_eq_true, eq_self, Option.toList, List.cons_append, List.nil_append, ix_in, ix_cl, lt_in, lt_cl, lt_add, ix_one, vu_eq, vu_ne, arI_mk, arL_mk, arY_mZ, arY_mB, alen_mI, fld_sfl_ne, fld_sfl_same, Option.isSome_some, pok_i, b1z, b01, z10, b1o, Int32.zero_add, vu_vu, upd_eq, upd_ne, true_or, or_true, j6, pok_o]
  have X5 := X4.set (i := 6) (z := .ref (b + 2)) (by omega) (by omega) (by simp)
  have s5 : SK b f (va_up f4 99 (sfl (f4 99) 6 (.ref (b + 2)))) := s4'.tr (SK.up (by omega))
  have P5 := P4.fr (f' := va_up f4 99 (sfl (f4 99) 6 (.ref (b + 2)))) (fun e h1 h2 => vu_ne (by omega))
  generalize va_up f4 99 (sfl (f4 99) 6 (.ref (b + 2))) = f5 at X5 s5 P5 ⊢
  have j3 := X5.1.2.2.2.2.1 3 (by omega)
  simp (disch := first | omega | decide | assumption | exact Nat.le_of_ble_eq_true rfl) only [s18_49, s18_50, s18_51, ow_some, true_and, and_true, and_self, if_true, if_false, not_true, not_false_eq_true, Bool.false_eq_true, eq_self, Option.toList, List.cons_append, List.nil_append, ix_in, ix_cl, lt_in, lt_cl, lt_add, ix_one, vu_eq, vu_ne, arI_mk, arL_mk, arY_mZ, arY_mB, alen_mI, fld_sfl_ne, fld_sfl_same, Option.isSome_some, pok_i, b1z, b01, z10, b1o, Int32.zero_add, vu_vu, upd_eq, upd_ne, true_or, or_true, j3]
  have X6 := X5.set (i := 3) (z := .int 0) (by omega) (by omega) (by simp)
  have s6 : SK b f (va_up f5 99 (sfl (f5 99) 3 (.int 0))) := s5.tr (SK.up (by omega))
  have P6 := P5.fr (f' := va_up f5 99 (sfl (f5 99) 3 (.int 0))) (fun e h1 h2 => vu_ne (by omega))
  generalize va_up f5 99 (sfl (f5 99) 3 (.int 0)) = f6 at X6 s6 P6 ⊢
  have j4 := X6.1.2.2.2.2.1 4 (by omega)
  have r0 := X6.1.2.1
  have a0 := X6.1.2.2.2.2.2.1
  have z0 := z0i
  have e_in0 : e_in 0 901 = true := ix_in (m := 0) (N := 901) (by omega) (by omega)
  have e_cl0 : (0 : Int32).toNatClampNeg = 0 := by decide
  simp (disch := first | omega | decide | assumption | exact Nat.le_of_ble_eq_true rfl) only [s18_54, s18_55, s18_56, s18_59, s18_60, s18_61, ow_some, true_and, and_true, and_self, if_true, if_false, not_true, not_false_eq_true, Bool.false_eq_true, eq_self, Option.toList, List.cons_append, List.nil_append, ix_in, ix_cl, lt_in, lt_cl, lt_add, ix_one, vu_eq, vu_ne, arI_mk, arL_mk, arY_mZ, arY_mB, alen_mI, fld_sfl_ne, fld_sfl_same, Option.isSome_some, pok_i, b1z, b01, z10, b1o, Int32.zero_add, vu_vu, upd_eq, upd_ne, true_or, or_true, j4, r0, a0, e_in0, e_cl0]
  have X7 := X6.set (i := 4) (z := .int (kk 0)) (by omega) (by omega) (by simp)
  have s7 : SK b f (va_up f6 99 (sfl (f6 99) 4 (.int (kk 0)))) := s6.tr (SK.up (by omega))
  have P7 := P6.fr (f' := va_up f6 99 (sfl (f6 99) 4 (.int (kk 0)))) (fun e h1 h2 => vu_ne (by omega))
  generalize va_up f6 99 (sfl (f6 99) 4 (.int (kk 0))) = f7 at X7 s7 P7 ⊢
  obtain ⟨⟨hb, q0, q1, q2, rd, b0, b1⟩, hs⟩ := X7
  have W7 : RW f7 b L kk pp (fun i => if i = 2 then nI T else if i = 3 then 0 else if i = 4 then kk 0 else if i = 7 then 0 else -1) := by
    refine ⟨hb, q0, q1, hs (6, .ref (b + 2)) (by simp), ⟨rd 5 (by omega), fun i hi => ?_⟩, b0, b1⟩
    have : i = 2 ∨ i = 3 ∨ i = 4 ∨ i = 7 ∨ i = 8 := by simpa using hi
    rcases this with rfl | rfl | rfl | rfl | rfl
    · exact q2
    · exact hs (3, .int 0) (by simp)
    · exact hs (4, .int (kk 0)) (by simp)
    · exact hs (7, .int 0) (by simp)
    · exact hs (8, .int (-1)) (by simp)
  have G7 : GA f7 b L kk pp T tx c0 0 c0 7 v r := ⟨⟨_, W7, ⟨rfl, rfl, rfl, Or.inl rfl, rfl, rfl⟩, P7, 0, pI.1.2.2.2.2.2.1, by omega⟩, by have := Z.1.1; omega, rfl⟩
  simp (disch := first | omega | decide | assumption | exact Nat.le_of_ble_eq_true rfl) only [s18_64, ow_some, true_and, and_true, and_self, if_true, if_false, not_true, not_false_eq_true, Bool.false_eq_true, eq_self, Option.toList, List.cons_append, List.nil_append, ix_in, ix_cl, lt_in, lt_cl, lt_add, ix_one, vu_eq, vu_ne, arI_mk, arL_mk, arY_mZ, arY_mB, alen_mI, fld_sfl_ne, fld_sfl_same, Option.isSome_some, pok_i, b1z, b01, z10, b1o, Int32.zero_add, vu_vu, upd_eq, upd_ne, true_or, or_true]
  refine k18_65 G7.1.cn (Nat.le_of_ble_eq_true rfl) (sp_stairLine (d := d + 60) Z G7 pI h0 h) ?_
  rintro f8 n8 k8 v8 ⟨rfl, rfl, rfl, s8, hres⟩
  have sk8 : ∀ f', SJ b f7 f' → SK b f f' := fun f' hj a p q => by rw [hj a (by omega) (by omega)]; exact s7 a p q
  have fE : ∀ f' w p, SJ b f7 f' → GE f' b L kk pp T w p → res = .inr (w, p) → RO f b K L res f' (b + 2 + 10) (K + 19 + 71 + L) (some (.ref (b + 2))) := by
    intro f' w p hj E he
    obtain ⟨hw, u, v2, r2, m2, W, -⟩ := (show GE f' b L kk pp T w p from E)
    exact ⟨by omega, by omega, rfl, sk8 f' hj, W.rdv, Or.inl ⟨w, p, he, E.1, E.v7, E.v8⟩⟩
  simp (disch := first | omega | decide | assumption | exact Nat.le_of_ble_eq_true rfl) only [s18_68, h18_69, ow_some, true_and, and_true, and_self, if_true, if_false, not_true, not_false_eq_true, Bool.false_eq_true, eq_self, Option.toList, List.cons_append, List.nil_append, ix_in, ix_cl, lt_in, lt_cl, lt_add, ix_one, vu_eq, vu_ne, arI_mk, arL_mk, arY_mZ, arY_mB, alen_mI, fld_sfl_ne, fld_sfl_same, Option.isSome_some, pok_i, b1z, b01, z10, b1o, Int32.zero_add, vu_vu, upd_eq, upd_ne, true_or, or_true]
  rw [z0]
  rcases hres with ⟨w, p, he, E⟩ | ⟨t, c, wt, v1, r1, S, fr, G, P, I, hS, hl⟩
  · refine TT.mono (GE.fin (f' := f7) (S := 1) (tx := tx) (c0 := c0) (g := 0) E s8 he (by omega) (by have := Z.1.2.1; omega)) ?_
    rintro f' n' k' z ⟨rfl, rfl, rfl, hj, hr⟩
    rcases hr with ⟨w', p', he', E'⟩ | ⟨c', fr', ag', R', n', t', wt', v', r', he', -⟩
    · exact fE f' w' p' hj E' he'
    · rw [he] at he'; cases he'
  · refine TT.mono (sp_linesC (d := d) Z (f0 := f7) hS.1 hS.2 k f8 t 0 c wt fr ag v1 r1 0 0 G P I (by omega) s8 hl) ?_
    rintro f' n' k' z ⟨rfl, rfl, rfl, hj, hr⟩
    rcases hr with ⟨w', p', he', E'⟩ | ⟨c', fr', ag', R', n', t', wt', v', r', he', G', P', hR'⟩
    · exact fE f' w' p' hj E' he'
    · obtain ⟨u, W, ⟨-, -, -, -, u7, u8⟩, PV', m, hm1, hm2⟩ := G'.1
      refine ⟨by omega, by omega, rfl, sk8 f' hj, W.rdv, Or.inr ⟨c', fr', ag', S, R', n', v', r', he', ⟨by rw [W.v7, u7], by rw [W.v8, u8]⟩, PV', P', ?_, hR'⟩⟩
      have h14 := P'.2.2.1.1
      have h9 := P'.2.2.1.2.1.2
      rw [hm1, ix_eq (by omega) (by omega)] at h14
      omega
end RDO

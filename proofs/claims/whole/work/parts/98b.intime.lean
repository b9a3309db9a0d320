/-! the class: seen in time -/
theorem mn_i {a b : Int32} : (mnI a b).toInt = min a.toInt b.toInt := by
  unfold mnI
  by_cases h : b < a
  · rw [if_pos h]; rw [Int32.lt_iff_toInt_lt] at h; omega
  · rw [if_neg h]; rw [Int32.lt_iff_toInt_lt] at h; omega
theorem dy_t {all : Nat → Int32} {S R P t : Nat} (I : IS all S R P) (ht : t < 100) : (all 56 + nI t).toInt = (all 56).toInt + t := by
  obtain ⟨n, hn, e⟩ := I.dy
  rw [e, nI_add, nI_toInt (by omega), nI_toInt (by omega)]
  omega
theorem can_iff {all : Nat → Int32} {S R P : Nat} (I : IS all S R P) {Q e0 : Nat} (hQ : all 2 = nI Q) (he : all 55 = nI e0) (hle : e0 ≤ Q) (hQ9 : Q ≤ 9) {e : Nat} (hE : e < 100) : ∀ t s0, t < 512 → s0 < 512 → (m_can all P t s0 e = true ↔ bits t ≤ (if e = 0 then Q - e0 else Q) ∧ ∀ p, p < P → t.testBit p = true → (all 56).toInt + e ≤ (all (34 + p)).toInt ∧ s0.testBit (mte all p) = false) := by
  intro t s0 ht hs0
  have hd : 0 ≤ (all 56).toInt := by obtain ⟨n, hn, e⟩ := I.dy; rw [e, nI_toInt (by omega)]; omega
  have hr : (if e = 0 then all 2 - all 55 else all 2) = nI (if e = 0 then Q - e0 else Q) := by
    rw [hQ, he]
    by_cases h : e = 0
    · rw [if_pos h, if_pos h]
      have : nI Q = nI (Q - e0) + nI e0 := by rw [nI_add]; congr 1; omega
      rw [this]; exact Int32.add_sub_cancel _ _
    · rw [if_neg h, if_neg h]
  have hbt := bits_lt (T := t)
  have hrl : (if e = 0 then Q - e0 else Q) ≤ 9 := by split <;> omega
  unfold m_can
  rw [hr, Bool.and_eq_true, decide_eq_true_iff, allB_iff, ix_le (by omega) (by omega)]
  refine and_congr Iff.rfl (forall_congr' (fun p => forall_congr' (fun hp => ?_)))
  have hp9 : p < 9 := by have := I.p9; omega
  have hdt := dy_t I hE
  unfold c_ok
  cases hb : t.testBit p with
  | false => simp
  | true =>
    simp only [Bool.not_true, Bool.false_or, Bool.and_eq_true, Bool.or_eq_true, Bool.not_eq_true', decide_eq_false_iff_not, decide_eq_true_iff, true_implies]
    rw [Int32.lt_iff_toInt_lt, hdt]
    have hm : (all (43 + p) = -1 ∨ s0.testBit (all (43 + p)).toNatClampNeg = false) ↔ s0.testBit (mte all p) = false := by
      unfold mte
      by_cases h : all (43 + p) = -1
      · rw [if_pos h]
        refine ⟨fun _ => ?_, fun _ => Or.inl h⟩
        cases hz : s0.testBit 9 with
        | false => rfl
        | true => have := tb_9 hs0 hz; omega
      · rw [if_neg h]
        exact ⟨fun z => z.resolve_left h, fun z => Or.inr z⟩
    rw [hm]
    constructor
    · rintro ⟨⟨x1, x2⟩, x3⟩; exact ⟨by omega, x3⟩
    · rintro ⟨x2, x3⟩
      refine ⟨⟨fun z => ?_, by omega⟩, x3⟩
      rw [z] at x2
      have : ((-1 : Int32)).toInt = -1 := by decide
      omega
theorem sp_inTime {X : Nat × (Nat → Int32)} {d N K a pl C S R P set A O : Nat} {f : Nat → e_C} {x r : Nat → Nat → Int32} {w v all sb cb ra oa : Nat → Int32} {mm kk : Int32} (V : SV f a pl w x) (W : PV f pl v r C) (G : CR all S P w x v r C) (I : IS all S R P) (hd : AD a pl 137) (E : EV f mm kk A O sb cb ra oa) (hs : set < 2 ^ P) (hsT : sub set (nT all) = true) {u3 u4 : Value} : TT X (d + 4) 79 0 [.ref 136, .ref a, .int (nI set), u3, u4] [] f N K (fun f' n' k' z => n' = N ∧ k' = K ∧ SE f f' ∧ (∃ mm kk A O sb cb ra oa, EV f' mm kk A O sb cb ra oa) ∧ ∃ b : Bool, z = some (.int (bI b)) ∧ (b = true ↔ rch all P 10 set)) := by
  have h9 := I.p9
  have hs5 : set < 512 := Nat.lt_of_lt_of_le hs (pw9 h9)
  have hT5 := I.t5
  obtain ⟨e0, Q, hle, hQ9, he, hQ⟩ := I.sn
  simp (disch := first | omega | decide | assumption | exact Nat.le_of_ble_eq_true rfl) only [s79_0, s79_1, s79_2, ow_some, true_and, and_true, and_self, if_true, if_false, not_true, not_false_eq_true, Bool.false_eq_true, eq_self, Option.toList, List.cons_append, List.nil_append, ix_in, ix_cl, lt_in, lt_cl, lt_add, ix_one, vu_eq, vu_ne, arI_mk, arL_mk, arY_mZ, arY_mB, alen_mI, fld_sfl_ne, fld_sfl_same, Option.isSome_some, pok_i, b1z, b01, z10, b1o, Int32.zero_add, vu_vu, upd_eq, upd_ne, true_or, or_true]
  refine k79_3 E.cn (Nat.le_of_ble_eq_true rfl) (sp_collect V W G I hd E hs) ?_
  rintro f1 n1 k1 v1 ⟨rfl, rfl, rfl, s1, m, k, gs, gc, sb, cb, E1, Gh, hmq, hk4, hsb, hcb, so, co⟩
  have hm9 : m ≤ 9 := by omega
  have G9 := Gh.top h9 hs
  have hsy : ∀ p, p < 9 → mte all p < 9 → mte all (mte all p) = p := fun p a b => (mte_sy I p a b).1
  have hsy2 : ∀ p, p < 9 → mte all p < 9 → mte all (mte all p) = p ∧ mte all p ≠ p := fun p a b => ⟨(mte_sy I p a b).1, (mte_sy I p a b).2.1⟩
  have hTP : ∀ p, (nT all).testBit p = true → p < P := fun p h => by
    refine Decidable.byContradiction (fun hn => ?_)
    have : nT all < 2 ^ p := Nat.lt_of_lt_of_le I.tP (Nat.pow_le_pow_right (by decide) (by omega))
    rw [Nat.testBit_lt_two_pow this] at h
    exact absurd h (by decide)
  have so' : ∀ i j, i ≤ j → j < m → (all (34 + gs i)).toInt ≤ (all (34 + gs j)).toInt := fun i j a b => by
    have := so i j a b
    rw [Int32.le_iff_toInt_le, hsb i (by omega), hsb j b] at this
    exact this
  have co' : ∀ i j, i ≤ j → j < k → min (all (34 + gc i)).toInt (all (34 + mte all (gc i))).toInt ≤ min (all (34 + gc j)).toInt (all (34 + mte all (gc j))).toInt := fun i j a b => by
    have := co i j a b
    rw [Int32.le_iff_toInt_le, hcb i (by omega), hcb j b, mn_i, mn_i] at this
    exact this
  simp (disch := first | omega | decide | assumption | exact Nat.le_of_ble_eq_true rfl) only [s79_6, h79_7, ow_some, true_and, and_true, and_self, if_true, if_false, not_true, not_false_eq_true, Bool.false_eq_true, eq_self, Option.toList, List.cons_append, List.nil_append, ix_in, ix_cl, lt_in, lt_cl, lt_add, ix_one, vu_eq, vu_ne, arI_mk, arL_mk, arY_mZ, arY_mB, alen_mI, fld_sfl_ne, fld_sfl_same, Option.isSome_some, pok_i, b1z, b01, z10, b1o, Int32.zero_add, vu_vu, upd_eq, upd_ne, true_or, or_true]
  refine lp (fun j e (o : Nat → Int32) => SE f e ∧ EV e (nI m) (nI k) A O sb cb o oa ∧ ∀ i, i < j → o i = if i = 0 then 0 else -1) (fun j _ => [.ref 136, .ref a, .int (nI set), .int (nI j), u4]) 5 ?_ ?_ 0 f1 ra (by omega) ⟨s1, E1, fun i hi => by omega⟩
  · rintro j e o hj ⟨t1, F1, h1⟩ hI
    obtain ⟨⟨f0, f1, f2, f3, f4, f5, f6⟩, b1, b2, b3, b4, hAO⟩ := id F1
    have c1 : ((4 : Int32) < nI j) = False := eq_false (by rw [Int32.lt_iff_toInt_lt, nI_toInt (by omega)]; show ¬ (4 : Int) < j; omega)
    have up : ∀ z : Int32, EV (va_up e A (.inl (.int, 5, .inl (upd o j z)))) (nI m) (nI k) A O sb cb (upd o j z) oa := fun z => ⟨by rw [vu_ne (by omega)]; exact F1.1, by rw [vu_ne (by omega)]; exact b1, by rw [vu_ne (by omega)]; exact b2, by rw [vu_eq]; rfl, by rw [vu_ne (by omega)]; exact b4, hAO⟩
    have fin : ∀ z : Int32, z = (if j = 0 then 0 else -1) → ∀ i, i < j + 1 → upd o j z i = if i = 0 then 0 else -1 := fun z hz i hi => by
      by_cases h : i = j
      · subst h; rw [upd_eq]; exact hz
      · rw [upd_ne h]; exact h1 i (by omega)
    by_cases h0 : j = 0
    · have c2 : (nI j = 0) = True := eq_true (by rw [h0]; rfl)
      simp (disch := first | omega | decide | assumption | exact Nat.le_of_ble_eq_true rfl) only [s79_8, s79_9, s79_10, s79_13, s79_14, s79_17, s79_18, s79_19, s79_22, s79_23, s79_26, s79_27, s79_28, h79_31, ow_some, true_and, and_true, and_self, if_true, if_false, not_true, not_false_eq_true, Bool.false_eq_true, eq_self, Option.toList, List.cons_append, List.nil_append, ix_in, ix_cl, lt_in, lt_cl, lt_add, ix_one, vu_eq, vu_ne, arI_mk, arL_mk, arY_mZ, arY_mB, alen_mI, fld_sfl_ne, fld_sfl_same, Option.isSome_some, pok_i, b1z, b01, z10, b1o, Int32.zero_add, vu_vu, upd_eq, upd_ne, true_or, or_true, c1, c2, f5, b3]
      exact hI _ (upd o j 0) ⟨t1.tr (SE.up (by omega)), up _, fin 0 (by rw [if_pos h0])⟩
    · have c2 : (nI j = 0) = False := eq_false (fun z => h0 (by
        have := congrArg Int32.toInt z
        rw [nI_toInt (by omega)] at this
        have e : ((0 : Int32)).toInt = 0 := by decide
        omega))
      simp (disch := first | omega | decide | assumption | exact Nat.le_of_ble_eq_true rfl) only [s79_8, s79_9, s79_10, s79_13, s79_14, s79_17, s79_18, s79_19, s79_22, s79_23, s79_26, s79_27, s79_28, h79_31, ow_some, true_and, and_true, and_self, if_true, if_false, not_true, not_false_eq_true, Bool.false_eq_true, eq_self, Option.toList, List.cons_append, List.nil_append, ix_in, ix_cl, lt_in, lt_cl, lt_add, ix_one, vu_eq, vu_ne, arI_mk, arL_mk, arY_mZ, arY_mB, alen_mI, fld_sfl_ne, fld_sfl_same, Option.isSome_some, pok_i, b1z, b01, z10, b1o, Int32.zero_add, vu_vu, upd_eq, upd_ne, true_or, or_true, c1, c2, f5, b3]
      exact hI _ (upd o j (-1)) ⟨t1.tr (SE.up (by omega)), up _, fin (-1) (by rw [if_neg h0])⟩
  · rintro e o ⟨t1, F1, h1⟩
    have c1 : ((4 : Int32) < nI 5) = True := by decide
    simp (disch := first | omega | decide | assumption | exact Nat.le_of_ble_eq_true rfl) only [s79_8, s79_9, s79_10, s79_34, h79_35, ow_some, true_and, and_true, and_self, if_true, if_false, not_true, not_false_eq_true, Bool.false_eq_true, eq_self, Option.toList, List.cons_append, List.nil_append, ix_in, ix_cl, lt_in, lt_cl, lt_add, ix_one, vu_eq, vu_ne, arI_mk, arL_mk, arY_mZ, arY_mB, alen_mI, fld_sfl_ne, fld_sfl_same, Option.isSome_some, pok_i, b1z, b01, z10, b1o, Int32.zero_add, vu_vu, upd_eq, upd_ne, true_or, or_true, c1]
    refine lp (fun t e (z : Nat × Nat × (Nat → Int32) × (Nat → Int32) × Value) => SE f e ∧ EV e (nI m) (nI k) z.1 z.2.1 sb cb z.2.2.1 z.2.2.2.1 ∧ (∀ c, c ≤ k → z.2.2.1 c = -1 ∨ ∃ r, r ≤ m ∧ z.2.2.1 c = nI r ∧ rch all P t (prs gs r ||| prc gc (mte all) c)) ∧ ∀ a c, YY all P set m k (mte all) gs gc (fun p => (all (34 + p)).toInt) (all 56).toInt t a c → ∃ r, z.2.2.1 c = nI r ∧ a ≤ r ∧ r ≤ m) (fun t z => [.ref 136, .ref a, .int (nI set), .int (nI t), z.2.2.2.2]) 10 ?_ ?_ 0 e (A, O, o, oa, u4) (by omega) ⟨t1, F1, fun c hc => ?_, fun a c hY => ?_⟩
    · rintro t e ⟨A, O, ra, oa, u⟩ ht ⟨t1, F1, S1, C1⟩ hI
      dsimp only at F1 S1 C1 hI ⊢
      have V1 := V.fr (f' := e) (fun b h1 h2 => t1 b (by omega))
      have W1 := W.fr (f' := e) (fun b h1 h2 => t1 b (by omega))
      have c2 : ((9 : Int32) < nI t) = False := eq_false (by rw [Int32.lt_iff_toInt_lt, nI_toInt (by omega)]; show ¬ (9 : Int) < t; omega)
      have hcan := can_iff I hQ he hle hQ9 (e := t) (by omega)
      have hdt := dy_t I (t := t) (by omega)
      have go : ∀ q : Nat, q = (if t = 0 then Q - e0 else Q) → ∀ u : Value, TT X (d + 4) 79 79 [.ref 136, .ref a, .int (nI set), .int (nI t), u] [.int (nI q), .int (all 56 + nI t), .ref 136] e n1 k1 (fun f' n' k' z => n' = n1 ∧ k' = k1 ∧ SE f f' ∧ (∃ mm kk A O sb cb ra oa, EV f' mm kk A O sb cb ra oa) ∧ ∃ b : Bool, z = some (.int (bI b)) ∧ (b = true ↔ rch all P 10 set)) := by
        intro q hq u
        have hq9 : q ≤ 9 := by rw [hq]; split <;> omega
        refine k79_79 F1.cn (Nat.le_of_ble_eq_true rfl) (sp_passDay F1 hm9 hk4 (fun c hc => (S1 c hc).imp id (fun ⟨r, x1, x2, _⟩ => ⟨r, x1, x2⟩)) hq9) ?_
        rintro g n1 k1 v1 ⟨rfl, rfl, rfl, t2, ra', F2, D1, D2⟩
        simp (disch := first | omega | decide | assumption | exact Nat.le_of_ble_eq_true rfl) only [s79_82, h79_85, ow_some, true_and, and_true, and_self, if_true, if_false, not_true, not_false_eq_true, Bool.false_eq_true, eq_self, Option.toList, List.cons_append, List.nil_append, ix_in, ix_cl, lt_in, lt_cl, lt_add, ix_one, vu_eq, vu_ne, arI_mk, arL_mk, arY_mZ, arY_mB, alen_mI, fld_sfl_ne, fld_sfl_same, Option.isSome_some, pok_i, b1z, b01, z10, b1o, Int32.zero_add, vu_vu, upd_eq, upd_ne, true_or, or_true]
        refine hI _ (O, A, ra', ra, u) ⟨t1.tr t2, F2, fun c hc => ?_, fun a' c' hY => ?_⟩
        · rcases D1 c (by omega) with h | ⟨r, b, r0, x1, x2, x3, x4, x5, ⟨y1, y2, y3, y4, y5⟩, x7⟩
          · exact Or.inl h
          · refine Or.inr ⟨r, x1, x2, ?_⟩
            rcases S1 b (by omega) with h | ⟨r1, z1, z2, z3⟩
            · rw [x4] at h
              have := ne_m1 (m := r0) (by omega)
              exact absurd h (by rw [this]; exact id)
            · have er : r1 = r0 := by
                have := z2.symm.trans x4
                have := congrArg Int32.toInt this
                rw [nI_toInt (by omega), nI_toInt (by omega)] at this
                omega
              subst er
              have := sch_sound (room := fun e => if e = 0 then Q - e0 else Q) (B := fun p => (all (34 + p)).toInt) (D := (all 56).toInt) hsy hs5 hT5 hsT hcan G9 (r := r1) (c := b) (n := r - r1) (h := c - b) (by omega) (by omega) (by show r - r1 + 2 * (c - b) ≤ (if t = 0 then Q - e0 else Q); omega) (fun i i1 i2 => by
                have p1 := y1 (by omega)
                have p2 := so r1 i i1 (by omega)
                rw [Int32.le_iff_toInt_le, hdt] at p1
                rw [Int32.le_iff_toInt_le, hsb i (by omega)] at p2
                show _ ≤ (all (34 + gs i)).toInt
                omega) (fun j j1 j2 => by
                have p1 := y5 j j1 (by omega)
                rw [Int32.le_iff_toInt_le, hdt, hcb j (by omega), mn_i] at p1
                show _ ≤ (all (34 + gc j)).toInt ∧ _ ≤ (all (34 + mte all (gc j))).toInt
                omega) z3
              rw [show r1 + (r - r1) = r by omega, show b + (c - b) = c by omega] at this
              exact this
        · have hl := YY_le hY
          obtain ⟨a0, c0, hY0, q1, q2, q3, q4, q5⟩ := sch_back (room := fun e => if e = 0 then Q - e0 else Q) hsy hs5 hT5 hTP hcan G9 so' co' hY
          have q3 : a' - a0 + 2 * (c' - c0) ≤ (if t = 0 then Q - e0 else Q) := q3
          rw [← hq] at q3
          obtain ⟨r, z1, z2, z3⟩ := C1 a0 c0 hY0
          have hsd : sdd m k c0 r q (all 56 + nI t) sb cb c' := by
            refine ⟨fun h => ?_, q2, hl.2, by omega, fun j j1 j2 => ?_⟩
            · have := q4 r z2 h
              rw [Int32.le_iff_toInt_le, hdt, hsb r h]
              exact this
            · have := q5 j j1 (by omega)
              have this : _ ≤ (all (34 + gc j)).toInt ∧ _ ≤ (all (34 + mte all (gc j))).toInt := this
              rw [Int32.le_iff_toInt_le, hdt, hcb j (by omega), mn_i]
              omega
          obtain ⟨r', w1, w2, w3⟩ := D2 c0 r c' (by omega) z3 z1 (by omega) hsd
          exact ⟨r', w1, by omega, w3⟩
      have g8 := G.w8
      by_cases h0 : t = 0
      · have c3 : (nI t = 0) = True := eq_true (by rw [h0]; rfl)
        have er : v 10 - w 7 = nI (Q - e0) := by
          rw [G.v10, G.w7, hQ, he]
          have : nI Q = nI (Q - e0) + nI e0 := by rw [nI_add]; congr 1; omega
          rw [this]; exact Int32.add_sub_cancel _ _
        simp (disch := first | omega | decide | assumption | exact Nat.le_of_ble_eq_true rfl) only [s79_36, s79_37, s79_39, s79_42, s79_43, s79_46, s79_47, s79_50, s79_53, s79_54, s79_57, s79_58, s79_61, s79_62, s79_65, s79_68, s79_70, s79_71, s79_72, s79_75, s79_76, s79_77, ow_some, true_and, and_true, and_self, if_true, if_false, not_true, not_false_eq_true, Bool.false_eq_true, eq_self, Option.toList, List.cons_append, List.nil_append, ix_in, ix_cl, lt_in, lt_cl, lt_add, ix_one, vu_eq, vu_ne, arI_mk, arL_mk, arY_mZ, arY_mB, alen_mI, fld_sfl_ne, fld_sfl_same, Option.isSome_some, pok_i, b1z, b01, z10, b1o, Int32.zero_add, vu_vu, upd_eq, upd_ne, true_or, or_true, V1.v1, V1.v6, V1.v7, V1.v8, V1.v9, V1.i1, V1.i6, V1.i7, V1.i8, V1.i9, V1.r2, V1.r3, V1.r4, V1.r5, V1.pl, V1.a2, V1.a3, V1.a4, V1.a5, W1.v0, W1.v3, W1.v10, W1.v11, W1.v12, W1.v14, W1.v15, W1.v16, W1.v17, W1.v18, W1.r1, W1.r2, W1.r4, W1.r5, W1.r6, W1.r7, W1.r8, W1.r9, W1.r13, W1.a1, W1.a2, W1.a4, W1.a5, W1.a6, W1.a7, W1.a8, W1.a9, W1.a13, c2, c3, er, g8]
        exact go (Q - e0) (by rw [if_pos h0]) _
      · have c3 : (nI t = 0) = False := eq_false (fun z => h0 (by
          have := congrArg Int32.toInt z
          rw [nI_toInt (by omega)] at this
          have e : ((0 : Int32)).toInt = 0 := by decide
          omega))
        have er : v 10 = nI Q := by rw [G.v10, hQ]
        simp (disch := first | omega | decide | assumption | exact Nat.le_of_ble_eq_true rfl) only [s79_36, s79_37, s79_39, s79_42, s79_43, s79_46, s79_47, s79_50, s79_53, s79_54, s79_57, s79_58, s79_61, s79_62, s79_65, s79_68, s79_70, s79_71, s79_72, s79_75, s79_76, s79_77, ow_some, true_and, and_true, and_self, if_true, if_false, not_true, not_false_eq_true, Bool.false_eq_true, eq_self, Option.toList, List.cons_append, List.nil_append, ix_in, ix_cl, lt_in, lt_cl, lt_add, ix_one, vu_eq, vu_ne, arI_mk, arL_mk, arY_mZ, arY_mB, alen_mI, fld_sfl_ne, fld_sfl_same, Option.isSome_some, pok_i, b1z, b01, z10, b1o, Int32.zero_add, vu_vu, upd_eq, upd_ne, true_or, or_true, V1.v1, V1.v6, V1.v7, V1.v8, V1.v9, V1.i1, V1.i6, V1.i7, V1.i8, V1.i9, V1.r2, V1.r3, V1.r4, V1.r5, V1.pl, V1.a2, V1.a3, V1.a4, V1.a5, W1.v0, W1.v3, W1.v10, W1.v11, W1.v12, W1.v14, W1.v15, W1.v16, W1.v17, W1.v18, W1.r1, W1.r2, W1.r4, W1.r5, W1.r6, W1.r7, W1.r8, W1.r9, W1.r13, W1.a1, W1.a2, W1.a4, W1.a5, W1.a6, W1.a7, W1.a8, W1.a9, W1.a13, c2, c3, er, g8]
        exact go Q (by rw [if_neg h0]) _
    · rintro e ⟨A, O, ra, oa, u⟩ ⟨t1, F1, S1, C1⟩
      dsimp only at F1 S1 C1 ⊢
      obtain ⟨⟨f0, f1, f2, f3, f4, f5, f6⟩, b1, b2, b3, b4, hAO⟩ := id F1
      have c2 : ((9 : Int32) < nI 10) = True := by decide
      have k5 : k < 5 := by omega
      have key : ra k = nI m ↔ rch all P 10 set := by
        constructor
        · intro h
          rcases S1 k (Nat.le_refl k) with z | ⟨r, z1, z2, z3⟩
          · rw [h] at z
            have := ne_m1 (m := m) (by omega)
            exact absurd z (by rw [this]; exact id)
          · have er : r = m := by
              have := z2.symm.trans h
              have := congrArg Int32.toInt this
              rw [nI_toInt (by omega), nI_toInt (by omega)] at this
              omega
            subst er
            rw [pre_set hsy2 hs5 G9] at z3
            exact z3
        · intro h
          obtain ⟨r, z1, z2, z3⟩ := C1 m k (YY_set G9 h)
          rw [z1, show r = m by omega]
      by_cases h : ra k = nI m
      · have h' : (ra k = nI m) = True := eq_true h
        simp (disch := first | omega | decide | assumption | exact Nat.le_of_ble_eq_true rfl) only [s79_36, s79_37, s79_39, s79_88, s79_89, s79_92, s79_93, s79_96, s79_97, s79_98, s79_101, s79_104, s79_105, s79_108, s79_109, ow_some, true_and, and_true, and_self, if_true, if_false, not_true, not_false_eq_true, Bool.false_eq_true, eq_self, Option.toList, List.cons_append, List.nil_append, ix_in, ix_cl, lt_in, lt_cl, lt_add, ix_one, vu_eq, vu_ne, arI_mk, arL_mk, arY_mZ, arY_mB, alen_mI, fld_sfl_ne, fld_sfl_same, Option.isSome_some, pok_i, b1z, b01, z10, b1o, Int32.zero_add, vu_vu, upd_eq, upd_ne, true_or, or_true, c2, f2, f4, f5, b3, h']
        exact ⟨t1, ⟨_, _, _, _, _, _, _, _, F1⟩, true, rfl, fun _ => key.mp h, fun _ => rfl⟩
      · have h' : (ra k = nI m) = False := eq_false h
        simp (disch := first | omega | decide | assumption | exact Nat.le_of_ble_eq_true rfl) only [s79_36, s79_37, s79_39, s79_88, s79_89, s79_92, s79_93, s79_96, s79_97, s79_98, s79_101, s79_104, s79_105, s79_108, s79_109, ow_some, true_and, and_true, and_self, if_true, if_false, not_true, not_false_eq_true, Bool.false_eq_true, eq_self, Option.toList, List.cons_append, List.nil_append, ix_in, ix_cl, lt_in, lt_cl, lt_add, ix_one, vu_eq, vu_ne, arI_mk, arL_mk, arY_mZ, arY_mB, alen_mI, fld_sfl_ne, fld_sfl_same, Option.isSome_some, pok_i, b1z, b01, z10, b1o, Int32.zero_add, vu_vu, upd_eq, upd_ne, true_or, or_true, c2, f2, f4, f5, b3, h']
        exact ⟨t1, ⟨_, _, _, _, _, _, _, _, F1⟩, false, rfl, fun z => absurd z (by decide), fun z => absurd (key.mpr z) h⟩
    · have e1 := h1 c (by omega)
      by_cases h0 : c = 0
      · subst h0
        right
        exact ⟨0, by omega, e1, by simp [rch, prs, prc]⟩
      · rw [if_neg h0] at e1
        exact Or.inl e1
    · obtain ⟨rfl, rfl⟩ := YY_0 hY
      exact ⟨0, h1 0 (by omega), by omega, by omega⟩

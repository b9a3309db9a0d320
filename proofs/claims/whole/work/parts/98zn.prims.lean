/-! the class's reader: kinds of tokens, what it asks and takes -/
def ckl : List Int32 := [100, 101, 102, 103, 104, 105, 106, 107, 108, 109, 110, 111, 112, 113, 117, 118, 119, 120, 115, 114, 116, 1, 1, 4, 0, 2, 4, 4, 4, 4, 59, 58, 43, 45, 42, 40, 41, 91, 93, 61, 60, 62]
def ckt (kd : Int32) : Int32 := ckl.getD kd.toNatClampNeg 4
def ck (c : Cu) : Int32 := if c.2.2.1 = 23 then 1000 + c.2.2.2 else ckt c.2.2.1
def kvl : List Nat := [0, 1, 2, 3, 4, 5, 6, 7, 8, 9, 10, 11, 12, 13, 14, 15, 16, 17, 18, 19, 20, 22, 24, 25, 30, 31, 32, 33, 34, 35, 36, 37, 38, 39, 40, 41]
def kvd (c : Cu) : Prop := cnm c ∧ (c.2.2.1 = 23 ∨ ∃ k, k ∈ kvl ∧ c.2.2.1 = nI k)
theorem kv_inj : ∀ a ∈ kvl, ∀ b ∈ kvl, ckt (nI a) = ckt (nI b) → a = b := by decide +kernel
theorem kv_lo : ∀ a ∈ kvl, a < 42 ∧ a ≠ 23 ∧ 0 ≤ (ckt (nI a)).toInt ∧ (ckt (nI a)).toInt < 121 := by decide +kernel
theorem n1000 {q : Nat} : (1000 : Int32) + nI q = nI (1000 + q) := by rw [lit_nI 1000, nI_add]
theorem ck_num {c : Cu} (h : kvd c) (hk : c.2.2.1 = 23) : ∃ q, q < 1000 ∧ c.2.2.2 = nI q ∧ ck c = nI (1000 + q) := by
  obtain ⟨q, h1, h2⟩ := h.1 hk
  exact ⟨q, h1, h2, by unfold ck; rw [if_pos hk, h2, n1000]⟩
theorem ck_oth {c : Cu} (h : kvd c) (hk : c.2.2.1 ≠ 23) : ∃ k, k ∈ kvl ∧ c.2.2.1 = nI k ∧ ck c = ckt (nI k) := by
  rcases h.2 with z | ⟨k, h1, h2⟩
  · exact absurd z hk
  · exact ⟨k, h1, h2, by unfold ck; rw [if_neg hk, h2]⟩
theorem ck_is {c : Cu} (h : kvd c) (k : Nat) (hk : k ∈ kvl) : (ck c = ckt (nI k)) = (c.2.2.1 = nI k) := by
  apply propext
  obtain ⟨k1, k2, k3, k4⟩ := kv_lo k hk
  by_cases h23 : c.2.2.1 = 23
  · obtain ⟨q, q1, q2, q3⟩ := ck_num h h23
    constructor
    · intro e
      rw [q3] at e
      have := congrArg Int32.toInt e
      rw [nI_toInt (by omega)] at this
      omega
    · intro e
      rw [h23] at e
      have := congrArg Int32.toInt e
      rw [nI_toInt (by omega)] at this
      have e23 : (23 : Int32).toInt = 23 := by decide
      omega
  · obtain ⟨j, j1, j2, j3⟩ := ck_oth h h23
    rw [j2, j3]
    constructor
    · intro e; rw [kv_inj j j1 k hk e]
    · intro e
      have hj := kv_lo j j1
      have : j = k := by
        have := congrArg Int32.toInt e
        rw [nI_toInt (by omega), nI_toInt (by omega)] at this
        omega
      rw [this]
theorem ck_ge {c : Cu} (h : kvd c) : ((1000 : Int32) ≤ ck c) = (c.2.2.1 = 23) := by
  apply propext
  rw [Int32.le_iff_toInt_le, show (1000 : Int32).toInt = 1000 by decide]
  by_cases h23 : c.2.2.1 = 23
  · obtain ⟨q, q1, q2, q3⟩ := ck_num h h23
    rw [q3, nI_toInt (by omega)]
    exact ⟨fun _ => h23, fun _ => by omega⟩
  · obtain ⟨j, j1, j2, j3⟩ := ck_oth h h23
    have := kv_lo j j1
    rw [j3]
    exact ⟨fun e => by omega, fun e => absurd e h23⟩
theorem ck_told {c : Cu} (h : kvd c) (hk : c.2.2.1 = 23) : ck c - 1000 = c.2.2.2 := by
  unfold ck; rw [if_pos hk, Int32.add_comm, Int32.add_sub_cancel]
theorem ck_neg {c : Cu} (h : kvd c) (hk : c.2.2.1 ≠ 23) : (ck c - 1000 < 0) = True := by
  obtain ⟨j, j1, j2, j3⟩ := ck_oth h hk
  have hl := kv_lo j j1
  apply eq_true
  rw [j3, Int32.lt_iff_toInt_lt, Int32.toInt_sub, show (1000 : Int32).toInt = 1000 by decide, show (0 : Int32).toInt = 0 by decide, Int.bmod_eq_of_le (by omega) (by omega)]
  omega
/-- the tokens of a text, one behind the other -/
def tk (tx : Nat → Int32) (sz : Nat) (c0 : Cu) : Nat → Cu
  | 0 => c0
  | t + 1 => nx tx sz (tk tx sz c0 t)
def TKS (tx : Nat → Int32) (sz : Nat) (c0 : Cu) (T : Nat) (kk pp : Nat → Int32) : Prop := (1 ≤ T ∧ T ≤ sz + 1 ∧ sz ≤ 900) ∧ (∀ t, t < T → kk t = ck (tk tx sz c0 t) ∧ pp t = nI (tk tx sz c0 t).1 ∧ kvd (tk tx sz c0 t) ∧ cv sz (tk tx sz c0 t)) ∧ (∀ t, t < T → (tk tx sz c0 t).2.2.1 ≠ 24 → (tk tx sz c0 t).2.2.1 ≠ 25 → t + 1 < T)
/-- cells that the reader may change -/
def SJ (b : Nat) (f f' : Nat → e_C) : Prop := ∀ a, a ≠ 99 → ¬ (b + 2 ≤ a ∧ a < b + 12) → f' a = f a
theorem SJ.rf {b : Nat} {f : Nat → e_C} : SJ b f f := fun _ _ _ => rfl
theorem SJ.tr {b : Nat} {f g h : Nat → e_C} (h1 : SJ b f g) (h2 : SJ b g h) : SJ b f h := fun a p q => (h2 a p q).trans (h1 a p q)
theorem SJ.up {b a : Nat} {f : Nat → e_C} {c : e_C} (h : a = 99 ∨ (b + 2 ≤ a ∧ a < b + 12)) : SJ b f (va_up f a c) := fun e p q => vu_ne (by omega)
/-- the reader stands at a token -/
def GS (f : Nat → e_C) (b L : Nat) (kk pp : Nat → Int32) (T t : Nat) (wt : Int32) (v : Nat → Int32) (r : Nat → Nat → Int32) : Prop := ∃ u, RW f b L kk pp u ∧ (u 2 = nI T ∧ u 3 = nI t ∧ u 4 = kk t ∧ W5 f wt ∧ u 7 = 0 ∧ u 8 = -1) ∧ PV f (b + 2) v r L ∧ ∃ n, v 14 = nI n ∧ n ≤ L
/-- the reader has found a fault -/
def GE (f : Nat → e_C) (b L : Nat) (kk pp : Nat → Int32) (T : Nat) (w : Int32) (p : Nat) : Prop := w ≠ 0 ∧ ∃ u v r n, RW f b L kk pp u ∧ (u 2 = nI T ∧ u 4 = 3 ∧ u 7 = w ∧ u 8 = nI p) ∧ PV f (b + 2) v r L ∧ v 14 = nI n ∧ n ≤ L
section RD
variable {X : Nat × (Nat → Int32)} {d N K : Nat} {f : Nat → e_C} {b L T t : Nat} {kk pp v tx : Nat → Int32} {wt : Int32} {r : Nat → Nat → Int32} {c0 : Cu}
theorem GS.cn (h : GS f b L kk pp T t wt v r) : cno (f 99) = some 3 := by obtain ⟨u, h, -⟩ := h; exact h.cn
theorem GE.cn {w : Int32} {p : Nat} (h : GE f b L kk pp T w p) : cno (f 99) = some 3 := by obtain ⟨-, u, v, r, n, h, -⟩ := h; exact h.cn
theorem GS.pv (h : GS f b L kk pp T t wt v r) : PV f (b + 2) v r L := by obtain ⟨u, h, -, P, -⟩ := h; exact P
theorem GS.n14 (h : GS f b L kk pp T t wt v r) : ∃ n, v 14 = nI n ∧ n ≤ L := by obtain ⟨u, h, -, P, hn⟩ := h; exact hn
theorem GS.pl {f' : Nat → e_C} {v' : Nat → Int32} {r' : Nat → Nat → Int32} (h : GS f b L kk pp T t wt v r) (s : ∀ a, ¬ (b + 2 ≤ a ∧ a < b + 12) → f' a = f a) (P : PV f' (b + 2) v' r' L) (h14 : v' 14 = v 14) : GS f' b L kk pp T t wt v' r' := by
  obtain ⟨u, R, ⟨e2, e3, e4, e5, e7, e8⟩, -, hn⟩ := h
  have hb := R.1
  exact ⟨u, R.fr (s 99 (by omega)) (s 100 (by omega)) (s 101 (by omega)), ⟨e2, e3, e4, e5.fr (s 99 (by omega)), e7, e8⟩, P, by rw [h14]; exact hn⟩
theorem GS.r6 (h : GS f b L kk pp T t wt v r) : fld (f 99) 3 6 = some (.ref (b + 2)) := by obtain ⟨u, h, -⟩ := h; exact h.r6
theorem GS.v2 (h : GS f b L kk pp T t wt v r) : fld (f 99) 3 2 = some (.int (nI T)) := by obtain ⟨u, h, e, -⟩ := h; rw [h.v2, e.1]
theorem GS.v4 (h : GS f b L kk pp T t wt v r) : fld (f 99) 3 4 = some (.int (kk t)) := by obtain ⟨u, h, e, -⟩ := h; rw [h.v4, e.2.2.1]
theorem GS.v5 (h : GS f b L kk pp T t wt v r) (hw : wt ≠ 7) : fld (f 99) 3 5 = some (.int wt) := by obtain ⟨u, h, e, -⟩ := h; rcases e.2.2.2.1 with z | z; exact absurd z hw; exact z
theorem GS.v7 (h : GS f b L kk pp T t wt v r) : fld (f 99) 3 7 = some (.int 0) := by obtain ⟨u, h, e, -⟩ := h; rw [h.v7, e.2.2.2.2.1]
theorem GS.i5 (h : GS f b L kk pp T t wt v r) : (fld (f 99) 3 5).isSome = true := by obtain ⟨u, h, -⟩ := h; exact h.i5
theorem GS.hb (h : GS f b L kk pp T t wt v r) : 187 ≤ b ∧ L ≤ 900 := by obtain ⟨u, h, -⟩ := h; exact h.1
theorem GE.hb {w : Int32} {p : Nat} (h : GE f b L kk pp T w p) : 187 ≤ b ∧ L ≤ 900 := by obtain ⟨-, u, v, r, n, h, -⟩ := h; exact h.1
theorem GE.r6 {w : Int32} {p : Nat} (h : GE f b L kk pp T w p) : fld (f 99) 3 6 = some (.ref (b + 2)) := by obtain ⟨-, u, v, r, n, h, -⟩ := h; exact h.r6
theorem GE.v2 {w : Int32} {p : Nat} (h : GE f b L kk pp T w p) : fld (f 99) 3 2 = some (.int (nI T)) := by obtain ⟨-, u, v, r, n, h, e, -⟩ := h; rw [h.v2, e.1]
theorem GE.v4 {w : Int32} {p : Nat} (h : GE f b L kk pp T w p) : fld (f 99) 3 4 = some (.int 3) := by obtain ⟨-, u, v, r, n, h, e, -⟩ := h; rw [h.v4, e.2.1]
theorem GE.v7 {w : Int32} {p : Nat} (h : GE f b L kk pp T w p) : fld (f 99) 3 7 = some (.int w) := by obtain ⟨-, u, v, r, n, h, e, -⟩ := h; rw [h.v7, e.2.2.1]
theorem GE.v8 {w : Int32} {p : Nat} (h : GE f b L kk pp T w p) : fld (f 99) 3 8 = some (.int (nI p)) := by obtain ⟨-, u, v, r, n, h, e, -⟩ := h; rw [h.v8, e.2.2.2]
theorem GE.i5 {w : Int32} {p : Nat} (h : GE f b L kk pp T w p) : (fld (f 99) 3 5).isSome = true := by obtain ⟨-, u, v, r, n, h, -⟩ := h; exact h.i5
theorem GE.pl {f' : Nat → e_C} {w : Int32} {p n : Nat} {v' : Nat → Int32} {r' : Nat → Nat → Int32} (h : GE f b L kk pp T w p) (s : ∀ a, ¬ (b + 2 ≤ a ∧ a < b + 12) → f' a = f a) (P : PV f' (b + 2) v' r' L) (h14 : v' 14 = nI n) (hn : n ≤ L) : GE f' b L kk pp T w p := by
  obtain ⟨hw, u, v, r, n', R, e, -⟩ := h
  have hb := R.1
  exact ⟨hw, u, v', r', n, R.fr (s 99 (by omega)) (s 100 (by omega)) (s 101 (by omega)), e, P, h14, hn⟩
theorem GE.pv {w : Int32} {p : Nat} (h : GE f b L kk pp T w p) : ∃ v r n, PV f (b + 2) v r L ∧ v 14 = nI n ∧ n ≤ L := by obtain ⟨-, u, v, r, n, -, -, P⟩ := h; exact ⟨v, r, n, P⟩
/-- next -/
theorem GS.next (G : GS f b L kk pp T t wt v r) (ht : t + 1 < T) (hT : T ≤ L + 1) : TT X d 28 0 [.ref 99] [] f N K (fun f' n' k' z => n' = N ∧ k' = K ∧ z = none ∧ SJ b f f' ∧ GS f' b L kk pp T (t + 1) wt v r) := by
  obtain ⟨u, R, ⟨e2, e3, e4, e5, e7, e8⟩, P, hn⟩ := G
  have hb := R.1
  have c1 : (T ≤ t + 1) = False := eq_false (by omega)
  have v2 := R.v2
  have v3 := R.v3
  have v7 := R.v7
  have i3 := R.i3
  simp (disch := first | omega | decide | assumption | exact Nat.le_of_ble_eq_true rfl) only [s28_0, s28_1, s28_4, s28_7, s28_8, s28_11, s28_12, s28_13, s28_14, s28_17, s28_20, s28_21, s28_21i, s28_22, s28_25, s28_26, s28_27, ow_some, true_and, and_true, and_self, if_true, if_false, not_true, not_false_eq_true, Bool.false_eq_true, eq_self, Option.toList, List.cons_append, List.nil_append, ix_in, ix_cl, lt_in, lt_cl, lt_add, ix_one, vu_eq, vu_ne, arI_mk, arL_mk, arY_mZ, arY_mB, alen_mI, fld_sfl_ne, fld_sfl_same, Option.isSome_some, pok_i, b1z, b01, z10, b1o, Int32.zero_add, vu_vu, upd_eq, upd_ne, true_or, or_true, v2, v3, v7, i3, e2, e3, e7, ix_le, c1, ne_eq]
  have R1 := R.set (i := 3) (z := nI (t + 1)) (by decide)
  have s1 : SJ b f (va_up f 99 (sfl (f 99) 3 (.int (nI (t + 1))))) := SJ.up (by omega)
  have P1 := P.fr (f' := va_up f 99 (sfl (f 99) 3 (.int (nI (t + 1))))) (fun e h1 h2 => vu_ne (by omega))
  have q5 : W5 (va_up f 99 (sfl (f 99) 3 (.int (nI (t + 1))))) wt := e5.set (by decide)
  generalize va_up f 99 (sfl (f 99) 3 (.int (nI (t + 1)))) = f1 at R1 s1 P1 q5 ⊢
  have w3 := R1.v3
  have w0 := R1.r0
  have a0 := R1.a0
  have i4 := R1.i4
  have q3 : upd u 3 (nI (t + 1)) 3 = nI (t + 1) := upd_eq
  simp (disch := first | omega | decide | assumption | exact Nat.le_of_ble_eq_true rfl) only [s28_30, s28_31, s28_32, s28_35, s28_36, s28_39, s28_40, s28_43, ow_some, true_and, and_true, and_self, if_true, if_false, not_true, not_false_eq_true, Bool.false_eq_true, eq_self, Option.toList, List.cons_append, List.nil_append, ix_in, ix_cl, lt_in, lt_cl, lt_add, ix_one, vu_eq, vu_ne, arI_mk, arL_mk, arY_mZ, arY_mB, alen_mI, fld_sfl_ne, fld_sfl_same, Option.isSome_some, pok_i, b1z, b01, z10, b1o, Int32.zero_add, vu_vu, upd_eq, upd_ne, true_or, or_true, w3, w0, a0, i4, q3]
  refine ⟨s1.tr (SJ.up (by omega)), _, R1.set (i := 4) (z := kk (t + 1)) (by decide), ⟨?_, ?_, upd_eq, ?_, ?_, ?_⟩, P1.fr (fun e h1 h2 => vu_ne (by omega)), hn⟩
  · rw [upd_ne (by decide), upd_ne (by decide)]; exact e2
  · rw [upd_ne (by decide), upd_eq]
  · exact (q5.set (by decide))
  · rw [upd_ne (by decide), upd_ne (by decide)]; exact e7
  · rw [upd_ne (by decide), upd_ne (by decide)]; exact e8
theorem GE.next {w : Int32} {p : Nat} (G : GE f b L kk pp T w p) : PU X d 28 [.ref 99] f N K none := by
  unfold PU
  have v7 := G.v7
  have hw := eq_false G.1
  simp (disch := first | omega | decide | assumption | exact Nat.le_of_ble_eq_true rfl) only [s28_0, s28_1, s28_4, s28_43, ow_some, true_and, and_true, and_self, if_true, if_false, not_true, not_false_eq_true, Bool.false_eq_true, eq_self, Option.toList, List.cons_append, List.nil_append, ix_in, ix_cl, lt_in, lt_cl, lt_add, ix_one, vu_eq, vu_ne, arI_mk, arL_mk, arY_mZ, arY_mB, alen_mI, fld_sfl_ne, fld_sfl_same, Option.isSome_some, pok_i, b1z, b01, z10, b1o, Int32.zero_add, vu_vu, upd_eq, upd_ne, true_or, or_true, v7, hw, ne_eq]
/-- a fault -/
theorem GS.fail (G : GS f b L kk pp T t wt v r) {w : Int32} {p : Nat} (hw : w ≠ 0) (ht : t ≤ L) (hp : pp t = nI p) : TT X d 29 0 [.ref 99, .int w] [] f N K (fun f' n' k' z => n' = N ∧ k' = K ∧ z = none ∧ SJ b f f' ∧ GE f' b L kk pp T (if kk t = 2 then 1 else w) p) := by
  obtain ⟨u, R, ⟨e2, e3, e4, e5, e7, e8⟩, P, n, hn, hnL⟩ := G
  have hb := R.1
  have hw' : (if kk t = 2 then (1 : Int32) else w) ≠ 0 := by split; decide; exact hw
  have main : ∀ w' : Int32, w' ≠ 0 → TT X d 29 21 [.ref 99, .int w] [.int w', .ref 99] f N K (fun f' n' k' z => n' = N ∧ k' = K ∧ z = none ∧ SJ b f f' ∧ GE f' b L kk pp T w' p) := by
    intro w' hw'
    have i7 := R.i7
    simp (disch := first | omega | decide | assumption | exact Nat.le_of_ble_eq_true rfl) only [s29_21, ow_some, true_and, and_true, and_self, if_true, if_false, not_true, not_false_eq_true, Bool.false_eq_true, eq_self, Option.toList, List.cons_append, List.nil_append, ix_in, ix_cl, lt_in, lt_cl, lt_add, ix_one, vu_eq, vu_ne, arI_mk, arL_mk, arY_mZ, arY_mB, alen_mI, fld_sfl_ne, fld_sfl_same, Option.isSome_some, pok_i, b1z, b01, z10, b1o, Int32.zero_add, vu_vu, upd_eq, upd_ne, true_or, or_true, i7]
    have R1 := R.set (i := 7) (z := w') (by decide)
    have s1 : SJ b f (va_up f 99 (sfl (f 99) 7 (.int w'))) := SJ.up (by omega)
    have P1 := P.fr (f' := va_up f 99 (sfl (f 99) 7 (.int w'))) (fun e h1 h2 => vu_ne (by omega))
    generalize va_up f 99 (sfl (f 99) 7 (.int w')) = f1 at R1 s1 P1 ⊢
    have w1 := R1.r1
    have a1 := R1.a1
    have w3 := R1.v3
    have i8 := R1.i8
    have q3 : upd u 7 w' 3 = nI t := by rw [upd_ne (by decide)]; exact e3
    simp (disch := first | omega | decide | assumption | exact Nat.le_of_ble_eq_true rfl) only [s29_24, s29_25, s29_26, s29_29, s29_30, s29_33, s29_34, ow_some, true_and, and_true, and_self, if_true, if_false, not_true, not_false_eq_true, Bool.false_eq_true, eq_self, Option.toList, List.cons_append, List.nil_append, ix_in, ix_cl, lt_in, lt_cl, lt_add, ix_one, vu_eq, vu_ne, arI_mk, arL_mk, arY_mZ, arY_mB, alen_mI, fld_sfl_ne, fld_sfl_same, Option.isSome_some, pok_i, b1z, b01, z10, b1o, Int32.zero_add, vu_vu, upd_eq, upd_ne, true_or, or_true, w1, a1, w3, i8, e3, hp]
    have R2 := R1.set (i := 8) (z := nI p) (by decide)
    have s2 : SJ b f (va_up f1 99 (sfl (f1 99) 8 (.int (nI p)))) := s1.tr (SJ.up (by omega))
    have P2 := P1.fr (f' := va_up f1 99 (sfl (f1 99) 8 (.int (nI p)))) (fun e h1 h2 => vu_ne (by omega))
    generalize va_up f1 99 (sfl (f1 99) 8 (.int (nI p))) = f2 at R2 s2 P2 ⊢
    have i4 := R2.i4
    simp (disch := first | omega | decide | assumption | exact Nat.le_of_ble_eq_true rfl) only [s29_37, s29_38, s29_39, s29_42, ow_some, true_and, and_true, and_self, if_true, if_false, not_true, not_false_eq_true, Bool.false_eq_true, eq_self, Option.toList, List.cons_append, List.nil_append, ix_in, ix_cl, lt_in, lt_cl, lt_add, ix_one, vu_eq, vu_ne, arI_mk, arL_mk, arY_mZ, arY_mB, alen_mI, fld_sfl_ne, fld_sfl_same, Option.isSome_some, pok_i, b1z, b01, z10, b1o, Int32.zero_add, vu_vu, upd_eq, upd_ne, true_or, or_true, i4]
    refine ⟨s2.tr (SJ.up (by omega)), hw', _, v, r, n, R2.set (i := 4) (z := 3) (by decide), ⟨?_, upd_eq, ?_, ?_⟩, P2.fr (fun e h1 h2 => vu_ne (by omega)), hn, hnL⟩
    · rw [upd_ne (by decide), upd_ne (by decide), upd_ne (by decide)]; exact e2
    · rw [upd_ne (by decide), upd_ne (by decide), upd_eq]
    · rw [upd_ne (by decide), upd_eq]
  have v7 := R.v7
  have v4 := R.v4
  by_cases h2 : kk t = 2
  · rw [if_pos h2]
    have h2' : (kk t = 2) = True := eq_true h2
    simp (disch := first | omega | decide | assumption | exact Nat.le_of_ble_eq_true rfl) only [s29_0, s29_1, s29_4, s29_7, s29_8, s29_9, s29_12, s29_13, s29_16, s29_17, ow_some, true_and, and_true, and_self, if_true, if_false, not_true, not_false_eq_true, Bool.false_eq_true, eq_self, Option.toList, List.cons_append, List.nil_append, ix_in, ix_cl, lt_in, lt_cl, lt_add, ix_one, vu_eq, vu_ne, arI_mk, arL_mk, arY_mZ, arY_mB, alen_mI, fld_sfl_ne, fld_sfl_same, Option.isSome_some, pok_i, b1z, b01, z10, b1o, Int32.zero_add, vu_vu, upd_eq, upd_ne, true_or, or_true, v7, v4, e7, e4, h2', ne_eq]
    exact main 1 (by decide)
  · rw [if_neg h2]
    have h2' : (kk t = 2) = False := eq_false h2
    simp (disch := first | omega | decide | assumption | exact Nat.le_of_ble_eq_true rfl) only [s29_0, s29_1, s29_4, s29_7, s29_8, s29_9, s29_12, s29_13, s29_20, ow_some, true_and, and_true, and_self, if_true, if_false, not_true, not_false_eq_true, Bool.false_eq_true, eq_self, Option.toList, List.cons_append, List.nil_append, ix_in, ix_cl, lt_in, lt_cl, lt_add, ix_one, vu_eq, vu_ne, arI_mk, arL_mk, arY_mZ, arY_mB, alen_mI, fld_sfl_ne, fld_sfl_same, Option.isSome_some, pok_i, b1z, b01, z10, b1o, Int32.zero_add, vu_vu, upd_eq, upd_ne, true_or, or_true, v7, v4, e7, e4, h2', ne_eq]
    exact main w hw
theorem GE.fail {w w' : Int32} {p : Nat} (G : GE f b L kk pp T w p) : PU X d 29 [.ref 99, .int w'] f N K none := by
  unfold PU
  have v7 := G.v7
  have hw := eq_false G.1
  simp (disch := first | omega | decide | assumption | exact Nat.le_of_ble_eq_true rfl) only [s29_0, s29_1, s29_4, s29_42, ow_some, true_and, and_true, and_self, if_true, if_false, not_true, not_false_eq_true, Bool.false_eq_true, eq_self, Option.toList, List.cons_append, List.nil_append, ix_in, ix_cl, lt_in, lt_cl, lt_add, ix_one, vu_eq, vu_ne, arI_mk, arL_mk, arY_mZ, arY_mB, alen_mI, fld_sfl_ne, fld_sfl_same, Option.isSome_some, pok_i, b1z, b01, z10, b1o, Int32.zero_add, vu_vu, upd_eq, upd_ne, true_or, or_true, v7, hw, ne_eq]
/-- codes -/
theorem GS.emit (G : GS f b L kk pp T t wt v r) {x : Int32} {n : Nat} (hn : v 14 = nI n) (hL : n < L) : TT X d 16 0 [.ref (b + 2), .int x] [] f N K (fun f' n' k' z => n' = N ∧ k' = K ∧ z = none ∧ SJ b f f' ∧ GS f' b L kk pp T t wt (upd v 14 (nI (n + 1))) (up2 r 13 (upd (r 13) n x))) := by
  obtain ⟨u, R, ⟨e2, e3, e4, e5, e7, e8⟩, P, -⟩ := G
  have hb := R.1
  have c1 : (L ≤ n) = False := eq_false (by omega)
  have hal := alen_I P.a13
  simp (disch := first | omega | decide | assumption | exact Nat.le_of_ble_eq_true rfl) only [s16_0, s16_1, s16_4, s16_5, y16_8, s16_9, s16_12, s16_13, s16_16, s16_17, s16_20, s16_21, ow_some, true_and, and_true, and_self, if_true, if_false, not_true, not_false_eq_true, Bool.false_eq_true, eq_self, Option.toList, List.cons_append, List.nil_append, ix_in, ix_cl, lt_in, lt_cl, lt_add, ix_one, vu_eq, vu_ne, arI_mk, arL_mk, arY_mZ, arY_mB, alen_mI, fld_sfl_ne, fld_sfl_same, Option.isSome_some, pok_i, b1z, b01, z10, b1o, Int32.zero_add, vu_vu, upd_eq, upd_ne, true_or, or_true, P.v0, P.v3, P.v10, P.v11, P.v12, P.v14, P.v15, P.v16, P.v17, P.v18, P.r1, P.r2, P.r4, P.r5, P.r6, P.r7, P.r8, P.r9, P.r13, P.a1, P.a2, P.a4, P.a5, P.a6, P.a7, P.a8, P.a9, P.a13, hn, hal, ix_le, c1]
  have P1 := P.s13 (g := upd (r 13) n x)
  have s1 : SJ b f (va_up f (b + 2 + 9) (.inl (.int, L, .inl (upd (r 13) n x)))) := SJ.up (by omega)
  have R1 := R.fr (f' := va_up f (b + 2 + 9) (.inl (.int, L, .inl (upd (r 13) n x)))) (vu_ne (by omega)) (vu_ne (by omega)) (vu_ne (by omega))
  have w99 : va_up f (b + 2 + 9) (.inl (.int, L, .inl (upd (r 13) n x))) 99 = f 99 := vu_ne (by omega)
  generalize va_up f (b + 2 + 9) (.inl (.int, L, .inl (upd (r 13) n x))) = f1 at P1 s1 R1 w99 ⊢
  have i14 := P1.i14
  simp (disch := first | omega | decide | assumption | exact Nat.le_of_ble_eq_true rfl) only [s16_22, s16_23, s16_23i, s16_24, s16_27, s16_28, s16_29, s16_32, ow_some, true_and, and_true, and_self, if_true, if_false, not_true, not_false_eq_true, Bool.false_eq_true, eq_self, Option.toList, List.cons_append, List.nil_append, ix_in, ix_cl, lt_in, lt_cl, lt_add, ix_one, vu_eq, vu_ne, arI_mk, arL_mk, arY_mZ, arY_mB, alen_mI, fld_sfl_ne, fld_sfl_same, Option.isSome_some, pok_i, b1z, b01, z10, b1o, Int32.zero_add, vu_vu, upd_eq, upd_ne, true_or, or_true, P1.v0, P1.v3, P1.v10, P1.v11, P1.v12, P1.v14, P1.v15, P1.v16, P1.v17, P1.v18, P1.r1, P1.r2, P1.r4, P1.r5, P1.r6, P1.r7, P1.r8, P1.r9, P1.r13, P1.a1, P1.a2, P1.a4, P1.a5, P1.a6, P1.a7, P1.a8, P1.a9, P1.a13, hn, i14]
  exact ⟨s1.tr (SJ.up (by omega)), u, R1.fr (vu_ne (by omega)) (vu_ne (by omega)) (vu_ne (by omega)), ⟨e2, e3, e4, e5.fr (by rw [vu_ne (by omega)]; exact w99), e7, e8⟩, P1.set (i := 14) (by decide), n + 1, upd_eq, by omega⟩
theorem GE.emit {w x : Int32} {p : Nat} (G : GE f b L kk pp T w p) : TT X d 16 0 [.ref (b + 2), .int x] [] f N K (fun f' n' k' z => n' = N ∧ k' = K ∧ z = none ∧ SJ b f f' ∧ GE f' b L kk pp T w p) := by
  obtain ⟨hw, u, v, r, n, R, e, P, hn, hnL⟩ := G
  have hb := R.1
  have hal := alen_I P.a13
  by_cases hlt : n < L
  · have c1 : (L ≤ n) = False := eq_false (by omega)
    simp (disch := first | omega | decide | assumption | exact Nat.le_of_ble_eq_true rfl) only [s16_0, s16_1, s16_4, s16_5, y16_8, s16_9, s16_12, s16_13, s16_16, s16_17, s16_20, s16_21, ow_some, true_and, and_true, and_self, if_true, if_false, not_true, not_false_eq_true, Bool.false_eq_true, eq_self, Option.toList, List.cons_append, List.nil_append, ix_in, ix_cl, lt_in, lt_cl, lt_add, ix_one, vu_eq, vu_ne, arI_mk, arL_mk, arY_mZ, arY_mB, alen_mI, fld_sfl_ne, fld_sfl_same, Option.isSome_some, pok_i, b1z, b01, z10, b1o, Int32.zero_add, vu_vu, upd_eq, upd_ne, true_or, or_true, P.v0, P.v3, P.v10, P.v11, P.v12, P.v14, P.v15, P.v16, P.v17, P.v18, P.r1, P.r2, P.r4, P.r5, P.r6, P.r7, P.r8, P.r9, P.r13, P.a1, P.a2, P.a4, P.a5, P.a6, P.a7, P.a8, P.a9, P.a13, hn, hal, ix_le, c1]
    have P1 := P.s13 (g := upd (r 13) n x)
    have s1 : SJ b f (va_up f (b + 2 + 9) (.inl (.int, L, .inl (upd (r 13) n x)))) := SJ.up (by omega)
    have R1 := R.fr (f' := va_up f (b + 2 + 9) (.inl (.int, L, .inl (upd (r 13) n x)))) (vu_ne (by omega)) (vu_ne (by omega)) (vu_ne (by omega))
    generalize va_up f (b + 2 + 9) (.inl (.int, L, .inl (upd (r 13) n x))) = f1 at P1 s1 R1 ⊢
    have i14 := P1.i14
    simp (disch := first | omega | decide | assumption | exact Nat.le_of_ble_eq_true rfl) only [s16_22, s16_23, s16_23i, s16_24, s16_27, s16_28, s16_29, s16_32, ow_some, true_and, and_true, and_self, if_true, if_false, not_true, not_false_eq_true, Bool.false_eq_true, eq_self, Option.toList, List.cons_append, List.nil_append, ix_in, ix_cl, lt_in, lt_cl, lt_add, ix_one, vu_eq, vu_ne, arI_mk, arL_mk, arY_mZ, arY_mB, alen_mI, fld_sfl_ne, fld_sfl_same, Option.isSome_some, pok_i, b1z, b01, z10, b1o, Int32.zero_add, vu_vu, upd_eq, upd_ne, true_or, or_true, P1.v0, P1.v3, P1.v10, P1.v11, P1.v12, P1.v14, P1.v15, P1.v16, P1.v17, P1.v18, P1.r1, P1.r2, P1.r4, P1.r5, P1.r6, P1.r7, P1.r8, P1.r9, P1.r13, P1.a1, P1.a2, P1.a4, P1.a5, P1.a6, P1.a7, P1.a8, P1.a9, P1.a13, hn, i14]
    exact ⟨s1.tr (SJ.up (by omega)), hw, u, _, _, n + 1, R1.fr (vu_ne (by omega)) (vu_ne (by omega)) (vu_ne (by omega)), e, P1.set (i := 14) (by decide), upd_eq, by omega⟩
  · have c1 : (L ≤ n) = True := eq_true (by omega)
    simp (disch := first | omega | decide | assumption | exact Nat.le_of_ble_eq_true rfl) only [s16_0, s16_1, s16_4, s16_5, y16_8, s16_9, s16_32, ow_some, true_and, and_true, and_self, if_true, if_false, not_true, not_false_eq_true, Bool.false_eq_true, eq_self, Option.toList, List.cons_append, List.nil_append, ix_in, ix_cl, lt_in, lt_cl, lt_add, ix_one, vu_eq, vu_ne, arI_mk, arL_mk, arY_mZ, arY_mB, alen_mI, fld_sfl_ne, fld_sfl_same, Option.isSome_some, pok_i, b1z, b01, z10, b1o, Int32.zero_add, vu_vu, upd_eq, upd_ne, true_or, or_true, P.v0, P.v3, P.v10, P.v11, P.v12, P.v14, P.v15, P.v16, P.v17, P.v18, P.r1, P.r2, P.r4, P.r5, P.r6, P.r7, P.r8, P.r9, P.r13, P.a1, P.a2, P.a4, P.a5, P.a6, P.a7, P.a8, P.a9, P.a13, hn, hal, ix_le, c1]
    exact ⟨SJ.rf, hw, u, v, r, n, R, e, P, hn, hnL⟩
end RD

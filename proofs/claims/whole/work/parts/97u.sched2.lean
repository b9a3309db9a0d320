/-! who can be seen in time: a day's step, in counts -/
/-- those of a set that were sorted, up to q: alone, and by couples -/
def GH (mt : Nat → Nat) (set q m k : Nat) (gs gc : Nat → Nat) : Prop := (∀ i, i < m → gs i < q ∧ set.testBit (gs i) = true ∧ set.testBit (mt (gs i)) = false) ∧ (∀ j, j < k → gc j < q ∧ set.testBit (gc j) = true ∧ set.testBit (mt (gc j)) = true ∧ gc j < mt (gc j)) ∧ (∀ p, p < q → set.testBit p = true → set.testBit (mt p) = false → ∃ i, i < m ∧ gs i = p) ∧ (∀ p, p < q → set.testBit p = true → set.testBit (mt p) = true → p < mt p → ∃ j, j < k ∧ gc j = p) ∧ (∀ i j, i < m → j < m → gs i = gs j → i = j) ∧ ∀ i j, i < k → j < k → gc i = gc j → i = j
section SCH
variable {all : Nat → Int32} {P set m k : Nat} {mt gs gc : Nat → Nat} {room : Nat → Nat} {B : Nat → Int} {D : Int}
theorem prs_add {n r : Nat} : prs gs (r + n) = prs gs r ||| prs (fun i => gs (r + i)) n := by
  induction n with
  | zero => show prs gs r = prs gs r ||| 0; rw [Nat.or_zero]
  | succ n ih => show prs gs (r + n) ||| 2 ^ gs (r + n) = prs gs r ||| (prs (fun i => gs (r + i)) n ||| 2 ^ gs (r + n)); rw [ih, Nat.or_assoc]
theorem prc_add {n r : Nat} : prc gc mt (r + n) = prc gc mt r ||| prc (fun i => gc (r + i)) mt n := by
  induction n with
  | zero => show prc gc mt r = prc gc mt r ||| 0; rw [Nat.or_zero]
  | succ n ih => show prc gc mt (r + n) ||| (2 ^ gc (r + n) ||| 2 ^ mt (gc (r + n))) = prc gc mt r ||| (prc (fun i => gc (r + i)) mt n ||| (2 ^ gc (r + n) ||| 2 ^ mt (gc (r + n)))); rw [ih, Nat.or_assoc]
/-- a day's step, as numbers tell it -/
theorem sch_sound (hsy : ∀ p, p < 9 → mt p < 9 → mt (mt p) = p) (hs : set < 512) (hT : nT all < 512) (hsT : sub set (nT all) = true) {e : Nat} (hcan : ∀ t s0, t < 512 → s0 < 512 → (m_can all P t s0 e = true ↔ bits t ≤ room e ∧ ∀ p, p < P → t.testBit p = true → D + e ≤ B p ∧ s0.testBit (mt p) = false)) (G : GH mt set 9 m k gs gc) {r c n h : Nat} (hr : r + n ≤ m) (hc : c + h ≤ k) (hroom : n + 2 * h ≤ room e) (hb : ∀ i, r ≤ i → i < r + n → D + e ≤ B (gs i)) (hd : ∀ j, c ≤ j → j < c + h → D + e ≤ B (gc j) ∧ D + e ≤ B (mt (gc j))) (H : rch all P e (prs gs r ||| prc gc mt c)) : rch all P (e + 1) (prs gs (r + n) ||| prc gc mt (c + h)) := by
  obtain ⟨g1, g2, g3, g4, g5, g6⟩ := G
  have e1 : prs gs (r + n) ||| prc gc mt (c + h) = (prs gs r ||| prc gc mt c) ||| (prs (fun i => gs (r + i)) n ||| prc (fun i => gc (c + i)) mt h) := by
    rw [prs_add, prc_add]
    apply Nat.eq_of_testBit_eq
    intro i
    simp only [Nat.testBit_or]
    generalize (prs gs r).testBit i = b1
    generalize (prc gc mt c).testBit i = b2
    generalize (prs (fun i => gs (r + i)) n).testBit i = b3
    generalize (prc (fun i => gc (c + i)) mt h).testBit i = b4
    cases b1 <;> cases b2 <;> cases b3 <;> cases b4 <;> rfl
  rw [e1]
  have hbt : ∀ {t : Nat}, t = prs (fun i => gs (r + i)) n ||| prc (fun i => gc (c + i)) mt h → bits t ≤ n + 2 * h := by
    rintro t rfl
    have := bits_or (a := prs (fun i => gs (r + i)) n) (b := prc (fun i => gc (c + i)) mt h)
    have := prs_n (gs := fun i => gs (r + i)) (n := n)
    have := prc_n (gc := fun i => gc (c + i)) (mt := mt) (n := h)
    omega
  have htb : ∀ {t p : Nat}, t = prs (fun i => gs (r + i)) n ||| prc (fun i => gc (c + i)) mt h → t.testBit p = true → (∃ i, r ≤ i ∧ i < r + n ∧ gs i = p) ∨ ∃ j, c ≤ j ∧ j < c + h ∧ (gc j = p ∨ mt (gc j) = p) := by
    rintro t p rfl hp
    rw [Nat.testBit_or, Bool.or_eq_true, prs_b, prc_b] at hp
    rcases hp with ⟨i, hi, e⟩ | ⟨j, hj, e⟩
    · exact Or.inl ⟨r + i, by omega, by omega, e⟩
    · exact Or.inr ⟨c + j, by omega, by omega, e⟩
  have hub : ∀ {p : Nat}, (prs gs r ||| prc gc mt c).testBit p = true → (∃ i, i < r ∧ gs i = p) ∨ ∃ j, j < c ∧ (gc j = p ∨ mt (gc j) = p) := by
    intro p hp
    rw [Nat.testBit_or, Bool.or_eq_true, prs_b, prc_b] at hp
    exact hp
  -- mates are below nine
  have m9 : ∀ j, j < k → mt (gc j) < 9 ∧ mt (mt (gc j)) = gc j := fun j hj => by
    obtain ⟨a1, a2, a3, a4⟩ := g2 j hj
    have := tb_9 hs a3
    exact ⟨this, hsy _ a1 this⟩
  -- one of a couple isn't seen alone, and couples are apart
  have ap1 : ∀ i j, i < m → j < k → gs i ≠ gc j ∧ gs i ≠ mt (gc j) := by
    intro i j hi hj
    obtain ⟨a1, a2, a3⟩ := g1 i hi
    obtain ⟨b1, b2, b3, b4⟩ := g2 j hj
    refine ⟨fun e => ?_, fun e => ?_⟩
    · rw [e, b3] at a3; exact absurd a3 (by decide)
    · rw [e, (m9 j hj).2, b2] at a3; exact absurd a3 (by decide)
  have ap2 : ∀ i j, i < k → j < k → (gc i = gc j ∨ gc i = mt (gc j) ∨ mt (gc i) = gc j ∨ mt (gc i) = mt (gc j)) → i = j := by
    intro i j hi hj h
    have a4 := (g2 i hi).2.2.2
    have b4 := (g2 j hj).2.2.2
    have a5 := (m9 i hi).2
    have b5 := (m9 j hj).2
    rcases h with h | h | h | h
    · exact g6 i j hi hj h
    · rw [← h] at b5; rw [b5] at a4; omega
    · rw [h] at a5; rw [a5] at b4; omega
    · rw [h, b5] at a5; exact g6 i j hi hj a5.symm
  generalize ht : prs (fun i => gs (r + i)) n ||| prc (fun i => gc (c + i)) mt h = t at e1
  have hbt := hbt ht.symm
  have htb := fun {p} => htb (p := p) ht.symm
  generalize prs gs r ||| prc gc mt c = s0 at e1 H hub
  have hset : ∀ p, (t.testBit p = true ∨ s0.testBit p = true) → set.testBit p = true := by
    rintro p (hp | hp)
    · rcases htb hp with ⟨i, h1, h2, rfl⟩ | ⟨j, h1, h2, rfl | rfl⟩
      · exact (g1 i (by omega)).2.1
      · exact (g2 j (by omega)).2.1
      · exact (g2 j (by omega)).2.2.1
    · rcases hub hp with ⟨i, h1, rfl⟩ | ⟨j, h1, rfl | rfl⟩
      · exact (g1 i (by omega)).2.1
      · exact (g2 j (by omega)).2.1
      · exact (g2 j (by omega)).2.2.1
  have hdis : ∀ p, t.testBit p = true → s0.testBit p = false := by
    intro p hp
    cases hq : s0.testBit p with
    | false => rfl
    | true =>
      exfalso
      rcases htb hp with ⟨i, h1, h2, h3⟩ | ⟨j, h1, h2, h3⟩ <;> rcases hub hq with ⟨i', h4, h5⟩ | ⟨j', h4, h5⟩
      · have := g5 i i' (by omega) (by omega) (h3.trans h5.symm); omega
      · have := ap1 i j' (by omega) (by omega)
        rcases h5 with h5 | h5
        · exact this.1 (h3.trans h5.symm)
        · exact this.2 (h3.trans h5.symm)
      · have := ap1 i' j (by omega) (by omega)
        rcases h3 with h3 | h3
        · exact this.1 (h5.trans h3.symm)
        · exact this.2 (h5.trans h3.symm)
      · have := ap2 j j' (by omega) (by omega) (by
          rcases h3 with h3 | h3 <;> rcases h5 with h5 | h5 <;> simp [h3, h5])
        omega
  by_cases h0 : t = 0
  · left; rw [h0, Nat.or_zero]; exact H
  · refine Or.inr ⟨s0, t, H, tb_512 (fun q hq => tb_9 hs (hset q (Or.inr hq))), by omega, ?_, ?_, rfl⟩
    · refine sub_iff.mpr (fun i hi => ?_)
      rw [dif_bit hT, hdis i hi, sub_iff.mp hsT i (hset i (Or.inl hi))]
      rfl
    · refine (hcan t s0 (tb_512 (fun q hq => tb_9 hs (hset q (Or.inl hq)))) (tb_512 (fun q hq => tb_9 hs (hset q (Or.inr hq))))).mpr ⟨by omega, fun p _ hp => ?_⟩
      rcases htb hp with ⟨i, h1, h2, rfl⟩ | ⟨j, h1, h2, h3⟩
      · refine ⟨hb i h1 h2, ?_⟩
        cases hq : s0.testBit (mt (gs i)) with
        | false => rfl
        | true => have := hset _ (Or.inr hq); rw [(g1 i (by omega)).2.2] at this; exact absurd this (by decide)
      · have hj := hd j h1 h2
        have hjk : j < k := by omega
        have q1 : t.testBit (gc j) = true ∧ t.testBit (mt (gc j)) = true := by
          rw [← ht, Nat.testBit_or, Nat.testBit_or, Bool.or_eq_true, Bool.or_eq_true, prc_b, prc_b]
          exact ⟨Or.inr ⟨j - c, by omega, Or.inl (by show gc (c + (j - c)) = _; rw [show c + (j - c) = j by omega])⟩, Or.inr ⟨j - c, by omega, Or.inr (by show mt (gc (c + (j - c))) = _; rw [show c + (j - c) = j by omega])⟩⟩
        rcases h3 with rfl | rfl
        · exact ⟨hj.1, hdis _ q1.2⟩
        · exact ⟨hj.2, by rw [(m9 j hjk).2]; exact hdis _ q1.1⟩
end SCH

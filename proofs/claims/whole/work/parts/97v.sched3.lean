/-! who can be seen in time: what a day's step takes for granted -/
section SCH
variable {all : Nat → Int32} {P set m k : Nat} {mt gs gc : Nat → Nat} {room : Nat → Nat} {B : Nat → Int} {D : Int}
/-- seen so far, by a way that ends well -/
def YY (all : Nat → Int32) (P set m k : Nat) (mt gs gc : Nat → Nat) (B : Nat → Int) (D : Int) (e a c : Nat) : Prop := ∃ s, rch all P e s ∧ (∀ p, s.testBit p = true → set.testBit p = true) ∧ (∀ p, set.testBit p = true → set.testBit (mt p) = true → s.testBit p = s.testBit (mt p)) ∧ (∀ p, set.testBit p = true → s.testBit p = false → D + e ≤ B p) ∧ a = cnt (fun i => s.testBit (gs i)) m ∧ c = cnt (fun j => s.testBit (gc j)) k
theorem sch_late (hsy : ∀ p, p < 9 → mt p < 9 → mt (mt p) = p) (hs : set < 512) (G : GH mt set 9 m k gs gc) (so : ∀ i j, i ≤ j → j < m → B (gs i) ≤ B (gs j)) (co : ∀ i j, i ≤ j → j < k → min (B (gc i)) (B (mt (gc i))) ≤ min (B (gc j)) (B (mt (gc j)))) {s e : Nat} (h2 : ∀ p, set.testBit p = true → set.testBit (mt p) = true → s.testBit p = s.testBit (mt p)) (h3 : ∀ p, set.testBit p = true → s.testBit p = false → D + e ≤ B p) : (∀ r, cnt (fun i => s.testBit (gs i)) m ≤ r → r < m → D + e ≤ B (gs r)) ∧ ∀ j, cnt (fun j => s.testBit (gc j)) k ≤ j → j < k → D + e ≤ B (gc j) ∧ D + e ≤ B (mt (gc j)) := by
  obtain ⟨g1, g2, g3, g4, g5, g6⟩ := G
  constructor
  · intro r hr hrm
    refine Decidable.byContradiction (fun hn => ?_)
    have : r + 1 ≤ cnt (fun i => s.testBit (gs i)) m := cn_ge (by omega) (fun i hi => by
      show s.testBit (gs i) = true
      cases hb : s.testBit (gs i) with
      | true => rfl
      | false =>
        have a1 := h3 (gs i) (g1 i (by omega)).2.1 hb
        have a2 := so i r (by omega) hrm
        omega)
    omega
  · intro j hj hjk
    refine Decidable.byContradiction (fun hn => ?_)
    have : j + 1 ≤ cnt (fun j => s.testBit (gc j)) k := cn_ge (by omega) (fun i hi => by
      show s.testBit (gc i) = true
      cases hb : s.testBit (gc i) with
      | true => rfl
      | false =>
        obtain ⟨b1, b2, b3, b4⟩ := g2 i (by omega)
        have a1 := h3 (gc i) b2 hb
        have a3 := h3 (mt (gc i)) b3 (by rw [← h2 (gc i) b2 b3]; exact hb)
        have a2 := co i j (by omega) hjk
        omega)
    omega
theorem sch_back (hsy : ∀ p, p < 9 → mt p < 9 → mt (mt p) = p) (hs : set < 512) (hT : nT all < 512) (hTP : ∀ p, (nT all).testBit p = true → p < P) {e : Nat} (hcan : ∀ t s0, t < 512 → s0 < 512 → (m_can all P t s0 e = true ↔ bits t ≤ room e ∧ ∀ p, p < P → t.testBit p = true → D + e ≤ B p ∧ s0.testBit (mt p) = false)) (G : GH mt set 9 m k gs gc) (so : ∀ i j, i ≤ j → j < m → B (gs i) ≤ B (gs j)) (co : ∀ i j, i ≤ j → j < k → min (B (gc i)) (B (mt (gc i))) ≤ min (B (gc j)) (B (mt (gc j)))) {a' c' : Nat} (H : YY all P set m k mt gs gc B D (e + 1) a' c') : ∃ a c, YY all P set m k mt gs gc B D e a c ∧ a ≤ a' ∧ c ≤ c' ∧ (a' - a) + 2 * (c' - c) ≤ room e ∧ (∀ r, a ≤ r → r < m → D + e ≤ B (gs r)) ∧ ∀ j, c ≤ j → j < k → D + e ≤ B (gc j) ∧ D + e ≤ B (mt (gc j)) := by
  obtain ⟨s, hr, h1, h2, h3, rfl, rfl⟩ := H
  obtain ⟨g1, g2, g3, g4, g5, g6⟩ := id G
  rcases hr with hr | ⟨s0, t, hr, hs0, ht0, hsub, hc, rfl⟩
  · have h3' : ∀ p, set.testBit p = true → s.testBit p = false → D + e ≤ B p := fun p a b => by
      have := h3 p a b
      omega
    obtain ⟨l1, l2⟩ := sch_late hsy hs G so co h2 h3'
    exact ⟨_, _, ⟨s, hr, h1, h2, h3', rfl, rfl⟩, Nat.le_refl _, Nat.le_refl _, by omega, l1, l2⟩
  · have hti : ∀ p, t.testBit p = true → (nT all).testBit p = true ∧ s0.testBit p = false := fun p hp => by
      have := sub_iff.mp hsub p hp
      rw [dif_bit hT] at this
      simpa using this
    have ht5 : t < 512 := tb_512 (fun q hq => tb_9 hT (hti q hq).1)
    obtain ⟨hbt, hok⟩ := (hcan t s0 ht5 hs0).mp hc
    have hok' : ∀ p, t.testBit p = true → D + e ≤ B p ∧ s0.testBit (mt p) = false := fun p hp => hok p (hTP p (hti p hp).1) hp
    have k1 : ∀ p, s0.testBit p = true → set.testBit p = true := fun p hp => h1 p (by rw [Nat.testBit_or, hp]; rfl)
    have kt : ∀ p, t.testBit p = true → set.testBit p = true := fun p hp => h1 p (by rw [Nat.testBit_or, hp, Bool.or_true])
    have cl : ∀ p, set.testBit p = true → set.testBit (mt p) = true → s0.testBit p = true → s0.testBit (mt p) = true := fun p a b hp => by
      have hp9 := tb_9 hs a
      have hm9 := tb_9 hs b
      have := h2 p a b
      rw [Nat.testBit_or, Nat.testBit_or, hp] at this
      cases hq : s0.testBit (mt p) with
      | true => rfl
      | false =>
        rw [hq] at this
        have ht : t.testBit (mt p) = true := by simpa using this.symm
        have := (hok' _ ht).2
        rw [hsy p hp9 hm9, hp] at this
        exact absurd this (by decide)
    have k2 : ∀ p, set.testBit p = true → set.testBit (mt p) = true → s0.testBit p = s0.testBit (mt p) := fun p a b => by
      have hp9 := tb_9 hs a
      have hm9 := tb_9 hs b
      cases hp : s0.testBit p with
      | true => exact (cl p a b hp).symm
      | false =>
        cases hq : s0.testBit (mt p) with
        | false => rfl
        | true =>
          have := cl (mt p) b (by rw [hsy p hp9 hm9]; exact a) hq
          rw [hsy p hp9 hm9, hp] at this
          exact absurd this (by decide)
    have k3 : ∀ p, set.testBit p = true → s0.testBit p = false → D + e ≤ B p := fun p a b => by
      cases hp : t.testBit p with
      | true => exact (hok' p hp).1
      | false =>
        have := h3 p a (by rw [Nat.testBit_or, b, hp]; rfl)
        omega
    obtain ⟨l1, l2⟩ := sch_late hsy hs G so co k2 k3
    have ts : ∀ p, set.testBit p = true → set.testBit (mt p) = true → t.testBit p = t.testBit (mt p) := fun p a b => by
      have e1 := h2 p a b
      have e2 := k2 p a b
      rw [Nat.testBit_or, Nat.testBit_or, ← e2] at e1
      cases hp : s0.testBit p with
      | false => rw [hp] at e1; simpa using e1
      | true =>
        have q1 : t.testBit p = false := by
          cases z : t.testBit p with
          | false => rfl
          | true => have := (hti p z).2; rw [hp] at this; exact absurd this (by decide)
        have q2 : t.testBit (mt p) = false := by
          cases z : t.testBit (mt p) with
          | false => rfl
          | true => have := (hti _ z).2; rw [← e2, hp] at this; exact absurd this (by decide)
        rw [q1, q2]
    have ca : cnt (fun i => (s0 ||| t).testBit (gs i)) m = cnt (fun i => s0.testBit (gs i)) m + cnt (fun i => t.testBit (gs i)) m := cn_or (fun i _ => ⟨Nat.testBit_or _ _ _, fun ⟨x, y⟩ => by
      have x : s0.testBit (gs i) = true := x
      rw [(hti _ y).2] at x; exact absurd x (by decide)⟩)
    have cc : cnt (fun i => (s0 ||| t).testBit (gc i)) k = cnt (fun i => s0.testBit (gc i)) k + cnt (fun i => t.testBit (gc i)) k := cn_or (fun i _ => ⟨Nat.testBit_or _ _ _, fun ⟨x, y⟩ => by
      have x : s0.testBit (gc i) = true := x
      rw [(hti _ y).2] at x; exact absurd x (by decide)⟩)
    -- those of the day, one by one
    have ct : cnt (fun i => t.testBit (gs i)) m + 2 * cnt (fun i => t.testBit (gc i)) k ≤ bits t := by
      have hg : ∀ i, i < m + k + k → ((if i < m then gs i else if i < m + k then gc (i - m) else mt (gc (i - (m + k)))) < 9) := by
        intro i hi
        by_cases c1 : i < m
        · rw [if_pos c1]; exact (g1 i c1).1
        · by_cases c2 : i < m + k
          · rw [if_neg c1, if_pos c2]; exact (g2 _ (by omega)).1
          · rw [if_neg c1, if_neg c2]; exact tb_9 hs (g2 _ (by omega)).2.2.1
      have := cn_inj (Q := fun i => t.testBit (if i < m then gs i else if i < m + k then gc (i - m) else mt (gc (i - (m + k))))) (g := fun i => if i < m then gs i else if i < m + k then gc (i - m) else mt (gc (i - (m + k)))) (N := 9) (n := m + k + k) (Z := fun i => t.testBit i) (fun i hi hq => ⟨hg i hi, hq⟩) (fun i j hi hj _ _ hij => by
        have m9 : ∀ j, j < k → mt (gc j) < 9 ∧ mt (mt (gc j)) = gc j := fun j hj => by
          obtain ⟨a1, a2, a3, a4⟩ := g2 j hj
          have := tb_9 hs a3
          exact ⟨this, hsy _ a1 this⟩
        have ap1 : ∀ i j, i < m → j < k → gs i ≠ gc j ∧ gs i ≠ mt (gc j) := by
          intro i j hi hj
          obtain ⟨a1, a2, a3⟩ := g1 i hi
          obtain ⟨b1, b2, b3, b4⟩ := g2 j hj
          refine ⟨fun e => ?_, fun e => ?_⟩
          · rw [e, b3] at a3; exact absurd a3 (by decide)
          · rw [e, (m9 j hj).2, b2] at a3; exact absurd a3 (by decide)
        have ap3 : ∀ i j, i < k → j < k → gc i ≠ mt (gc j) := fun i j hi hj h => by
          have a4 := (g2 i hi).2.2.2
          have b4 := (g2 j hj).2.2.2
          have b5 := (m9 j hj).2
          rw [← h] at b5
          rw [b5] at a4
          omega
        by_cases c1 : i < m
        · rw [if_pos c1] at hij
          by_cases d1 : j < m
          · rw [if_pos d1] at hij; exact g5 i j c1 d1 hij
          · rw [if_neg d1] at hij
            by_cases d2 : j < m + k
            · rw [if_pos d2] at hij; exact absurd hij (ap1 i _ c1 (by omega)).1
            · rw [if_neg d2] at hij; exact absurd hij (ap1 i _ c1 (by omega)).2
        · rw [if_neg c1] at hij
          by_cases c2 : i < m + k
          · rw [if_pos c2] at hij
            by_cases d1 : j < m
            · rw [if_pos d1] at hij; exact absurd hij.symm (ap1 j _ d1 (by omega)).1
            · rw [if_neg d1] at hij
              by_cases d2 : j < m + k
              · rw [if_pos d2] at hij; have := g6 _ _ (by omega) (by omega) hij; omega
              · rw [if_neg d2] at hij; exact absurd hij (ap3 _ _ (by omega) (by omega))
          · rw [if_neg c2] at hij
            by_cases d1 : j < m
            · rw [if_pos d1] at hij; exact absurd hij.symm (ap1 j _ d1 (by omega)).2
            · rw [if_neg d1] at hij
              by_cases d2 : j < m + k
              · rw [if_pos d2] at hij; exact absurd hij.symm (ap3 _ _ (by omega) (by omega))
              · rw [if_neg d2] at hij
                have a5 := (m9 (i - (m + k)) (by omega)).2
                have b5 := (m9 (j - (m + k)) (by omega)).2
                rw [hij, b5] at a5
                have := g6 _ _ (by omega) (by omega) a5
                omega)
      rw [cn_add, cn_add, ← bits_cn] at this
      rw [cn_cg (n := m) (R := fun i => t.testBit (gs i)) (fun i hi => by rw [if_pos hi]), cn_cg (n := k) (R := fun i => t.testBit (gc i)) (fun i hi => by rw [if_neg (show ¬ m + i < m by omega), if_pos (show m + i < m + k by omega), show m + i - m = i by omega]), cn_cg (n := k) (Q := fun i => t.testBit (if m + k + i < m then gs (m + k + i) else if m + k + i < m + k then gc (m + k + i - m) else mt (gc (m + k + i - (m + k))))) (R := fun i => t.testBit (gc i)) (fun i hi => by
        obtain ⟨b1, b2, b3, b4⟩ := g2 i hi
        rw [if_neg (show ¬ m + k + i < m by omega), if_neg (show ¬ m + k + i < m + k by omega), show m + k + i - (m + k) = i by omega]
        exact (ts _ b2 b3).symm)] at this
      omega
    exact ⟨_, _, ⟨s0, hr, k1, k2, k3, rfl, rfl⟩, by omega, by omega, by omega, l1, l2⟩
theorem cn_0 : ∀ {n : Nat} {Q : Nat → Bool}, (∀ i, i < n → Q i = false) → cnt Q n = 0 := by
  intro n
  induction n with
  | zero => intro Q _; rfl
  | succ n ih => intro Q h; rw [cnt_s, h n (by omega), ih (fun i hi => h i (by omega))]; rfl
theorem YY_0 {a c : Nat} (H : YY all P set m k mt gs gc B D 0 a c) : a = 0 ∧ c = 0 := by
  obtain ⟨s, hr, h1, h2, h3, rfl, rfl⟩ := H
  have : s = 0 := hr
  subst this
  exact ⟨cn_0 (fun i _ => Nat.zero_testBit _), cn_0 (fun i _ => Nat.zero_testBit _)⟩
theorem YY_le {e a c : Nat} (H : YY all P set m k mt gs gc B D e a c) : a ≤ m ∧ c ≤ k := by
  obtain ⟨s, hr, h1, h2, h3, rfl, rfl⟩ := H
  exact ⟨cnt_le, cnt_le⟩
theorem YY_set (G : GH mt set 9 m k gs gc) {e : Nat} (H : rch all P e set) : YY all P set m k mt gs gc B D e m k := by
  refine ⟨set, H, fun p h => h, fun p h1 h2 => h1.trans h2.symm, fun p h1 h2 => by rw [h1] at h2; exact absurd h2 (by decide), ?_, ?_⟩
  · have := cn_ge (Q := fun i => set.testBit (gs i)) (Nat.le_refl m) (fun i hi => (G.1 i hi).2.1)
    have := cnt_le (c := fun i => set.testBit (gs i)) (n := m)
    omega
  · have := cn_ge (Q := fun i => set.testBit (gc i)) (Nat.le_refl k) (fun i hi => (G.2.1 i hi).2.1)
    have := cnt_le (c := fun i => set.testBit (gc i)) (n := k)
    omega
theorem pre_set (hsy : ∀ p, p < 9 → mt p < 9 → mt (mt p) = p ∧ mt p ≠ p) (hs : set < 512) (G : GH mt set 9 m k gs gc) : prs gs m ||| prc gc mt k = set := by
  obtain ⟨g1, g2, g3, g4, g5, g6⟩ := G
  apply Nat.eq_of_testBit_eq
  intro p
  have : (prs gs m ||| prc gc mt k).testBit p = true ↔ set.testBit p = true := by
    rw [Nat.testBit_or, Bool.or_eq_true, prs_b, prc_b]
    constructor
    · rintro (⟨i, hi, rfl⟩ | ⟨j, hj, rfl | rfl⟩)
      · exact (g1 i hi).2.1
      · exact (g2 j hj).2.1
      · exact (g2 j hj).2.2.1
    · intro h
      have h9 := tb_9 hs h
      cases hm : set.testBit (mt p) with
      | false => exact Or.inl (g3 p h9 h hm)
      | true =>
        have hm9 := tb_9 hs hm
        obtain ⟨y1, y2⟩ := hsy p h9 hm9
        by_cases hl : p < mt p
        · obtain ⟨j, hj, e⟩ := g4 p h9 h hm hl
          exact Or.inr ⟨j, hj, Or.inl e⟩
        · obtain ⟨j, hj, e⟩ := g4 (mt p) hm9 hm (by rw [y1]; exact h) (by rw [y1]; omega)
          exact Or.inr ⟨j, hj, Or.inr (by rw [e]; exact y1)⟩
  cases h1 : (prs gs m ||| prc gc mt k).testBit p <;> cases h2 : set.testBit p
  · rfl
  · rw [h1, h2] at this; exact absurd (this.mpr rfl) (by decide)
  · rw [h1, h2] at this; exact absurd (this.mp rfl) (by decide)
  · rfl
end SCH

/-! who is served: in order, and who they are -/
theorem ins_gh {F : Nat → Int32} {gs : Nat → Nat} {sb sb' : Nat → Int32} {m x : Nat} {v : Int32} (hi : insd sb sb' m v) (hk : ∀ i, i < m → sb i = F (gs i)) (hv : v = F x) (so : ∀ i j, i ≤ j → j < m → sb i ≤ sb j) : ∃ gs' : Nat → Nat, (∀ i, i < m + 1 → sb' i = F (gs' i)) ∧ (∀ i j, i ≤ j → j < m + 1 → sb' i ≤ sb' j) ∧ (∀ i, i < m + 1 → gs' i = x ∨ ∃ i', i' < m ∧ gs' i = gs i') ∧ (∃ i, i < m + 1 ∧ gs' i = x) ∧ (∀ i, i < m → ∃ i', i' < m + 1 ∧ gs' i' = gs i) ∧ ((∀ i j, i < m → j < m → gs i = gs j → i = j) → (∀ i, i < m → gs i ≠ x) → ∀ i j, i < m + 1 → j < m + 1 → gs' i = gs' j → i = j) := by
  obtain ⟨q, hq, h1, h2, h3, h4, h5⟩ := hi
  have hlo : ∀ j, j < q → sb' j = sb j := h1
  have hhi : ∀ j, q < j → j < m + 1 → sb' j = sb (j - 1) := fun j a b => by
    have := h3 (j - 1) (by omega) (by omega)
    rw [show j - 1 + 1 = j by omega] at this
    exact this
  refine ⟨fun j => if j < q then gs j else if j = q then x else gs (j - 1), fun i hi => ?_, fun i j hij hj => ?_, fun i hi => ?_, ⟨q, by omega, ?_⟩, fun i hi => ?_, fun hin hx i j hi hj e => ?_⟩
  · show sb' i = F (if i < q then gs i else if i = q then x else gs (i - 1))
    by_cases c1 : i < q
    · rw [if_pos c1, hlo i c1]; exact hk i (by omega)
    · by_cases c2 : i = q
      · rw [if_neg c1, if_pos c2, c2, h2]; exact hv
      · rw [if_neg c1, if_neg c2, hhi i (by omega) hi]; exact hk _ (by omega)
  · by_cases c1 : j < q
    · rw [hlo j c1, hlo i (by omega)]; exact so i j hij (by omega)
    · by_cases c2 : j = q
      · subst c2
        by_cases c3 : i = j
        · subst c3; exact Int32.le_refl _
        · rw [h2, hlo i (by omega)]
          exact Int32.le_trans (so i (j - 1) (by omega) (by omega)) (h4 (by omega))
      · rw [hhi j (by omega) hj]
        by_cases c3 : i < q
        · rw [hlo i c3]; exact so i (j - 1) (by omega) (by omega)
        · by_cases c4 : i = q
          · subst c4
            rw [h2]
            exact Int32.le_of_lt (h5 (j - 1) (by omega) (by omega))
          · rw [hhi i (by omega) (by omega)]
            exact so (i - 1) (j - 1) (by omega) (by omega)
  · show (if i < q then gs i else if i = q then x else gs (i - 1)) = x ∨ ∃ i', i' < m ∧ (if i < q then gs i else if i = q then x else gs (i - 1)) = gs i'
    by_cases c1 : i < q
    · right; exact ⟨i, by omega, by rw [if_pos c1]⟩
    · by_cases c2 : i = q
      · left; rw [if_neg c1, if_pos c2]
      · right; exact ⟨i - 1, by omega, by rw [if_neg c1, if_neg c2]⟩
  · show (if q < q then gs q else if q = q then x else gs (q - 1)) = x
    rw [if_neg (Nat.lt_irrefl q), if_pos rfl]
  · by_cases c1 : i < q
    · exact ⟨i, by omega, by show (if i < q then gs i else if i = q then x else gs (i - 1)) = _; rw [if_pos c1]⟩
    · exact ⟨i + 1, by omega, by show (if i + 1 < q then gs (i + 1) else if i + 1 = q then x else gs (i + 1 - 1)) = _; rw [if_neg (by omega), if_neg (by omega)]; rfl⟩
  · have e : (if i < q then gs i else if i = q then x else gs (i - 1)) = (if j < q then gs j else if j = q then x else gs (j - 1)) := e
    by_cases c1 : i < q
    · rw [if_pos c1] at e
      by_cases d1 : j < q
      · rw [if_pos d1] at e; exact hin i j (by omega) (by omega) e
      · rw [if_neg d1] at e
        by_cases d2 : j = q
        · rw [if_pos d2] at e; exact absurd e (hx i (by omega))
        · rw [if_neg d2] at e; have := hin i (j - 1) (by omega) (by omega) e; omega
    · rw [if_neg c1] at e
      by_cases c2 : i = q
      · rw [if_pos c2] at e
        by_cases d1 : j < q
        · rw [if_pos d1] at e; exact absurd e.symm (hx j (by omega))
        · rw [if_neg d1] at e
          by_cases d2 : j = q
          · omega
          · rw [if_neg d2] at e; exact absurd e.symm (hx _ (by omega))
      · rw [if_neg c2] at e
        by_cases d1 : j < q
        · rw [if_pos d1] at e; have := hin (i - 1) j (by omega) (by omega) e; omega
        · rw [if_neg d1] at e
          by_cases d2 : j = q
          · rw [if_pos d2] at e; exact absurd e (hx _ (by omega))
          · rw [if_neg d2] at e; have := hin (i - 1) (j - 1) (by omega) (by omega) e; omega
section GHS
variable {mt gs gc g' : Nat → Nat} {set q m k : Nat}
theorem GH.skip (G : GH mt set q m k gs gc) (h1 : ¬ (set.testBit q = true ∧ set.testBit (mt q) = false)) (h2 : ¬ (set.testBit q = true ∧ set.testBit (mt q) = true ∧ q < mt q)) : GH mt set (q + 1) m k gs gc := by
  obtain ⟨g1, g2, g3, g4, g5, g6⟩ := G
  refine ⟨fun i hi => ⟨Nat.lt_succ_of_lt (g1 i hi).1, (g1 i hi).2⟩, fun i hi => ⟨Nat.lt_succ_of_lt (g2 i hi).1, (g2 i hi).2⟩, fun p hp a b => ?_, fun p hp a b c => ?_, g5, g6⟩
  · by_cases e : p = q
    · subst e; exact absurd ⟨a, b⟩ h1
    · exact g3 p (by omega) a b
  · by_cases e : p = q
    · subst e; exact absurd ⟨a, b, c⟩ h2
    · exact g4 p (by omega) a b c
theorem GH.one (G : GH mt set q m k gs gc) (h1 : set.testBit q = true) (h2 : set.testBit (mt q) = false) (r1 : ∀ i, i < m + 1 → g' i = q ∨ ∃ i', i' < m ∧ g' i = gs i') (r2 : ∃ i, i < m + 1 ∧ g' i = q) (r3 : ∀ i, i < m → ∃ i', i' < m + 1 ∧ g' i' = gs i) (r4 : (∀ i j, i < m → j < m → gs i = gs j → i = j) → (∀ i, i < m → gs i ≠ q) → ∀ i j, i < m + 1 → j < m + 1 → g' i = g' j → i = j) : GH mt set (q + 1) (m + 1) k g' gc := by
  obtain ⟨g1, g2, g3, g4, g5, g6⟩ := G
  refine ⟨fun i hi => ?_, fun i hi => ⟨Nat.lt_succ_of_lt (g2 i hi).1, (g2 i hi).2⟩, fun p hp a b => ?_, fun p hp a b c => ?_, r4 g5 (fun i hi e => by have := (g1 i hi).1; omega), g6⟩
  · rcases r1 i hi with e | ⟨i', hi', e⟩
    · rw [e]; exact ⟨Nat.lt_succ_self q, h1, h2⟩
    · rw [e]; exact ⟨Nat.lt_succ_of_lt (g1 i' hi').1, (g1 i' hi').2⟩
  · by_cases e : p = q
    · subst e; exact r2
    · obtain ⟨i, hi, e2⟩ := g3 p (by omega) a b
      obtain ⟨i', hi', e3⟩ := r3 i hi
      exact ⟨i', hi', e3.trans e2⟩
  · by_cases e : p = q
    · subst e; rw [h2] at b; exact absurd b (by decide)
    · exact g4 p (by omega) a b c
theorem GH.two (G : GH mt set q m k gs gc) (h1 : set.testBit q = true) (h2 : set.testBit (mt q) = true) (h3 : q < mt q) (r1 : ∀ i, i < k + 1 → g' i = q ∨ ∃ i', i' < k ∧ g' i = gc i') (r2 : ∃ i, i < k + 1 ∧ g' i = q) (r3 : ∀ i, i < k → ∃ i', i' < k + 1 ∧ g' i' = gc i) (r4 : (∀ i j, i < k → j < k → gc i = gc j → i = j) → (∀ i, i < k → gc i ≠ q) → ∀ i j, i < k + 1 → j < k + 1 → g' i = g' j → i = j) : GH mt set (q + 1) m (k + 1) gs g' := by
  obtain ⟨g1, g2, g3, g4, g5, g6⟩ := G
  refine ⟨fun i hi => ⟨Nat.lt_succ_of_lt (g1 i hi).1, (g1 i hi).2⟩, fun i hi => ?_, fun p hp a b => ?_, fun p hp a b c => ?_, g5, r4 g6 (fun i hi e => by have := (g2 i hi).1; omega)⟩
  · rcases r1 i hi with e | ⟨i', hi', e⟩
    · rw [e]; exact ⟨Nat.lt_succ_self q, h1, h2, h3⟩
    · rw [e]; exact ⟨Nat.lt_succ_of_lt (g2 i' hi').1, (g2 i' hi').2⟩
  · by_cases e : p = q
    · subst e; rw [h2] at b; exact absurd b (by decide)
    · exact g3 p (by omega) a b
  · by_cases e : p = q
    · subst e; exact r2
    · obtain ⟨i, hi, e2⟩ := g4 p (by omega) a b c
      obtain ⟨i', hi', e3⟩ := r3 i hi
      exact ⟨i', hi', e3.trans e2⟩
theorem GH.top (G : GH mt set q m k gs gc) (hq : q ≤ 9) (hs : set < 2 ^ q) : GH mt set 9 m k gs gc := by
  obtain ⟨g1, g2, g3, g4, g5, g6⟩ := G
  have hb : ∀ p, set.testBit p = true → p < q := fun p h => by
    refine Decidable.byContradiction (fun hn => ?_)
    have : set < 2 ^ p := Nat.lt_of_lt_of_le hs (Nat.pow_le_pow_right (by decide) (by omega))
    rw [Nat.testBit_lt_two_pow this] at h
    exact absurd h (by decide)
  exact ⟨fun i hi => ⟨Nat.lt_of_lt_of_le (g1 i hi).1 hq, (g1 i hi).2⟩, fun i hi => ⟨Nat.lt_of_lt_of_le (g2 i hi).1 hq, (g2 i hi).2⟩, fun p _ a b => g3 p (hb p a) a b, fun p _ a b c => g4 p (hb p a) a b c, g5, g6⟩
/-- at most four couples, and one more finds its place -/
theorem GH.cpl (G : GH mt set q m k gs gc) (hsy : ∀ p, p < 9 → mt p < 9 → mt (mt p) = p) (hs : set < 512) (hq : q < 9) (h1 : set.testBit q = true) (h2 : set.testBit (mt q) = true) (h3 : q < mt q) : k < 4 := by
  obtain ⟨g1, g2, g3, g4, g5, g6⟩ := G
  have m9 : ∀ j, j < k → mt (gc j) < 9 ∧ mt (mt (gc j)) = gc j := fun j hj => by
    obtain ⟨a1, a2, a3, a4⟩ := g2 j hj
    have := tb_9 hs a3
    exact ⟨this, hsy _ (by omega) this⟩
  have ap3 : ∀ i j, i < k → j < k → gc i ≠ mt (gc j) := fun i j hi hj h => by
    have a4 := (g2 i hi).2.2.2
    have b4 := (g2 j hj).2.2.2
    have b5 := (m9 j hj).2
    rw [← h] at b5
    rw [b5] at a4
    omega
  have := cn_inj (Q := fun _ => true) (g := fun i => if i < k then gc i else mt (gc (i - k))) (N := 9) (n := k + k) (Z := fun i => !decide (i = q) && !decide (i = mt q)) (fun i hi _ => by
    show (if i < k then gc i else mt (gc (i - k))) < 9 ∧ (!decide ((if i < k then gc i else mt (gc (i - k))) = q) && !decide ((if i < k then gc i else mt (gc (i - k))) = mt q)) = true
    have hm : mt (mt q) = q := hsy q hq (tb_9 hs h2)
    by_cases c1 : i < k
    · obtain ⟨a1, a2, a3, a4⟩ := g2 i c1
      rw [if_pos c1]
      have n1 : ¬ gc i = q := by omega
      have n2 : ¬ gc i = mt q := fun e => by rw [e, hm] at a4; omega
      simp [n1, n2]
      omega
    · obtain ⟨a1, a2, a3, a4⟩ := g2 (i - k) (by omega)
      have b := m9 (i - k) (by omega)
      rw [if_neg c1]
      have n1 : ¬ mt (gc (i - k)) = q := fun e => by have := b.2; rw [e] at this; omega
      have n2 : ¬ mt (gc (i - k)) = mt q := fun e => by
        have := b.2
        rw [e, hm] at this
        omega
      simp [n1, n2, b.1]) (fun i j hi hj _ _ hij => by
    have hij : (if i < k then gc i else mt (gc (i - k))) = (if j < k then gc j else mt (gc (j - k))) := hij
    by_cases c1 : i < k
    · rw [if_pos c1] at hij
      by_cases d1 : j < k
      · rw [if_pos d1] at hij; exact g6 i j c1 d1 hij
      · rw [if_neg d1] at hij; exact absurd hij (ap3 _ _ c1 (by omega))
    · rw [if_neg c1] at hij
      by_cases d1 : j < k
      · rw [if_pos d1] at hij; exact absurd hij.symm (ap3 _ _ d1 (by omega))
      · rw [if_neg d1] at hij
        have a5 := (m9 (i - k) (by omega)).2
        have b5 := (m9 (j - k) (by omega)).2
        rw [hij, b5] at a5
        have := g6 _ _ (by omega) (by omega) a5
        omega)
  have h2k : k + k ≤ cnt (fun _ => true) (k + k) := cn_ge (Nat.le_refl _) (fun _ _ => rfl)
  have e1 := cn_del (Q := fun i => !decide (i = q)) (p := mt q) (by simp; omega) (tb_9 hs h2)
  have e2 := cn_del (Q := fun _ => true) (p := q) rfl hq
  have e3 : cnt (fun _ => true) 9 = 9 := by decide
  simp only [Bool.true_and] at e2
  omega
end GHS

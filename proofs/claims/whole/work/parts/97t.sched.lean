/-! who can be seen in time, by counts: the earliest first -/
theorem cn_add {Q : Nat → Bool} {m : Nat} : ∀ {n : Nat}, cnt Q (m + n) = cnt Q m + cnt (fun i => Q (m + i)) n := by
  intro n
  induction n with
  | zero => rfl
  | succ n ih => rw [← Nat.add_assoc, cnt_s, cnt_s, ih]; split <;> omega
theorem cn_cg {Q R : Nat → Bool} : ∀ {n : Nat}, (∀ i, i < n → Q i = R i) → cnt Q n = cnt R n := by
  intro n
  induction n with
  | zero => intro _; rfl
  | succ n ih => intro h; rw [cnt_s, cnt_s, ih (fun i hi => h i (by omega)), h n (by omega)]
theorem cn_or {Q R S : Nat → Bool} : ∀ {n : Nat}, (∀ i, i < n → S i = (Q i || R i) ∧ ¬ (Q i = true ∧ R i = true)) → cnt S n = cnt Q n + cnt R n := by
  intro n
  induction n with
  | zero => intro _; rfl
  | succ n ih =>
    intro h
    obtain ⟨h1, h2⟩ := h n (by omega)
    rw [cnt_s, cnt_s, cnt_s, ih (fun i hi => h i (by omega)), h1]
    cases hq : Q n <;> cases hr : R n
    · simp
    · simp; omega
    · simp; omega
    · exact absurd ⟨hq, hr⟩ h2
theorem cn_ge {Q : Nat → Bool} {n : Nat} : ∀ {m : Nat}, n ≤ m → (∀ i, i < n → Q i = true) → n ≤ cnt Q m := by
  intro m
  induction m with
  | zero => intro h _; omega
  | succ m ih =>
    intro h hq
    rw [cnt_s]
    by_cases e : n = m + 1
    · subst e
      rw [if_pos (hq m (by omega))]
      have : ∀ m, (∀ i, i < m → Q i = true) → m ≤ cnt Q m := by
        intro m
        induction m with
        | zero => intro _; omega
        | succ m ih2 => intro h; rw [cnt_s, if_pos (h m (by omega))]; have := ih2 (fun i hi => h i (by omega)); omega
      have := this m (fun i hi => hq i (by omega))
      omega
    · have := ih (by omega) hq
      split <;> omega
theorem cn_del {Q : Nat → Bool} {p : Nat} (hq : Q p = true) : ∀ {n : Nat}, p < n → cnt Q n = cnt (fun x => Q x && !decide (x = p)) n + 1 := by
  intro n
  induction n with
  | zero => intro h; omega
  | succ n ih =>
    intro h
    rw [cnt_s, cnt_s]
    by_cases e : n = p
    · subst e
      rw [if_pos hq, if_neg (by simp)]
      rw [cn_cg (Q := fun x => Q x && !decide (x = n)) (R := Q) (fun i hi => by have : ¬ i = n := by omega
                                                                                simp [this])]
    · have := ih (by omega)
      simp only [e, decide_false, Bool.not_false, Bool.and_true]
      split <;> omega
theorem cn_inj {Q : Nat → Bool} {g : Nat → Nat} {N : Nat} : ∀ {n : Nat} {Z : Nat → Bool}, (∀ i, i < n → Q i = true → g i < N ∧ Z (g i) = true) → (∀ i j, i < n → j < n → Q i = true → Q j = true → g i = g j → i = j) → cnt Q n ≤ cnt Z N := by
  intro n
  induction n with
  | zero => intro Z _ _; exact Nat.zero_le _
  | succ n ih =>
    intro Z h1 h2
    rw [cnt_s]
    by_cases hq : Q n = true
    · rw [if_pos hq]
      obtain ⟨a1, a2⟩ := h1 n (by omega) hq
      rw [cn_del a2 a1]
      have := ih (Z := fun x => Z x && !decide (x = g n)) (fun i hi hqi => by
        obtain ⟨b1, b2⟩ := h1 i (by omega) hqi
        refine ⟨b1, ?_⟩
        have : ¬ g i = g n := fun e => by have := h2 i n (by omega) (by omega) hqi hq e; omega
        simp [b2, this]) (fun i j hi hj => h2 i j (by omega) (by omega))
      omega
    · rw [if_neg hq]
      exact ih (fun i hi => h1 i (by omega)) (fun i j hi hj => h2 i j (by omega) (by omega))
theorem bits_cn {T : Nat} : bits T = cnt (fun i => T.testBit i) 9 := by
  have : ∀ k, m_bits T k = cnt (fun i => T.testBit i) k := by
    intro k
    induction k with
    | zero => rfl
    | succ k ih => rw [cnt_s]; unfold m_bits; rw [ih]; split <;> omega
  exact this 9
theorem bits_or {a b : Nat} : bits (a ||| b) ≤ bits a + bits b := by
  have : ∀ k, m_bits (a ||| b) k ≤ m_bits a k + m_bits b k := by
    intro k
    induction k with
    | zero => exact Nat.le_refl _
    | succ k ih =>
      unfold m_bits
      rw [Nat.testBit_or]
      cases a.testBit k <;> cases b.testBit k <;> simp <;> omega
  exact this 9
theorem bits_2 {p : Nat} : bits (2 ^ p) ≤ 1 := by
  have : ∀ k, m_bits (2 ^ p) k ≤ (if p < k then 1 else 0) := by
    intro k
    induction k with
    | zero => exact Nat.le_refl _
    | succ k ih =>
      unfold m_bits
      rw [Nat.testBit_two_pow]
      by_cases h : p = k
      · subst h
        rw [if_neg (Nat.lt_irrefl p)] at ih
        rw [if_pos (Nat.lt_succ_self p)]
        simp
        omega
      · simp only [h, decide_false, if_false, Bool.false_eq_true, Nat.add_zero]
        refine Nat.le_trans ih ?_
        split
        · rw [if_pos (by omega)]; exact Nat.le_refl _
        · exact Nat.zero_le _
  refine Nat.le_trans (this 9) ?_
  split <;> omega
/-- the sets of the first ones -/
def prs (gs : Nat → Nat) : Nat → Nat
  | 0 => 0
  | r + 1 => prs gs r ||| 2 ^ gs r
def prc (gc mt : Nat → Nat) : Nat → Nat
  | 0 => 0
  | c + 1 => prc gc mt c ||| (2 ^ gc c ||| 2 ^ mt (gc c))
theorem prs_b {gs : Nat → Nat} {p : Nat} : ∀ {r : Nat}, (prs gs r).testBit p = true ↔ ∃ i, i < r ∧ gs i = p := by
  intro r
  induction r with
  | zero => exact ⟨fun h => by simp [prs] at h, fun ⟨i, hi, _⟩ => by omega⟩
  | succ r ih =>
    unfold prs
    rw [Nat.testBit_or, Bool.or_eq_true, ih, Nat.testBit_two_pow, decide_eq_true_iff]
    constructor
    · rintro (⟨i, hi, e⟩ | e)
      · exact ⟨i, by omega, e⟩
      · exact ⟨r, by omega, e⟩
    · rintro ⟨i, hi, e⟩
      by_cases h : i = r
      · subst h; exact Or.inr e
      · exact Or.inl ⟨i, by omega, e⟩
theorem prc_b {gc mt : Nat → Nat} {p : Nat} : ∀ {r : Nat}, (prc gc mt r).testBit p = true ↔ ∃ i, i < r ∧ (gc i = p ∨ mt (gc i) = p) := by
  intro r
  induction r with
  | zero => exact ⟨fun h => by simp [prc] at h, fun ⟨i, hi, _⟩ => by omega⟩
  | succ r ih =>
    unfold prc
    rw [Nat.testBit_or, Bool.or_eq_true, ih, Nat.testBit_or, Bool.or_eq_true, Nat.testBit_two_pow, Nat.testBit_two_pow, decide_eq_true_iff, decide_eq_true_iff]
    constructor
    · rintro (⟨i, hi, e⟩ | e)
      · exact ⟨i, by omega, e⟩
      · exact ⟨r, by omega, e⟩
    · rintro ⟨i, hi, e⟩
      by_cases h : i = r
      · subst h; exact Or.inr e
      · exact Or.inl ⟨i, by omega, e⟩
theorem prs_n {gs : Nat → Nat} : ∀ {n : Nat}, bits (prs gs n) ≤ n := by
  intro n
  induction n with
  | zero => show bits 0 ≤ 0; decide
  | succ n ih =>
    unfold prs
    have := bits_or (a := prs gs n) (b := 2 ^ gs n)
    have := bits_2 (p := gs n)
    omega
theorem prc_n {gc mt : Nat → Nat} : ∀ {n : Nat}, bits (prc gc mt n) ≤ 2 * n := by
  intro n
  induction n with
  | zero => show bits 0 ≤ 0; decide
  | succ n ih =>
    unfold prc
    have := bits_or (a := prc gc mt n) (b := 2 ^ gc n ||| 2 ^ mt (gc n))
    have := bits_or (a := 2 ^ gc n) (b := 2 ^ mt (gc n))
    have := bits_2 (p := gc n)
    have := bits_2 (p := mt (gc n))
    omega
theorem tb_9 {T q : Nat} (h : T < 512) (hb : T.testBit q = true) : q < 9 := by
  by_cases hq : q < 9
  · exact hq
  · have : T < 2 ^ q := Nat.lt_of_lt_of_le (show T < 2 ^ 9 from h) (Nat.pow_le_pow_right (by decide) (by omega))
    rw [Nat.testBit_lt_two_pow this] at hb
    exact absurd hb (by decide)
theorem tb_512 {T : Nat} (h : ∀ q, T.testBit q = true → q < 9) : T < 512 := by
  refine Nat.lt_pow_two_of_testBit (n := 9) T (fun i hi => ?_)
  cases hb : T.testBit i with
  | false => rfl
  | true => have := h i hb; omega

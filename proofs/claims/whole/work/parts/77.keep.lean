/-! what reading keeps -/
theorem em_lo {fr : Nat → Int32} {x : Int32} {i : Nat} (h : i < 493) : em fr x i = fr i := by
  unfold em; rw [upd_ne (by omega), upd_ne (by omega)]
theorem rs_lo {tx : Nat → Int32} {sz : Nat} {rd : Int32} {i : Nat} (hi : i < 493) : ∀ (k m d : Nat) (c : Cu) (fr : Nat → Int32) (r : Rr), Rs tx sz rd k m d c fr r → ∀ c' fr', r = .inl (c', fr') → fr' i = fr i := by
  intro k
  induction k with
  | zero => intro m d c fr r h; exact h.elim
  | succ k ih =>
    intro m d c fr r h c' fr' hr
    have sqs : ∀ {A : Rr → Prop} {K : Cu → (Nat → Int32) → Prop}, sq A K r → ∃ c1 fr1, A (.inl (c1, fr1)) ∧ K c1 fr1 := by
      intro A K hs
      rcases hs with hs | ⟨e, h1, h2⟩
      · exact hs
      · rw [hr] at h2; cases h2
    have nofl : ∀ {w c}, r = fl w c → False := by intro w c he; rw [hr] at he; cases he
    rw [Rs] at h
    by_cases m0 : m = 0
    · rw [if_pos m0] at h
      rcases h with ⟨hk, he⟩ | ⟨hk, hw, he⟩ | ⟨hk, hd, he⟩ | ⟨hk, hd, hs⟩ | ⟨h1, h2, h3, he⟩
      · rw [hr] at he; cases he; exact em_lo hi
      · rw [hr] at he; cases he; exact em_lo hi
      · exact (nofl he).elim
      · obtain ⟨c1, fr1, h1, h2⟩ := sqs hs
        rcases h2 with ⟨h3, he⟩ | ⟨h3, he⟩
        · rw [hr] at he; cases he; exact ih _ _ _ _ _ h1 _ _ rfl
        · exact (nofl he).elim
      · exact (nofl he).elim
    · rw [if_neg m0] at h
      by_cases m5 : m = 5
      · rw [if_pos m5] at h
        rcases h with ⟨hk, hd, he⟩ | ⟨hk, hd, hs⟩ | ⟨hk, hd, hs⟩ | ⟨hk1, hk2, hs⟩
        · exact (nofl he).elim
        · obtain ⟨c1, fr1, h1, he⟩ := sqs hs
          rw [hr] at he; cases he
          rw [em_lo hi]; exact ih _ _ _ _ _ h1 _ _ rfl
        · obtain ⟨c1, fr1, h1, h2⟩ := sqs hs
          rcases h2 with ⟨h3, he⟩ | ⟨h3, he⟩
          · rw [hr] at he; cases he; exact ih _ _ _ _ _ h1 _ _ rfl
          · exact (nofl he).elim
        · obtain ⟨c1, fr1, h1, h2⟩ := sqs hs
          rcases h2 with ⟨h3, hs2⟩ | ⟨h3, he⟩
          · obtain ⟨c2, fr2, h4, he⟩ := sqs hs2
            rw [hr] at he; cases he
            rw [em_lo hi, ih _ _ _ _ _ h4 _ _ rfl]; exact ih _ _ _ _ _ h1 _ _ rfl
          · exact (nofl he).elim
      · rw [if_neg m5] at h
        by_cases mc : m = 1 ∨ m = 3 ∨ m = 6 ∨ m = 8
        · rw [if_pos mc] at h
          obtain ⟨c1, fr1, h1, h2⟩ := sqs h
          rw [ih _ _ _ _ _ h2 _ _ hr]; exact ih _ _ _ _ _ h1 _ _ rfl
        · rw [if_neg mc] at h
          by_cases m9 : m ≤ 9
          · rw [if_pos m9] at h
            rcases h with ⟨ho, he⟩ | ⟨x, ho, hs⟩
            · rw [hr] at he; cases he; rfl
            · obtain ⟨c1, fr1, h1, h2⟩ := sqs hs
              rw [ih _ _ _ _ _ h2 _ _ hr, em_lo hi]; exact ih _ _ _ _ _ h1 _ _ rfl
          · rw [if_neg m9] at h; exact h.elim
/-! numbers of the text -/
theorem si_ne {c : Int32} : ∀ n, n ≤ 12 → si c n ≠ 23 := by
  intro n
  induction n with
  | zero => intro _; show (25 : Int32) ≠ 23; decide
  | succ n ih =>
    intro hn
    unfold si
    rw [fo_s]
    split
    · intro z
      rw [tl_eq (c := 23) (by decide) (by omega)] at z
      omega
    · exact ih (by omega)
theorem key_le {tx : Nat → Int32} {a b : Nat} : m_key tx a b ≤ 22 := by
  have : ∀ (m j : Nat) x, m_fi (kq tx a b) m j = some x → x < j + m := by
    intro m
    induction m with
    | zero => intro j x h; cases h
    | succ m ih =>
      intro j x h
      rw [m_fi_s m] at h
      split at h
      · cases h; omega
      · have := ih (j + 1) x h; omega
  unfold m_key
  cases h : m_fi (kq tx a b) 21 0 with
  | none => exact Nat.le_refl _
  | some x => have := this 21 0 x h; show x ≤ 22; omega
theorem isD_nI {c : Int32} (h : isD c = true) : ∃ q, q < 10 ∧ c = nI (48 + q) := by
  unfold isD at h
  simp only [Bool.and_eq_true, decide_eq_true_eq] at h
  rw [Int32.le_iff_toInt_le, Int32.le_iff_toInt_le] at h
  have e1 : (48 : Int32).toInt = 48 := by decide
  have e2 : (57 : Int32).toInt = 57 := by decide
  rw [e1, e2] at h
  refine ⟨(c.toInt - 48).toNat, by omega, Int32.toInt_inj.mp ?_⟩
  rw [nI_toInt (by omega)]; omega
theorem d_step : ∀ q, q < 10 → ∀ v, v < 100 → 10 * nI v + nI (48 + q) - 48 = nI (10 * v + q) := by decide +kernel
theorem dg_num {tx : Nat → Int32} {sz a : Nat} : ∀ (m p v : Nat), a ≤ p → v < 10 ^ (min (p - a) 3) → ∃ q, q < 10 ^ (min ((dg tx sz a m p (nI v)).1 - a) 3) ∧ (dg tx sz a m p (nI v)).2 = nI q := by
  intro m
  induction m with
  | zero => intro p v _ h; exact ⟨v, h, rfl⟩
  | succ m ih =>
    intro p v hp h
    rw [dg_s m]
    split
    · next hc =>
      obtain ⟨q, hq, he⟩ := isD_nI hc.2
      by_cases h3 : p - a < 3
      · rw [if_pos h3, he]
        have hv : v < 100 := Nat.lt_of_lt_of_le h (by
          rw [Nat.min_eq_left (by omega)]
          exact Nat.pow_le_pow_right (by decide) (show p - a ≤ 2 by omega))
        rw [d_step q hq v hv]
        refine ih (p + 1) (10 * v + q) (by omega) ?_
        rw [Nat.min_eq_left (by omega)] at h
        rw [Nat.min_eq_left (by omega), show p + 1 - a = (p - a) + 1 by omega, Nat.pow_succ]
        omega
      · rw [if_neg h3]
        refine ih (p + 1) v (by omega) ?_
        rw [Nat.min_eq_right (by omega)] at h ⊢
        exact h
    · exact ⟨v, h, rfl⟩
theorem lx_num {tx : Nat → Int32} {sz b : Nat} {nm : Int32} (h : (lx tx sz b nm).2.2.1 = 23) : ∃ q, q < 1000 ∧ (lx tx sz b nm).2.2.2 = nI q := by
  unfold lx at h ⊢
  generalize sk tx sz (sz - b) b = a at h ⊢
  by_cases he : sz ≤ a
  · rw [if_pos he] at h; exact absurd (show (24 : Int32) = 23 from h) (by decide)
  · rw [if_neg he] at h ⊢
    by_cases hS : isS (tx a) = true
    · rw [if_pos hS] at h
      have hk := key_le (tx := tx) (a := a) (b := we tx sz (sz - a) a)
      simp only at h
      rw [tl_eq (c := 23) (by decide) (by omega)] at h
      omega
    · rw [if_neg hS] at h ⊢
      by_cases hD : isD (tx a) = true
      · rw [if_pos hD] at h ⊢
        obtain ⟨q, hq, hq2⟩ := dg_num (tx := tx) (sz := sz) (a := a) (sz - a) a 0 (Nat.le_refl _) (by simp)
        refine ⟨q, Nat.lt_of_lt_of_le hq ?_, hq2⟩
        exact Nat.pow_le_pow_right (n := 10) (by decide) (Nat.min_le_right _ 3)
      · rw [if_neg hD] at h
        exact absurd h (si_ne 12 (Nat.le_refl _))
theorem cnm_nx {tx : Nat → Int32} {sz : Nat} {c : Cu} : cnm (nx tx sz c) := fun h => lx_num h

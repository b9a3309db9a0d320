/-! laws as they are read: both read the same -/
def nN (fr : Nat → Int32) : Nat := (fr 493).toNatClampNeg
def em (fr : Nat → Int32) (x : Int32) : Nat → Int32 := upd (upd fr (494 + nN fr) x) 493 (nI (nN fr + 1))
def wrd (rd kd : Int32) : Int32 := if kd.toInt = 14 then 0 else if kd.toInt = 5 then 1 else if kd.toInt = 6 then 2 else if kd.toInt = 15 then 3 else if kd.toInt = 13 then 4 else if kd.toInt = 16 then 5 else if kd.toInt = 17 then (if rd = 1 then 6 else -1) else -1
abbrev Rr : Type := (Cu × (Nat → Int32)) ⊕ (Int32 × Nat)
def fl (w : Int32) (c : Cu) : Rr := .inr (ft w c.2.2.1, c.1)
/-- one behind the other -/
def sq (A : Rr → Prop) (K : Cu → (Nat → Int32) → Prop) (r : Rr) : Prop := (∃ c1 fr1, A (.inl (c1, fr1)) ∧ K c1 fr1) ∨ ∃ e, A (.inr e) ∧ r = .inr e
/-- operators of the rows 2, 4, 7, 9 and their codes -/
def opc (m : Nat) (kd : Int32) : Option Int32 := if m = 2 then (if kd = 34 then some 3002 else none) else if m = 4 then (if kd = 32 then some 3000 else if kd = 33 then some 3001 else none) else if m = 7 then (if kd = 18 then some 3007 else none) else (if kd = 19 then some 3008 else none)
def sb (m : Nat) : Nat := if m ≤ 2 then 0 else if m ≤ 4 then 1 else if m ≤ 7 then 5 else 6
abbrev Rt : Type := Nat → Nat → Cu → (Nat → Int32) → Rr → Prop
def r_at (tx : Nat → Int32) (sz : Nat) (rd : Int32) (R : Rt) (d : Nat) (c : Cu) (fr : Nat → Int32) (r : Rr) : Prop := (c.2.2.1 = 23 ∧ r = .inl (nx tx sz c, em fr c.2.2.2)) ∨ (c.2.2.1 ≠ 23 ∧ wrd rd c.2.2.1 ≠ -1 ∧ r = .inl (nx tx sz c, em fr (1000 + wrd rd c.2.2.1))) ∨ (c.2.2.1 = 35 ∧ d = 6 ∧ r = fl 4 c) ∨ (c.2.2.1 = 35 ∧ d < 6 ∧ sq (R 3 (d + 1) (nx tx sz c) fr) (fun c1 fr1 => (c1.2.2.1 = 36 ∧ r = .inl (nx tx sz c1, fr1)) ∨ (c1.2.2.1 ≠ 36 ∧ r = fl 2 c1)) r) ∨ (c.2.2.1 ≠ 23 ∧ wrd rd c.2.2.1 = -1 ∧ c.2.2.1 ≠ 35 ∧ r = fl 2 c)
def cmc (kd : Int32) : Int32 := if kd = 39 then 3003 else if kd = 40 then 3004 else 3005
def r_un (tx : Nat → Int32) (sz : Nat) (R : Rt) (d : Nat) (c : Cu) (fr : Nat → Int32) (r : Rr) : Prop := ((c.2.2.1 = 20 ∨ c.2.2.1 = 37) ∧ d = 6 ∧ r = fl 4 c) ∨ (c.2.2.1 = 20 ∧ d < 6 ∧ sq (R 5 (d + 1) (nx tx sz c) fr) (fun c1 fr1 => r = .inl (c1, em fr1 3006)) r) ∨ (c.2.2.1 = 37 ∧ d < 6 ∧ sq (R 8 (d + 1) (nx tx sz c) fr) (fun c1 fr1 => (c1.2.2.1 = 38 ∧ r = .inl (nx tx sz c1, fr1)) ∨ (c1.2.2.1 ≠ 38 ∧ r = fl 2 c1)) r) ∨ (c.2.2.1 ≠ 20 ∧ c.2.2.1 ≠ 37 ∧ sq (R 3 d c fr) (fun c1 fr1 => ((c1.2.2.1 = 39 ∨ c1.2.2.1 = 40 ∨ c1.2.2.1 = 41) ∧ sq (R 3 d (nx tx sz c1) fr1) (fun c2 fr2 => r = .inl (c2, em fr2 (cmc c1.2.2.1))) r) ∨ ((c1.2.2.1 ≠ 39 ∧ c1.2.2.1 ≠ 40 ∧ c1.2.2.1 ≠ 41) ∧ r = fl 2 c1)) r)
def r_lp (tx : Nat → Int32) (sz : Nat) (R : Rt) (m d : Nat) (c : Cu) (fr : Nat → Int32) (r : Rr) : Prop := (opc m c.2.2.1 = none ∧ r = .inl (c, fr)) ∨ ∃ x, opc m c.2.2.1 = some x ∧ sq (R (sb m) d (nx tx sz c) fr) (fun c1 fr1 => R m d c1 (em fr1 x) r) r
def Rs (tx : Nat → Int32) (sz : Nat) (rd : Int32) : Nat → Rt
  | 0 => fun _ _ _ _ _ => False
  | k + 1 => fun m d c fr r => if m = 0 then r_at tx sz rd (Rs tx sz rd k) d c fr r else if m = 5 then r_un tx sz (Rs tx sz rd k) d c fr r else if m = 1 ∨ m = 3 ∨ m = 6 ∨ m = 8 then sq (Rs tx sz rd k (sb m) d c fr) (fun c1 fr1 => Rs tx sz rd k (m + 1) d c1 fr1 r) r else if m ≤ 9 then r_lp tx sz (Rs tx sz rd k) m d c fr r else False
/-- a token of the text -/
def cv (sz : Nat) (c : Cu) : Prop := (c.2.1 ≤ sz ∧ c.1 ≤ sz) ∧ (c.1 < c.2.1 ∨ c.2.2.1 = 24)
theorem cv_nx {tx : Nat → Int32} {sz : Nat} {c : Cu} (h : cv sz c) : cv sz (nx tx sz c) ∧ c.2.1 ≤ (nx tx sz c).1 := by
  obtain ⟨h1, h2, h3⟩ := lx_le (tx := tx) (nm := c.2.2.2) h.1.1
  refine ⟨⟨⟨h2, ?_⟩, ?_⟩, h1⟩
  · show (lx tx sz c.2.1 c.2.2.2).1 ≤ sz
    rcases h3 with z | z
    · omega
    · omega
  · rcases h3 with z | z
    · exact Or.inl z
    · exact Or.inr z.1
theorem cv_go {tx : Nat → Int32} {sz : Nat} {c : Cu} (h : cv sz c) (hk : c.2.2.1 ≠ 24) : cv sz (nx tx sz c) ∧ c.1 + 1 ≤ (nx tx sz c).1 := by
  have h1 := cv_nx (tx := tx) h
  refine ⟨h1.1, ?_⟩
  rcases h.2 with z | z
  · omega
  · exact absurd z hk
/-- codes are no more than what was read -/
def ncs (fr : Nat → Int32) (n : Nat) : Prop := fr 493 = nI n ∧ n ≤ 900
theorem ncs.eq {fr : Nat → Int32} {n : Nat} (h : ncs fr n) : nN fr = n := by unfold nN; rw [h.1]; exact ix_cl (by have := h.2; omega)
theorem ncs.em {fr : Nat → Int32} {n : Nat} {x : Int32} (h : ncs fr n) (hn : n < 900) : ncs (em fr x) (n + 1) := by
  refine ⟨?_, by omega⟩
  show upd (upd fr (494 + nN fr) x) 493 (nI (nN fr + 1)) 493 = _
  rw [h.eq, upd_eq]
theorem opc_ne {m : Nat} {kd x : Int32} (h : opc m kd = some x) : kd ≠ 24 := by
  rintro rfl
  unfold opc at h
  have t1 : ¬ (24 : Int32) = 34 := by decide
  have t2 : ¬ (24 : Int32) = 32 := by decide
  have t3 : ¬ (24 : Int32) = 33 := by decide
  have t4 : ¬ (24 : Int32) = 18 := by decide
  have t5 : ¬ (24 : Int32) = 19 := by decide
  simp only [t1, t2, t3, t4, t5, if_false, ite_self] at h
  cases h
theorem wrd_ne {rd kd : Int32} (h : wrd rd kd ≠ -1) : kd ≠ 24 := by
  rintro rfl
  apply h
  have : (24 : Int32).toInt = 24 := by decide
  unfold wrd
  rw [this]
  rfl
/-- what is read takes place, and makes no more codes than signs -/
def rs_P (sz : Nat) (c : Cu) (fr : Nat → Int32) (r : Rr) : Prop := ∀ n, cv sz c → sz ≤ 900 → ncs fr n → n ≤ c.1 → ∀ c' fr', r = .inl (c', fr') → cv sz c' ∧ ∃ n', ncs fr' n' ∧ n' + c.1 ≤ c'.1 + n
theorem cv_lt {sz : Nat} {c : Cu} (h : cv sz c) (hk : c.2.2.1 ≠ 24) (hz : sz ≤ 900) : c.1 < 900 := by
  rcases h.2 with z | z
  · have := h.1; omega
  · exact absurd z hk
theorem rs_n {tx : Nat → Int32} {sz : Nat} {rd : Int32} : ∀ (k m d : Nat) (c : Cu) (fr : Nat → Int32) (r : Rr), Rs tx sz rd k m d c fr r → rs_P sz c fr r := by
  intro k
  induction k with
  | zero => intro m d c fr r h; exact h.elim
  | succ k ih =>
    intro m d c fr r h n hc hz hn hle c' fr' hr
    have sqs : ∀ {A : Rr → Prop} {K : Cu → (Nat → Int32) → Prop}, sq A K r → ∃ c1 fr1, A (.inl (c1, fr1)) ∧ K c1 fr1 := by
      intro A K hs
      rcases hs with hs | ⟨e, h1, h2⟩
      · exact hs
      · rw [hr] at h2; cases h2
    have nofl : ∀ {w c}, r = fl w c → False := by intro w c he; rw [hr] at he; cases he
    have lt9 : ∀ {n1 : Nat} {c1 : Cu} {fr1 : Nat → Int32}, cv sz c1 → ncs fr1 n1 → n1 + 1 ≤ c1.1 → n1 < 900 := by
      intro n1 c1 fr1 i1 i2 i3
      have := i1.1.2
      omega
    rw [Rs] at h
    by_cases m0 : m = 0
    · rw [if_pos m0] at h
      rcases h with ⟨hk, he⟩ | ⟨hk, hw, he⟩ | ⟨hk, hd, he⟩ | ⟨hk, hd, hs⟩ | ⟨h1, h2, h3, he⟩
      · rw [hr] at he
        cases he
        have g1 := cv_go (tx := tx) hc (by rw [hk]; decide)
        have g2 := cv_lt hc (by rw [hk]; decide) hz
        exact ⟨g1.1, n + 1, hn.em (by omega), by omega⟩
      · rw [hr] at he
        cases he
        have g1 := cv_go (tx := tx) hc (wrd_ne hw)
        have g2 := cv_lt hc (wrd_ne hw) hz
        exact ⟨g1.1, n + 1, hn.em (by omega), by omega⟩
      · exact (nofl he).elim
      · obtain ⟨c1, fr1, h1, h2⟩ := sqs hs
        have g1 := cv_go (tx := tx) hc (by rw [hk]; decide)
        obtain ⟨i1, n1, i2, i3⟩ := ih _ _ _ _ _ h1 n g1.1 hz hn (by omega) _ _ rfl
        rcases h2 with ⟨h3, he⟩ | ⟨h3, he⟩
        · rw [hr] at he
          cases he
          have g2 := cv_go (tx := tx) i1 (by rw [h3]; decide)
          exact ⟨g2.1, n1, i2, by omega⟩
        · exact (nofl he).elim
      · exact (nofl he).elim
    · rw [if_neg m0] at h
      by_cases m5 : m = 5
      · rw [if_pos m5] at h
        rcases h with ⟨hk, hd, he⟩ | ⟨hk, hd, hs⟩ | ⟨hk, hd, hs⟩ | ⟨hk1, hk2, hs⟩
        · exact (nofl he).elim
        · obtain ⟨c1, fr1, h1, he⟩ := sqs hs
          have g1 := cv_go (tx := tx) hc (by rw [hk]; decide)
          obtain ⟨i1, n1, i2, i3⟩ := ih _ _ _ _ _ h1 n g1.1 hz hn (by omega) _ _ rfl
          rw [hr] at he
          cases he
          exact ⟨i1, n1 + 1, i2.em (lt9 i1 i2 (by omega)), by omega⟩
        · obtain ⟨c1, fr1, h1, h2⟩ := sqs hs
          have g1 := cv_go (tx := tx) hc (by rw [hk]; decide)
          obtain ⟨i1, n1, i2, i3⟩ := ih _ _ _ _ _ h1 n g1.1 hz hn (by omega) _ _ rfl
          rcases h2 with ⟨h3, he⟩ | ⟨h3, he⟩
          · rw [hr] at he
            cases he
            have g2 := cv_go (tx := tx) i1 (by rw [h3]; decide)
            exact ⟨g2.1, n1, i2, by omega⟩
          · exact (nofl he).elim
        · obtain ⟨c1, fr1, h1, h2⟩ := sqs hs
          obtain ⟨i1, n1, i2, i3⟩ := ih _ _ _ _ _ h1 n hc hz hn hle _ _ rfl
          rcases h2 with ⟨h3, hs2⟩ | ⟨h3, he⟩
          · obtain ⟨c2, fr2, h4, he⟩ := sqs hs2
            have g1 := cv_go (tx := tx) i1 (by rcases h3 with z | z | z <;> (rw [z]; decide))
            obtain ⟨j1, n2, j2, j3⟩ := ih _ _ _ _ _ h4 n1 g1.1 hz i2 (by omega) _ _ rfl
            rw [hr] at he
            cases he
            exact ⟨j1, n2 + 1, j2.em (lt9 j1 j2 (by omega)), by omega⟩
          · exact (nofl he).elim
      · rw [if_neg m5] at h
        by_cases mc : m = 1 ∨ m = 3 ∨ m = 6 ∨ m = 8
        · rw [if_pos mc] at h
          obtain ⟨c1, fr1, h1, h2⟩ := sqs h
          obtain ⟨i1, n1, i2, i3⟩ := ih _ _ _ _ _ h1 n hc hz hn hle _ _ rfl
          obtain ⟨j1, n2, j2, j3⟩ := ih _ _ _ _ _ h2 n1 i1 hz i2 (by omega) _ _ hr
          exact ⟨j1, n2, j2, by omega⟩
        · rw [if_neg mc] at h
          by_cases m9 : m ≤ 9
          · rw [if_pos m9] at h
            rcases h with ⟨ho, he⟩ | ⟨x, ho, hs⟩
            · rw [hr] at he
              cases he
              exact ⟨hc, n, hn, by omega⟩
            · obtain ⟨c1, fr1, h1, h2⟩ := sqs hs
              have g1 := cv_go (tx := tx) hc (opc_ne ho)
              obtain ⟨i1, n1, i2, i3⟩ := ih _ _ _ _ _ h1 n g1.1 hz hn (by omega) _ _ rfl
              obtain ⟨j1, n2, j2, j3⟩ := ih _ _ _ _ _ h2 (n1 + 1) i1 hz (i2.em (lt9 i1 i2 (by omega))) (by omega) _ _ hr
              exact ⟨j1, n2, j2, by omega⟩
          · rw [if_neg m9] at h; exact h.elim

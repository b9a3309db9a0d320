/-! every line is read, and keeps what reading needs -/
def LI (sz S R n : Nat) (c : Cu) (fr : Nat → Int32) : Prop := cv sz c ∧ fr 1 = nI S ∧ fr 52 = nI R ∧ R ≤ 9 ∧ ncs fr n ∧ n ≤ c.1
theorem LI.up {sz S R n i : Nat} {c : Cu} {fr : Nat → Int32} {x : Int32} (h : LI sz S R n c fr) (h1 : i ≠ 1) (h2 : i ≠ 52) (h3 : i ≠ 493) : LI sz S R n c (upd fr i x) := ⟨h.1, by rw [upd_ne (Ne.symm h1)]; exact h.2.1, by rw [upd_ne (Ne.symm h2)]; exact h.2.2.1, h.2.2.2.1, ⟨by rw [upd_ne (Ne.symm h3)]; exact h.2.2.2.2.1.1, h.2.2.2.2.1.2⟩, h.2.2.2.2.2⟩
theorem LI.go {tx : Nat → Int32} {sz S R n : Nat} {c : Cu} {fr : Nat → Int32} (h : LI sz S R n c fr) (hk : c.2.2.1 ≠ 24) : LI sz S R n (nx tx sz c) fr ∧ rem sz (nx tx sz c) < rem sz c := ⟨⟨(cv_go h.1 hk).1, h.2.1, h.2.2.1, h.2.2.2.1, h.2.2.2.2.1, by have := (cv_go (tx := tx) h.1 hk).2; have := h.2.2.2.2.2; omega⟩, rem_nx h.1 hk⟩
theorem LI.at {sz S R n : Nat} {c : Cu} {fr fr' : Nat → Int32} (h : LI sz S R n c fr) (h1 : fr' 1 = fr 1) (h2 : fr' 52 = fr 52) (h3 : fr' 493 = fr 493) : LI sz S R n c fr' := ⟨h.1, by rw [h1]; exact h.2.1, by rw [h2]; exact h.2.2.1, h.2.2.2.1, ⟨by rw [h3]; exact h.2.2.2.2.1.1, h.2.2.2.2.1.2⟩, h.2.2.2.2.2⟩
theorem tko_24 {c : Cu} {lo hi : Int} (h : tko c lo hi = true) : c.2.2.1 ≠ 24 := by rw [(tko_iff.mp h).1]; decide
theorem flag_LI {tx : Nat → Int32} {sz S R n p : Nat} {c c' : Cu} {fr ag fr' ag' : Nat → Int32} (hp : p < 9) (h : LI sz S R n c fr) (hf : l_flag tx sz p c fr ag = some (.inl (c', fr', ag'))) : LI sz S R n c' fr' ∧ rem sz c' < rem sz c := by
  unfold l_flag at hf
  have main : c.2.2.1 ≠ 24 → ∀ lo hi, tko (nx tx sz c) lo hi = true → LI sz S R n (nx tx sz (nx tx sz c)) fr ∧ rem sz (nx tx sz (nx tx sz c)) < rem sz c := by
    intro hk lo hi ht
    have g1 := h.go (tx := tx) hk
    have g2 := g1.1.go (tx := tx) (tko_24 ht)
    exact ⟨g2.1, by have := g1.2; have := g2.2; omega⟩
  by_cases h6 : c.2.2.1 = 6
  · rw [if_pos h6] at hf
    have hf := Option.some.inj hf
    split at hf
    · next ht => cases hf; exact main (by rw [h6]; decide) _ _ ht
    · cases hf
  · rw [if_neg h6] at hf
    by_cases h7 : c.2.2.1 = 7
    · rw [if_pos h7] at hf
      have hf := Option.some.inj hf
      split at hf
      · next ht => cases hf; have g := main (by rw [h7]; decide) _ _ ht; exact ⟨g.1.up (by omega) (by omega) (by omega), g.2⟩
      · cases hf
    · rw [if_neg h7] at hf
      by_cases h8 : c.2.2.1 = 8
      · rw [if_pos h8] at hf
        have hf := Option.some.inj hf
        split at hf
        · next ht => cases hf; have g := main (by rw [h8]; decide) _ _ ht; exact ⟨g.1.up (by omega) (by omega) (by omega), g.2⟩
        · cases hf
      · rw [if_neg h8] at hf; cases hf
theorem flags_tot {tx : Nat → Int32} {sz S R n p : Nat} (hp : p < 9) : ∀ (k : Nat) (c : Cu) (fr ag : Nat → Int32), LI sz S R n c fr → rem sz c < k → ∃ r, l_flags tx sz p k c fr ag = some r ∧ ∀ c' fr' ag', r = .inl (c', fr', ag') → LI sz S R n c' fr' ∧ rem sz c' ≤ rem sz c := by
  intro k
  induction k with
  | zero => intro c fr ag h hk; omega
  | succ k ih =>
    intro c fr ag h hk
    rw [l_flags]
    cases hf : l_flag tx sz p c fr ag with
    | none => exact ⟨_, rfl, by rintro c' fr' ag' ⟨⟩; exact ⟨h, Nat.le_refl _⟩⟩
    | some q =>
      rcases q with ⟨c1, fr1, ag1⟩ | e
      · have g := flag_LI hp h hf
        obtain ⟨r, h1, h2⟩ := ih c1 fr1 ag1 g.1 (by have := g.2; omega)
        exact ⟨r, h1, fun c' fr' ag' he => ⟨(h2 c' fr' ag' he).1, by have := (h2 c' fr' ag' he).2; have := g.2; omega⟩⟩
      · exact ⟨_, rfl, by rintro c' fr' ag' ⟨⟩⟩
theorem flags_mono {tx : Nat → Int32} {sz p : Nat} : ∀ (k : Nat) (c : Cu) (fr ag : Nat → Int32) (r : Lr), l_flags tx sz p k c fr ag = some r → l_flags tx sz p (k + 1) c fr ag = some r := by
  intro k
  induction k with
  | zero => intro c fr ag r h; cases h
  | succ k ih =>
    intro c fr ag r h
    rw [l_flags] at h ⊢
    cases hf : l_flag tx sz p c fr ag with
    | none => rw [hf] at h; exact h
    | some q =>
      rw [hf] at h
      rcases q with ⟨c1, fr1, ag1⟩ | e
      · exact ih _ _ _ _ h
      · exact h
/-- a line that is there: how it goes, whatever is left -/
def LG (sz S n : Nat) (c : Cu) (r : Lr) : Prop := ∀ c' fr' ag', r = .inl (c', fr', ag') → ∃ R' n', LI sz S R' n' c' fr' ∧ rem sz c' < rem sz c
theorem line_tot {tx : Nat → Int32} {sz S R n : Nat} {c : Cu} {fr ag : Nat → Int32} (hz : sz ≤ 900) (hS : 1 ≤ S) (h8 : S ≤ 8) (h : LI sz S R n c fr) (hk : c.2.2.1 ≠ 24) : ∃ k r, l_line tx sz S R k c fr ag r ∧ LG sz S n c r := by
  have h9 := h.2.2.2.1
  have g1 := h.go (tx := tx) hk
  by_cases d1 : c.2.2.1 = 1
  · refine ⟨0, _, Or.inl ⟨d1, rfl⟩, ?_⟩
    unfold l_joint
    intro c' fr' ag' hr
    split at hr
    · next t1 =>
      split at hr
      · next t2 =>
        split at hr
        · next t3 =>
          cases hr
          have a1 := tko_iff.mp t1
          have g2 := g1.1.go (tx := tx) (tko_24 t1)
          have g3 := g2.1.go (tx := tx) (by rw [t2]; decide)
          have g4 := g3.1.go (tx := tx) (tko_24 t3)
          refine ⟨R, n, g4.1.up (by omega) (by omega) (by omega), ?_⟩
          have := g1.2; have := g2.2; have := g3.2; have := g4.2; omega
        · cases hr
      · cases hr
    · cases hr
  by_cases d3 : c.2.2.1 = 3
  · by_cases hR9 : R = 9
    · refine ⟨0, fl' 4 c, Or.inr (Or.inl ⟨d3, by unfold l_person; rw [if_pos hR9]⟩), ?_⟩
      rintro c' fr' ag' ⟨⟩
    · by_cases t1 : (nx tx sz c).2.2.1 = 4
      · have g2 := g1.1.go (tx := tx) (by rw [t1]; decide)
        by_cases t2 : tko (nx tx sz (nx tx sz c)) 0 ((S : Int) - 1) = true
        · have g3 := g2.1.go (tx := tx) (tko_24 t2)
          by_cases t3 : (nx tx sz (nx tx sz (nx tx sz c))).2.2.1 = 5
          · have g4 := g3.1.go (tx := tx) (by rw [t3]; decide)
            by_cases t4 : tko (nx tx sz (nx tx sz (nx tx sz (nx tx sz c)))) 0 99 = true
            · have g5 := g4.1.go (tx := tx) (tko_24 t4)
              have g6 := (g5.1.up (i := 57 + R) (x := (nx tx sz (nx tx sz c)).2.2.2) (by omega) (by omega) (by omega)).up (i := 66 + R) (x := (nx tx sz (nx tx sz (nx tx sz (nx tx sz c)))).2.2.2) (by omega) (by omega) (by omega)
              obtain ⟨r, e1, e2⟩ := flags_tot (tx := tx) (show R < 9 by omega) (rem sz (nx tx sz (nx tx sz (nx tx sz (nx tx sz (nx tx sz c))))) + 1) _ _ (upd ag R 0) g6 (by omega)
              rcases r with ⟨c', fr', ag'⟩ | e
              · refine ⟨_, .inl (c', upd fr' 52 (nI (R + 1)), ag'), Or.inr (Or.inl ⟨d3, by unfold l_person; rw [if_neg hR9, if_pos t1, if_pos t2, if_pos t3, if_pos t4, e1]⟩), ?_⟩
                rintro c2 fr2 ag2 ⟨⟩
                obtain ⟨p1, p2⟩ := e2 _ _ _ rfl
                refine ⟨R + 1, n, ⟨p1.1, by rw [upd_ne (by decide)]; exact p1.2.1, upd_eq, by omega, ⟨by rw [upd_ne (by decide)]; exact p1.2.2.2.2.1.1, p1.2.2.2.2.1.2⟩, p1.2.2.2.2.2⟩, ?_⟩
                have := g1.2; have := g2.2; have := g3.2; have := g4.2; have := g5.2; omega
              · refine ⟨_, .inr e, Or.inr (Or.inl ⟨d3, by unfold l_person; rw [if_neg hR9, if_pos t1, if_pos t2, if_pos t3, if_pos t4, e1]⟩), ?_⟩
                rintro c' fr' ag' ⟨⟩
            · refine ⟨0, _, Or.inr (Or.inl ⟨d3, by unfold l_person; rw [if_neg hR9, if_pos t1, if_pos t2, if_pos t3, if_neg t4]⟩), ?_⟩
              rintro c' fr' ag' ⟨⟩
          · refine ⟨0, _, Or.inr (Or.inl ⟨d3, by unfold l_person; rw [if_neg hR9, if_pos t1, if_pos t2, if_neg t3]⟩), ?_⟩
            rintro c' fr' ag' ⟨⟩
        · refine ⟨0, _, Or.inr (Or.inl ⟨d3, by unfold l_person; rw [if_neg hR9, if_pos t1, if_neg t2]⟩), ?_⟩
          rintro c' fr' ag' ⟨⟩
      · refine ⟨0, _, Or.inr (Or.inl ⟨d3, by unfold l_person; rw [if_neg hR9, if_neg t1]⟩), ?_⟩
        rintro c' fr' ag' ⟨⟩
  by_cases d9 : c.2.2.1 = 9
  · refine ⟨0, _, Or.inr (Or.inr (Or.inl ⟨d9, rfl⟩)), ?_⟩
    unfold l_couple
    intro c' fr' ag' hr
    have ok : ∀ (c : Cu) nt, l_one c fr R nt = none → tko c 0 ((R : Int) - 1) = true := by
      intro c nt ho
      unfold l_one at ho
      split at ho
      · cases ho
      · split at ho
        · next t => exact t
        · cases ho
    cases ho : l_one (nx tx sz c) fr R none with
    | some e => rw [ho] at hr; cases hr
    | none =>
      rw [ho] at hr
      simp only at hr
      have t1 := ok _ _ ho
      have g2 := g1.1.go (tx := tx) (tko_24 t1)
      cases ho2 : l_one (nx tx sz (nx tx sz c)) fr R (some (nx tx sz c).2.2.2.toInt.toNat) with
      | some e => rw [ho2] at hr; cases hr
      | none =>
        rw [ho2] at hr
        cases hr
        have t2 := ok _ _ ho2
        have g3 := g2.1.go (tx := tx) (tko_24 t2)
        have a1 := tko_iff.mp t1
        have a2 := tko_iff.mp t2
        refine ⟨R, n, (g3.1.up (by omega) (by omega) (by omega)).up (by omega) (by omega) (by omega), ?_⟩
        have := g1.2; have := g2.2; have := g3.2; omega
  have num : ∀ i lo hi, i ≠ 1 → i ≠ 52 → i ≠ 493 → LG sz S n c (l_num tx sz i lo hi c fr ag) := by
    intro i lo hi h1 h2 h3 c' fr' ag' hr
    unfold l_num at hr
    split at hr
    · next t =>
      cases hr
      have g2 := g1.1.go (tx := tx) (tko_24 t)
      exact ⟨R, n, g2.1.up h1 h2 h3, by have := g1.2; have := g2.2; omega⟩
    · cases hr
  by_cases d10 : c.2.2.1 = 10
  · exact ⟨0, _, Or.inr (Or.inr (Or.inr (Or.inl ⟨d10, rfl⟩))), num _ _ _ (by decide) (by decide) (by decide)⟩
  have law : ∀ law, law < 2 → ∃ k r, l_law' tx sz law k c fr ag r ∧ LG sz S n c r := by
    intro law hlaw
    by_cases h31 : (nx tx sz c).2.2.1 = 31
    · have g2 := g1.1.go (tx := tx) (by rw [h31]; decide)
      obtain ⟨k, r1, q1, q2⟩ := rs_tot (tx := tx) (sz := sz) (rd := nI law) _ (if law = 0 then 3 else 8) 0 (nx tx sz (nx tx sz c)) fr (Nat.le_refl _) (by split <;> decide) (by decide) g2.1.1
      rcases r1 with ⟨c3, fr3⟩ | e
      · refine ⟨k, .inl (c3, l_end fr3 law (nN fr), ag), Or.inr ⟨h31, Or.inl ⟨c3, fr3, q1, rfl⟩⟩, ?_⟩
        rintro c' fr' ag' ⟨⟩
        obtain ⟨p1, p2, p3⟩ := q2 _ _ rfl
        obtain ⟨_, n', w1, w2⟩ := rs_n _ _ _ _ _ _ q1 n g2.1.1 hz g2.1.2.2.2.2.1 g2.1.2.2.2.2.2 _ _ rfl
        have l1 := rs_lo (i := 1) (by decide) _ _ _ _ _ _ q1 _ _ rfl
        have l52 := rs_lo (i := 52) (by decide) _ _ _ _ _ _ q1 _ _ rfl
        refine ⟨R, n', ?_, ?_⟩
        · have b : LI sz S R n' c3 fr3 := ⟨p1, by rw [l1]; exact h.2.1, by rw [l52]; exact h.2.2.1, h9, w1, by have := g2.1.2.2.2.2.2; omega⟩
          exact ((b.up (by omega) (by omega) (by omega)).up (by omega) (by omega) (by omega)).up (by omega) (by omega) (by omega)
        · have := g1.2; have := g2.2; omega
      · refine ⟨k, .inr e, Or.inr ⟨h31, Or.inr ⟨e, q1, rfl⟩⟩, ?_⟩
        rintro c' fr' ag' ⟨⟩
    · refine ⟨0, fl' 2 (nx tx sz c), Or.inl ⟨h31, rfl⟩, ?_⟩
      rintro c' fr' ag' ⟨⟩
  by_cases d11 : c.2.2.1 = 11
  · obtain ⟨k, r, q1, q2⟩ := law 0 (by decide)
    exact ⟨k, r, Or.inr (Or.inr (Or.inr (Or.inr (Or.inl ⟨d11, q1⟩)))), q2⟩
  by_cases d12 : c.2.2.1 = 12
  · obtain ⟨k, r, q1, q2⟩ := law 1 (by decide)
    exact ⟨k, r, Or.inr (Or.inr (Or.inr (Or.inr (Or.inr (Or.inl ⟨d12, q1⟩))))), q2⟩
  by_cases d13 : c.2.2.1 = 13
  · exact ⟨0, _, Or.inr (Or.inr (Or.inr (Or.inr (Or.inr (Or.inr (Or.inl ⟨d13, rfl⟩)))))), num _ _ _ (by decide) (by decide) (by decide)⟩
  · refine ⟨0, fl' 2 c, Or.inr (Or.inr (Or.inr (Or.inr (Or.inr (Or.inr (Or.inr ⟨⟨d1, d3, d9, d10, d11, d12, d13⟩, rfl⟩)))))), ?_⟩
    rintro c' fr' ag' ⟨⟩

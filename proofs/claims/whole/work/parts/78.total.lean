/-! every law is read -/
theorem sq_mono {A A' : Rr → Prop} {K K' : Cu → (Nat → Int32) → Prop} {r : Rr} (hA : ∀ x, A x → A' x) (hK : ∀ c fr, K c fr → K' c fr) (h : sq A K r) : sq A' K' r := by
  rcases h with ⟨c1, fr1, h1, h2⟩ | ⟨e, h1, h2⟩
  · exact Or.inl ⟨c1, fr1, hA _ h1, hK _ _ h2⟩
  · exact Or.inr ⟨e, hA _ h1, h2⟩
theorem rs_mono1 {tx : Nat → Int32} {sz : Nat} {rd : Int32} : ∀ (k m d : Nat) (c : Cu) (fr : Nat → Int32) (r : Rr), Rs tx sz rd k m d c fr r → Rs tx sz rd (k + 1) m d c fr r := by
  intro k
  induction k with
  | zero => intro m d c fr r h; exact h.elim
  | succ k ih =>
    intro m d c fr r h
    rw [Rs] at h ⊢
    by_cases m0 : m = 0
    · rw [if_pos m0] at h ⊢
      rcases h with h | h | h | ⟨h1, h2, hs⟩ | h
      · exact Or.inl h
      · exact Or.inr (Or.inl h)
      · exact Or.inr (Or.inr (Or.inl h))
      · exact Or.inr (Or.inr (Or.inr (Or.inl ⟨h1, h2, sq_mono (ih _ _ _ _) (fun _ _ z => z) hs⟩)))
      · exact Or.inr (Or.inr (Or.inr (Or.inr h)))
    · rw [if_neg m0] at h ⊢
      by_cases m5 : m = 5
      · rw [if_pos m5] at h ⊢
        rcases h with h | ⟨h1, h2, hs⟩ | ⟨h1, h2, hs⟩ | ⟨h1, h2, hs⟩
        · exact Or.inl h
        · exact Or.inr (Or.inl ⟨h1, h2, sq_mono (ih _ _ _ _) (fun _ _ z => z) hs⟩)
        · exact Or.inr (Or.inr (Or.inl ⟨h1, h2, sq_mono (ih _ _ _ _) (fun _ _ z => z) hs⟩))
        · refine Or.inr (Or.inr (Or.inr ⟨h1, h2, sq_mono (ih _ _ _ _) (fun c1 fr1 z => ?_) hs⟩))
          rcases z with ⟨z1, z2⟩ | z
          · exact Or.inl ⟨z1, sq_mono (ih _ _ _ _) (fun _ _ z => z) z2⟩
          · exact Or.inr z
      · rw [if_neg m5] at h ⊢
        by_cases mc : m = 1 ∨ m = 3 ∨ m = 6 ∨ m = 8
        · rw [if_pos mc] at h ⊢
          exact sq_mono (ih _ _ _ _) (fun c1 fr1 z => ih _ _ _ _ _ z) h
        · rw [if_neg mc] at h ⊢
          by_cases m9 : m ≤ 9
          · rw [if_pos m9] at h ⊢
            rcases h with h | ⟨x, ho, hs⟩
            · exact Or.inl h
            · exact Or.inr ⟨x, ho, sq_mono (ih _ _ _ _) (fun c1 fr1 z => ih _ _ _ _ _ z) hs⟩
          · rw [if_neg m9] at h; exact h.elim
theorem rs_mono {tx : Nat → Int32} {sz : Nat} {rd : Int32} {k k' m d : Nat} {c : Cu} {fr : Nat → Int32} {r : Rr} (hk : k ≤ k') (h : Rs tx sz rd k m d c fr r) : Rs tx sz rd k' m d c fr r := by
  obtain ⟨j, rfl⟩ : ∃ j, k' = k + j := ⟨k' - k, by omega⟩
  clear hk
  induction j with
  | zero => exact h
  | succ j ih => exact rs_mono1 _ _ _ _ _ _ ih
theorem rs_0 {tx : Nat → Int32} {sz : Nat} {rd : Int32} {k d : Nat} {c : Cu} {fr : Nat → Int32} {r : Rr} (h : r_at tx sz rd (Rs tx sz rd k) d c fr r) : Rs tx sz rd (k + 1) 0 d c fr r := by
  rw [Rs]
  show (if (0 : Nat) = 0 then _ else _)
  rw [if_pos rfl]; exact h
theorem rs_5 {tx : Nat → Int32} {sz : Nat} {rd : Int32} {k d : Nat} {c : Cu} {fr : Nat → Int32} {r : Rr} (h : r_un tx sz (Rs tx sz rd k) d c fr r) : Rs tx sz rd (k + 1) 5 d c fr r := by
  rw [Rs]
  show (if (5 : Nat) = 0 then _ else if (5 : Nat) = 5 then _ else _)
  rw [if_neg (by decide), if_pos rfl]; exact h
theorem rs_c {tx : Nat → Int32} {sz : Nat} {rd : Int32} {k m d : Nat} {c : Cu} {fr : Nat → Int32} {r : Rr} (mc : m = 1 ∨ m = 3 ∨ m = 6 ∨ m = 8) (h : sq (Rs tx sz rd k (sb m) d c fr) (fun c1 fr1 => Rs tx sz rd k (m + 1) d c1 fr1 r) r) : Rs tx sz rd (k + 1) m d c fr r := by
  rw [Rs]
  show (if m = 0 then _ else if m = 5 then _ else if m = 1 ∨ m = 3 ∨ m = 6 ∨ m = 8 then _ else _)
  rw [if_neg (by omega), if_neg (by omega), if_pos mc]; exact h
theorem rs_l {tx : Nat → Int32} {sz : Nat} {rd : Int32} {k m d : Nat} {c : Cu} {fr : Nat → Int32} {r : Rr} (m0 : ¬ m = 0) (m5 : ¬ m = 5) (mc : ¬ (m = 1 ∨ m = 3 ∨ m = 6 ∨ m = 8)) (m9 : m ≤ 9) (h : r_lp tx sz (Rs tx sz rd k) m d c fr r) : Rs tx sz rd (k + 1) m d c fr r := by
  rw [Rs]
  show (if m = 0 then _ else if m = 5 then _ else if m = 1 ∨ m = 3 ∨ m = 6 ∨ m = 8 then _ else if m ≤ 9 then _ else _)
  rw [if_neg m0, if_neg m5, if_neg mc, if_pos m9]; exact h
/-- how much is left to read -/
def rem (sz : Nat) (c : Cu) : Nat := if c.2.2.1 = 24 then 0 else sz + 1 - c.1
theorem rem_nx {tx : Nat → Int32} {sz : Nat} {c : Cu} (h : cv sz c) (hk : c.2.2.1 ≠ 24) : rem sz (nx tx sz c) < rem sz c := by
  have g := cv_go (tx := tx) h hk
  have h1 := h.1.2
  unfold rem
  rw [if_neg hk]
  split <;> omega
def rkk (m : Nat) : Nat := if m = 0 then 1 else if m = 1 then 2 else if m = 3 then 3 else if m = 5 then 4 else if m = 6 then 5 else if m = 8 then 6 else 0
def isL (m : Nat) : Bool := decide (m = 2 ∨ m = 4 ∨ m = 7 ∨ m = 9)
theorem rs_tot {tx : Nat → Int32} {sz : Nat} {rd : Int32} : ∀ (M m d : Nat) (c : Cu) (fr : Nat → Int32), 10 * rem sz c + rkk m ≤ M → m ≤ 9 → d ≤ 6 → cv sz c → ∃ k r, Rs tx sz rd k m d c fr r ∧ ∀ c' fr', r = .inl (c', fr') → cv sz c' ∧ rem sz c' ≤ rem sz c ∧ (isL m = false → rem sz c' < rem sz c) := by
  intro M
  induction M using Nat.strongRecOn with
  | _ M ih =>
    intro m d c fr hM hm9 hd hc
    by_cases m0 : m = 0
    · subst m0
      have hr : rkk 0 = 1 := rfl
      by_cases h23 : c.2.2.1 = 23
      · have hne : c.2.2.1 ≠ 24 := by rw [h23]; decide
        refine ⟨1, _, rs_0 (Or.inl ⟨h23, rfl⟩), ?_⟩
        rintro c' fr' ⟨⟩
        have := rem_nx (tx := tx) hc hne
        exact ⟨(cv_go hc hne).1, by omega, fun _ => this⟩
      · by_cases hw : wrd rd c.2.2.1 = -1
        · by_cases h35 : c.2.2.1 = 35
          · have hne : c.2.2.1 ≠ 24 := by rw [h35]; decide
            by_cases hd6 : d = 6
            · refine ⟨1, fl 4 c, rs_0 (Or.inr (Or.inr (Or.inl ⟨h35, hd6, rfl⟩))), ?_⟩
              rintro c' fr' ⟨⟩
            · have h1 := rem_nx (tx := tx) hc hne
              have hr3 : rkk 3 = 3 := rfl
              obtain ⟨k, r1, hk, hp⟩ := ih (10 * rem sz (nx tx sz c) + rkk 3) (by omega) 3 (d + 1) (nx tx sz c) fr (Nat.le_refl _) (by decide) (by omega) (cv_go hc hne).1
              rcases r1 with ⟨c1, fr1⟩ | e
              · obtain ⟨q1, q2, q3⟩ := hp c1 fr1 rfl
                by_cases h36 : c1.2.2.1 = 36
                · have hne1 : c1.2.2.1 ≠ 24 := by rw [h36]; decide
                  refine ⟨k + 1, .inl (nx tx sz c1, fr1), rs_0 (Or.inr (Or.inr (Or.inr (Or.inl ⟨h35, by omega, Or.inl ⟨c1, fr1, hk, Or.inl ⟨h36, rfl⟩⟩⟩)))), ?_⟩
                  rintro c' fr' ⟨⟩
                  have := rem_nx (tx := tx) q1 hne1
                  exact ⟨(cv_go q1 hne1).1, by omega, fun _ => by omega⟩
                · refine ⟨k + 1, fl 2 c1, rs_0 (Or.inr (Or.inr (Or.inr (Or.inl ⟨h35, by omega, Or.inl ⟨c1, fr1, hk, Or.inr ⟨h36, rfl⟩⟩⟩)))), ?_⟩
                  rintro c' fr' ⟨⟩
              · refine ⟨k + 1, .inr e, rs_0 (Or.inr (Or.inr (Or.inr (Or.inl ⟨h35, by omega, Or.inr ⟨e, hk, rfl⟩⟩)))), ?_⟩
                rintro c' fr' ⟨⟩
          · refine ⟨1, fl 2 c, rs_0 (Or.inr (Or.inr (Or.inr (Or.inr ⟨h23, hw, h35, rfl⟩)))), ?_⟩
            rintro c' fr' ⟨⟩
        · have hne := wrd_ne hw
          refine ⟨1, _, rs_0 (Or.inr (Or.inl ⟨h23, hw, rfl⟩)), ?_⟩
          rintro c' fr' ⟨⟩
          have := rem_nx (tx := tx) hc hne
          exact ⟨(cv_go hc hne).1, by omega, fun _ => this⟩
    · by_cases m5 : m = 5
      · subst m5
        have hr : rkk 5 = 4 := rfl
        have hr3 : rkk 3 = 3 := rfl
        have hr8 : rkk 8 = 6 := rfl
        by_cases hk20 : c.2.2.1 = 20 ∨ c.2.2.1 = 37
        · have hne : c.2.2.1 ≠ 24 := by rcases hk20 with z | z <;> (rw [z]; decide)
          have h1 := rem_nx (tx := tx) hc hne
          by_cases hd6 : d = 6
          · refine ⟨1, fl 4 c, rs_5 (Or.inl ⟨hk20, hd6, rfl⟩), ?_⟩
            rintro c' fr' ⟨⟩
          · rcases hk20 with h20 | h37
            · obtain ⟨k, r1, hk, hp⟩ := ih (10 * rem sz (nx tx sz c) + rkk 5) (by omega) 5 (d + 1) (nx tx sz c) fr (Nat.le_refl _) (by decide) (by omega) (cv_go hc hne).1
              rcases r1 with ⟨c1, fr1⟩ | e
              · obtain ⟨q1, q2, q3⟩ := hp c1 fr1 rfl
                refine ⟨k + 1, .inl (c1, em fr1 3006), rs_5 (Or.inr (Or.inl ⟨h20, by omega, Or.inl ⟨c1, fr1, hk, rfl⟩⟩)), ?_⟩
                rintro c' fr' ⟨⟩
                exact ⟨q1, by omega, fun _ => by omega⟩
              · refine ⟨k + 1, .inr e, rs_5 (Or.inr (Or.inl ⟨h20, by omega, Or.inr ⟨e, hk, rfl⟩⟩)), ?_⟩
                rintro c' fr' ⟨⟩
            · obtain ⟨k, r1, hk, hp⟩ := ih (10 * rem sz (nx tx sz c) + rkk 8) (by omega) 8 (d + 1) (nx tx sz c) fr (Nat.le_refl _) (by decide) (by omega) (cv_go hc hne).1
              rcases r1 with ⟨c1, fr1⟩ | e
              · obtain ⟨q1, q2, q3⟩ := hp c1 fr1 rfl
                by_cases h38 : c1.2.2.1 = 38
                · have hne1 : c1.2.2.1 ≠ 24 := by rw [h38]; decide
                  refine ⟨k + 1, .inl (nx tx sz c1, fr1), rs_5 (Or.inr (Or.inr (Or.inl ⟨h37, by omega, Or.inl ⟨c1, fr1, hk, Or.inl ⟨h38, rfl⟩⟩⟩))), ?_⟩
                  rintro c' fr' ⟨⟩
                  have := rem_nx (tx := tx) q1 hne1
                  exact ⟨(cv_go q1 hne1).1, by omega, fun _ => by omega⟩
                · refine ⟨k + 1, fl 2 c1, rs_5 (Or.inr (Or.inr (Or.inl ⟨h37, by omega, Or.inl ⟨c1, fr1, hk, Or.inr ⟨h38, rfl⟩⟩⟩))), ?_⟩
                  rintro c' fr' ⟨⟩
              · refine ⟨k + 1, .inr e, rs_5 (Or.inr (Or.inr (Or.inl ⟨h37, by omega, Or.inr ⟨e, hk, rfl⟩⟩))), ?_⟩
                rintro c' fr' ⟨⟩
        · have n20 : c.2.2.1 ≠ 20 := fun z => hk20 (Or.inl z)
          have n37 : c.2.2.1 ≠ 37 := fun z => hk20 (Or.inr z)
          obtain ⟨k, r1, hk, hp⟩ := ih (10 * rem sz c + rkk 3) (by omega) 3 d c fr (Nat.le_refl _) (by decide) hd hc
          rcases r1 with ⟨c1, fr1⟩ | e
          · obtain ⟨q1, q2, q3⟩ := hp c1 fr1 rfl
            have q3 := q3 rfl
            by_cases hcm : c1.2.2.1 = 39 ∨ c1.2.2.1 = 40 ∨ c1.2.2.1 = 41
            · have hne1 : c1.2.2.1 ≠ 24 := by rcases hcm with z | z | z <;> (rw [z]; decide)
              have h2 := rem_nx (tx := tx) q1 hne1
              obtain ⟨k2, r2, hk2, hp2⟩ := ih (10 * rem sz (nx tx sz c1) + rkk 3) (by omega) 3 d (nx tx sz c1) fr1 (Nat.le_refl _) (by decide) hd (cv_go q1 hne1).1
              have e1 := rs_mono (show k ≤ k + k2 by omega) hk
              have e2 := rs_mono (show k2 ≤ k + k2 by omega) hk2
              rcases r2 with ⟨c2, fr2⟩ | e
              · obtain ⟨p1, p2, p3⟩ := hp2 c2 fr2 rfl
                refine ⟨k + k2 + 1, .inl (c2, em fr2 (cmc c1.2.2.1)), rs_5 (Or.inr (Or.inr (Or.inr ⟨n20, n37, Or.inl ⟨c1, fr1, e1, Or.inl ⟨hcm, Or.inl ⟨c2, fr2, e2, rfl⟩⟩⟩⟩))), ?_⟩
                rintro c' fr' ⟨⟩
                exact ⟨p1, by omega, fun _ => by omega⟩
              · refine ⟨k + k2 + 1, .inr e, rs_5 (Or.inr (Or.inr (Or.inr ⟨n20, n37, Or.inl ⟨c1, fr1, e1, Or.inl ⟨hcm, Or.inr ⟨e, e2, rfl⟩⟩⟩⟩))), ?_⟩
                rintro c' fr' ⟨⟩
            · refine ⟨k + 1, fl 2 c1, rs_5 (Or.inr (Or.inr (Or.inr ⟨n20, n37, Or.inl ⟨c1, fr1, hk, Or.inr ⟨⟨fun z => hcm (Or.inl z), fun z => hcm (Or.inr (Or.inl z)), fun z => hcm (Or.inr (Or.inr z))⟩, rfl⟩⟩⟩))), ?_⟩
              rintro c' fr' ⟨⟩
          · refine ⟨k + 1, .inr e, rs_5 (Or.inr (Or.inr (Or.inr ⟨n20, n37, Or.inr ⟨e, hk, rfl⟩⟩))), ?_⟩
            rintro c' fr' ⟨⟩
      · by_cases mc : m = 1 ∨ m = 3 ∨ m = 6 ∨ m = 8
        · have hlt : rkk (sb m) < rkk m := by rcases mc with z | z | z | z <;> (subst z; decide)
          have hsb : sb m ≤ 9 ∧ isL (sb m) = false ∧ rkk (m + 1) = 0 ∧ m + 1 ≤ 9 := by rcases mc with z | z | z | z <;> (subst z; decide)
          obtain ⟨k, r1, hk, hp⟩ := ih (10 * rem sz c + rkk (sb m)) (by omega) (sb m) d c fr (Nat.le_refl _) hsb.1 hd hc
          rcases r1 with ⟨c1, fr1⟩ | e
          · obtain ⟨q1, q2, q3⟩ := hp c1 fr1 rfl
            have q3 := q3 hsb.2.1
            obtain ⟨k2, r2, hk2, hp2⟩ := ih (10 * rem sz c1 + rkk (m + 1)) (by omega) (m + 1) d c1 fr1 (Nat.le_refl _) hsb.2.2.2 hd q1
            have e1 := rs_mono (show k ≤ k + k2 by omega) hk
            have e2 := rs_mono (show k2 ≤ k + k2 by omega) hk2
            refine ⟨k + k2 + 1, r2, rs_c mc (Or.inl ⟨c1, fr1, e1, e2⟩), ?_⟩
            intro c' fr' he
            obtain ⟨p1, p2, p3⟩ := hp2 c' fr' he
            exact ⟨p1, by omega, fun _ => by omega⟩
          · refine ⟨k + 1, .inr e, rs_c mc (Or.inr ⟨e, hk, rfl⟩), ?_⟩
            rintro c' fr' ⟨⟩
        · have hL : isL m = true := by unfold isL; simp; omega
          have hsb : sb m ≤ 9 ∧ isL (sb m) = false ∧ rkk (sb m) ≤ 6 ∧ rkk m = 0 := by rcases (show m = 2 ∨ m = 4 ∨ m = 7 ∨ m = 9 by omega) with z | z | z | z <;> (subst z; decide)
          cases ho : opc m c.2.2.1 with
          | none =>
            refine ⟨1, .inl (c, fr), rs_l m0 m5 mc hm9 (Or.inl ⟨ho, rfl⟩), ?_⟩
            rintro c' fr' ⟨⟩
            exact ⟨hc, Nat.le_refl _, fun z => by rw [hL] at z; cases z⟩
          | some x =>
            have hne := opc_ne ho
            have h1 := rem_nx (tx := tx) hc hne
            obtain ⟨k, r1, hk, hp⟩ := ih (10 * rem sz (nx tx sz c) + rkk (sb m)) (by omega) (sb m) d (nx tx sz c) fr (Nat.le_refl _) hsb.1 hd (cv_go hc hne).1
            rcases r1 with ⟨c1, fr1⟩ | e
            · obtain ⟨q1, q2, q3⟩ := hp c1 fr1 rfl
              obtain ⟨k2, r2, hk2, hp2⟩ := ih (10 * rem sz c1 + rkk m) (by omega) m d c1 (em fr1 x) (Nat.le_refl _) hm9 hd q1
              have e1 := rs_mono (show k ≤ k + k2 by omega) hk
              have e2 := rs_mono (show k2 ≤ k + k2 by omega) hk2
              refine ⟨k + k2 + 1, r2, rs_l m0 m5 mc hm9 (Or.inr ⟨x, ho, Or.inl ⟨c1, fr1, e1, e2⟩⟩), ?_⟩
              intro c' fr' he
              obtain ⟨p1, p2, p3⟩ := hp2 c' fr' he
              exact ⟨p1, by omega, fun z => by rw [hL] at z; cases z⟩
            · refine ⟨k + 1, .inr e, rs_l m0 m5 mc hm9 (Or.inr ⟨x, ho, Or.inr ⟨e, hk, rfl⟩⟩), ?_⟩
              rintro c' fr' ⟨⟩

/-! the class: its state behind a deed -/
theorem note_hi {all w : Nat → Int32} {D a : Nat} (hD : D ≤ 10) (h : 493 ≤ a) : m_note all w D a = all a := by
  unfold m_note
  split
  · rw [upd_ne (by omega), m_row, if_neg (by omega), upd_ne (by omega), m_shift, if_neg (by omega)]
  · rw [upd_ne (by omega), m_row, if_neg (by omega)]
theorem note_92 {all w : Nat → Int32} {D : Nat} (hD : D ≤ 10) : m_note all w D 92 = nI (min (D + 1) 10) := by
  unfold m_note
  split
  · next h => subst h; rw [upd_eq]; rfl
  · next h => rw [upd_eq, show min (D + 1) 10 = D + 1 by omega]
/-- the latest row is what was kept -/
theorem note_new {all w : Nat → Int32} {D k : Nat} (hD : D ≤ 10) (hk : k < 40) : m_note all w D (93 + 40 * (min (D + 1) 10 - 1) + k) = w k := by
  unfold m_note
  split
  · next h => subst h; rw [show min (10 + 1) 10 - 1 = 9 from rfl, upd_ne (by omega), m_row, if_pos (by omega)]; exact congrArg w (by omega)
  · next h => rw [show min (D + 1) 10 - 1 = D by omega, upd_ne (by omega), m_row, if_pos (by omega)]; exact congrArg w (by omega)
/-- an earlier row is as it was -/
theorem note_old {all w : Nat → Int32} {D i k : Nat} (hD : D ≤ 10) (hk : k < 40) (h0 : 0 < i) (hi : i < min (D + 1) 10) : m_note all w D (93 + 40 * (min (D + 1) 10 - 1 - i) + k) = all (93 + 40 * (D - 1 - (i - 1)) + k) := by
  unfold m_note
  split
  · next h =>
    subst h
    have hi : i < 10 := by omega
    rw [show min (10 + 1) 10 - 1 - i = 9 - i by omega, upd_ne (by omega), m_row, if_neg (by omega), upd_ne (by omega), m_shift, if_pos (by omega)]
    congr 1; omega
  · next h => rw [show min (D + 1) 10 - 1 - i = D - i by omega, upd_ne (by omega), m_row, if_neg (by omega), show D - 1 - (i - 1) = D - i by omega]
theorem brow_in {s1 : Nat → Int32} {k a : Nat} (h : 52 ≤ a ∧ a < 92) : brow s1 k a = s1 (93 + 40 * k + (a - 52)) := by unfold brow m_back; rw [if_pos (by omega)]
theorem brow_out {s1 : Nat → Int32} {k a : Nat} (h : a < 52 ∨ 92 ≤ a) : brow s1 k a = s1 a := by unfold brow m_back; rw [if_neg (by omega)]
theorem brow_cg {s1 s2 : Nat → Int32} {k k' : Nat} (h1 : ∀ i, i < 40 → s2 (93 + 40 * k' + i) = s1 (93 + 40 * k + i)) (h2 : ∀ a, a < 52 ∨ (494 ≤ a ∧ a < 1394) → s2 a = s1 a) : cg4 (brow s1 k) (brow s2 k') := by
  intro a ha
  by_cases h : 52 ≤ a ∧ a < 92
  · rw [brow_in h, brow_in h]; exact h1 _ (by omega)
  · rw [brow_out (by omega), brow_out (by omega)]; exact h2 a (by omega)
section PAST
variable {X : Nat × (Nat → Int32)} {d N K : Nat} {f f' f'' : Nat → e_C} {t t' : Nat → Int32} {s : m_T} {S R P P2 D B B2 j : Nat} {all2 : Nat → Int32}
theorem ring_j {j i : Nat} (hj : j < 11) (hi : i < 10) : (j + 10 - i) % 11 ≠ j := by omega
theorem ring_0 {j : Nat} (hj : j < 11) : ((j + 1) % 11 + 10 - 0) % 11 = j := by omega
theorem ring_s {j i : Nat} (hj : j < 11) (hi : i < 10) (h0 : 0 < i) : ((j + 1) % 11 + 10 - i) % 11 = (j + 10 - (i - 1)) % 11 := by omega
theorem PSt.kept (h : PSt f N s.1 S R D B j) (s1 : SI (23 + 5 * j) (23 + 5 * j + 5) f f') (a : anyS f' (23 + 5 * j)) (hj : j < 11) : PSt f' N s.1 S R D B j := by
  obtain ⟨a1, a2, a3, a4, a5, a6⟩ := h
  refine ⟨by rw [s1 22 (by omega)]; exact a1, fun i hi => ?_, a3, a4, a5, fun i hi => ?_⟩
  · by_cases e : i = j
    · subst e; exact a
    · exact (a2 i hi).fr (fun b h1 h2 => s1 b (by omega))
  · obtain ⟨P', h⟩ := a6 i hi
    have e := ring_j hj (show i < 10 by omega)
    have := Nat.mod_lt (j + 10 - i) (show 11 > 0 by omega)
    exact ⟨P', h.fr (Nat.le_refl _) (Nat.le_refl _) (fun b hb => s1 b (by omega))⟩
theorem ST.kept (Z : ST f N s S R P D B t) (h7 : t 7 = nI j) (hj : j < 11) (s1 : SI (23 + 5 * j) (23 + 5 * j + 5) f f') (a : anyS f' (23 + 5 * j)) : ST f' N s S R P D B t := by
  obtain ⟨a1, a2, a3, ⟨j', b1, b2, b3⟩, a5, a6, a7, a8, a9⟩ := Z
  have e : j' = j := by
    have h5 := b3.2.2.2.2.1
    rw [b1] at h7
    have := congrArg Int32.toInt h7
    rw [nI_toInt (by omega), nI_toInt (by omega)] at this
    omega
  subst e
  refine ⟨a1.fr (s1 0 (by omega)), a2.fr (Nat.le_refl _) (Nat.le_refl _) (fun b hb => s1 b (by omega)), a3.fr (fun b h1 h2 => s1 b (by omega)), ⟨j', b1, b2, b3.kept s1 a hj⟩, ?_, a6.fr (fun b h1 h2 => s1 b (by omega)), ?_, a8, ?_⟩
  · obtain ⟨c1, c2, c3, c4⟩ := a5
    refine ⟨by rw [s1 78 (by omega)]; exact c1, by rw [s1 89 (by omega)]; exact c2, fun i hi => (c3 i hi).fr (fun b h1 h2 => s1 b (by omega)), fun i hi hz => ?_⟩
    obtain ⟨S', R', P', h⟩ := c4 i hi hz
    exact ⟨S', R', P', h.fr (Nat.le_refl _) (Nat.le_refl _) (fun b hb => s1 b (by omega))⟩
  · unfold TP; rw [s1 1 (by omega)]; exact a7
  · unfold RDV; rw [s1 99 (by omega), s1 100 (by omega), s1 101 (by omega)]; exact a9
/-- the scene alone is another one -/
theorem ST.now (Z : ST f N s S R P D B t) (hf : ∀ b, b < 112 ∨ (189 ≤ b ∧ b < N) → ¬ (12 ≤ b ∧ b < 17) → f' b = f b) (h12 : SR f' N 12 s.1 S R P B) : ST f' N s S R P D B t := by
  obtain ⟨a1, a2, a3, ⟨j', b1, b2, b3⟩, a5, a6, a7, a8, a9⟩ := Z
  refine ⟨a1.fr (hf 0 (by omega) (by omega)), h12, a3.fr (fun b h1 h2 => hf b (by omega) (by omega)), ⟨j', b1, b2, ?_⟩, ?_, a6.fr (fun b h1 h2 => hf b (by omega) (by omega)), ?_, a8, ?_⟩
  · obtain ⟨c1, c2, c3, c4, c5, c6⟩ := b3
    refine ⟨by rw [hf 22 (by omega) (by omega)]; exact c1, fun i hi => (c2 i hi).fr (fun b h1 h2 => hf b (by omega) (by omega)), c3, c4, c5, fun i hi => ?_⟩
    obtain ⟨P', h⟩ := c6 i hi
    have := Nat.mod_lt (j' + 10 - i) (show 11 > 0 by omega)
    exact ⟨P', h.fr (Nat.le_refl _) (Nat.le_refl _) (fun b hb => hf b (by omega) (by omega))⟩
  · obtain ⟨c1, c2, c3, c4⟩ := a5
    refine ⟨by rw [hf 78 (by omega) (by omega)]; exact c1, by rw [hf 89 (by omega) (by omega)]; exact c2, fun i hi => (c3 i hi).fr (fun b h1 h2 => hf b (by omega) (by omega)), fun i hi hz => ?_⟩
    obtain ⟨S', R', P', h⟩ := c4 i hi hz
    exact ⟨S', R', P', h.fr (Nat.le_refl _) (Nat.le_refl _) (fun b hb => hf b (by omega) (by omega))⟩
  · unfold TP; rw [hf 1 (by omega) (by omega)]; exact a7
  · unfold RDV; rw [hf 99 (by omega) (by omega), hf 100 (by omega) (by omega), hf 101 (by omega) (by omega)]; exact a9
/-- a deed was done: what was kept can be brought back -/
theorem ST.done (Z : ST f N s S R P D B t) (hf : ∀ b, b < 112 ∨ (189 ≤ b ∧ b < N) → ¬ (12 ≤ b ∧ b < 17) → b ≠ 0 → f' b = f b) (h7 : t 7 = nI j) (hj : j < 11) (hk : SR f N (23 + 5 * j) s.1 S R P B) (h12 : SR f' N 12 all2 S R P2 B2) (hB : B ≤ B2) (he : ∀ a, a < 52 ∨ 92 ≤ a → all2 a = s.1 a) (H' : HV f' (upd (upd t 7 (nI ((j + 1) % 11))) 8 (nI (min (D + 1) 10)))) : ST f' N (m_note all2 (m_kept s.1) D, s.2) S R P2 (min (D + 1) 10) B2 (upd (upd t 7 (nI ((j + 1) % 11))) 8 (nI (min (D + 1) 10))) := by
  obtain ⟨a1, a2, a3, ⟨j', b1, b2, b3⟩, a5, a6, a7, a8, a9⟩ := Z
  have e : j' = j := by
    have h5 := b3.2.2.2.2.1
    rw [b1] at h7
    have := congrArg Int32.toInt h7
    rw [nI_toInt (by omega), nI_toInt (by omega)] at this
    omega
  subst e
  have hD := b3.2.2.2.1
  have n4 : cg4 all2 (m_note all2 (m_kept s.1) D) := by
    intro i hi
    rcases hi with h | h
    · exact note_lo h
    · exact note_hi hD (by omega)
  refine ⟨H', h12.cb n4, a3.fr (fun b h1 h2 => hf b (by omega) (by omega) (by omega)), ⟨(j' + 1) % 11, by rw [upd_ne (by decide), upd_eq], upd_eq, ?_⟩, ?_, a6.fr (fun b h1 h2 => hf b (by omega) (by omega) (by omega)), ?_, ?_, ?_⟩
  · obtain ⟨c1, c2, c3, c4, c5, c6⟩ := b3
    refine ⟨by rw [hf 22 (by omega) (by omega) (by omega)]; exact c1, fun i hi => (c2 i hi).fr (fun b h1 h2 => hf b (by omega) (by omega) (by omega)), note_92 hD, by omega, by omega, fun i hi => ?_⟩
    by_cases h0 : i = 0
    · subst h0
      rw [ring_0 hj]
      refine ⟨P, (hk.fr (Nat.le_refl _) hB (fun b hb => hf b (by omega) (by omega) (by omega))).cb ?_⟩
      intro a ha
      by_cases h : 52 ≤ a ∧ a < 92
      · rw [brow_in h, Nat.sub_zero]
        show m_note all2 (m_kept s.1) D _ = _
        rw [note_new hD (by omega)]
        unfold m_kept
        exact congrArg s.1 (by omega)
      · rw [brow_out (by omega)]
        show m_note all2 (m_kept s.1) D a = _
        rw [n4 a ha]; exact he a (by omega)
    · have hi' : i < 10 := by omega
      rw [ring_s hj hi' (by omega)]
      obtain ⟨P', h⟩ := c6 (i - 1) (by omega)
      have := Nat.mod_lt (j' + 10 - (i - 1)) (show 11 > 0 by omega)
      refine ⟨P', (h.fr (Nat.le_refl _) hB (fun b hb => hf b (by omega) (by omega) (by omega))).cb (brow_cg (fun k hk => ?_) (fun a ha => ?_))⟩
      · show m_note all2 (m_kept s.1) D _ = _
        rw [note_old hD hk (by omega) hi]
        exact he _ (by omega)
      · show m_note all2 (m_kept s.1) D a = _
        rw [n4 a (by omega)]; exact he a (by omega)
  · obtain ⟨c1, c2, c3, c4⟩ := a5
    refine ⟨by rw [hf 78 (by omega) (by omega) (by omega)]; exact c1, by rw [hf 89 (by omega) (by omega) (by omega)]; exact c2, fun i hi => (c3 i hi).fr (fun b h1 h2 => hf b (by omega) (by omega) (by omega)), fun i hi hz => ?_⟩
    obtain ⟨S', R', P', h⟩ := c4 i hi hz
    refine ⟨S', R', P', (h.fr (Nat.le_refl _) hB (fun b hb => hf b (by omega) (by omega) (by omega))).cb (fun a ha => ?_)⟩
    show m_note all2 (m_kept s.1) D _ = _
    rw [note_hi hD (by omega)]; exact he _ (by omega)
  · obtain ⟨tb, F, h1, h2, h3, h4⟩ := a7
    exact ⟨tb, F, by rw [hf 1 (by omega) (by omega) (by omega)]; exact h1, by rw [upd_ne (by decide), upd_ne (by decide)]; exact h2, h3, h4⟩
  · rw [upd_ne (by decide), upd_ne (by decide), upd_ne (by decide), upd_ne (by decide)]; exact a8
  · unfold RDV; rw [hf 99 (by omega) (by omega) (by omega), hf 100 (by omega) (by omega) (by omega), hf 101 (by omega) (by omega) (by omega)]; exact a9
theorem ST.jx (Z : ST f N s S R P D B t) : ∃ j, j < 11 ∧ t 7 = nI j ∧ t 8 = nI D ∧ D ≤ 10 ∧ s.1 92 = nI D := by
  obtain ⟨a1, a2, a3, ⟨j', b1, b2, b3⟩, a5⟩ := Z
  exact ⟨j', b3.2.2.2.2.1, b1, b2, b3.2.2.2.1, b3.2.2.1⟩
theorem okp.ad {a pl q : Nat} (h : okp N pl) (h1 : 12 ≤ a ∧ a + 4 < 112) (h2 : 112 ≤ q ∧ q + 6 < 171) : AD a pl q := by
  refine ⟨h1, ?_, h2.1, h2.2⟩
  rcases h with rfl | h <;> omega
theorem SR.dw (h : SR f N 12 all2 S R P B) (y : sc2 f) : ∃ pl sd wy, okp N pl ∧ DW f 12 pl all2 S R P sd wy := by
  obtain ⟨pl, w, x, v, r, C, V, W, G, I, m, hp, hb⟩ := h
  obtain ⟨sd, wy, y, D, L⟩ := y
  exact ⟨pl, sd, wy, hp, w, x, v, r, C, y, L, D, V, W, G, I, hp.ad (by omega) (by omega)⟩
theorem DW.sr {a pl : Nat} {sd wy : Int32} (h : DW f a pl all2 S R P sd wy) (hp : okp N pl) (m : mfl all2 S P) (hb : (all2 56).toInt ≤ B) : SR f N a all2 S R P B := by
  obtain ⟨w, x, v, r, C, y, L, D, V, W, G, I, hd⟩ := h
  exact ⟨pl, w, x, v, r, C, V, W, G, I, m, hp, hb⟩
theorem DW.sc {a pl : Nat} {sd wy : Int32} (h : DW f a pl all2 S R P sd wy) : sc2 f := by
  obtain ⟨w, x, v, r, C, y, L, D, V, W, G, I, hd⟩ := h
  exact ⟨sd, wy, y, D, L⟩
/-- the scene is set aside -/
theorem sp_keepZ (Z : ST f N s S R P D B t) (Y : sc2 f) : TT X (d + 1) 124 0 [.ref 0] [] f N K (fun f' n' k' z => n' = N ∧ k' = K ∧ z = none ∧ (∀ b, ¬ (23 ≤ b ∧ b < 78) → f' b = f b) ∧ ST f' N s S R P D B t ∧ ∃ j, j < 11 ∧ t 7 = nI j ∧ SR f' N (23 + 5 * j) s.1 S R P B ∧ ∃ pl sd wy, okp N pl ∧ DW f' 12 pl s.1 S R P sd wy) := by
  obtain ⟨j, hj, h7, h8, hD, h92⟩ := Z.jx
  have Z0 := Z
  obtain ⟨a1, a2, a3, ⟨j', b1, b2, b3⟩, a5⟩ := Z
  obtain ⟨pl, w, x, v, r, C, V, W, G, I, m, hp, hb⟩ := a2
  have h9 : w 9 = 0 ∨ w 9 = 1 := by rw [G.w9]; exact I.fl
  refine TT.mono (sp_keepPast a1 h7 hj V h9 b3.1 (b3.2.1 j hj)) ?_
  rintro f1 n1 k1 v1 ⟨rfl, rfl, rfl, s1, w2, x2, V2, h5⟩
  have hf : ∀ b, ¬ (23 ≤ b ∧ b < 78) → f1 b = f b := fun b hb => s1 b (by omega)
  have Z1 := Z0.kept h7 hj s1 ⟨pl, w2, x2, V2⟩
  refine ⟨rfl, rfl, rfl, hf, Z1, j, hj, h7, ?_, Z1.2.1.dw (Y.fr (fun b h1 h2 => hf b (by omega)))⟩
  exact ⟨pl, w2, x2, v, r, C, V2, W.fr (fun b h1 h2 => s1 b (by rcases hp with rfl | hp <;> omega)), G.same h5 I.p9, I, m, hp, hb⟩
/-- a deed that couldn't be -/
theorem ST.no {pl : Nat} {sd wy : Int32} (Z : ST f N s S R P D B t) (h : SD 12 f f') (hp : okp N pl) (W : DW f' 12 pl s.1 S R P sd wy) : ST f' N s S R P D B t := by
  have m := Z.2.1
  obtain ⟨pl', w, x, v, r, C, -, -, -, -, m, -, hb⟩ := m
  exact Z.now (fun b h1 h2 => h b h2 (by omega)) (W.sr hp m hb)
/-- a deed that was done is noted -/
theorem sp_didZ {pl : Nat} {sd wy z : Int32} (Z : ST f N s S R P D B t) (h7 : t 7 = nI j) (hj : j < 11) (hk : SR f N (23 + 5 * j) s.1 S R P B) (h : SD 12 f f') (hp : okp N pl) (W : DW f' 12 pl all2 S R P2 sd wy) (m : mfl all2 S P2) (hb : (all2 56).toInt ≤ B2) (hB : B ≤ B2) (he : ∀ a, a < 52 ∨ 92 ≤ a → all2 a = s.1 a) : TT X (d + 1) 125 0 [.ref 0, .int z] [] f' N K (fun f'' n' k' v => n' = N ∧ k' = K ∧ SI 0 1 f' f'' ∧ v = some (.int z) ∧ ∃ t', ST f'' N (m_note all2 (m_kept s.1) D, s.2) S R P2 (min (D + 1) 10) B2 t') := by
  obtain ⟨j', hj', h7', h8, hD, h92⟩ := Z.jx
  refine TT.mono (sp_did (Z.1.fr (h 0 (by omega) (by omega))) h7 hj h8 hD) ?_
  rintro f1 n1 k1 v1 ⟨rfl, rfl, s1, H1, rfl⟩
  refine ⟨rfl, rfl, s1, rfl, _, Z.done (fun b h1 h2 h3 => by rw [s1 b (by omega)]; exact h b h2 (by omega)) h7 hj hk ((W.sr hp m hb).fr (Nat.le_refl _) (Nat.le_refl _) (fun b hb => s1 b (by omega))) hB he H1⟩
end PAST

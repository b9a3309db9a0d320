/-! deeds keep what holds -/
def hl_i (i : Nat) : Prop := i = 3 ∨ i = 5 ∨ i = 7 ∨ (9 ≤ i ∧ i < 25) ∨ (34 ≤ i ∧ i < 52) ∨ (56 ≤ i ∧ i < 92) ∨ 494 ≤ i
theorem words_cg {all all' : Nat → Int32} {p : Nat} {wd : Int32} (hp : p < 9) (h : ∀ i, hl_i i → all' i = all i) : m_words all' p wd = m_words all p wd := by
  unfold hl_i at h
  funext i
  unfold m_words m_wait
  rw [h (66 + p) (by omega), h 56 (by omega), h (75 + p) (by omega), h (57 + p) (by omega), h (34 + p) (by omega)]
theorem bears_cg {all all' : Nat → Int32} {p T : Nat} (hp : p < 9) (h : ∀ i, hl_i i → all' i = all i) : m_bears all' p T = m_bears all p T := by
  have h' := h
  unfold hl_i at h
  unfold m_bears l_law
  rw [h 3 (by omega), h (66 + p) (by omega), h 5 (by omega), h 7 (by omega), wed_cg (h (43 + p) (by omega)), words_cg hp h']
  have : (fun i => all' (494 + (all 5).toNatClampNeg + i)) = fun i => all (494 + (all 5).toNatClampNeg + i) := by
    funext i; exact h _ (by omega)
  rw [this]
theorem bo_cg {all all' : Nat → Int32} {T : Nat} (h : ∀ i, hl_i i → all' i = all i) : ∀ p k, p ≤ 9 → k < 8 → m_bo all' T p k = m_bo all T p k := by
  have h' := h
  unfold hl_i at h
  intro p
  induction p with
  | zero => intro k _ hk; show 10 * all' (84 + k) = 10 * all (84 + k); rw [h _ (by omega)]
  | succ p ih =>
    intro k hp hk
    rw [m_bo, m_bo, h (57 + p) (by omega), bears_cg (by omega) h']
    split
    · by_cases hh : k = (all (57 + p)).toNatClampNeg
      · subst hh; rw [upd_eq, upd_eq, ih _ (by omega) hk]
      · rw [upd_ne hh, upd_ne hh]; exact ih k (by omega) hk
    · exact ih k (by omega) hk
theorem ov_ca {all all' b : Nat → Int32} (h : ∀ k, k < 8 → all' (9 + k) = all (9 + k)) : ∀ (m k : Nat) (s : Int32), k + m ≤ 8 → m_ov all' b m k s = m_ov all b m k s := by
  intro m
  induction m with
  | zero => intro k s _; rfl
  | succ m ih => intro k s hk; rw [m_ov, m_ov, h k (by omega)]; exact ih _ _ (by omega)
theorem over_ca {all all' b : Nat → Int32} {S i j : Nat} (h : ∀ k, 9 ≤ k ∧ k < 25 → all' k = all k) (hS : S ≤ 8) (hij : i ≤ j) (hj : j < S) : m_over all' b S i j = m_over all b S i j := by
  unfold m_over
  rw [ov_ca (fun k hk => h _ (by omega)) _ _ _ (by omega)]
  congr 1
  congr 1
  · by_cases h0 : i = 0
    · rw [if_pos h0, if_pos h0]
    · rw [if_neg h0, if_neg h0, h _ (by omega)]
  · by_cases h0 : j + 1 < S
    · rw [if_pos h0, if_pos h0, h _ (by omega)]
    · rw [if_neg h0, if_neg h0]
theorem sl_ca {all all' b : Nat → Int32} {S i : Nat} (h : ∀ k, 9 ≤ k ∧ k < 25 → all' k = all k) (hS : S ≤ 8) : ∀ (m j : Nat) (s : Int32), i ≤ j → j + m ≤ S → m_sl all' b S i m j s = m_sl all b S i m j s := by
  intro m
  induction m with
  | zero => intro j s _ _; rfl
  | succ m ih => intro j s hi hj; rw [m_sl, m_sl, over_ca h hS hi (by omega)]; exact ih _ _ (by omega) (by omega)
theorem so_ca {all all' b : Nat → Int32} {S : Nat} (h : ∀ k, 9 ≤ k ∧ k < 25 → all' k = all k) (hS : S ≤ 8) : ∀ (m i : Nat) (s : Int32), i + m ≤ S → m_so all' b S m i s = m_so all b S m i s := by
  intro m
  induction m with
  | zero => intro i s _; rfl
  | succ m ih => intro i s hi; rw [m_so, m_so, sl_ca h hS _ _ _ (Nat.le_refl _) (by omega)]; exact ih _ _ (by omega)
theorem sp_cg {all all' : Nat → Int32} {S P T : Nat} (h : ∀ i, hl_i i → all' i = all i) (hS : S ≤ 8) (hP : P ≤ 9) : m_sp all' S P T = m_sp all S P T := by
  unfold m_sp m_spare
  rw [so_ca (all := all) (fun k hk => h k (by unfold hl_i; omega)) hS S 0 _ (by omega)]
  exact m_so_cong hS (fun k hk => bo_cg h P k hP hk) S 0 _ (by omega)
theorem hold_cg {all all' : Nat → Int32} {S P T : Nat} (h : ∀ i, hl_i i → all' i = all i) (hS : S ≤ 8) (hP : P ≤ 9) : m_hold all' S P T = m_hold all S P T := by
  unfold m_hold; rw [sp_cg h hS hP]
theorem fall_cg {all : Nat → Int32} {S P T S' P' : Nat} : ∀ i, hl_i i → m_fall all S' P' T i = all i := fun i hi => fall_ne (by rintro rfl; unfold hl_i at hi; omega)
theorem fall_nT {all : Nat → Int32} {S P T : Nat} : nT (m_fall all S P T) = nT all := by unfold nT; rw [fall_ne (by decide)]
theorem fall_54 {all : Nat → Int32} {S P T : Nat} (h : all 54 = 0) : m_fall all S P T 54 = if m_hold all S P T = true then 0 else 1 := by
  unfold m_fall
  split
  · exact h
  · exact upd_eq
theorem mfl_fall {all : Nat → Int32} {S P : Nat} (hS : S ≤ 8) (hP : P ≤ 9) (h : all 54 = 0) : mfl (m_fall all S P (nT all)) S P := by
  unfold mfl
  rw [fall_nT, hold_cg (all := all) (fun i hi => fall_ne (by rintro rfl; unfold hl_i at hi; omega)) hS hP, fall_54 h]
  by_cases hh : m_hold all S P (nT all) = true
  · rw [if_pos hh]; exact Or.inl ⟨rfl, hh⟩
  · rw [if_neg hh]; exact Or.inr ⟨rfl, by simpa using hh⟩
theorem IT.cg {all all' : Nat → Int32} {S R : Nat} (h : IT all S R) (he : ∀ i, (1 ≤ i ∧ i < 52) ∨ (494 ≤ i ∧ i < 1394) → all' i = all i) : IT all' S R := by
  obtain ⟨a1, a2, a3, a4, a5, a6, a7, a8⟩ := h
  refine ⟨a1, by rw [he 1 (by omega)]; exact a2, bnd_cg a3 (fun i hi => he i (by omega)), by rw [he 2 (by omega)]; exact a4, fun p hp => by rw [he _ (by omega)]; exact a5 p hp, fun p hp => by rw [he _ (by omega)]; exact a6 p hp, fun p hp => ?_, lw2_cg a8 (fun i hi => he i (by omega))⟩
  rw [he _ (by omega)]
  rcases a7 p hp with z | ⟨j, b1, b2, b3, b4, b5⟩
  · exact Or.inl z
  · exact Or.inr ⟨j, b1, b2, b3, b4, by rw [he _ (by omega)]; exact b5⟩
theorem sum_cg {all all' : Nat → Int32} {a : Nat} : ∀ (m k : Nat) (s : Int32), (∀ i, k ≤ i → i < k + m → all' (a + i) = all (a + i)) → m_sum all' a m k s = m_sum all a m k s := by
  intro m
  induction m with
  | zero => intro k s _; rfl
  | succ m ih => intro k s h; rw [m_sum, m_sum, h k (by omega) (by omega)]; exact ih _ _ (fun i h1 h2 => h i (by omega) (by omega))
theorem IV.fall {all : Nat → Int32} {S R P T S' P' : Nat} (h : IV all S R P) (hS : S ≤ 8) : IV (m_fall all S' P' T) S R P := by
  obtain ⟨a1, a2, a3, a4, a5, a6, a7, a8, a9, a10, a11⟩ := h
  refine ⟨a1, by rw [fall_ne (by decide)]; exact a2, by rw [fall_nT, fall_ne (by decide)]; exact a3, by rw [fall_nT]; exact a4, fun p hp => by rw [fall_ne (by omega)]; exact a5 p hp, fun p hp => by rw [fall_ne (by omega)]; exact a6 p hp, by rw [fall_ne (by decide), fall_ne (by decide)]; exact a7, by rw [fall_ne (by decide)]; exact a8, fun k hk => by rw [fall_ne (by omega)]; exact a9 k hk, ?_, ?_⟩
  · rw [sum_cg (all := all) S 0 0 (fun i _ hi => fall_ne (by omega))]; exact a10
  · unfold m_fall
    split
    · exact a11
    · exact Or.inr upd_eq
theorem IS.fall {all : Nat → Int32} {S R P T S' P' : Nat} (h : IS all S R P) : IS (m_fall all S' P' T) S R P := ⟨h.1.cg (fun i hi => fall_ne (by omega)), h.2.fall h.s8⟩
theorem w_see_f {all : Nat → Int32} {P T : Nat} {v : Int} (h : w_see all P T v = 0) : ¬ all 54 = 1 ∧ T.testBit v.toNat = true ∧ ¬ all 2 ≤ all 55 := by
  unfold w_see at h
  split at h
  · split at h
    · exact absurd h (by decide)
    · next h1 =>
      split at h
      · exact absurd h (by decide)
      · next h2 => exact ⟨fun z => h1 (Or.inl z), Classical.byContradiction fun z => h1 (Or.inr z), h2⟩
  · exact absurd h (by decide)
theorem IS.z54 {all : Nat → Int32} {S R P : Nat} (I : IS all S R P) (h : ¬ all 54 = 1) : all 54 = 0 := I.fl.resolve_right h
/-- one seen, ahead of the fall -/
def p_see (all : Nat → Int32) (p : Nat) : Nat → Int32 := upd (upd all 53 (nI (clr (nT all) p))) 55 (all 55 + 1)
theorem see_nT {all : Nat → Int32} {p : Nat} (h : nT all < 512) : nT (p_see all p) = clr (nT all) p := by
  refine nT_of ?_ (by have := clr_le (nT all) p; omega)
  unfold p_see; rw [upd_ne (by decide), upd_eq]
theorem see_eq {all : Nat → Int32} {S P p : Nat} (h : nT all < 512) : m_see all S P (nT all) p = m_fall (p_see all p) S P (nT (p_see all p)) := by
  rw [see_nT h]; rfl
theorem IS.psee {all : Nat → Int32} {S R P p : Nat} (I : IS all S R P) (h : ¬ all 2 ≤ all 55) : IS (p_see all p) S R P := by
  have t5 := I.t5
  have hn : ∀ i, i ≠ 53 → i ≠ 55 → p_see all p i = all i := fun i h1 h2 => by unfold p_see; rw [upd_ne h2, upd_ne h1]
  have eT : p_see all p 53 = nI (clr (nT all) p) := by unfold p_see; rw [upd_ne (by decide), upd_eq]
  refine ⟨I.1.cg (fun i hi => hn i (by omega) (by omega)), I.2.1, by rw [hn 52 (by decide) (by decide)]; exact I.eP, by rw [see_nT t5]; exact eT, ?_, fun p hp => by rw [hn _ (by omega) (by omega)]; exact I.st hp, fun p hp => by rw [hn _ (by omega) (by omega)]; exact I.bd hp, ?_, by rw [hn _ (by decide) (by decide)]; exact I.dy, fun k hk => by rw [hn _ (by omega) (by omega)]; exact I.pr hk, ?_, by rw [hn _ (by decide) (by decide)]; exact I.fl⟩
  · rw [see_nT t5]; exact Nat.lt_of_le_of_lt (clr_le _ _) I.tP
  · obtain ⟨e, Q, h1, h2, h3, h4⟩ := I.sn
    refine ⟨e + 1, Q, ?_, h2, ?_, by rw [hn 2 (by decide) (by decide)]; exact h4⟩
    · rw [h3, h4, ix_le (by omega) (by omega)] at h; omega
    · unfold p_see; rw [upd_eq, h3]; exact nI_1 e
  · have h8 := I.s8
    rw [sum_cg (all := all) S 0 0 (fun i _ hi => hn _ (by omega) (by omega))]; exact I.ps
theorem IS.see {all : Nat → Int32} {S R P : Nat} {v : Int} (I : IS all S R P) (h : w_see all P (nT all) v = 0) : IS (m_see all S P (nT all) v.toNat) S R P ∧ mfl (m_see all S P (nT all) v.toNat) S P := by
  obtain ⟨h1, h2, h3⟩ := w_see_f h
  have I1 := I.psee (p := v.toNat) h3
  rw [see_eq I.t5]
  exact ⟨I1.fall, mfl_fall I.s8 I.p9 (by unfold p_see; rw [upd_ne (by decide), upd_ne (by decide)]; exact I.z54 h1)⟩
theorem w_move_f {all : Nat → Int32} {S P T : Nat} {v w : Int} (h : w_move all S P T v w = 0) : (0 ≤ v ∧ v < P) ∧ (0 ≤ w ∧ w < S) ∧ ¬ all 54 = 1 ∧ T.testBit v.toNat = true := by
  unfold w_move at h
  split at h
  · next hc =>
    split at h
    · exact absurd h (by decide)
    · next h1 => exact ⟨hc.1, hc.2, fun z => h1 (Or.inl z), Classical.byContradiction fun z => h1 (Or.inr (Or.inl z))⟩
  · exact absurd h (by decide)
theorem IS.pmove {all : Nat → Int32} {S R P p k : Nat} (I : IS all S R P) (hp : p < P) (hk : k < S) : IS (upd all (57 + p) (nI k)) S R P ∧ nT (upd all (57 + p) (nI k)) = nT all := by
  have h9 := I.p9
  have h8 := I.s8
  have hn : ∀ i, i ≠ 57 + p → upd all (57 + p) (nI k) i = all i := fun i h1 => upd_ne h1
  have hT : nT (upd all (57 + p) (nI k)) = nT all := nT_up (by omega)
  refine ⟨⟨I.1.cg (fun i hi => hn i (by omega)), I.2.1, by rw [hn 52 (by omega)]; exact I.eP, by rw [hT, hn 53 (by omega)]; exact I.eT, by rw [hT]; exact I.tP, fun j hj => ?_, fun p hp => by rw [hn _ (by omega)]; exact I.bd hp, by rw [hn 55 (by omega), hn 2 (by omega)]; exact I.sn, by rw [hn _ (by omega)]; exact I.dy, fun k hk => by rw [hn _ (by omega)]; exact I.pr hk, ?_, by rw [hn _ (by omega)]; exact I.fl⟩, hT⟩
  · by_cases h : j = p
    · subst h; rw [upd_eq]; exact ⟨k, hk, rfl⟩
    · rw [hn _ (by omega)]; exact I.st hj
  · rw [sum_cg (all := all) S 0 0 (fun i _ hi => hn _ (by omega))]; exact I.ps
theorem IS.move {all : Nat → Int32} {S R P : Nat} {v w : Int} (I : IS all S R P) (h : w_move all S P (nT all) v w = 0) : IS (m_move all S P (nT all) v.toNat w.toNat) S R P ∧ mfl (m_move all S P (nT all) v.toNat w.toNat) S P := by
  obtain ⟨h1, h2, h3, h4⟩ := w_move_f h
  have h9 := I.p9
  obtain ⟨I1, hT⟩ := I.pmove (p := v.toNat) (k := w.toNat) (by omega) (by omega)
  have e : m_move all S P (nT all) v.toNat w.toNat = m_fall (upd all (57 + v.toNat) (nI w.toNat)) S P (nT (upd all (57 + v.toNat) (nI w.toNat))) := by rw [hT]; rfl
  rw [e]
  exact ⟨I1.fall, mfl_fall I.s8 I.p9 (by rw [upd_ne (by omega)]; exact I.z54 h3)⟩
theorem sum_int {all : Nat → Int32} {a : Nat} (hb : ∀ k, k < 8 → 0 ≤ (all (a + k)).toInt ∧ (all (a + k)).toInt ≤ 99) : ∀ (m : Nat), m ≤ 8 → (m_sum all a m 0 0).toInt = psum (fun k => (all (a + k)).toInt) m ∧ 0 ≤ psum (fun k => (all (a + k)).toInt) m ∧ psum (fun k => (all (a + k)).toInt) m ≤ 99 * (m : Int) := by
  intro m
  induction m with
  | zero => intro _; exact ⟨by show (0 : Int32).toInt = 0; decide, by simp [psum], by simp [psum]⟩
  | succ m ih =>
    intro hm
    obtain ⟨h1, h2, h3⟩ := ih (by omega)
    have hbm := hb m (by omega)
    rw [sum_r, Nat.zero_add, t_add (by omega) (by omega), h1, ps_s]
    refine ⟨rfl, by omega, by push_cast; omega⟩
theorem ps_ge {g : Nat → Int} {S : Nat} (h : ∀ k, k < S → 0 ≤ g k) : ∀ m, m ≤ S → 0 ≤ psum g m ∧ ∀ k, k < m → g k ≤ psum g m := by
  intro m
  induction m with
  | zero => intro _; exact ⟨Int.le_refl _, fun k hk => by omega⟩
  | succ m ih =>
    intro hm
    obtain ⟨h1, h2⟩ := ih (by omega)
    have h3 := h m (by omega)
    rw [ps_s]
    refine ⟨by omega, fun k hk => ?_⟩
    by_cases hh : k = m
    · subst hh; omega
    · have := h2 k (by omega); omega
theorem ps_up {g g' : Nat → Int} {k : Nat} (h1 : g' k = g k + 1) (h2 : ∀ j, j ≠ k → g' j = g j) : ∀ m, psum g' m = psum g m + (if k < m then 1 else 0) := by
  intro m
  induction m with
  | zero => rw [if_neg (by omega)]; rfl
  | succ m ih =>
    rw [ps_s, ps_s, ih]
    by_cases hh : m = k
    · subst hh
      have q1 : ¬ m < m := by omega
      have q2 : m < m + 1 := by omega
      rw [h1, if_neg q1, if_pos q2]; omega
    · rw [h2 m hh]
      by_cases q : k < m
      · have q2 : k < m + 1 := by omega
        rw [if_pos q, if_pos q2]; omega
      · have q2 : ¬ k < m + 1 := by omega
        rw [if_neg q, if_neg q2]; omega
theorem vb_t {x : Int32} {m : Nat} (h : vb x m) (hm : m ≤ 2000000000) : 0 ≤ x.toInt ∧ x.toInt < m := by
  obtain ⟨v, h1, h2⟩ := h
  rw [h2, nI_toInt (by omega)]
  omega
theorem w_prop_f {all : Nat → Int32} {S : Nat} {w : Int} (h : w_prop all S w = 0) : (0 ≤ w ∧ w < S) ∧ ¬ all 54 = 1 ∧ ¬ m_sum all 84 S 0 0 = 99 := by
  unfold w_prop at h
  split at h
  · next hc =>
    split at h
    · exact absurd h (by decide)
    · next h1 => exact ⟨hc, fun z => h1 (Or.inl z), fun z => h1 (Or.inr z)⟩
  · exact absurd h (by decide)
theorem IS.pprop {all : Nat → Int32} {S R P k : Nat} (I : IS all S R P) (hk : k < S) (hs : ¬ m_sum all 84 S 0 0 = 99) : IS (upd all (84 + k) (all (84 + k) + 1)) S R P ∧ nT (upd all (84 + k) (all (84 + k) + 1)) = nT all := by
  have h9 := I.p9
  have h8 := I.s8
  have hn : ∀ i, i ≠ 84 + k → upd all (84 + k) (all (84 + k) + 1) i = all i := fun i h1 => upd_ne h1
  have hT : nT (upd all (84 + k) (all (84 + k) + 1)) = nT all := nT_up (by omega)
  have hb : ∀ j, j < 8 → 0 ≤ (all (84 + j)).toInt ∧ (all (84 + j)).toInt ≤ 99 := fun j hj => by
    have := vb_t (I.pr hj).1 (by omega); omega
  obtain ⟨s1, s2, s3⟩ := sum_int (a := 84) hb S h8
  have hle : psum (fun k => (all (84 + k)).toInt) S ≤ 98 := by
    have h99 := I.ps
    have : ¬ psum (fun k => (all (84 + k)).toInt) S = 99 := by
      intro z
      apply hs
      apply Int32.toInt_inj.mp
      rw [s1, z]; decide
    omega
  have hgk := (ps_ge (g := fun k => (all (84 + k)).toInt) (S := S) (fun j hj => (hb j (by omega)).1) S (Nat.le_refl _)).2 k hk
  have hb0 := hb k (by omega)
  have e1 : (all (84 + k) + 1).toInt = (all (84 + k)).toInt + 1 := by
    have : (1 : Int32).toInt = 1 := by decide
    rw [t_add (by rw [this]; omega) (by rw [this]; omega), this]
  refine ⟨⟨I.1.cg (fun i hi => hn i (by omega)), I.2.1, by rw [hn 52 (by omega)]; exact I.eP, by rw [hT, hn 53 (by omega)]; exact I.eT, by rw [hT]; exact I.tP, fun j hj => by rw [hn _ (by omega)]; exact I.st hj, fun p hp => by rw [hn _ (by omega)]; exact I.bd hp, by rw [hn 55 (by omega), hn 2 (by omega)]; exact I.sn, by rw [hn _ (by omega)]; exact I.dy, fun j hj => ?_, ?_, by rw [hn _ (by omega)]; exact I.fl⟩, hT⟩
  · by_cases h : j = k
    · subst h
      rw [upd_eq]
      refine ⟨⟨(all (84 + j) + 1).toInt.toNat, by omega, ?_⟩, fun z => by omega⟩
      apply Int32.toInt_inj.mp
      rw [nI_toInt (by omega)]; omega
    · rw [hn _ (by omega)]; exact I.pr hj
  · have hb' : ∀ j, j < 8 → 0 ≤ (upd all (84 + k) (all (84 + k) + 1) (84 + j)).toInt ∧ (upd all (84 + k) (all (84 + k) + 1) (84 + j)).toInt ≤ 99 := by
      intro j hj
      by_cases h : j = k
      · subst h; rw [upd_eq, e1]; omega
      · rw [hn _ (by omega)]; exact hb j hj
    rw [(sum_int (a := 84) hb' S h8).1, ps_up (g := fun k => (all (84 + k)).toInt) (k := k) (by show (upd all (84 + k) (all (84 + k) + 1) (84 + k)).toInt = _; rw [upd_eq, e1]) (fun j hj => by show (upd all (84 + k) (all (84 + k) + 1) (84 + j)).toInt = _; rw [hn _ (by omega)]) S, if_pos hk]
    omega
theorem IS.prop {all : Nat → Int32} {S R P : Nat} {w : Int} (I : IS all S R P) (h : w_prop all S w = 0) : IS (m_prop all S P (nT all) w.toNat) S R P ∧ mfl (m_prop all S P (nT all) w.toNat) S P := by
  obtain ⟨h1, h2, h3⟩ := w_prop_f h
  have h8 := I.s8
  obtain ⟨I1, hT⟩ := I.pprop (k := w.toNat) (by omega) h3
  have e : m_prop all S P (nT all) w.toNat = m_fall (upd all (84 + w.toNat) (all (84 + w.toNat) + 1)) S P (nT (upd all (84 + w.toNat) (all (84 + w.toNat) + 1))) := by rw [hT]; rfl
  rw [e]
  exact ⟨I1.fall, mfl_fall I.s8 I.p9 (by rw [upd_ne (by omega)]; exact I.z54 h2)⟩
def p_day (all : Nat → Int32) : Nat → Int32 := upd (upd all 56 (all 56 + 1)) 55 0
theorem IS.pday {all : Nat → Int32} {S R P : Nat} (I : IS all S R P) (hd : (all 56).toInt + 1 < 100000) : IS (p_day all) S R P ∧ nT (p_day all) = nT all := by
  have h9 := I.p9
  have h8 := I.s8
  have hn : ∀ i, i ≠ 56 → i ≠ 55 → p_day all i = all i := fun i h1 h2 => by unfold p_day; rw [upd_ne h2, upd_ne h1]
  have hT : nT (p_day all) = nT all := by unfold nT; rw [hn 53 (by decide) (by decide)]
  refine ⟨⟨I.1.cg (fun i hi => hn i (by omega) (by omega)), I.2.1, by rw [hn 52 (by omega) (by omega)]; exact I.eP, by rw [hT, hn 53 (by omega) (by omega)]; exact I.eT, by rw [hT]; exact I.tP, fun j hj => by rw [hn _ (by omega) (by omega)]; exact I.st hj, fun p hp => by rw [hn _ (by omega) (by omega)]; exact I.bd hp, ?_, ?_, fun j hj => by rw [hn _ (by omega) (by omega)]; exact I.pr hj, ?_, by rw [hn _ (by omega) (by omega)]; exact I.fl⟩, hT⟩
  · obtain ⟨e, Q, h1, h2, h3, h4⟩ := I.sn
    exact ⟨0, Q, by omega, h2, by unfold p_day; rw [upd_eq]; rfl, by rw [hn 2 (by decide) (by decide)]; exact h4⟩
  · obtain ⟨v, hv, he⟩ := I.dy
    rw [he, nI_toInt (by omega)] at hd
    exact ⟨v + 1, by omega, by unfold p_day; rw [upd_ne (by decide), upd_eq, he]; exact nI_1 v⟩
  · rw [sum_cg (all := all) S 0 0 (fun i _ hi => hn _ (by omega) (by omega))]; exact I.ps
theorem IS.day {all : Nat → Int32} {S R P : Nat} (I : IS all S R P) (h : ¬ all 54 = 1) (hd : (all 56).toInt + 1 < 100000) : IS (m_day all S P (nT all)) S R P ∧ mfl (m_day all S P (nT all)) S P := by
  obtain ⟨I1, hT⟩ := I.pday hd
  have e : m_day all S P (nT all) = m_fall (p_day all) S P (nT (p_day all)) := by rw [hT]; rfl
  rw [e]
  exact ⟨I1.fall, mfl_fall I.s8 I.p9 (by unfold p_day; rw [upd_ne (by decide), upd_ne (by decide)]; exact I.z54 h)⟩
theorem come_nT {all : Nat → Int32} {P : Nat} {k b : Int32} (h : nT all < 2 ^ P) (hP : P < 9) : nT (m_come all P (nT all) k b) = nT all ||| 2 ^ P ∧ nT all ||| 2 ^ P < 2 ^ (P + 1) := by
  have h2 : 2 ^ P < 2 ^ (P + 1) := Nat.pow_lt_pow_right (by omega) (by omega)
  have h3 : nT all ||| 2 ^ P < 2 ^ (P + 1) := Nat.or_lt_two_pow (Nat.lt_trans h h2) h2
  refine ⟨nT_of come_53 ?_, h3⟩
  have := pw9 (show P + 1 ≤ 9 by omega)
  omega
theorem come_ne {all : Nat → Int32} {P T i : Nat} {k b : Int32} (h1 : i ≠ 52) (h2 : i ≠ 53) (h3 : i ≠ 57 + P) (h4 : i ≠ 66 + P) (h5 : i ≠ 75 + P) : m_come all P T k b i = all i := by
  unfold m_come
  rw [upd_ne h5, upd_ne h4, upd_ne h3, upd_ne h2, upd_ne h1]
theorem IS.pcome {all : Nat → Int32} {S R P k b : Nat} (I : IS all S R P) (hP : P < 9) (hk : k < S) (hb : b < 100) : IS (m_come all P (nT all) (nI k) (nI b)) S R (P + 1) := by
  have h8 := I.s8
  have hr := I.rp
  obtain ⟨eT, hT⟩ := come_nT (k := nI k) (b := nI b) I.tP hP
  have hn : ∀ i, i ≠ 52 → i ≠ 53 → i ≠ 57 + P → i ≠ 66 + P → i ≠ 75 + P → m_come all P (nT all) (nI k) (nI b) i = all i := fun i h1 h2 h3 h4 h5 => come_ne h1 h2 h3 h4 h5
  refine ⟨I.1.cg (fun i hi => hn i (by omega) (by omega) (by omega) (by omega) (by omega)), ⟨by omega, by omega⟩, ?_, by rw [eT]; exact come_53, by rw [eT]; exact hT, fun p hp => ?_, fun p hp => ?_, by rw [hn 55 (by omega) (by omega) (by omega) (by omega) (by omega), hn 2 (by omega) (by omega) (by omega) (by omega) (by omega)]; exact I.sn, by rw [hn 56 (by omega) (by omega) (by omega) (by omega) (by omega)]; exact I.dy, fun j hj => by rw [hn _ (by omega) (by omega) (by omega) (by omega) (by omega)]; exact I.pr hj, ?_, by rw [hn _ (by omega) (by omega) (by omega) (by omega) (by omega)]; exact I.fl⟩
  · unfold m_come
    rw [upd_ne (by omega), upd_ne (by omega), upd_ne (by omega), upd_ne (by omega), upd_eq]
  · by_cases h : p = P
    · subst h
      unfold m_come
      rw [upd_ne (by omega), upd_ne (by omega), upd_eq]
      exact ⟨k, hk, rfl⟩
    · rw [hn _ (by omega) (by omega) (by omega) (by omega) (by omega)]; exact I.st (by omega)
  · by_cases h : p = P
    · subst h
      unfold m_come
      rw [upd_ne (by omega), upd_eq]
      exact ⟨b, hb, rfl⟩
    · rw [hn _ (by omega) (by omega) (by omega) (by omega) (by omega)]; exact I.bd (by omega)
  · rw [sum_cg (all := all) S 0 0 (fun i _ hi => hn _ (by omega) (by omega) (by omega) (by omega) (by omega))]; exact I.ps

/-! the text cut into tokens: the class's and the reference's are the same -/
def wht (c : Int32) : Prop := c = 10 ∨ c = 32
theorem sk_sp {tx : Nat → Int32} {sz : Nat} : ∀ (m p : Nat), p + m = sz → (∀ j, p ≤ j → j < sk tx sz m p → wht (tx j)) ∧ (sk tx sz m p < sz → ¬ wht (tx (sk tx sz m p))) := by
  intro m
  induction m with
  | zero => intro p h; exact ⟨fun j h1 h2 => absurd h2 (by show ¬ j < p; omega), fun h2 => absurd h2 (by show ¬ p < sz; omega)⟩
  | succ m ih =>
    intro p h
    rw [sk_s m]
    by_cases hc : p < sz ∧ (tx p = 10 ∨ tx p = 32)
    · rw [if_pos hc]
      obtain ⟨a, b⟩ := ih (p + 1) (by omega)
      refine ⟨fun j h1 h2 => ?_, b⟩
      by_cases e : j = p
      · subst e; exact hc.2
      · exact a j (by omega) h2
    · rw [if_neg hc]
      exact ⟨fun j h1 h2 => absurd h2 (by omega), fun h2 z => hc ⟨h2, z⟩⟩
theorem we_sp {tx : Nat → Int32} {sz : Nat} : ∀ (m p : Nat), p + m = sz → (∀ j, p ≤ j → j < we tx sz m p → isS (tx j) = true) ∧ (we tx sz m p < sz → ¬ isS (tx (we tx sz m p)) = true) := by
  intro m
  induction m with
  | zero => intro p h; exact ⟨fun j h1 h2 => absurd h2 (by show ¬ j < p; omega), fun h2 => absurd h2 (by show ¬ p < sz; omega)⟩
  | succ m ih =>
    intro p h
    rw [we_s m]
    by_cases hc : p < sz ∧ isS (tx p) = true
    · rw [if_pos hc]
      obtain ⟨a, b⟩ := ih (p + 1) (by omega)
      refine ⟨fun j h1 h2 => ?_, b⟩
      by_cases e : j = p
      · subst e; exact hc.2
      · exact a j (by omega) h2
    · rw [if_neg hc]
      exact ⟨fun j h1 h2 => absurd h2 (by omega), fun h2 z => hc ⟨h2, z⟩⟩
theorem dg_sp {tx : Nat → Int32} {sz a : Nat} : ∀ (m p : Nat) (n : Int32), p + m = sz → (∀ j, p ≤ j → j < (dg tx sz a m p n).1 → isD (tx j) = true) ∧ ((dg tx sz a m p n).1 < sz → ¬ isD (tx (dg tx sz a m p n).1) = true) := by
  intro m
  induction m with
  | zero => intro p n h; exact ⟨fun j h1 h2 => absurd h2 (by show ¬ j < p; omega), fun h2 => absurd h2 (by show ¬ p < sz; omega)⟩
  | succ m ih =>
    intro p n h
    rw [dg_s m]
    by_cases hc : p < sz ∧ isD (tx p) = true
    · rw [if_pos hc]
      obtain ⟨a, b⟩ := ih (p + 1) _ (by omega)
      refine ⟨fun j h1 h2 => ?_, b⟩
      by_cases e : j = p
      · subst e; exact hc.2
      · exact a j (by omega) h2
    · rw [if_neg hc]
      exact ⟨fun j h1 h2 => absurd h2 (by show ¬ j < p; omega), fun h2 z => hc ⟨h2, z⟩⟩
/-- what a token is -/
theorem lx_cs {tx : Nat → Int32} {sz b : Nat} {nm : Int32} {c : Cu} (hb : b ≤ sz) (hc : c = lx tx sz b nm) : (b ≤ c.1 ∧ c.1 ≤ sz ∧ c.1 ≤ c.2.1 ∧ c.2.1 ≤ sz) ∧ (∀ j, b ≤ j → j < c.1 → wht (tx j)) ∧ ((c.1 = sz ∧ c.2.1 = sz ∧ c.2.2.1 = 24) ∨ (c.1 < sz ∧ ¬ wht (tx c.1) ∧ c.1 < c.2.1 ∧ ((isS (tx c.1) = true ∧ c.2.1 = we tx sz (sz - c.1) c.1 ∧ c.2.2.1 = nI (m_key tx c.1 c.2.1)) ∨ (¬ isS (tx c.1) = true ∧ isD (tx c.1) = true ∧ c.2.1 = (dg tx sz c.1 (sz - c.1) c.1 0).1 ∧ c.2.2.1 = (if c.2.1 - c.1 ≤ 3 then 23 else 25) ∧ c.2.2.2 = (dg tx sz c.1 (sz - c.1) c.1 0).2) ∨ (¬ isS (tx c.1) = true ∧ ¬ isD (tx c.1) = true ∧ c.2.1 = c.1 + 1 ∧ c.2.2.1 = si (tx c.1) 12)))) := by
  have hl := lx_le (tx := tx) (nm := nm) hb
  have h1 := sk_le (tx := tx) (sz - b) b hb
  have h2 := sk_sp (tx := tx) (sz := sz) (sz - b) b (by omega)
  have e : c.1 = sk tx sz (sz - b) b := by
    rw [hc]; unfold lx
    split
    · rfl
    · split
      · rfl
      · split <;> rfl
  rw [← hc] at hl
  rw [← e] at h1 h2
  refine ⟨⟨h1.1, h1.2, ?_, hl.2.1⟩, h2.1, ?_⟩
  · rcases hl.2.2 with z | z <;> omega
  by_cases he : sz ≤ c.1
  · refine Or.inl ⟨by omega, ?_, ?_⟩
    · rcases hl.2.2 with z | z <;> omega
    · rw [hc]; unfold lx; rw [← e, if_pos he]
  · have hlt : c.1 < c.2.1 := by rcases hl.2.2 with z | z <;> omega
    refine Or.inr ⟨by omega, h2.2 (by omega), hlt, ?_⟩
    by_cases hS : isS (tx c.1) = true
    · refine Or.inl ⟨hS, ?_, ?_⟩
      · rw [hc]; unfold lx; rw [← e, if_neg he, if_pos hS]
      · have e2 : c.2.1 = we tx sz (sz - c.1) c.1 := by
          rw [hc]; unfold lx; rw [← e, if_neg he, if_pos hS]
        rw [e2]
        have e3 : c.2.2.1 = (lx tx sz b nm).2.2.1 := by rw [← hc]
        rw [e3]; unfold lx; rw [← e, if_neg he, if_pos hS]
    · by_cases hD : isD (tx c.1) = true
      · have e2 : c.2.1 = (dg tx sz c.1 (sz - c.1) c.1 0).1 := by
          have e3 : c.2.1 = (lx tx sz b nm).2.1 := by rw [← hc]
          rw [e3]; unfold lx; rw [← e, if_neg he, if_neg hS, if_pos hD]
        refine Or.inr (Or.inl ⟨hS, hD, e2, ?_, ?_⟩)
        · rw [e2]
          have e3 : c.2.2.1 = (lx tx sz b nm).2.2.1 := by rw [← hc]
          rw [e3]; unfold lx; rw [← e, if_neg he, if_neg hS, if_pos hD]
        · have e3 : c.2.2.2 = (lx tx sz b nm).2.2.2 := by rw [← hc]
          rw [e3]; unfold lx; rw [← e, if_neg he, if_neg hS, if_pos hD]
      · refine Or.inr (Or.inr ⟨hS, hD, ?_, ?_⟩)
        · have e3 : c.2.1 = (lx tx sz b nm).2.1 := by rw [← hc]
          rw [e3]; unfold lx; rw [← e, if_neg he, if_neg hS, if_neg hD]
        · have e3 : c.2.2.1 = (lx tx sz b nm).2.2.1 := by rw [← hc]
          rw [e3]; unfold lx; rw [← e, if_neg he, if_neg hS, if_neg hD]
/-- words: the class's order -/
def pj (j : Nat) : Nat := [0, 1, 2, 3, 4, 5, 6, 7, 8, 9, 10, 11, 12, 13, 19, 18, 20, 14, 15, 16, 17].getD j 0
def wp (i : Nat) : Nat × Nat := [(0, 0), (0, 1), (0, 2), (0, 3), (0, 4), (0, 5), (1, 0), (1, 1), (1, 2), (1, 3), (1, 4), (1, 5), (2, 0), (2, 1), (2, 2), (2, 3), (2, 4), (2, 5), (3, 0), (3, 1), (3, 2), (3, 3), (3, 4), (3, 5), (3, 6), (4, 0), (4, 1), (4, 2), (5, 0), (5, 1), (5, 2), (5, 3), (5, 4), (5, 5), (6, 0), (6, 1), (6, 2), (6, 3), (7, 0), (7, 1), (7, 2), (7, 3), (7, 4), (7, 5), (8, 0), (8, 1), (8, 2), (9, 0), (9, 1), (9, 2), (9, 3), (9, 4), (9, 5), (9, 6), (10, 0), (10, 1), (10, 2), (10, 3), (10, 4), (10, 5), (11, 0), (11, 1), (11, 2), (11, 3), (11, 4), (11, 5), (12, 0), (12, 1), (12, 2), (12, 3), (13, 0), (13, 1), (13, 2), (13, 3), (14, 0), (14, 1), (14, 2), (15, 0), (15, 1), (15, 2), (15, 3), (16, 0), (16, 1), (16, 2), (16, 3), (17, 0), (17, 1), (17, 2), (17, 3), (18, 0), (18, 1), (18, 2), (18, 3), (18, 4), (19, 0), (19, 1), (19, 2), (19, 3), (20, 0), (20, 1), (20, 2), (20, 3), (20, 4), (21, 0)].getD i (21, 0)
def wl (j : Nat) : Nat := ke (pj j) - ks (pj j)
theorem wp_ok : ∀ i, i < 103 → (wp i).1 < 21 ∧ (wp i).2 ≤ wl (wp i).1 ∧ (s_at 0 i ≠ 32 → (wp i).2 < wl (wp i).1 ∧ wp (i + 1) = ((wp i).1, (wp i).2 + 1) ∧ s_at 0 i = s_at 2 (ks (pj (wp i).1) + (wp i).2)) ∧ (s_at 0 i = 32 → (wp i).2 = wl (wp i).1 ∧ wp (i + 1) = ((wp i).1 + 1, 0)) := by decide +kernel
theorem wp_0 : wp 0 = (0, 0) ∧ wp 103 = (21, 0) := by decide +kernel
theorem pj_ok : ∀ k, k < 21 → ∃ j, j < 21 ∧ pj j = k := by decide +kernel
theorem pj_ck : ∀ j, j < 21 → pj j < 21 ∧ pj j ∈ kvl ∧ ckt (nI (pj j)) = nI (100 + j) := by decide +kernel
theorem kw_ne : ∀ i, i < 21 → ∀ k, k < 21 → i ≠ k → ke i - ks i = ke k - ks k → ∃ j, j < ke i - ks i ∧ s_at 2 (ks i + j) ≠ s_at 2 (ks k + j) := by decide +kernel
theorem kq_iff {tx : Nat → Int32} {a b i : Nat} : kq tx a b i = true ↔ (b - a = ke i - ks i ∧ ∀ j, j < ke i - ks i → tx (a + j) = s_at 2 (ks i + j)) := by
  unfold kq
  rw [Bool.and_eq_true, decide_eq_true_eq, allB_iff]
  exact ⟨fun h => ⟨h.1, fun j hj => of_decide_eq_true (h.2 j hj)⟩, fun h => ⟨h.1, fun j hj => decide_eq_true (h.2 j hj)⟩⟩
theorem kq_uq {tx : Nat → Int32} {a b i k : Nat} (hi : i < 21) (hk : k < 21) (h1 : kq tx a b i = true) (h2 : kq tx a b k = true) : i = k := by
  by_cases e : i = k
  · exact e
  · obtain ⟨p1, p2⟩ := kq_iff.mp h1
    obtain ⟨q1, q2⟩ := kq_iff.mp h2
    obtain ⟨j, hj, hn⟩ := kw_ne i hi k hk e (by omega)
    exact absurd ((p2 j hj).symm.trans (q2 j (by omega))) hn
theorem mfi_uq {c : Nat → Bool} {k : Nat} (hk : c k = true) (hu : ∀ i, c i = true → i < 21 → i = k) : ∀ m j, j ≤ k → k < j + m → j + m = 21 → m_fi c m j = some k := by
  intro m
  induction m with
  | zero => intro j h1 h2; omega
  | succ m ih =>
    intro j h1 h2 h3
    rw [m_fi_s m]
    by_cases e : c j = true
    · rw [if_pos e, hu j e (by omega)]
    · rw [if_neg e]
      have : j ≠ k := fun z => e (by rw [z]; exact hk)
      exact ih (j + 1) (by omega) (by omega) (by omega)
theorem mfi_no {c : Nat → Bool} : ∀ m j, (∀ i, j ≤ i → i < j + m → c i = false) → m_fi c m j = none := by
  intro m
  induction m with
  | zero => intro j h; rfl
  | succ m ih =>
    intro j h
    rw [m_fi_s m, h j (by omega) (by omega)]
    exact ih (j + 1) (fun i h1 h2 => h i (by omega) (by omega))
theorem key_yes {tx : Nat → Int32} {a b k : Nat} (hk : k < 21) (h : kq tx a b k = true) : m_key tx a b = k := by
  unfold m_key
  rw [mfi_uq h (fun i h1 h2 => kq_uq h2 hk h1 h) 21 0 (by omega) (by omega) rfl]
  rfl
theorem key_no {tx : Nat → Int32} {a b : Nat} (h : ∀ j, j < 21 → kq tx a b (pj j) = false) : m_key tx a b = 22 := by
  unfold m_key
  rw [mfi_no 21 0 (fun i _ h2 => ?_)]
  · rfl
  · obtain ⟨j, h3, h4⟩ := pj_ok i (by omega)
    rw [← h4]; exact h j h3
/-- bytes -/
def ixo (q : Nat) (c : Int32) : Int32 := ((m_fi (fun k => decide (s_at q k = c)) (s_len q) 0).map nI).getD (-1)
def bck (x : Int32) : Bool := decide (isS (x &&& 255) = isS x) && decide (isD (x &&& 255) = isD x) && decide ((x &&& 255 = 10) ↔ (x = 10)) && decide ((x &&& 255 = 32) ↔ (x = 32)) && (!(isS x || isD x) || decide (x &&& 255 = x)) && (isS x || isD x || decide (x = 10) || decide (x = 32) || (kvl.any (fun k => decide (k ≠ 24) && decide (si (x &&& 255) 12 = nI k)) && decide (ckt (si (x &&& 255) 12) = if 0 < x ∧ 0 ≤ ixo 1 x then x else 2)))
theorem bck_ok : ∀ n, n < 256 → bck (nI n - 128) = true := by decide +kernel
theorem byt {x : Int32} (h : -128 ≤ x.toInt ∧ x.toInt ≤ 127) : bck x = true := by
  have e : x = nI (x.toInt + 128).toNat - 128 := by
    apply Int32.toInt_inj.mp
    rw [Int32.toInt_sub, nI_toInt (by omega), show (128 : Int32).toInt = 128 by decide, Int.bmod_eq_of_le (by omega) (by omega)]
    omega
  rw [e]
  exact bck_ok _ (by omega)
theorem byt_f {x : Int32} (h : bck x = true) : isS (x &&& 255) = isS x ∧ isD (x &&& 255) = isD x ∧ ((x &&& 255 = 10) ↔ (x = 10)) ∧ ((x &&& 255 = 32) ↔ (x = 32)) ∧ ((isS x = true ∨ isD x = true) → x &&& 255 = x) ∧ (¬ isS x = true → ¬ isD x = true → ¬ wht x → (∃ k, k ∈ kvl ∧ k ≠ 24 ∧ si (x &&& 255) 12 = nI k) ∧ ckt (si (x &&& 255) 12) = if 0 < x ∧ 0 ≤ ixo 1 x then x else 2) := by
  unfold bck at h
  simp only [Bool.and_eq_true, decide_eq_true_eq, Bool.or_eq_true, Bool.not_eq_true', Bool.or_eq_false_iff, List.any_eq_true] at h
  obtain ⟨⟨⟨⟨⟨h1, h2⟩, h3⟩, h4⟩, h5⟩, h6⟩ := h
  refine ⟨h1, h2, h3, h4, fun z => ?_, fun z1 z2 z3 => ?_⟩
  · rcases h5 with ⟨a, b⟩ | h5
    · rcases z with z | z
      · rw [a] at z; cases z
      · rw [b] at z; cases z
    · exact h5
  · rcases h6 with h6 | ⟨⟨k, k1, k2, k3⟩, h7⟩
    · rcases h6 with ((h6 | h6) | h6) | h6
      · exact absurd h6 z1
      · exact absurd h6 z2
      · exact absurd (Or.inl h6) z3
      · exact absurd (Or.inr h6) z3
    · exact ⟨⟨k, k1, k2, k3⟩, h7⟩
def TB (f : Nat → e_C) (tb tx : Nat → Int32) (L : Nat) : Prop := arB (f 1) = some (900, tb) ∧ L ≤ 900 ∧ ∀ i, i < L → (-128 ≤ (tb i).toInt ∧ (tb i).toInt ≤ 127) ∧ tx i = tb i &&& 255
theorem TB.fr {f f' : Nat → e_C} {tb tx : Nat → Int32} {L : Nat} (h : TB f tb tx L) (e : f' 1 = f 1) : TB f' tb tx L := by unfold TB; rw [e]; exact h
theorem TB.at {f : Nat → e_C} {tb tx : Nat → Int32} {L i : Nat} (h : TB f tb tx L) (hi : i < L) : isS (tx i) = isS (tb i) ∧ isD (tx i) = isD (tb i) ∧ ((tx i = 10) ↔ (tb i = 10)) ∧ ((tx i = 32) ↔ (tb i = 32)) ∧ ((isS (tb i) = true ∨ isD (tb i) = true) → tx i = tb i) ∧ (¬ isS (tb i) = true → ¬ isD (tb i) = true → ¬ wht (tb i) → (∃ k, k ∈ kvl ∧ k ≠ 24 ∧ si (tx i) 12 = nI k) ∧ ckt (si (tx i) 12) = if 0 < tb i ∧ 0 ≤ ixo 1 (tb i) then tb i else 2) := by
  obtain ⟨h1, h2⟩ := h.2.2 i hi
  rw [h2]; exact byt_f (byt h1)
def pre (tb : Nat → Int32) (i : Nat) : Int32 := if i = 0 then 32 else tb (i - 1)
def bgn (tb : Nat → Int32) (i : Nat) : Bool := if isS (tb i) = true then !isS (pre tb i) else if isD (tb i) = true then !isD (pre tb i) else !decide (tb i = 10) && !decide (tb i = 32)
section TXT
variable {X : Nat × (Nat → Int32)} {d N K : Nat} {f : Nat → e_C} {tb tx : Nat → Int32} {L i a : Nat}
theorem sp_isLetter {c : Int32} : PU X d 21 [.int c] f N K (some (.int (if isS c then 1 else 0))) := by
  unfold PU isS
  by_cases h1 : 97 ≤ c
  · by_cases h2 : c ≤ 122
    · simp (disch := first | omega | decide | assumption | exact Nat.le_of_ble_eq_true rfl) only [s21_0, s21_1, s21_3, s21_6, s21_7, s21_9, s21_12, s21_13, s21_16, s21_17, ow_some, true_and, and_true, and_self, if_true, if_false, not_true, not_false_eq_true, Bool.false_eq_true, eq_self, Option.toList, List.cons_append, List.nil_append, ix_in, ix_cl, lt_in, lt_cl, lt_add, ix_one, vu_eq, vu_ne, arI_mk, arL_mk, arY_mZ, arY_mB, alen_mI, fld_sfl_ne, fld_sfl_same, Option.isSome_some, pok_i, b1z, b01, z10, b1o, Int32.zero_add, vu_vu, upd_eq, upd_ne, true_or, or_true, i_nlt, h1, h2, decide_true, Bool.and_true]
    · simp (disch := first | omega | decide | assumption | exact Nat.le_of_ble_eq_true rfl) only [s21_0, s21_1, s21_3, s21_6, s21_7, s21_9, s21_12, s21_13, s21_16, s21_17, ow_some, true_and, and_true, and_self, if_true, if_false, not_true, not_false_eq_true, Bool.false_eq_true, eq_self, Option.toList, List.cons_append, List.nil_append, ix_in, ix_cl, lt_in, lt_cl, lt_add, ix_one, vu_eq, vu_ne, arI_mk, arL_mk, arY_mZ, arY_mB, alen_mI, fld_sfl_ne, fld_sfl_same, Option.isSome_some, pok_i, b1z, b01, z10, b1o, Int32.zero_add, vu_vu, upd_eq, upd_ne, true_or, or_true, i_nlt, h1, h2, decide_false, Bool.and_false]
  · simp (disch := first | omega | decide | assumption | exact Nat.le_of_ble_eq_true rfl) only [s21_0, s21_1, s21_3, s21_6, s21_7, s21_9, s21_12, s21_13, s21_16, s21_17, ow_some, true_and, and_true, and_self, if_true, if_false, not_true, not_false_eq_true, Bool.false_eq_true, eq_self, Option.toList, List.cons_append, List.nil_append, ix_in, ix_cl, lt_in, lt_cl, lt_add, ix_one, vu_eq, vu_ne, arI_mk, arL_mk, arY_mZ, arY_mB, alen_mI, fld_sfl_ne, fld_sfl_same, Option.isSome_some, pok_i, b1z, b01, z10, b1o, Int32.zero_add, vu_vu, upd_eq, upd_ne, true_or, or_true, i_nlt, h1, decide_false, Bool.false_and]
theorem sp_isDigitC {c : Int32} : PU X d 22 [.int c] f N K (some (.int (if isD c then 1 else 0))) := by
  unfold PU isD
  by_cases h1 : 48 ≤ c
  · by_cases h2 : c ≤ 57
    · simp (disch := first | omega | decide | assumption | exact Nat.le_of_ble_eq_true rfl) only [s22_0, s22_1, s22_3, s22_6, s22_7, s22_9, s22_12, s22_13, s22_16, s22_17, ow_some, true_and, and_true, and_self, if_true, if_false, not_true, not_false_eq_true, Bool.false_eq_true, eq_self, Option.toList, List.cons_append, List.nil_append, ix_in, ix_cl, lt_in, lt_cl, lt_add, ix_one, vu_eq, vu_ne, arI_mk, arL_mk, arY_mZ, arY_mB, alen_mI, fld_sfl_ne, fld_sfl_same, Option.isSome_some, pok_i, b1z, b01, z10, b1o, Int32.zero_add, vu_vu, upd_eq, upd_ne, true_or, or_true, i_nlt, h1, h2, decide_true, Bool.and_true]
    · simp (disch := first | omega | decide | assumption | exact Nat.le_of_ble_eq_true rfl) only [s22_0, s22_1, s22_3, s22_6, s22_7, s22_9, s22_12, s22_13, s22_16, s22_17, ow_some, true_and, and_true, and_self, if_true, if_false, not_true, not_false_eq_true, Bool.false_eq_true, eq_self, Option.toList, List.cons_append, List.nil_append, ix_in, ix_cl, lt_in, lt_cl, lt_add, ix_one, vu_eq, vu_ne, arI_mk, arL_mk, arY_mZ, arY_mB, alen_mI, fld_sfl_ne, fld_sfl_same, Option.isSome_some, pok_i, b1z, b01, z10, b1o, Int32.zero_add, vu_vu, upd_eq, upd_ne, true_or, or_true, i_nlt, h1, h2, decide_false, Bool.and_false]
  · simp (disch := first | omega | decide | assumption | exact Nat.le_of_ble_eq_true rfl) only [s22_0, s22_1, s22_3, s22_6, s22_7, s22_9, s22_12, s22_13, s22_16, s22_17, ow_some, true_and, and_true, and_self, if_true, if_false, not_true, not_false_eq_true, Bool.false_eq_true, eq_self, Option.toList, List.cons_append, List.nil_append, ix_in, ix_cl, lt_in, lt_cl, lt_add, ix_one, vu_eq, vu_ne, arI_mk, arL_mk, arY_mZ, arY_mB, alen_mI, fld_sfl_ne, fld_sfl_same, Option.isSome_some, pok_i, b1z, b01, z10, b1o, Int32.zero_add, vu_vu, upd_eq, upd_ne, true_or, or_true, i_nlt, h1, decide_false, Bool.false_and]
theorem sp_begins (B : TB f tb tx L) (hi : i < L) {u2 : Value} : PU X (d + 1) 20 [.ref 1, .int (nI i), u2] f N K (some (.int (if bgn tb i = true then 1 else 0))) := by
  unfold PU
  have hL := B.2.1
  have hy := arY_B B.1
  have main : ∀ u : Int32, u = pre tb i → TT X (d + 1) 20 15 [.ref 1, .int (nI i), .int u] [] f N K (fun f' n' k' v => f' = f ∧ n' = N ∧ k' = K ∧ v = some (.int (if bgn tb i = true then 1 else 0))) := by
    rintro u rfl
    unfold bgn
    simp (disch := first | omega | decide | assumption | exact Nat.le_of_ble_eq_true rfl) only [s20_15, s20_16, y20_17, ow_some, true_and, and_true, and_self, if_true, if_false, not_true, not_false_eq_true, Bool.false_eq_true, eq_self, Option.toList, List.cons_append, List.nil_append, ix_in, ix_cl, lt_in, lt_cl, lt_add, ix_one, vu_eq, vu_ne, arI_mk, arL_mk, arY_mZ, arY_mB, alen_mI, fld_sfl_ne, fld_sfl_same, Option.isSome_some, pok_i, b1z, b01, z10, b1o, Int32.zero_add, vu_vu, upd_eq, upd_ne, true_or, or_true, hy]
    rw [p20_18 (Nat.le_of_ble_eq_true rfl) sp_isLetter]
    by_cases hS : isS (tb i) = true
    · rw [hS, if_pos rfl, if_pos rfl]
      simp (disch := first | omega | decide | assumption | exact Nat.le_of_ble_eq_true rfl) only [s20_21, s20_24, ow_some, true_and, and_true, and_self, if_true, if_false, not_true, not_false_eq_true, Bool.false_eq_true, eq_self, Option.toList, List.cons_append, List.nil_append, ix_in, ix_cl, lt_in, lt_cl, lt_add, ix_one, vu_eq, vu_ne, arI_mk, arL_mk, arY_mZ, arY_mB, alen_mI, fld_sfl_ne, fld_sfl_same, Option.isSome_some, pok_i, b1z, b01, z10, b1o, Int32.zero_add, vu_vu, upd_eq, upd_ne, true_or, or_true]
      rw [p20_25 (Nat.le_of_ble_eq_true rfl) sp_isLetter]
      cases hp : isS (pre tb i)
      · simp (disch := first | omega | decide | assumption | exact Nat.le_of_ble_eq_true rfl) only [s20_28, s20_31, s20_32, s20_36, ow_some, true_and, and_true, and_self, if_true, if_false, not_true, not_false_eq_true, Bool.false_eq_true, eq_self, Option.toList, List.cons_append, List.nil_append, ix_in, ix_cl, lt_in, lt_cl, lt_add, ix_one, vu_eq, vu_ne, arI_mk, arL_mk, arY_mZ, arY_mB, alen_mI, fld_sfl_ne, fld_sfl_same, Option.isSome_some, pok_i, b1z, b01, z10, b1o, Int32.zero_add, vu_vu, upd_eq, upd_ne, true_or, or_true, Bool.not_false, ne_eq]
      · simp (disch := first | omega | decide | assumption | exact Nat.le_of_ble_eq_true rfl) only [s20_28, s20_35, s20_36, ow_some, true_and, and_true, and_self, if_true, if_false, not_true, not_false_eq_true, Bool.false_eq_true, eq_self, Option.toList, List.cons_append, List.nil_append, ix_in, ix_cl, lt_in, lt_cl, lt_add, ix_one, vu_eq, vu_ne, arI_mk, arL_mk, arY_mZ, arY_mB, alen_mI, fld_sfl_ne, fld_sfl_same, Option.isSome_some, pok_i, b1z, b01, z10, b1o, Int32.zero_add, vu_vu, upd_eq, upd_ne, true_or, or_true, Bool.not_true, ne_eq]
    · rw [if_neg hS, if_neg hS]
      simp (disch := first | omega | decide | assumption | exact Nat.le_of_ble_eq_true rfl) only [s20_21, s20_37, s20_38, y20_39, ow_some, true_and, and_true, and_self, if_true, if_false, not_true, not_false_eq_true, Bool.false_eq_true, eq_self, Option.toList, List.cons_append, List.nil_append, ix_in, ix_cl, lt_in, lt_cl, lt_add, ix_one, vu_eq, vu_ne, arI_mk, arL_mk, arY_mZ, arY_mB, alen_mI, fld_sfl_ne, fld_sfl_same, Option.isSome_some, pok_i, b1z, b01, z10, b1o, Int32.zero_add, vu_vu, upd_eq, upd_ne, true_or, or_true, hy]
      rw [p20_40 (Nat.le_of_ble_eq_true rfl) sp_isDigitC]
      by_cases hD : isD (tb i) = true
      · rw [hD, if_pos rfl, if_pos rfl]
        simp (disch := first | omega | decide | assumption | exact Nat.le_of_ble_eq_true rfl) only [s20_43, s20_46, ow_some, true_and, and_true, and_self, if_true, if_false, not_true, not_false_eq_true, Bool.false_eq_true, eq_self, Option.toList, List.cons_append, List.nil_append, ix_in, ix_cl, lt_in, lt_cl, lt_add, ix_one, vu_eq, vu_ne, arI_mk, arL_mk, arY_mZ, arY_mB, alen_mI, fld_sfl_ne, fld_sfl_same, Option.isSome_some, pok_i, b1z, b01, z10, b1o, Int32.zero_add, vu_vu, upd_eq, upd_ne, true_or, or_true]
        rw [p20_47 (Nat.le_of_ble_eq_true rfl) sp_isDigitC]
        cases hp : isD (pre tb i)
        · simp (disch := first | omega | decide | assumption | exact Nat.le_of_ble_eq_true rfl) only [s20_50, s20_53, s20_54, s20_58, ow_some, true_and, and_true, and_self, if_true, if_false, not_true, not_false_eq_true, Bool.false_eq_true, eq_self, Option.toList, List.cons_append, List.nil_append, ix_in, ix_cl, lt_in, lt_cl, lt_add, ix_one, vu_eq, vu_ne, arI_mk, arL_mk, arY_mZ, arY_mB, alen_mI, fld_sfl_ne, fld_sfl_same, Option.isSome_some, pok_i, b1z, b01, z10, b1o, Int32.zero_add, vu_vu, upd_eq, upd_ne, true_or, or_true, Bool.not_false, ne_eq]
        · simp (disch := first | omega | decide | assumption | exact Nat.le_of_ble_eq_true rfl) only [s20_50, s20_57, s20_58, ow_some, true_and, and_true, and_self, if_true, if_false, not_true, not_false_eq_true, Bool.false_eq_true, eq_self, Option.toList, List.cons_append, List.nil_append, ix_in, ix_cl, lt_in, lt_cl, lt_add, ix_one, vu_eq, vu_ne, arI_mk, arL_mk, arY_mZ, arY_mB, alen_mI, fld_sfl_ne, fld_sfl_same, Option.isSome_some, pok_i, b1z, b01, z10, b1o, Int32.zero_add, vu_vu, upd_eq, upd_ne, true_or, or_true, Bool.not_true, ne_eq]
      · rw [if_neg hD, if_neg hD]
        by_cases h10 : tb i = 10
        · have e1 : (tb i = 10) = True := eq_true h10
          have e2 : (!decide (tb i = 10) && !decide (tb i = 32)) = false := by rw [decide_eq_true h10]; rfl
          rw [e2]
          simp (disch := first | omega | decide | assumption | exact Nat.le_of_ble_eq_true rfl) only [s20_43, s20_59, s20_60, y20_61, s20_62, s20_64, s20_79, s20_80, ow_some, true_and, and_true, and_self, if_true, if_false, not_true, not_false_eq_true, Bool.false_eq_true, eq_self, Option.toList, List.cons_append, List.nil_append, ix_in, ix_cl, lt_in, lt_cl, lt_add, ix_one, vu_eq, vu_ne, arI_mk, arL_mk, arY_mZ, arY_mB, alen_mI, fld_sfl_ne, fld_sfl_same, Option.isSome_some, pok_i, b1z, b01, z10, b1o, Int32.zero_add, vu_vu, upd_eq, upd_ne, true_or, or_true, hy, e1]
        · have e1 : (tb i = 10) = False := eq_false h10
          by_cases h32 : tb i = 32
          · have e3 : (tb i = 32) = True := eq_true h32
            have e2 : (!decide (tb i = 10) && !decide (tb i = 32)) = false := by rw [decide_eq_true h32, decide_eq_false h10]; rfl
            rw [e2]
            simp (disch := first | omega | decide | assumption | exact Nat.le_of_ble_eq_true rfl) only [s20_43, s20_59, s20_60, y20_61, s20_62, s20_64, s20_67, s20_68, y20_69, s20_70, s20_72, s20_79, s20_80, ow_some, true_and, and_true, and_self, if_true, if_false, not_true, not_false_eq_true, Bool.false_eq_true, eq_self, Option.toList, List.cons_append, List.nil_append, ix_in, ix_cl, lt_in, lt_cl, lt_add, ix_one, vu_eq, vu_ne, arI_mk, arL_mk, arY_mZ, arY_mB, alen_mI, fld_sfl_ne, fld_sfl_same, Option.isSome_some, pok_i, b1z, b01, z10, b1o, Int32.zero_add, vu_vu, upd_eq, upd_ne, true_or, or_true, hy, e1, e3]
          · have e3 : (tb i = 32) = False := eq_false h32
            have e2 : (!decide (tb i = 10) && !decide (tb i = 32)) = true := by rw [decide_eq_false h32, decide_eq_false h10]; rfl
            rw [e2]
            simp (disch := first | omega | decide | assumption | exact Nat.le_of_ble_eq_true rfl) only [s20_43, s20_59, s20_60, y20_61, s20_62, s20_64, s20_67, s20_68, y20_69, s20_70, s20_72, s20_75, s20_76, s20_80, ow_some, true_and, and_true, and_self, if_true, if_false, not_true, not_false_eq_true, Bool.false_eq_true, eq_self, Option.toList, List.cons_append, List.nil_append, ix_in, ix_cl, lt_in, lt_cl, lt_add, ix_one, vu_eq, vu_ne, arI_mk, arL_mk, arY_mZ, arY_mB, alen_mI, fld_sfl_ne, fld_sfl_same, Option.isSome_some, pok_i, b1z, b01, z10, b1o, Int32.zero_add, vu_vu, upd_eq, upd_ne, true_or, or_true, hy, e1, e3]
  by_cases h0 : i = 0
  · subst h0
    have c0 : (nI 0 ≤ 0) = True := eq_true (by decide)
    simp (disch := first | omega | decide | assumption | exact Nat.le_of_ble_eq_true rfl) only [s20_0, s20_1, s20_12, s20_14, ow_some, true_and, and_true, and_self, if_true, if_false, not_true, not_false_eq_true, Bool.false_eq_true, eq_self, Option.toList, List.cons_append, List.nil_append, ix_in, ix_cl, lt_in, lt_cl, lt_add, ix_one, vu_eq, vu_ne, arI_mk, arL_mk, arY_mZ, arY_mB, alen_mI, fld_sfl_ne, fld_sfl_same, Option.isSome_some, pok_i, b1z, b01, z10, b1o, Int32.zero_add, vu_vu, upd_eq, upd_ne, true_or, or_true, c0]
    exact main 32 rfl
  · obtain ⟨j, rfl⟩ : ∃ j, i = j + 1 := ⟨i - 1, by omega⟩
    have c0 : (nI (j + 1) ≤ 0) = False := eq_false (by rw [Int32.le_iff_toInt_le, nI_toInt (by omega)]; show ¬ _ ≤ (0 : Int); omega)
    have e1 : nI (j + 1) - 1 = nI j := by rw [lit_nI 1, nI_subN (by omega) (by omega)]; rfl
    simp (disch := first | omega | decide | assumption | exact Nat.le_of_ble_eq_true rfl) only [s20_0, s20_1, s20_4, s20_5, s20_6, s20_7, y20_8, s20_9, s20_12, s20_14, ow_some, true_and, and_true, and_self, if_true, if_false, not_true, not_false_eq_true, Bool.false_eq_true, eq_self, Option.toList, List.cons_append, List.nil_append, ix_in, ix_cl, lt_in, lt_cl, lt_add, ix_one, vu_eq, vu_ne, arI_mk, arL_mk, arY_mZ, arY_mB, alen_mI, fld_sfl_ne, fld_sfl_same, Option.isSome_some, pok_i, b1z, b01, z10, b1o, Int32.zero_add, vu_vu, upd_eq, upd_ne, true_or, or_true, c0, e1, hy]
    exact main (tb j) (by unfold pre; rw [if_neg (by omega)]; rfl)
theorem nar7 : ∀ m, m < 128 → (nI m).toInt8.toInt32 = nI m ∧ ((nI m).toUInt32 % 65536).toInt32 = nI m := by decide +kernel
theorem sp_indexOf {q m : Nat} (hq : q < 4) (hm : m < 128) : PU X (d + 5) 314 [.retAddr q, .int (nI m)] f N K (some (.int (ixo q (nI m)))) := by
  obtain ⟨hl, -⟩ := by_ok q hq
  have n1 := (nar7 m hm).1
  have hlen : s_len q = (e_by.getD q []).length := rfl
  have h20 : PU X (d + 2) 320 [.retAddr (10 + q), .int (nI m), .int (nI 0), .int (nI (s_len q)), .float 0, .float 0] f N K (some (.int (ixo q (nI m)))) := by
    unfold PU
    simp (disch := first | omega | decide | assumption | exact Nat.le_of_ble_eq_true rfl) only [s320_0, s320_1, s320_2, s320_4, s320_5, ow_some, true_and, and_true, and_self, if_true, if_false, not_true, not_false_eq_true, Bool.false_eq_true, eq_self, Option.toList, List.cons_append, List.nil_append, ix_in, ix_cl, lt_in, lt_cl, lt_add, ix_one, vu_eq, vu_ne, arI_mk, arL_mk, arY_mZ, arY_mB, alen_mI, fld_sfl_ne, fld_sfl_same, Option.isSome_some, pok_i, b1z, b01, z10, b1o, Int32.zero_add, vu_vu, upd_eq, upd_ne, true_or, or_true, n1]
    refine lp (fun i h (_ : Unit) => h = f ∧ m_fi (fun k => decide (s_at q k = nI m)) (s_len q) 0 = m_fi (fun k => decide (s_at q k = nI m)) (s_len q - i) i) (fun i _ => [.retAddr (10 + q), .int (nI m), .int (nI 0), .int (nI (s_len q)), .int (nI m), .int (nI i)]) (s_len q) ?_ ?_ 0 f () (by omega) ⟨rfl, rfl⟩
    · rintro i h _ hi ⟨rfl, he⟩ hI
      have c1 : (s_len q ≤ i) = False := eq_false (by omega)
      obtain ⟨m2, hm2⟩ : ∃ m2, s_len q - i = m2 + 1 := ⟨s_len q - i - 1, by omega⟩
      rw [hm2, m_fi_s m2] at he
      have hin : e_in (nI i) (e_by.getD q []).length = true := ix_in (by omega) (by omega)
      have hcl : (nI i).toNatClampNeg = i := ix_cl (by omega)
      have hat : (e_by.getD q []).getD i 0 = s_at q i := rfl
      by_cases h1 : s_at q i = nI m
      · have h1' : (s_at q i = nI m) = True := eq_true h1
        rw [decide_eq_true h1, if_pos rfl] at he
        simp (disch := first | omega | decide | assumption | exact Nat.le_of_ble_eq_true rfl) only [s320_7, s320_9, s320_10, s320_13, s320_14, s320_17, s320_19, s320_22, s320_24, ow_some, true_and, and_true, and_self, if_true, if_false, not_true, not_false_eq_true, Bool.false_eq_true, eq_self, Option.toList, List.cons_append, List.nil_append, ix_in, ix_cl, lt_in, lt_cl, lt_add, ix_one, vu_eq, vu_ne, arI_mk, arL_mk, arY_mZ, arY_mB, alen_mI, fld_sfl_ne, fld_sfl_same, Option.isSome_some, pok_i, b1z, b01, z10, b1o, Int32.zero_add, vu_vu, upd_eq, upd_ne, true_or, or_true, s320_13 hq, s320_16 hq hin, hcl, hat, ix_le, c1, h1', ne_eq]
        unfold ixo; rw [he]; rfl
      · have h1' : (s_at q i = nI m) = False := eq_false h1
        rw [decide_eq_false h1, if_neg (by decide)] at he
        simp (disch := first | omega | decide | assumption | exact Nat.le_of_ble_eq_true rfl) only [s320_7, s320_9, s320_10, s320_13, s320_14, s320_17, s320_19, s320_25, ow_some, true_and, and_true, and_self, if_true, if_false, not_true, not_false_eq_true, Bool.false_eq_true, eq_self, Option.toList, List.cons_append, List.nil_append, ix_in, ix_cl, lt_in, lt_cl, lt_add, ix_one, vu_eq, vu_ne, arI_mk, arL_mk, arY_mZ, arY_mB, alen_mI, fld_sfl_ne, fld_sfl_same, Option.isSome_some, pok_i, b1z, b01, z10, b1o, Int32.zero_add, vu_vu, upd_eq, upd_ne, true_or, or_true, s320_13 hq, s320_16 hq hin, hcl, hat, ix_le, c1, h1', ne_eq]
        rw [s320_28]
        exact hI _ () ⟨rfl, by rw [he, show s_len q - (i + 1) = m2 by omega]⟩
    · rintro h _ ⟨rfl, he⟩
      have c1 : (s_len q ≤ s_len q) = True := eq_true (Nat.le_refl _)
      rw [Nat.sub_self] at he
      simp (disch := first | omega | decide | assumption | exact Nat.le_of_ble_eq_true rfl) only [s320_7, s320_9, s320_10, s320_31, s320_32, ow_some, true_and, and_true, and_self, if_true, if_false, not_true, not_false_eq_true, Bool.false_eq_true, eq_self, Option.toList, List.cons_append, List.nil_append, ix_in, ix_cl, lt_in, lt_cl, lt_add, ix_one, vu_eq, vu_ne, arI_mk, arL_mk, arY_mZ, arY_mB, alen_mI, fld_sfl_ne, fld_sfl_same, Option.isSome_some, pok_i, b1z, b01, z10, b1o, Int32.zero_add, vu_vu, upd_eq, upd_ne, true_or, or_true, ix_le, c1]
      unfold ixo; rw [he]; rfl
  have h19 : PU X (d + 2) 319 [.int (nI m)] f N K (some (.int 1)) := by
    unfold PU
    have c1 : (nI m < 0) = False := by rw [tl_lt (c := 0) (by decide) (by omega)]; exact eq_false (by omega)
    have c2 : ((255 : Int32) < nI m) = False := by rw [lit_nI 255, ix_lt (by omega) (by omega)]; exact eq_false (by omega)
    simp (disch := first | omega | decide | assumption | exact Nat.le_of_ble_eq_true rfl) only [s319_0, s319_1, s319_4, s319_5, s319_8, s319_11, s319_12, s319_16, ow_some, true_and, and_true, and_self, if_true, if_false, not_true, not_false_eq_true, Bool.false_eq_true, eq_self, Option.toList, List.cons_append, List.nil_append, ix_in, ix_cl, lt_in, lt_cl, lt_add, ix_one, vu_eq, vu_ne, arI_mk, arL_mk, arY_mZ, arY_mB, alen_mI, fld_sfl_ne, fld_sfl_same, Option.isSome_some, pok_i, b1z, b01, z10, b1o, Int32.zero_add, vu_vu, upd_eq, upd_ne, true_or, or_true, c1, c2]
  have mx : PU X (d + 2) 302 [.int 0, .int 0] f N K (some (.int 0)) := by
    have := sp_max (X := X) (d := d + 2) (N := N) (K := K) (f := f) (a := 0) (b := 0)
    rwa [show mxI 0 0 = 0 by decide] at this
  have mn : PU X (d + 2) 303 [.int (nI (s_len q)), .int (nI (s_len q))] f N K (some (.int (nI (s_len q)))) := by
    have := sp_min (X := X) (d := d + 2) (N := N) (K := K) (f := f) (a := nI (s_len q)) (b := nI (s_len q))
    rwa [show ∀ z : Int32, mnI z z = z from fun z => by unfold mnI; split <;> rfl] at this
  have hpos : ∀ q, q < 4 → 0 < s_len q := by decide +kernel
  have h18 : PU X (d + 3) 318 [.retAddr (10 + q), .int (nI m), .int 0, .int (nI (s_len q))] f N K (some (.int (ixo q (nI m)))) := by
    unfold PU
    have c1 : ((0 : Int32) < nI (s_len q)) = True := by rw [lit_nI 0, ix_lt (by omega) (by omega)]; exact eq_true (hpos q hq)
    simp (disch := first | omega | decide | assumption | exact Nat.le_of_ble_eq_true rfl) only [s318_0, ow_some, true_and, and_true, and_self, if_true, if_false, not_true, not_false_eq_true, Bool.false_eq_true, eq_self, Option.toList, List.cons_append, List.nil_append, ix_in, ix_cl, lt_in, lt_cl, lt_add, ix_one, vu_eq, vu_ne, arI_mk, arL_mk, arY_mZ, arY_mB, alen_mI, fld_sfl_ne, fld_sfl_same, Option.isSome_some, pok_i, b1z, b01, z10, b1o, Int32.zero_add, vu_vu, upd_eq, upd_ne, true_or, or_true]
    rw [p318_1 (Nat.le_of_ble_eq_true rfl) h19]
    simp (disch := first | omega | decide | assumption | exact Nat.le_of_ble_eq_true rfl) only [s318_4, s318_9, s318_10, ow_some, true_and, and_true, and_self, if_true, if_false, not_true, not_false_eq_true, Bool.false_eq_true, eq_self, Option.toList, List.cons_append, List.nil_append, ix_in, ix_cl, lt_in, lt_cl, lt_add, ix_one, vu_eq, vu_ne, arI_mk, arL_mk, arY_mZ, arY_mB, alen_mI, fld_sfl_ne, fld_sfl_same, Option.isSome_some, pok_i, b1z, b01, z10, b1o, Int32.zero_add, vu_vu, upd_eq, upd_ne, true_or, or_true, ne_eq]
    rw [p318_11 (Nat.le_of_ble_eq_true rfl) mx]
    simp (disch := first | omega | decide | assumption | exact Nat.le_of_ble_eq_true rfl) only [s318_14, s318_15, ow_some, true_and, and_true, and_self, if_true, if_false, not_true, not_false_eq_true, Bool.false_eq_true, eq_self, Option.toList, List.cons_append, List.nil_append, ix_in, ix_cl, lt_in, lt_cl, lt_add, ix_one, vu_eq, vu_ne, arI_mk, arL_mk, arY_mZ, arY_mB, alen_mI, fld_sfl_ne, fld_sfl_same, Option.isSome_some, pok_i, b1z, b01, z10, b1o, Int32.zero_add, vu_vu, upd_eq, upd_ne, true_or, or_true, s318_16 hq, s318_17 hq, ← hlen]
    rw [p318_18 (Nat.le_of_ble_eq_true rfl) mn]
    simp (disch := first | omega | decide | assumption | exact Nat.le_of_ble_eq_true rfl) only [s318_21, s318_22, s318_23, s318_24, s318_30, s318_31, s318_32, ow_some, true_and, and_true, and_self, if_true, if_false, not_true, not_false_eq_true, Bool.false_eq_true, eq_self, Option.toList, List.cons_append, List.nil_append, ix_in, ix_cl, lt_in, lt_cl, lt_add, ix_one, vu_eq, vu_ne, arI_mk, arL_mk, arY_mZ, arY_mB, alen_mI, fld_sfl_ne, fld_sfl_same, Option.isSome_some, pok_i, b1z, b01, z10, b1o, Int32.zero_add, vu_vu, upd_eq, upd_ne, true_or, or_true, c1, s318_29 hq]
    have z0 := z0i
    rw [z0, p318_33 (Nat.le_of_ble_eq_true rfl) h20]
    simp (disch := first | omega | decide | assumption | exact Nat.le_of_ble_eq_true rfl) only [s318_36, ow_some, true_and, and_true, and_self, if_true, if_false, not_true, not_false_eq_true, Bool.false_eq_true, eq_self, Option.toList, List.cons_append, List.nil_append, ix_in, ix_cl, lt_in, lt_cl, lt_add, ix_one, vu_eq, vu_ne, arI_mk, arL_mk, arY_mZ, arY_mB, alen_mI, fld_sfl_ne, fld_sfl_same, Option.isSome_some, pok_i, b1z, b01, z10, b1o, Int32.zero_add, vu_vu, upd_eq, upd_ne, true_or, or_true]
  have h15 : PU X (d + 4) 315 [.retAddr q, .int (nI m), .int 0] f N K (some (.int (ixo q (nI m)))) := by
    unfold PU
    simp (disch := first | omega | decide | assumption | exact Nat.le_of_ble_eq_true rfl) only [s315_4, ow_some, true_and, and_true, and_self, if_true, if_false, not_true, not_false_eq_true, Bool.false_eq_true, eq_self, Option.toList, List.cons_append, List.nil_append, ix_in, ix_cl, lt_in, lt_cl, lt_add, ix_one, vu_eq, vu_ne, arI_mk, arL_mk, arY_mZ, arY_mB, alen_mI, fld_sfl_ne, fld_sfl_same, Option.isSome_some, pok_i, b1z, b01, z10, b1o, Int32.zero_add, vu_vu, upd_eq, upd_ne, true_or, or_true, s315_0 hq]
    rw [p315_1 hq (Nat.le_of_ble_eq_true rfl) (sp_isLatin1 hq)]
    simp (disch := first | omega | decide | assumption | exact Nat.le_of_ble_eq_true rfl) only [s315_4, s315_11, s315_12, ow_some, true_and, and_true, and_self, if_true, if_false, not_true, not_false_eq_true, Bool.false_eq_true, eq_self, Option.toList, List.cons_append, List.nil_append, ix_in, ix_cl, lt_in, lt_cl, lt_add, ix_one, vu_eq, vu_ne, arI_mk, arL_mk, arY_mZ, arY_mB, alen_mI, fld_sfl_ne, fld_sfl_same, Option.isSome_some, pok_i, b1z, b01, z10, b1o, Int32.zero_add, vu_vu, upd_eq, upd_ne, true_or, or_true, s315_7 hq, s315_8 hq, s315_13 hq, ne_eq]
    rw [p315_14 hq (Nat.le_of_ble_eq_true rfl) (sp_length (d := d + 2) hq)]
    simp only [Option.toList, List.cons_append, List.nil_append]
    rw [p315_17 (Nat.le_of_ble_eq_true rfl) h18]
    simp (disch := first | omega | decide | assumption | exact Nat.le_of_ble_eq_true rfl) only [s315_20, s315_36, ow_some, true_and, and_true, and_self, if_true, if_false, not_true, not_false_eq_true, Bool.false_eq_true, eq_self, Option.toList, List.cons_append, List.nil_append, ix_in, ix_cl, lt_in, lt_cl, lt_add, ix_one, vu_eq, vu_ne, arI_mk, arL_mk, arY_mZ, arY_mB, alen_mI, fld_sfl_ne, fld_sfl_same, Option.isSome_some, pok_i, b1z, b01, z10, b1o, Int32.zero_add, vu_vu, upd_eq, upd_ne, true_or, or_true]
  unfold PU
  simp (disch := first | omega | decide | assumption | exact Nat.le_of_ble_eq_true rfl) only [s314_1, s314_2, ow_some, true_and, and_true, and_self, if_true, if_false, not_true, not_false_eq_true, Bool.false_eq_true, eq_self, Option.toList, List.cons_append, List.nil_append, ix_in, ix_cl, lt_in, lt_cl, lt_add, ix_one, vu_eq, vu_ne, arI_mk, arL_mk, arY_mZ, arY_mB, alen_mI, fld_sfl_ne, fld_sfl_same, Option.isSome_some, pok_i, b1z, b01, z10, b1o, Int32.zero_add, vu_vu, upd_eq, upd_ne, true_or, or_true, s314_0 hq]
  rw [p314_3 hq (Nat.le_of_ble_eq_true rfl) h15]
  simp (disch := first | omega | decide | assumption | exact Nat.le_of_ble_eq_true rfl) only [s314_6, ow_some, true_and, and_true, and_self, if_true, if_false, not_true, not_false_eq_true, Bool.false_eq_true, eq_self, Option.toList, List.cons_append, List.nil_append, ix_in, ix_cl, lt_in, lt_cl, lt_add, ix_one, vu_eq, vu_ne, arI_mk, arL_mk, arY_mZ, arY_mB, alen_mI, fld_sfl_ne, fld_sfl_same, Option.isSome_some, pok_i, b1z, b01, z10, b1o, Int32.zero_add, vu_vu, upd_eq, upd_ne, true_or, or_true]
end TXT

/-! to spare, as the class reckons it -/
theorem t_add {x y : Int32} (h1 : -2147483648 ≤ x.toInt + y.toInt) (h2 : x.toInt + y.toInt < 2147483648) : (x + y).toInt = x.toInt + y.toInt := by
  rw [Int32.toInt_add]; exact Int.bmod_eq_of_le (by omega) (by omega)
theorem t_sub {x y : Int32} (h1 : -2147483648 ≤ x.toInt - y.toInt) (h2 : x.toInt - y.toInt < 2147483648) : (x - y).toInt = x.toInt - y.toInt := by
  rw [Int32.toInt_sub]; exact Int.bmod_eq_of_le (by omega) (by omega)
def psum (g : Nat → Int) : Nat → Int
  | 0 => 0
  | k + 1 => psum g k + g k
theorem ps_s {g : Nat → Int} {k : Nat} : psum g (k + 1) = psum g k + g k := rfl
theorem ps_b {g : Nat → Int} {S : Nat} (h : ∀ k, k < S → -30000 ≤ g k ∧ g k ≤ 30000) : ∀ k, k ≤ S → -(30000 * (k : Int)) ≤ psum g k ∧ psum g k ≤ 30000 * (k : Int) := by
  intro k
  induction k with
  | zero => intro _; exact ⟨by simp [psum], by simp [psum]⟩
  | succ k ih =>
    intro hk
    have h1 := ih (by omega)
    have h2 := h k (by omega)
    rw [ps_s]
    constructor <;> push_cast <;> omega
def vij (g J : Nat → Int) (i j : Nat) : Int := psum g (j + 1) - psum g i + J i + J (j + 1)
def lst (V : Nat → Nat → Int) (S : Nat) (z : Int) : Prop := (∃ i j, i ≤ j ∧ j < S ∧ z = V i j) ∧ ∀ i j, i ≤ j → j < S → z ≤ V i j
theorem lst_u {V : Nat → Nat → Int} {S : Nat} {x y : Int} (h1 : lst V S x) (h2 : lst V S y) : x = y := by
  obtain ⟨⟨i, j, a1, a2, a3⟩, a4⟩ := h1
  obtain ⟨⟨i', j', b1, b2, b3⟩, b4⟩ := h2
  have c1 := a4 i' j' b1 b2
  have c2 := b4 i j a1 a2
  omega
/-- the joint ahead of step i -/
def jnt (all : Nat → Int32) (S i : Nat) : Int32 := if i = 0 then 0 else if i < S then all (16 + i) else 0
/-- bounds of loads and joints -/
def bnd (all : Nat → Int32) : Prop := (∀ k, k < 8 → 0 ≤ (all (9 + k)).toInt ∧ (all (9 + k)).toInt ≤ 999) ∧ ∀ k, k < 8 → 0 ≤ (all (17 + k)).toInt ∧ (all (17 + k)).toInt ≤ 999
def gI (all b : Nat → Int32) (k : Nat) : Int := (b k).toInt - (all (9 + k)).toInt
def jI (all : Nat → Int32) (S i : Nat) : Int := (jnt all S i).toInt
theorem jI_b {all : Nat → Int32} {S : Nat} (hb : bnd all) (hS : S ≤ 8) (i : Nat) : 0 ≤ jI all S i ∧ jI all S i ≤ 999 := by
  unfold jI jnt
  have z : (0 : Int32).toInt = 0 := by decide
  split
  · rw [z]; omega
  · split
    · have := hb.2 (i - 1) (by omega)
      rw [show 17 + (i - 1) = 16 + i by omega] at this
      exact this
    · rw [z]; omega
theorem ov_int {all b : Nat → Int32} {S : Nat} (hg : ∀ k, k < S → -30000 ≤ gI all b k ∧ gI all b k ≤ 30000) (hS : S ≤ 8) : ∀ (m k : Nat) (s : Int32), k + m ≤ S → -100000 - 30000 * (k : Int) ≤ s.toInt → s.toInt ≤ 100000 + 30000 * (k : Int) → (m_ov all b m k s).toInt = s.toInt + (psum (gI all b) (k + m) - psum (gI all b) k) := by
  intro m
  induction m with
  | zero => intro k s _ _ _; rw [m_ov, Nat.add_zero]; omega
  | succ m ih =>
    intro k s hk h1 h2
    have hgk := hg k (by omega)
    unfold gI at hgk
    have e1 : (b k - all (9 + k)).toInt = (b k).toInt - (all (9 + k)).toInt := t_sub (by omega) (by omega)
    have e2 : (s + (b k - all (9 + k))).toInt = s.toInt + ((b k).toInt - (all (9 + k)).toInt) := by rw [t_add (by rw [e1]; omega) (by rw [e1]; omega), e1]
    rw [m_ov, ih (k + 1) _ (by omega) (by rw [e2]; push_cast; omega) (by rw [e2]; push_cast; omega), e2, show k + 1 + m = k + (m + 1) by omega, ps_s]
    unfold gI
    omega
theorem over_int {all b : Nat → Int32} {S i j : Nat} (hb : bnd all) (hg : ∀ k, k < S → -30000 ≤ gI all b k ∧ gI all b k ≤ 30000) (hS : S ≤ 8) (hij : i ≤ j) (hj : j < S) : (m_over all b S i j).toInt = vij (gI all b) (jI all S) i j := by
  have hs : ((if i = 0 then (0 : Int32) else all (16 + i)) + (if j + 1 < S then all (17 + j) else 0)).toInt = jI all S i + jI all S (j + 1) := by
    have a1 : (if i = 0 then (0 : Int32) else all (16 + i)) = jnt all S i := by
      unfold jnt
      split
      · rfl
      · rw [if_pos (by omega)]
    have a2 : (if j + 1 < S then all (17 + j) else 0) = jnt all S (j + 1) := by
      unfold jnt
      have h0 : ¬ j + 1 = 0 := by omega
      rw [if_neg h0, show 16 + (j + 1) = 17 + j by omega]
    rw [a1, a2]
    have h1 := jI_b hb hS i
    have h2 := jI_b hb hS (j + 1)
    unfold jI at h1 h2
    rw [t_add (by omega) (by omega)]
    rfl
  have h1 := jI_b hb hS i
  have h2 := jI_b hb hS (j + 1)
  unfold m_over
  rw [ov_int hg hS _ _ _ (by omega) (by rw [hs]; omega) (by rw [hs]; omega), hs, show i + (j + 1 - i) = j + 1 by omega]
  unfold vij
  omega
theorem vij_b {all b : Nat → Int32} {S i j : Nat} (hb : bnd all) (hg : ∀ k, k < S → -30000 ≤ gI all b k ∧ gI all b k ≤ 30000) (hS : S ≤ 8) (hij : i ≤ j) (hj : j < S) : -500000 ≤ vij (gI all b) (jI all S) i j ∧ vij (gI all b) (jI all S) i j ≤ 500000 := by
  have h1 := jI_b hb hS i
  have h2 := jI_b hb hS (j + 1)
  have h3 := ps_b hg i (by omega)
  have h4 := ps_b hg (j + 1) (by omega)
  have h5 : (i : Int) ≤ 8 := by omega
  have h6 : ((j + 1 : Nat) : Int) ≤ 8 := by omega
  unfold vij
  omega
/-- the reference's least -/
theorem spare_lst {all b : Nat → Int32} {S : Nat} (hb : bnd all) (hg : ∀ k, k < S → -30000 ≤ gI all b k ∧ gI all b k ≤ 30000) (hS1 : 1 ≤ S) (hS : S ≤ 8) : lst (vij (gI all b) (jI all S)) S (m_spare all b S).toInt := by
  -- an inner row
  have sl : ∀ (m i j : Nat) (s : Int32), i ≤ j → j + m = S → ((m_sl all b S i m j s).toInt = s.toInt ∨ ∃ j', j ≤ j' ∧ j' < S ∧ (m_sl all b S i m j s).toInt = vij (gI all b) (jI all S) i j') ∧ (m_sl all b S i m j s).toInt ≤ s.toInt ∧ ∀ j', j ≤ j' → j' < S → (m_sl all b S i m j s).toInt ≤ vij (gI all b) (jI all S) i j' := by
    intro m
    induction m with
    | zero => intro i j s _ hj; exact ⟨Or.inl rfl, Int.le_refl _, fun j' h1 h2 => by omega⟩
    | succ m ih =>
      intro i j s hij hj
      have e := over_int hb hg hS hij (show j < S by omega)
      rw [m_sl]
      by_cases h : m_over all b S i j < s
      · rw [if_pos h]
        rw [Int32.lt_iff_toInt_lt, e] at h
        obtain ⟨a1, a2, a3⟩ := ih i (j + 1) (m_over all b S i j) (by omega) (by omega)
        rw [e] at a1 a2
        refine ⟨Or.inr ?_, by omega, fun j' h1 h2 => ?_⟩
        · rcases a1 with z | ⟨j', z1, z2, z3⟩
          · exact ⟨j, Nat.le_refl _, by omega, z⟩
          · exact ⟨j', by omega, z2, z3⟩
        · by_cases hh : j' = j
          · subst hh; exact a2
          · exact a3 j' (by omega) h2
      · rw [if_neg h]
        rw [Int32.lt_iff_toInt_lt, e] at h
        obtain ⟨a1, a2, a3⟩ := ih i (j + 1) s (by omega) (by omega)
        refine ⟨?_, a2, fun j' h1 h2 => ?_⟩
        · rcases a1 with z | ⟨j', z1, z2, z3⟩
          · exact Or.inl z
          · exact Or.inr ⟨j', by omega, z2, z3⟩
        · by_cases hh : j' = j
          · subst hh; omega
          · exact a3 j' (by omega) h2
  have so : ∀ (m i : Nat) (s : Int32), i + m = S → ((m_so all b S m i s).toInt = s.toInt ∨ ∃ i' j', i ≤ i' ∧ i' ≤ j' ∧ j' < S ∧ (m_so all b S m i s).toInt = vij (gI all b) (jI all S) i' j') ∧ (m_so all b S m i s).toInt ≤ s.toInt ∧ ∀ i' j', i ≤ i' → i' ≤ j' → j' < S → (m_so all b S m i s).toInt ≤ vij (gI all b) (jI all S) i' j' := by
    intro m
    induction m with
    | zero => intro i s hi; exact ⟨Or.inl rfl, Int.le_refl _, fun i' j' h1 h2 h3 => by omega⟩
    | succ m ih =>
      intro i s hi
      rw [m_so]
      obtain ⟨a1, a2, a3⟩ := sl (S - i) i i s (Nat.le_refl _) (by omega)
      obtain ⟨b1, b2, b3⟩ := ih (i + 1) (m_sl all b S i (S - i) i s) (by omega)
      refine ⟨?_, by omega, fun i' j' h1 h2 h3 => ?_⟩
      · rcases b1 with z | ⟨i', j', z1, z2, z3, z4⟩
        · rcases a1 with y | ⟨j', y1, y2, y3⟩
          · left; omega
          · right; exact ⟨i, j', Nat.le_refl _, y1, y2, by omega⟩
        · right; exact ⟨i', j', by omega, z2, z3, z4⟩
      · by_cases hh : i' = i
        · subst hh; have := a3 j' h2 h3; omega
        · exact b3 i' j' (by omega) h2 h3
  obtain ⟨a1, a2, a3⟩ := so S 0 268435456 (by omega)
  refine ⟨?_, fun i j h1 h2 => a3 i j (by omega) h1 h2⟩
  rcases a1 with z | ⟨i, j, z1, z2, z3, z4⟩
  · exfalso
    have h1 := a3 0 0 (by omega) (by omega) (by omega)
    have h2 := vij_b hb hg hS (Nat.le_refl 0) (show 0 < S by omega)
    have h3 : (268435456 : Int32).toInt = 268435456 := by decide
    rw [z, h3] at h1
    omega
  · exact ⟨i, j, z2, z3, z4⟩
def mxI (a b : Int32) : Int32 := if a < b then b else a
def mnI (a b : Int32) : Int32 := if b < a then b else a
theorem sp_max {X : Nat × (Nat → Int32)} {d N K : Nat} {f : Nat → e_C} {a b : Int32} : PU X d 302 [.int a, .int b] f N K (some (.int (mxI a b))) := by
  unfold PU mxI
  by_cases h : a < b
  · rw [if_pos h]
    simp (disch := first | omega | decide | assumption | exact Nat.le_of_ble_eq_true rfl) only [s302_0, s302_1, s302_2, s302_5, s302_6, s302_9, s302_10, ow_some, true_and, and_true, and_self, if_true, if_false, not_true, not_false_eq_true, Bool.false_eq_true, eq_self, Option.toList, List.cons_append, List.nil_append, ix_in, ix_cl, lt_in, lt_cl, lt_add, ix_one, vu_eq, vu_ne, arI_mk, arL_mk, arY_mZ, arY_mB, alen_mI, fld_sfl_ne, fld_sfl_same, Option.isSome_some, pok_i, b1z, b01, z10, b1o, Int32.zero_add, vu_vu, upd_eq, upd_ne, true_or, or_true, h]
  · rw [if_neg h]
    simp (disch := first | omega | decide | assumption | exact Nat.le_of_ble_eq_true rfl) only [s302_0, s302_1, s302_2, s302_5, s302_6, s302_9, s302_10, ow_some, true_and, and_true, and_self, if_true, if_false, not_true, not_false_eq_true, Bool.false_eq_true, eq_self, Option.toList, List.cons_append, List.nil_append, ix_in, ix_cl, lt_in, lt_cl, lt_add, ix_one, vu_eq, vu_ne, arI_mk, arL_mk, arY_mZ, arY_mB, alen_mI, fld_sfl_ne, fld_sfl_same, Option.isSome_some, pok_i, b1z, b01, z10, b1o, Int32.zero_add, vu_vu, upd_eq, upd_ne, true_or, or_true, h]
theorem sp_min {X : Nat × (Nat → Int32)} {d N K : Nat} {f : Nat → e_C} {a b : Int32} : PU X d 303 [.int a, .int b] f N K (some (.int (mnI a b))) := by
  unfold PU mnI
  by_cases h : b < a
  · rw [if_pos h]
    simp (disch := first | omega | decide | assumption | exact Nat.le_of_ble_eq_true rfl) only [s303_0, s303_1, s303_2, s303_5, s303_6, s303_9, s303_10, ow_some, true_and, and_true, and_self, if_true, if_false, not_true, not_false_eq_true, Bool.false_eq_true, eq_self, Option.toList, List.cons_append, List.nil_append, ix_in, ix_cl, lt_in, lt_cl, lt_add, ix_one, vu_eq, vu_ne, arI_mk, arL_mk, arY_mZ, arY_mB, alen_mI, fld_sfl_ne, fld_sfl_same, Option.isSome_some, pok_i, b1z, b01, z10, b1o, Int32.zero_add, vu_vu, upd_eq, upd_ne, true_or, or_true, h]
  · rw [if_neg h]
    simp (disch := first | omega | decide | assumption | exact Nat.le_of_ble_eq_true rfl) only [s303_0, s303_1, s303_2, s303_5, s303_6, s303_9, s303_10, ow_some, true_and, and_true, and_self, if_true, if_false, not_true, not_false_eq_true, Bool.false_eq_true, eq_self, Option.toList, List.cons_append, List.nil_append, ix_in, ix_cl, lt_in, lt_cl, lt_add, ix_one, vu_eq, vu_ne, arI_mk, arL_mk, arY_mZ, arY_mB, alen_mI, fld_sfl_ne, fld_sfl_same, Option.isSome_some, pok_i, b1z, b01, z10, b1o, Int32.zero_add, vu_vu, upd_eq, upd_ne, true_or, or_true, h]
theorem mxI_t {a b : Int32} : (mxI a b).toInt = max a.toInt b.toInt := by
  unfold mxI
  by_cases h : a < b
  · rw [if_pos h]; rw [Int32.lt_iff_toInt_lt] at h; omega
  · rw [if_neg h]; rw [Int32.lt_iff_toInt_lt] at h; omega
theorem mnI_t {a b : Int32} : (mnI a b).toInt = min a.toInt b.toInt := by
  unfold mnI
  by_cases h : b < a
  · rw [if_pos h]; rw [Int32.lt_iff_toInt_lt] at h; omega
  · rw [if_neg h]; rw [Int32.lt_iff_toInt_lt] at h; omega
/-- the class's walk: sum, highest, least -/
def k_st (jt ld ro : Nat → Int32) (k : Nat) (r : Int32 × Int32 × Int32) : Int32 × Int32 × Int32 := (r.1 + (ro k - ld k), mxI r.2.1 (r.1 - jt k), mnI r.2.2 (r.1 + (ro k - ld k) + jt (k + 1) - mxI r.2.1 (r.1 - jt k)))
def k_sl (jt ld ro : Nat → Int32) (S : Nat) : Int32 × Int32 × Int32 := fo (k_st jt ld ro) (0, -1000000, 1000000) S
theorem slack_lst {all b jt ld ro : Nat → Int32} {S : Nat} (hb : bnd all) (hg : ∀ k, k < S → -30000 ≤ gI all b k ∧ gI all b k ≤ 30000) (hS1 : 1 ≤ S) (hS : S ≤ 8) (hj : ∀ i, i ≤ S → jt i = jnt all S i) (hl : ∀ k, k < S → ld k = all (9 + k)) (hr : ∀ k, k < S → ro k = b k) : lst (vij (gI all b) (jI all S)) S (k_sl jt ld ro S).2.2.toInt := by
  have main : ∀ k, k ≤ S → (k_sl jt ld ro k).1.toInt = psum (gI all b) k ∧ (-1000000 ≤ (k_sl jt ld ro k).2.1.toInt ∧ (k_sl jt ld ro k).2.1.toInt ≤ 500000) ∧ (∀ i, i < k → psum (gI all b) i - jI all S i ≤ (k_sl jt ld ro k).2.1.toInt) ∧ (1 ≤ k → ∃ i, i < k ∧ (k_sl jt ld ro k).2.1.toInt = psum (gI all b) i - jI all S i) ∧ (∀ i j, i ≤ j → j < k → (k_sl jt ld ro k).2.2.toInt ≤ vij (gI all b) (jI all S) i j) ∧ (1 ≤ k → ∃ i j, i ≤ j ∧ j < k ∧ (k_sl jt ld ro k).2.2.toInt = vij (gI all b) (jI all S) i j) ∧ (k = 0 → (k_sl jt ld ro k).2.2.toInt = 1000000 ∧ (k_sl jt ld ro k).2.1.toInt = -1000000) := by
    intro k
    induction k with
    | zero =>
      intro _
      have e0 : (k_sl jt ld ro 0).1.toInt = 0 := by show (0 : Int32).toInt = 0; decide
      have e1 : (k_sl jt ld ro 0).2.1.toInt = -1000000 := by show (-1000000 : Int32).toInt = -1000000; decide
      have e2 : (k_sl jt ld ro 0).2.2.toInt = 1000000 := by show (1000000 : Int32).toInt = 1000000; decide
      exact ⟨e0, by omega, fun i hi => by omega, fun h => by omega, fun i j _ hj => by omega, fun h => by omega, fun _ => ⟨e2, e1⟩⟩
    | succ k ih =>
      intro hk
      obtain ⟨a1, a2, a3, a4, a5, a6, a7⟩ := ih (by omega)
      have hgk := hg k (by omega)
      have hpk := ps_b hg k (by omega)
      have hpk1 := ps_b hg (k + 1) (by omega)
      have h8 : (k : Int) ≤ 8 := by omega
      have h9 : ((k + 1 : Nat) : Int) ≤ 8 := by omega
      have hjk := jI_b hb hS k
      have hjk1 := jI_b hb hS (k + 1)
      have ej : (jt k).toInt = jI all S k := by rw [hj k (by omega)]; rfl
      have ej1 : (jt (k + 1)).toInt = jI all S (k + 1) := by rw [hj (k + 1) (by omega)]; rfl
      have est : k_sl jt ld ro (k + 1) = k_st jt ld ro k (k_sl jt ld ro k) := rfl
      have eg : (ro k - ld k).toInt = gI all b k := by
        rw [hr k (by omega), hl k (by omega)]
        unfold gI at hgk ⊢
        exact t_sub (by omega) (by omega)
      rw [est]
      generalize k_sl jt ld ro k = r at a1 a2 a3 a4 a5 a6 a7 ⊢
      obtain ⟨s, hi, le⟩ := r
      simp only [k_st] at a1 a2 a3 a4 a5 a6 a7 ⊢
      have es : (s + (ro k - ld k)).toInt = psum (gI all b) (k + 1) := by
        rw [t_add (by omega) (by omega), a1, eg]; rfl
      have eh : (mxI hi (s - jt k)).toInt = max hi.toInt (psum (gI all b) k - jI all S k) := by
        rw [mxI_t, t_sub (by omega) (by omega), a1, ej]
      have eA : (s + (ro k - ld k) + jt (k + 1)).toInt = psum (gI all b) (k + 1) + jI all S (k + 1) := by
        rw [t_add (by omega) (by omega), es, ej1]
      have eB : (s + (ro k - ld k) + jt (k + 1) - mxI hi (s - jt k)).toInt = psum (gI all b) (k + 1) + jI all S (k + 1) - max hi.toInt (psum (gI all b) k - jI all S k) := by
        rw [t_sub (by rw [eA, eh]; omega) (by rw [eA, eh]; omega), eA, eh]
      have eL : (mnI le (s + (ro k - ld k) + jt (k + 1) - mxI hi (s - jt k))).toInt = min le.toInt (psum (gI all b) (k + 1) + jI all S (k + 1) - max hi.toInt (psum (gI all b) k - jI all S k)) := by
        rw [mnI_t, eB]
      refine ⟨es, by rw [eh]; omega, ?_, fun _ => ?_, ?_, fun _ => ?_, fun h => by omega⟩
      · intro i hi'
        rw [eh]
        by_cases h : i = k
        · subst h; omega
        · have := a3 i (by omega); omega
      · rw [eh]
        by_cases h : hi.toInt ≤ psum (gI all b) k - jI all S k
        · exact ⟨k, by omega, by omega⟩
        · by_cases hk0 : k = 0
          · subst hk0
            exfalso
            have a7' := (a7 rfl).2
            have p0 : psum (gI all b) 0 = 0 := rfl
            rw [p0] at h
            omega
          · obtain ⟨i, h1, h2⟩ := a4 (by omega)
            exact ⟨i, by omega, by omega⟩
      · intro i j hij hjk'
        rw [eL]
        by_cases h : j = k
        · subst h
          unfold vij
          by_cases hh : i = j
          · subst hh; omega
          · have := a3 i (by omega); omega
        · have := a5 i j hij (by omega); omega
      · rw [eL]
        have vb0 := vij_b hb hg hS (Nat.le_refl k) (show k < S by omega)
        by_cases hle : le.toInt ≤ psum (gI all b) (k + 1) + jI all S (k + 1) - max hi.toInt (psum (gI all b) k - jI all S k)
        · by_cases hk0 : k = 0
          · exfalso
            have a7' := a7 hk0
            subst hk0
            have p0 : psum (gI all b) 0 = 0 := rfl
            unfold vij at vb0
            rw [p0] at hle vb0
            omega
          · obtain ⟨i, j, h1, h2, h3⟩ := a6 (by omega)
            exact ⟨i, j, h1, by omega, by omega⟩
        · by_cases h : hi.toInt ≤ psum (gI all b) k - jI all S k
          · refine ⟨k, k, Nat.le_refl _, by omega, ?_⟩
            unfold vij
            omega
          · by_cases hk0 : k = 0
            · exfalso
              have a7' := (a7 hk0).2
              subst hk0
              have p0 : psum (gI all b) 0 = 0 := rfl
              rw [p0] at h
              omega
            · obtain ⟨i, h1, h2⟩ := a4 (by omega)
              refine ⟨i, k, by omega, by omega, ?_⟩
              unfold vij
              omega
  obtain ⟨-, -, -, -, a5, a6, -⟩ := main S (Nat.le_refl _)
  exact ⟨a6 hS1, a5⟩
/-- both reckon the same -/
theorem slack_spare {all b jt ld ro : Nat → Int32} {S : Nat} (hb : bnd all) (hg : ∀ k, k < S → -30000 ≤ gI all b k ∧ gI all b k ≤ 30000) (hS1 : 1 ≤ S) (hS : S ≤ 8) (hj : ∀ i, i ≤ S → jt i = jnt all S i) (hl : ∀ k, k < S → ld k = all (9 + k)) (hr : ∀ k, k < S → ro k = b k) : (k_sl jt ld ro S).2.2 = m_spare all b S :=
  Int32.toInt_inj.mp (lst_u (slack_lst hb hg hS1 hS hj hl hr) (spare_lst hb hg hS1 hS))
theorem sp_slack {X : Nat × (Nat → Int32)} {d N K q a pl C S : Nat} {f : Nat → e_C} {y x r : Nat → Nat → Int32} {w v : Nat → Int32} {u2 u3 u4 u5 : Value} (L : LV f q y) (V : SV f a pl w x) (W : PV f pl v r C) (hS : v 0 = nI S) (h8 : S ≤ 8) : PU X (d + 1) 59 [.ref q, .ref a, u2, u3, u4, u5] f N K (some (.int (k_sl (r 2) (r 1) (y 4) S).2.2)) := by
  unfold PU
  simp (disch := first | omega | decide | assumption | exact Nat.le_of_ble_eq_true rfl) only [s59_0, s59_1, s59_2, s59_4, s59_5, s59_7, s59_9, h59_10, ow_some, true_and, and_true, and_self, if_true, if_false, not_true, not_false_eq_true, Bool.false_eq_true, eq_self, Option.toList, List.cons_append, List.nil_append, ix_in, ix_cl, lt_in, lt_cl, lt_add, ix_one, vu_eq, vu_ne, arI_mk, arL_mk, arY_mZ, arY_mB, alen_mI, fld_sfl_ne, fld_sfl_same, Option.isSome_some, pok_i, b1z, b01, z10, b1o, Int32.zero_add, vu_vu, upd_eq, upd_ne, true_or, or_true]
  refine lp (fun k g (z : Int32 × Int32 × Int32) => g = f ∧ z = k_sl (r 2) (r 1) (y 4) k) (fun k z => [.ref q, .ref a, .int z.1, .int z.2.1, .int z.2.2, .int (nI k)]) S ?_ ?_ 0 f (0, -1000000, 1000000) (by omega) ⟨rfl, rfl⟩
  · rintro k g z hk ⟨rfl, rfl⟩ hI
    have hc : (S ≤ k) = False := eq_false (by omega)
    simp (disch := first | omega | decide | assumption | exact Nat.le_of_ble_eq_true rfl) only [s59_12, s59_14, s59_15, s59_18, s59_21, s59_24, s59_25, s59_26, s59_27, s59_30, s59_33, s59_35, s59_36, ow_some, true_and, and_true, and_self, if_true, if_false, not_true, not_false_eq_true, Bool.false_eq_true, eq_self, Option.toList, List.cons_append, List.nil_append, ix_in, ix_cl, lt_in, lt_cl, lt_add, ix_one, vu_eq, vu_ne, arI_mk, arL_mk, arY_mZ, arY_mB, alen_mI, fld_sfl_ne, fld_sfl_same, Option.isSome_some, pok_i, b1z, b01, z10, b1o, Int32.zero_add, vu_vu, upd_eq, upd_ne, true_or, or_true, L.r0, L.r1, L.r2, L.r3, L.l0, L.l1, L.a0, L.a1, L.a2, L.a3, L.a4, V.v1, V.v6, V.v7, V.v8, V.v9, V.i1, V.i6, V.i7, V.i8, V.i9, V.r2, V.r3, V.r4, V.r5, V.pl, V.a2, V.a3, V.a4, V.a5, W.v0, W.v3, W.v10, W.v11, W.v12, W.v14, W.v15, W.v16, W.v17, W.v18, W.r1, W.r2, W.r4, W.r5, W.r6, W.r7, W.r8, W.r9, W.r13, W.a1, W.a2, W.a4, W.a5, W.a6, W.a7, W.a8, W.a9, W.a13, hS, ix_le, hc]
    rw [p59_37 (Nat.le_of_ble_eq_true rfl) sp_max]
    simp (disch := first | omega | decide | assumption | exact Nat.le_of_ble_eq_true rfl) only [s59_40, s59_41, s59_42, s59_43, s59_46, s59_48, s59_49, s59_50, s59_53, s59_56, s59_58, s59_59, s59_60, s59_61, s59_62, s59_64, s59_65, s59_66, s59_69, s59_72, s59_74, s59_75, s59_76, s59_77, s59_78, s59_79, ow_some, true_and, and_true, and_self, if_true, if_false, not_true, not_false_eq_true, Bool.false_eq_true, eq_self, Option.toList, List.cons_append, List.nil_append, ix_in, ix_cl, lt_in, lt_cl, lt_add, ix_one, vu_eq, vu_ne, arI_mk, arL_mk, arY_mZ, arY_mB, alen_mI, fld_sfl_ne, fld_sfl_same, Option.isSome_some, pok_i, b1z, b01, z10, b1o, Int32.zero_add, vu_vu, upd_eq, upd_ne, true_or, or_true, L.r0, L.r1, L.r2, L.r3, L.l0, L.l1, L.a0, L.a1, L.a2, L.a3, L.a4, V.v1, V.v6, V.v7, V.v8, V.v9, V.i1, V.i6, V.i7, V.i8, V.i9, V.r2, V.r3, V.r4, V.r5, V.pl, V.a2, V.a3, V.a4, V.a5, W.v0, W.v3, W.v10, W.v11, W.v12, W.v14, W.v15, W.v16, W.v17, W.v18, W.r1, W.r2, W.r4, W.r5, W.r6, W.r7, W.r8, W.r9, W.r13, W.a1, W.a2, W.a4, W.a5, W.a6, W.a7, W.a8, W.a9, W.a13]
    rw [p59_80 (Nat.le_of_ble_eq_true rfl) sp_min]
    simp (disch := first | omega | decide | assumption | exact Nat.le_of_ble_eq_true rfl) only [s59_83, s59_85, h59_88, ow_some, true_and, and_true, and_self, if_true, if_false, not_true, not_false_eq_true, Bool.false_eq_true, eq_self, Option.toList, List.cons_append, List.nil_append, ix_in, ix_cl, lt_in, lt_cl, lt_add, ix_one, vu_eq, vu_ne, arI_mk, arL_mk, arY_mZ, arY_mB, alen_mI, fld_sfl_ne, fld_sfl_same, Option.isSome_some, pok_i, b1z, b01, z10, b1o, Int32.zero_add, vu_vu, upd_eq, upd_ne, true_or, or_true]
    exact hI _ (k_st (r 2) (r 1) (y 4) k (k_sl (r 2) (r 1) (y 4) k)) ⟨rfl, rfl⟩
  · rintro g z ⟨rfl, rfl⟩
    simp (disch := first | omega | decide | assumption | exact Nat.le_of_ble_eq_true rfl) only [s59_12, s59_14, s59_15, s59_18, s59_21, s59_91, s59_93, ow_some, true_and, and_true, and_self, if_true, if_false, not_true, not_false_eq_true, Bool.false_eq_true, eq_self, Option.toList, List.cons_append, List.nil_append, ix_in, ix_cl, lt_in, lt_cl, lt_add, ix_one, vu_eq, vu_ne, arI_mk, arL_mk, arY_mZ, arY_mB, alen_mI, fld_sfl_ne, fld_sfl_same, Option.isSome_some, pok_i, b1z, b01, z10, b1o, Int32.zero_add, vu_vu, upd_eq, upd_ne, true_or, or_true, L.r0, L.r1, L.r2, L.r3, L.l0, L.l1, L.a0, L.a1, L.a2, L.a3, L.a4, V.v1, V.v6, V.v7, V.v8, V.v9, V.i1, V.i6, V.i7, V.i8, V.i9, V.r2, V.r3, V.r4, V.r5, V.pl, V.a2, V.a3, V.a4, V.a5, W.v0, W.v3, W.v10, W.v11, W.v12, W.v14, W.v15, W.v16, W.v17, W.v18, W.r1, W.r2, W.r4, W.r5, W.r6, W.r7, W.r8, W.r9, W.r13, W.a1, W.a2, W.a4, W.a5, W.a6, W.a7, W.a8, W.a9, W.a13, hS, ix_le, Nat.le_refl]
theorem sp_fillProps {X : Nat × (Nat → Int32)} {d N K q a pl C S : Nat} {f : Nat → e_C} {y x r : Nat → Nat → Int32} {w v : Nat → Int32} {u2 : Value} (L : LV f q y) (V : SV f a pl w x) (W : PV f pl v r C) (hS : v 0 = nI S) (h8 : S ≤ 8) (ha : a + 4 < q ∨ q + 7 ≤ a) (hp : pl + 9 < q ∨ q + 7 ≤ pl) : TT X d 57 0 [.ref q, .ref a, u2] [] f N K (fun f' n' k' z => n' = N ∧ k' = K ∧ z = none ∧ SI (q + 6) (q + 7) f f' ∧ ∃ g, LV f' q (up2 y 4 g) ∧ ∀ k, k < S → g k = 10 * x 5 k) := by
  simp (disch := first | omega | decide | assumption | exact Nat.le_of_ble_eq_true rfl) only [s57_0, h57_1, ow_some, true_and, and_true, and_self, if_true, if_false, not_true, not_false_eq_true, Bool.false_eq_true, eq_self, Option.toList, List.cons_append, List.nil_append, ix_in, ix_cl, lt_in, lt_cl, lt_add, ix_one, vu_eq, vu_ne, arI_mk, arL_mk, arY_mZ, arY_mB, alen_mI, fld_sfl_ne, fld_sfl_same, Option.isSome_some, pok_i, b1z, b01, z10, b1o, Int32.zero_add, vu_vu, upd_eq, upd_ne, true_or, or_true]
  refine lp (fun k e (g : Nat → Int32) => SI (q + 6) (q + 7) f e ∧ LV e q (up2 y 4 g) ∧ ∀ i, i < k → g i = 10 * x 5 i) (fun k _ => [.ref q, .ref a, .int (nI k)]) S ?_ ?_ 0 f (y 4) (by omega) ⟨SI.rf, ?_, fun i hi => by omega⟩
  · rintro k e g hk ⟨s1, L1, hg⟩ hI
    have V1 := V.fr (f' := e) (fun b h1 h2 => s1 b (by omega))
    have W1 := W.fr (f' := e) (fun b h1 h2 => s1 b (by omega))
    have hc : (S ≤ k) = False := eq_false (by omega)
    simp (disch := first | omega | decide | assumption | exact Nat.le_of_ble_eq_true rfl) only [s57_2, s57_3, s57_4, s57_7, s57_10, s57_13, s57_14, s57_17, s57_18, s57_20, s57_21, s57_24, s57_25, s57_26, s57_27, s57_28, h57_31, ow_some, true_and, and_true, and_self, if_true, if_false, not_true, not_false_eq_true, Bool.false_eq_true, eq_self, Option.toList, List.cons_append, List.nil_append, ix_in, ix_cl, lt_in, lt_cl, lt_add, ix_one, vu_eq, vu_ne, arI_mk, arL_mk, arY_mZ, arY_mB, alen_mI, fld_sfl_ne, fld_sfl_same, Option.isSome_some, pok_i, b1z, b01, z10, b1o, Int32.zero_add, vu_vu, upd_eq, upd_ne, true_or, or_true, L1.r0, L1.r1, L1.r2, L1.r3, L1.l0, L1.l1, L1.a0, L1.a1, L1.a2, L1.a3, L1.a4, V1.v1, V1.v6, V1.v7, V1.v8, V1.v9, V1.i1, V1.i6, V1.i7, V1.i8, V1.i9, V1.r2, V1.r3, V1.r4, V1.r5, V1.pl, V1.a2, V1.a3, V1.a4, V1.a5, W1.v0, W1.v3, W1.v10, W1.v11, W1.v12, W1.v14, W1.v15, W1.v16, W1.v17, W1.v18, W1.r1, W1.r2, W1.r4, W1.r5, W1.r6, W1.r7, W1.r8, W1.r9, W1.r13, W1.a1, W1.a2, W1.a4, W1.a5, W1.a6, W1.a7, W1.a8, W1.a9, W1.a13, hS, ix_le, hc, up2_eq]
    refine hI _ (upd g k (10 * x 5 k)) ⟨s1.tr (SI.up (by omega) (by omega)), ?_, fun i hi => ?_⟩
    · have := L1.s4 (g := upd g k (10 * x 5 k))
      rw [show up2 (up2 y 4 g) 4 (upd g k (10 * x 5 k)) = up2 y 4 (upd g k (10 * x 5 k)) by funext j; by_cases h : j = 4 <;> simp [up2, h]] at this
      exact this
    · by_cases h : i = k
      · subst h; rw [upd_eq]
      · rw [upd_ne h]; exact hg i (by omega)
  · rintro e g ⟨s1, L1, hg⟩
    have V1 := V.fr (f' := e) (fun b h1 h2 => s1 b (by omega))
    have W1 := W.fr (f' := e) (fun b h1 h2 => s1 b (by omega))
    simp (disch := first | omega | decide | assumption | exact Nat.le_of_ble_eq_true rfl) only [s57_2, s57_3, s57_4, s57_7, s57_10, s57_34, ow_some, true_and, and_true, and_self, if_true, if_false, not_true, not_false_eq_true, Bool.false_eq_true, eq_self, Option.toList, List.cons_append, List.nil_append, ix_in, ix_cl, lt_in, lt_cl, lt_add, ix_one, vu_eq, vu_ne, arI_mk, arL_mk, arY_mZ, arY_mB, alen_mI, fld_sfl_ne, fld_sfl_same, Option.isSome_some, pok_i, b1z, b01, z10, b1o, Int32.zero_add, vu_vu, upd_eq, upd_ne, true_or, or_true, L1.r0, L1.r1, L1.r2, L1.r3, L1.l0, L1.l1, L1.a0, L1.a1, L1.a2, L1.a3, L1.a4, V1.v1, V1.v6, V1.v7, V1.v8, V1.v9, V1.i1, V1.i6, V1.i7, V1.i8, V1.i9, V1.r2, V1.r3, V1.r4, V1.r5, V1.pl, V1.a2, V1.a3, V1.a4, V1.a5, W1.v0, W1.v3, W1.v10, W1.v11, W1.v12, W1.v14, W1.v15, W1.v16, W1.v17, W1.v18, W1.r1, W1.r2, W1.r4, W1.r5, W1.r6, W1.r7, W1.r8, W1.r9, W1.r13, W1.a1, W1.a2, W1.a4, W1.a5, W1.a6, W1.a7, W1.a8, W1.a9, W1.a13, hS, ix_le, Nat.le_refl]
    exact ⟨s1, g, L1, hg⟩
  · have : up2 y 4 (y 4) = y := by funext j; by_cases h : j = 4 <;> simp [up2, h]
    rw [this]; exact L

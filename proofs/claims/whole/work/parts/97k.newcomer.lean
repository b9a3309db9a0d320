/-! one brought: what steps bear then -/
/-- what one brought bears, so many days later -/
def nwc (all : Nat → Int32) (P c j n : Nat) : Int32 := c_str all (nI P) (nI c) (nI n) (nI j) (all 56 + nI n) 0
/-- rows that tell one more, so many days later -/
def nal (all : Nat → Int32) (P T c j n : Nat) : Nat → Int32 := m_lat (m_come all P T (nI j) (nI c)) n
theorem nal_ne {all : Nat → Int32} {P T c j n i : Nat} (h1 : i ≠ 52) (h2 : i ≠ 53) (h3 : i ≠ 57 + P) (h4 : i ≠ 66 + P) (h5 : i ≠ 75 + P) (h6 : i ≠ 56) : nal all P T c j n i = all i := by
  unfold nal; rw [lat_ne h6, come_ne h1 h2 h3 h4 h5]
theorem nal_56 {all : Nat → Int32} {P T c j n : Nat} : nal all P T c j n 56 = all 56 + nI n := by
  unfold nal; rw [lat_56, come_ne (by omega) (by omega) (by omega) (by omega) (by omega)]
theorem nal_57 {all : Nat → Int32} {P T c j n : Nat} : nal all P T c j n (57 + P) = nI j := by
  unfold nal m_come; rw [lat_ne (by omega), upd_ne (by omega), upd_ne (by omega), upd_eq]
theorem nal_66 {all : Nat → Int32} {P T c j n : Nat} : nal all P T c j n (66 + P) = nI c := by
  unfold nal m_come; rw [lat_ne (by omega), upd_ne (by omega), upd_eq]
theorem nal_75 {all : Nat → Int32} {P T c j n : Nat} : nal all P T c j n (75 + P) = all 56 := by
  unfold nal m_come; rw [lat_ne (by omega), upd_eq]
theorem nal_lw {all : Nat → Int32} {P T c j n : Nat} (h : lw2 all) (hP : P < 9) : lw2 (nal all P T c j n) := lw2_cg h (fun i hi => nal_ne (by omega) (by omega) (by omega) (by omega) (by omega) (by omega))
theorem or_bit_ne {T P i : Nat} (h : i ≠ P) : (T ||| 2 ^ P).testBit i = T.testBit i := by
  rw [Nat.testBit_or, Nat.testBit_two_pow_of_ne (Ne.symm h), Bool.or_false]
theorem or_bit_eq {T P : Nat} : (T ||| 2 ^ P).testBit P = true := by
  rw [Nat.testBit_or, Nat.testBit_two_pow_self, Bool.or_true]
theorem wed_nal {all : Nat → Int32} {S R P Tx T c j n p : Nat} (I : IS all S R P) (hP : P < 9) (hp : p < 9) : m_wed (nal all P Tx c j n) p (T ||| 2 ^ P) = m_wed all p T := by
  have hr := I.rp
  rw [wed_cg (all := all) (nal_ne (by omega) (by omega) (by omega) (by omega) (by omega) (by omega))]
  unfold m_wed
  rcases I.mt p hp with z | ⟨i, b1, b2, b3, b4, b5⟩
  · rw [if_pos z, if_pos z]
  · have hne := ne_m1 (m := i) (by omega)
    have hne' : ¬ nI i = -1 := by rw [hne]; exact id
    rw [b4, if_neg hne', if_neg hne', ix_cl (by omega), or_bit_ne (by omega)]
theorem bears_nal {all : Nat → Int32} {S R P Tx T c j n p : Nat} (I : IS all S R P) (hP : P < 9) (hp : p < P) : m_bears (nal all P Tx c j n) p (T ||| 2 ^ P) = m_bears (m_lat all n) p T := by
  have hn : ∀ i, i ≠ 52 → i ≠ 53 → i ≠ 57 + P → i ≠ 66 + P → i ≠ 75 + P → i ≠ 56 → nal all P Tx c j n i = all i := fun i h1 h2 h3 h4 h5 h6 => nal_ne h1 h2 h3 h4 h5 h6
  rw [bears_lat I.lw (I.bd hp) (by omega), bears_str (nal_lw I.lw hP) (by rw [hn _ (by omega) (by omega) (by omega) (by omega) (by omega) (by omega)]; exact I.bd hp), wed_nal I hP (by omega), nal_56, hn (66 + p) (by omega) (by omega) (by omega) (by omega) (by omega) (by omega), hn (75 + p) (by omega) (by omega) (by omega) (by omega) (by omega) (by omega), hn (57 + p) (by omega) (by omega) (by omega) (by omega) (by omega) (by omega)]
  exact c_str_cg (fun i hi => hn i (by omega) (by omega) (by omega) (by omega) (by omega) (by omega))
theorem i_add_sub {a b : Int32} : a + b - a = b := by
  rw [Int32.add_comm, Int32.add_sub_cancel]
theorem bears_new {all : Nat → Int32} {S R P Tx T c j n : Nat} (I : IS all S R P) (hP : P < 9) (hc : c < 100) : m_bears (nal all P Tx c j n) P (T ||| 2 ^ P) = nwc all P c j n := by
  have hr := I.rp
  have hm : m_wed all P T = 0 := by
    unfold m_wed
    rcases I.mt P hP with z | ⟨i, b1, b2, -⟩
    · rw [if_pos z]
    · omega
  rw [bears_str (nal_lw I.lw hP) (by rw [nal_66]; exact ⟨c, hc, rfl⟩), wed_nal I hP hP, hm, nal_56, nal_66, nal_75, nal_57, i_add_sub]
  exact c_str_cg (fun i hi => nal_ne (by omega) (by omega) (by omega) (by omega) (by omega) (by omega))
theorem bo_nal {all : Nat → Int32} {S R P Tx T c j n : Nat} (I : IS all S R P) (hP : P < 9) (hj : j < S) (hc : c < 100) : ∀ k, k < 8 → m_bo (nal all P Tx c j n) (T ||| 2 ^ P) (P + 1) k = (if k = j then m_bo (m_lat all n) T P k + nwc all P c j n else m_bo (m_lat all n) T P k) := by
  have h8 := I.s8
  have low : ∀ p, p ≤ P → ∀ k, k < 8 → m_bo (nal all P Tx c j n) (T ||| 2 ^ P) p k = m_bo (m_lat all n) T p k := by
    intro p
    induction p with
    | zero =>
      intro _ k hk
      show 10 * nal all P Tx c j n (84 + k) = 10 * m_lat all n (84 + k)
      rw [nal_ne (by omega) (by omega) (by omega) (by omega) (by omega) (by omega), lat_ne (by omega)]
    | succ p ih =>
      intro hp k hk
      rw [m_bo, m_bo, or_bit_ne (by omega), nal_ne (i := 57 + p) (by omega) (by omega) (by omega) (by omega) (by omega) (by omega), lat_ne (i := 57 + p) (by omega), bears_nal I hP (by omega)]
      split
      · by_cases hh : k = (all (57 + p)).toNatClampNeg
        · subst hh; rw [upd_eq, upd_eq, ih (by omega) _ hk]
        · rw [upd_ne hh, upd_ne hh]; exact ih (by omega) k hk
      · exact ih (by omega) k hk
  intro k hk
  rw [m_bo, or_bit_eq, if_pos rfl, nal_57, ix_cl (by omega), bears_new I hP hc]
  by_cases hkj : k = j
  · subst hkj; rw [upd_eq, if_pos rfl, low P (Nat.le_refl _) k hk]
  · rw [upd_ne hkj, if_neg hkj]; exact low P (Nat.le_refl _) k hk
theorem nwc_b {all : Nat → Int32} {P c j n : Nat} (hc : c < 100) : 0 ≤ (nwc all P c j n).toInt ∧ (nwc all P c j n).toInt ≤ 999 := by
  unfold nwc c_str
  split
  · rw [nI_toInt (by omega)]; omega
  · exact clip_b
/-- to spare with one brought -/
theorem sp_nal {all jt ld ro : Nat → Int32} {S R P Tx T c j n : Nat} (I : IS all S R P) (hP : P < 9) (hj : j < S) (hc : c < 100) (h1 : ∀ i, i ≤ S → jt i = jnt all S i) (h2 : ∀ k, k < S → ld k = all (9 + k)) (hr : ∀ k, k < S → ro k = if k = j then m_bo (m_lat all n) T P k + nwc all P c j n else m_bo (m_lat all n) T P k) : (k_sl jt ld ro S).2.2 = m_sp (nal all P Tx c j n) S (P + 1) (T ||| 2 ^ P) := by
  have h8 := I.s8
  have hn : ∀ i, 9 ≤ i ∧ i < 25 → nal all P Tx c j n i = all i := fun i hi => nal_ne (by omega) (by omega) (by omega) (by omega) (by omega) (by omega)
  refine sp_of (bnd_cg I.bn hn) (fun k hk => by rw [nal_ne (by omega) (by omega) (by omega) (by omega) (by omega) (by omega)]; exact (I.pr hk).1) (by omega) I.s1 h8 (fun i hi => by rw [jnt_cg h8 hn]; exact h1 i hi) (fun k hk => by rw [hn _ (by omega)]; exact h2 k hk) (fun k hk => ?_)
  rw [bo_nal I hP hj hc k (by omega)]
  exact hr k hk
/-- more on a step never makes it fall -/
theorem mono_sp {all b b' : Nat → Int32} {S : Nat} (hb : bnd all) (hg : ∀ k, k < S → -30000 ≤ gI all b k ∧ gI all b k ≤ 30000) (hg' : ∀ k, k < S → -30000 ≤ gI all b' k ∧ gI all b' k ≤ 30000) (hS1 : 1 ≤ S) (hS : S ≤ 8) (hle : ∀ k, k < S → (b k).toInt ≤ (b' k).toInt) : (m_spare all b S).toInt ≤ (m_spare all b' S).toInt := by
  obtain ⟨⟨i, j, h1, h2, h3⟩, -⟩ := spare_lst hb hg' hS1 hS
  obtain ⟨-, h4⟩ := spare_lst hb hg hS1 hS
  rw [h3]
  refine Int.le_trans (h4 i j h1 h2) ?_
  unfold vij
  have key : ∀ m, i + m ≤ S → psum (gI all b) (i + m) - psum (gI all b) i ≤ psum (gI all b') (i + m) - psum (gI all b') i := by
    intro m
    induction m with
    | zero => intro _; rw [Nat.add_zero]; omega
    | succ m ih =>
      intro hm
      have h5 := ih (by omega)
      have h6 := hle (i + m) (by omega)
      rw [show i + (m + 1) = (i + m) + 1 by omega, ps_s, ps_s]
      have e1 : gI all b (i + m) = (b (i + m)).toInt - (all (9 + (i + m))).toInt := rfl
      have e2 : gI all b' (i + m) = (b' (i + m)).toInt - (all (9 + (i + m))).toInt := rfl
      omega
  have := key (j + 1 - i) (by omega)
  rw [show i + (j + 1 - i) = j + 1 by omega] at this
  omega
/-- one brought keeps what stands -/
theorem hold_nal {all : Nat → Int32} {S R P Tx T c j n : Nat} (I : IS all S R P) (hP : P < 9) (hj : j < S) (hc : c < 100) (h : m_hold (m_lat all n) S P T = true) : m_hold (nal all P Tx c j n) S (P + 1) (T ||| 2 ^ P) = true := by
  have h8 := I.s8
  have hnw := nwc_b (all := all) (P := P) (j := j) (n := n) hc
  have lc : ∀ i, 9 ≤ i ∧ i < 25 → m_lat all n i = all i := fun i hi => lat_ne (by omega)
  have hn : ∀ i, 9 ≤ i ∧ i < 25 → nal all P Tx c j n i = all i := fun i hi => nal_ne (by omega) (by omega) (by omega) (by omega) (by omega) (by omega)
  have bl : ∀ k, k < 8 → 0 ≤ (m_bo (m_lat all n) T P k).toInt ∧ (m_bo (m_lat all n) T P k).toInt ≤ 990 + 999 * (P : Int) := fun k hk => bo_b (fun k hk => by rw [lat_ne (by omega)]; exact (I.pr hk).1) P k (by omega) hk
  have hP9 : (P : Int) ≤ 8 := by omega
  have bn : ∀ k, k < 8 → (m_bo (m_lat all n) T P k).toInt ≤ (m_bo (nal all P Tx c j n) (T ||| 2 ^ P) (P + 1) k).toInt ∧ (m_bo (nal all P Tx c j n) (T ||| 2 ^ P) (P + 1) k).toInt ≤ 20000 := by
    intro k hk
    have := bl k hk
    rw [bo_nal I hP hj hc k hk]
    split
    · rw [t_add (by omega) (by omega)]; omega
    · omega
  have gb1 : ∀ k, k < S → -30000 ≤ gI all (m_bo (m_lat all n) T P) k ∧ gI all (m_bo (m_lat all n) T P) k ≤ 30000 := by
    intro k hk
    have h1 := bl k (by omega)
    have h2 := I.bn.1 k (by omega)
    unfold gI
    omega
  have gb2 : ∀ k, k < S → -30000 ≤ gI all (m_bo (nal all P Tx c j n) (T ||| 2 ^ P) (P + 1)) k ∧ gI all (m_bo (nal all P Tx c j n) (T ||| 2 ^ P) (P + 1)) k ≤ 30000 := by
    intro k hk
    have h1 := bl k (by omega)
    have h3 := bn k (by omega)
    have h2 := I.bn.1 k (by omega)
    unfold gI
    omega
  have hm := mono_sp I.bn gb1 gb2 I.s1 h8 (fun k hk => (bn k (by omega)).1)
  have e1 : m_sp (m_lat all n) S P T = m_spare all (m_bo (m_lat all n) T P) S := by
    unfold m_sp m_spare; exact so_ca lc h8 S 0 _ (by omega)
  have e2 : m_sp (nal all P Tx c j n) S (P + 1) (T ||| 2 ^ P) = m_spare all (m_bo (nal all P Tx c j n) (T ||| 2 ^ P) (P + 1)) S := by
    unfold m_sp m_spare; exact so_ca hn h8 S 0 _ (by omega)
  rw [← sp_ge0, Int32.le_iff_toInt_le, e1] at h
  rw [← sp_ge0, Int32.le_iff_toInt_le, e2]
  omega

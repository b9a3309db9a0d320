/-! what holds of the reference's rows, and how the class's cells stand for them -/
def mfl (all : Nat → Int32) (S P : Nat) : Prop := (all 54 = 0 ∧ m_hold all S P (nT all) = true) ∨ (all 54 = 1 ∧ m_hold all S P (nT all) = false)
def lw2 (all : Nat → Int32) : Prop := ∀ law, law < 2 → all (3 + law) = 0 ∨ (all (3 + law) = 1 ∧ ∃ F M, all (5 + law) = nI F ∧ all (7 + law) = nI M ∧ F + M ≤ 900 ∧ tyr (decide (law = 1)) (fun i => all (494 + F + i)) M 0 [] = some [decide (law = 1)])
/-- what stays of a text -/
def IT (all : Nat → Int32) (S R : Nat) : Prop := (1 ≤ S ∧ S ≤ 8 ∧ R ≤ 9) ∧ all 1 = nI S ∧ bnd all ∧ (∃ Q, 1 ≤ Q ∧ Q ≤ 9 ∧ all 2 = nI Q) ∧ (∀ p, p < 9 → vb (all (25 + p)) 11 ∧ (R ≤ p → all (25 + p) = 0)) ∧ (∀ p, p < 9 → (all (34 + p) = -1 ∨ vb (all (34 + p)) 1000) ∧ (R ≤ p → all (34 + p) = -1)) ∧ mts all R ∧ lw2 all
/-- what deeds change -/
def IV (all : Nat → Int32) (S R P : Nat) : Prop := (R ≤ P ∧ P ≤ 9) ∧ all 52 = nI P ∧ all 53 = nI (nT all) ∧ nT all < 2 ^ P ∧ (∀ p, p < P → vb (all (57 + p)) S) ∧ (∀ p, p < P → vb (all (66 + p)) 100) ∧ (∃ e Q, e ≤ Q ∧ Q ≤ 9 ∧ all 55 = nI e ∧ all 2 = nI Q) ∧ vb (all 56) 100000 ∧ (∀ k, k < 8 → vb (all (84 + k)) 100 ∧ (S ≤ k → all (84 + k) = 0)) ∧ (m_sum all 84 S 0 0).toInt ≤ 99 ∧ (all 54 = 0 ∨ all 54 = 1)
def IS (all : Nat → Int32) (S R P : Nat) : Prop := IT all S R ∧ IV all S R P
abbrev AD (a pl q : Nat) : Prop := (12 ≤ a ∧ a + 4 < 112) ∧ (pl + 9 < 12 ∨ 189 ≤ pl) ∧ 112 ≤ q ∧ q + 6 < 171
def PR (all : Nat → Int32) (S : Nat) (v : Nat → Int32) (r : Nat → Nat → Int32) (C : Nat) : Prop := (v 0 = all 1 ∧ v 10 = all 2 ∧ v 12 = all 0) ∧ (∀ k, k < S → r 1 k = all (9 + k)) ∧ (∀ i, i ≤ S → r 2 i = jnt all S i) ∧ (∀ p, p < 9 → r 7 p = all (25 + p)) ∧ (∀ p, p < 9 → r 8 p = all (34 + p)) ∧ (∀ p, p < 9 → r 9 p = all (43 + p)) ∧ lr all 0 C (r 13) (v 15) (v 16) ∧ lr all 1 C (r 13) (v 17) (v 18)
def CR (all : Nat → Int32) (S P : Nat) (w : Nat → Int32) (x : Nat → Nat → Int32) (v : Nat → Int32) (r : Nat → Nat → Int32) (C : Nat) : Prop := (w 1 = all 52 ∧ w 6 = all 53 ∧ w 7 = all 55 ∧ w 8 = all 56 ∧ w 9 = all 54) ∧ (∀ p, p < P → x 2 p = all (57 + p)) ∧ (∀ p, p < P → x 3 p = all (66 + p)) ∧ (∀ p, p < P → x 4 p = all (75 + p)) ∧ (∀ k, k < 8 → x 5 k = all (84 + k)) ∧ PR all S v r C
section ISS
variable {all : Nat → Int32} {S R P C : Nat} {w v : Nat → Int32} {x r : Nat → Nat → Int32}
theorem IS.s1 (I : IS all S R P) : 1 ≤ S := I.1.1.1
theorem IS.s8 (I : IS all S R P) : S ≤ 8 := I.1.1.2.1
theorem IS.p9 (I : IS all S R P) : P ≤ 9 := I.2.1.2
theorem IS.rp (I : IS all S R P) : R ≤ P := I.2.1.1
theorem IS.eS (I : IS all S R P) : all 1 = nI S := I.1.2.1
theorem IS.eP (I : IS all S R P) : all 52 = nI P := I.2.2.1
theorem IS.eT (I : IS all S R P) : all 53 = nI (nT all) := I.2.2.2.1
theorem IS.tP (I : IS all S R P) : nT all < 2 ^ P := I.2.2.2.2.1
theorem IS.t5 (I : IS all S R P) : nT all < 512 := Nat.lt_of_lt_of_le I.tP (pw9 I.p9)
theorem IS.st (I : IS all S R P) {p : Nat} (h : p < P) : vb (all (57 + p)) S := I.2.2.2.2.2.1 p h
theorem IS.bd (I : IS all S R P) {p : Nat} (h : p < P) : vb (all (66 + p)) 100 := I.2.2.2.2.2.2.1 p h
theorem IS.sn (I : IS all S R P) : ∃ e Q, e ≤ Q ∧ Q ≤ 9 ∧ all 55 = nI e ∧ all 2 = nI Q := I.2.2.2.2.2.2.2.1
theorem IS.dy (I : IS all S R P) : vb (all 56) 100000 := I.2.2.2.2.2.2.2.2.1
theorem IS.pr (I : IS all S R P) {k : Nat} (h : k < 8) : vb (all (84 + k)) 100 ∧ (S ≤ k → all (84 + k) = 0) := I.2.2.2.2.2.2.2.2.2.1 k h
theorem IS.ps (I : IS all S R P) : (m_sum all 84 S 0 0).toInt ≤ 99 := I.2.2.2.2.2.2.2.2.2.2.1
theorem IS.fl (I : IS all S R P) : all 54 = 0 ∨ all 54 = 1 := I.2.2.2.2.2.2.2.2.2.2.2
theorem IS.bn (I : IS all S R P) : bnd all := I.1.2.2.1
theorem IS.fr (I : IS all S R P) {p : Nat} (h : p < 9) : vb (all (25 + p)) 11 ∧ (R ≤ p → all (25 + p) = 0) := I.1.2.2.2.2.1 p h
theorem IS.bY (I : IS all S R P) {p : Nat} (h : p < 9) : (all (34 + p) = -1 ∨ vb (all (34 + p)) 1000) ∧ (R ≤ p → all (34 + p) = -1) := I.1.2.2.2.2.2.1 p h
theorem IS.mt (I : IS all S R P) : mts all R := I.1.2.2.2.2.2.2.1
theorem IS.lw (I : IS all S R P) : lw2 all := I.1.2.2.2.2.2.2.2
theorem IS.m9 (I : IS all S R P) {p : Nat} (h : p < 9) : all (43 + p) = -1 ∨ ∃ j, j < 9 ∧ all (43 + p) = nI j := by
  rcases I.mt p h with z | ⟨j, b1, b2, b3, b4, b5⟩
  · exact Or.inl z
  · exact Or.inr ⟨j, by have := I.1.1.2.2; omega, b4⟩
theorem IS.WF (I : IS all S R P) : WF all S P := by
  refine ⟨⟨I.eS, I.s1, I.s8, I.eP, I.p9, fun p hp => ?_, fun p hp => I.m9 hp, fun l hl => ?_⟩, I.eT, I.tP⟩
  · obtain ⟨s, h1, h2⟩ := I.st hp; exact ⟨s, h1, h2⟩
  · rcases I.lw l hl with z | ⟨b1, F, M, b2, b3, b4, b5⟩
    · exact Or.inl z
    · exact Or.inr ⟨b1, F, M, b2, b3, b4, ty_vd M 0 [] b5⟩
theorem IS.FR (I : IS all S R P) : FR all := fun p hp => by
  obtain ⟨r, h1, h2⟩ := (I.fr hp).1
  exact ⟨r, by omega, h2⟩
theorem CR.w1 (G : CR all S P w x v r C) : w 1 = all 52 := G.1.1
theorem CR.w6 (G : CR all S P w x v r C) : w 6 = all 53 := G.1.2.1
theorem CR.w7 (G : CR all S P w x v r C) : w 7 = all 55 := G.1.2.2.1
theorem CR.w8 (G : CR all S P w x v r C) : w 8 = all 56 := G.1.2.2.2.1
theorem CR.w9 (G : CR all S P w x v r C) : w 9 = all 54 := G.1.2.2.2.2
theorem CR.x2 (G : CR all S P w x v r C) {p : Nat} (h : p < P) : x 2 p = all (57 + p) := G.2.1 p h
theorem CR.x3 (G : CR all S P w x v r C) {p : Nat} (h : p < P) : x 3 p = all (66 + p) := G.2.2.1 p h
theorem CR.x4 (G : CR all S P w x v r C) {p : Nat} (h : p < P) : x 4 p = all (75 + p) := G.2.2.2.1 p h
theorem CR.x5 (G : CR all S P w x v r C) {k : Nat} (h : k < 8) : x 5 k = all (84 + k) := G.2.2.2.2.1 k h
theorem CR.pr (G : CR all S P w x v r C) : PR all S v r C := G.2.2.2.2.2
theorem CR.v0 (G : CR all S P w x v r C) : v 0 = all 1 := G.pr.1.1
theorem CR.v10 (G : CR all S P w x v r C) : v 10 = all 2 := G.pr.1.2.1
theorem CR.v12 (G : CR all S P w x v r C) : v 12 = all 0 := G.pr.1.2.2
theorem CR.ld (G : CR all S P w x v r C) {k : Nat} (h : k < S) : r 1 k = all (9 + k) := G.pr.2.1 k h
theorem CR.jt (G : CR all S P w x v r C) {k : Nat} (h : k ≤ S) : r 2 k = jnt all S k := G.pr.2.2.1 k h
theorem CR.r7 (G : CR all S P w x v r C) {p : Nat} (h : p < 9) : r 7 p = all (25 + p) := G.pr.2.2.2.1 p h
theorem CR.r8 (G : CR all S P w x v r C) {p : Nat} (h : p < 9) : r 8 p = all (34 + p) := G.pr.2.2.2.2.1 p h
theorem CR.r9 (G : CR all S P w x v r C) {p : Nat} (h : p < 9) : r 9 p = all (43 + p) := G.pr.2.2.2.2.2.1 p h
theorem CR.l0 (G : CR all S P w x v r C) : lr all 0 C (r 13) (v 15) (v 16) := G.pr.2.2.2.2.2.2.1
theorem CR.l1 (G : CR all S P w x v r C) : lr all 1 C (r 13) (v 17) (v 18) := G.pr.2.2.2.2.2.2.2
end ISS
/-- words that differ in the last alone -/
theorem lit_w {wt : Bool} {cs u w : Nat → Int32} (hw : ∀ i, i < (if wt = true then 7 else 6) → u i = w i) {st2 : List Bool} : ∀ (m k : Nat) (ts : List Bool) (st : List Int32), tyr wt cs m k ts = some st2 → l_it u cs m k st = l_it w cs m k st := by
  intro m
  induction m with
  | zero => intro k ts st _; rfl
  | succ m ih =>
    intro k ts st h
    rw [tyr] at h
    cases hq : ty1 wt (cs k) ts with
    | none => rw [hq] at h; cases h
    | some ts1 =>
      rw [hq] at h
      rw [l_it, l_it]
      have e : l_st u (cs k) st = l_st w (cs k) st := by
        unfold l_st
        by_cases h3 : cs k < 3000
        · rw [if_pos h3, if_pos h3]
          by_cases h1 : cs k < 1000
          · rw [if_pos h1, if_pos h1]
          · rw [if_neg h1, if_neg h1]
            have hc : 0 ≤ (cs k).toInt ∧ (cs k).toInt < (if wt = true then 1007 else 1006) := by
              rw [Int32.lt_iff_toInt_lt, show (3000 : Int32).toInt = 3000 by decide] at h3
              have t : ∀ z : Int32, 3000 ≤ z.toInt → ¬ cs k = z := fun z hz he => by rw [he] at h3; omega
              rcases ty1_inv hq with ⟨g1, g2, -, -⟩ | ⟨hc, -⟩ | ⟨hc, -⟩ | ⟨hc, -⟩ | ⟨hc, -⟩
              · exact ⟨g1, g2⟩
              · exact absurd hc (t _ (by decide))
              · rcases hc with z | z | z <;> exact absurd z (t _ (by decide))
              · rcases hc with z | z | z <;> exact absurd z (t _ (by decide))
              · rcases hc with z | z <;> exact absurd z (t _ (by decide))
            have h7 : (cs k).toInt < 1007 := ty_7 hc.2
            obtain ⟨n, hn, hcn, hni⟩ := i9 (v := cs k) (N := 1007) hc.1 h7 (by omega)
            have h1' : 1000 ≤ n := by
              rw [hcn, show (1000 : Int32) = nI 1000 from rfl, ix_lt (by omega) (by omega)] at h1
              omega
            rw [hcn, show (1000 : Int32) = nI 1000 from rfl, pk_sub (by omega), ix_cl (by omega), hw (n - 1000) ?_]
            have := hc.2
            split at this
            · next hb => rw [if_pos hb]; omega
            · next hb => rw [if_neg hb]; omega
        · rw [if_neg h3, if_neg h3]
      rw [e]
      exact ih (k + 1) ts1 _ h
theorem c_str_cg {all all' : Nat → Int32} (h : ∀ i, (i = 3 ∨ i = 5 ∨ i = 7 ∨ 494 ≤ i) → all' i = all i) {who build age step day wed : Int32} : c_str all' who build age step day wed = c_str all who build age step day wed := by
  unfold c_str c_law
  rw [h 3 (by omega), show all' (5 + 0) = all (5 + 0) from h 5 (by omega), show all' (7 + 0) = all (7 + 0) from h 7 (by omega)]
  have : (fun i => all' (494 + (all (5 + 0)).toNatClampNeg + i)) = fun i => all (494 + (all (5 + 0)).toNatClampNeg + i) := by
    funext i; exact h _ (by omega)
  rw [this]
/-- what one bears, in the class's words -/
theorem bears_str {all : Nat → Int32} {p T : Nat} (hl : lw2 all) (hb : vb (all (66 + p)) 100) : m_bears all p T = c_str all (nI p) (all (66 + p)) (all 56 - all (75 + p)) (all (57 + p)) (all 56) (m_wed all p T) := by
  unfold m_bears c_str
  rcases hl 0 (by omega) with h0 | ⟨h1, F, M, h5, h7, hFM, hty⟩
  · have h0 : all 3 = 0 := h0
    rw [if_pos h0, if_pos h0]
    obtain ⟨b, hb1, hb2⟩ := hb
    rw [hb2]
    unfold m_clip
    rw [if_neg (nI_pos (by omega)), if_neg]
    rw [show (999 : Int32) = nI 999 from rfl, ix_lt (by omega) (by omega)]
    omega
  · have h01 : ¬ all 3 = 0 := by
      have : all 3 = 1 := h1
      rw [this]; decide
    rw [if_neg h01, if_neg h01]
    congr 1
    unfold l_law c_law
    rw [show all (5 + 0) = nI F from h5, show all (7 + 0) = nI M from h7, ix_cl (by omega), ix_cl (by omega)]
    rw [lit_w (wt := false) (cs := fun i => all (494 + F + i)) (u := m_words all p (m_wed all p T)) (w := c_words (nI p) (all (66 + p)) (all 56 - all (75 + p)) (all (57 + p)) (all 56) (m_wed all p T) 0) ?_ M 0 [] [] hty]
    intro i hi
    have hi : i < 6 := hi
    rcases (show i = 0 ∨ i = 1 ∨ i = 2 ∨ i = 3 ∨ i = 4 ∨ i = 5 by omega) with rfl | rfl | rfl | rfl | rfl | rfl <;> simp [m_words, c_words]
theorem clip_b {z : Int32} : 0 ≤ (m_clip z).toInt ∧ (m_clip z).toInt ≤ 999 := by
  unfold m_clip
  have e0 : (0 : Int32).toInt = 0 := by decide
  have e9 : (999 : Int32).toInt = 999 := by decide
  split
  · rw [e0]; omega
  · next h1 =>
    split
    · rw [e9]; omega
    · next h2 =>
      rw [Int32.lt_iff_toInt_lt, e0] at h1
      rw [Int32.lt_iff_toInt_lt, e9] at h2
      omega
theorem bears_b {all : Nat → Int32} {p T : Nat} : 0 ≤ (m_bears all p T).toInt ∧ (m_bears all p T).toInt ≤ 999 := clip_b
theorem bo_b {all : Nat → Int32} {T : Nat} (hp : ∀ k, k < 8 → vb (all (84 + k)) 100) : ∀ p k, p ≤ 9 → k < 8 → 0 ≤ (m_bo all T p k).toInt ∧ (m_bo all T p k).toInt ≤ 990 + 999 * (p : Int) := by
  intro p
  induction p with
  | zero =>
    intro k _ hk
    obtain ⟨v, h1, h2⟩ := hp k hk
    show 0 ≤ (10 * all (84 + k)).toInt ∧ (10 * all (84 + k)).toInt ≤ _
    rw [h2, lit_nI 10, pk_mul, nI_toInt (by omega)]
    omega
  | succ p ih =>
    intro k hp9 hk
    have h1 := ih k (by omega) hk
    rw [m_bo]
    split
    · by_cases hh : k = (all (57 + p)).toNatClampNeg
      · subst hh
        rw [upd_eq]
        have hb := bears_b (all := all) (p := p) (T := T)
        rw [t_add (by omega) (by omega)]
        push_cast
        omega
      · rw [upd_ne hh]; push_cast; omega
    · push_cast; omega
theorem sp_of {all jt ld ro : Nat → Int32} {S P T : Nat} (hb : bnd all) (hp : ∀ k, k < 8 → vb (all (84 + k)) 100) (hP : P ≤ 9) (hS1 : 1 ≤ S) (hS : S ≤ 8) (hj : ∀ i, i ≤ S → jt i = jnt all S i) (hl : ∀ k, k < S → ld k = all (9 + k)) (hr : ∀ k, k < S → ro k = m_bo all T P k) : (k_sl jt ld ro S).2.2 = m_sp all S P T := by
  refine slack_spare hb (fun k hk => ?_) hS1 hS hj hl hr
  have h1 := bo_b hp P k hP (show k < 8 by omega) (T := T)
  have h2 := hb.1 k (by omega)
  unfold gI
  have : (P : Int) ≤ 9 := by omega
  omega

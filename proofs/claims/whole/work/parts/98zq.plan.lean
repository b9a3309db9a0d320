/-! the class's plan stands for what the reference has read -/
def lw1 (fr v : Nat → Int32) (law i j : Nat) : Prop := (fr (3 + law) = 0 ∧ v i = -1) ∨ (fr (3 + law) = 1 ∧ ∃ F M, fr (5 + law) = nI F ∧ fr (7 + law) = nI M ∧ v i = nI F ∧ v j = nI (F + M))
theorem lw1.cg {fr v fr' v' : Nat → Int32} {law i j : Nat} (h : lw1 fr v law i j) (h1 : fr' (3 + law) = fr (3 + law)) (h2 : fr' (5 + law) = fr (5 + law)) (h3 : fr' (7 + law) = fr (7 + law)) (h4 : v' i = v i) (h5 : v' j = v j) : lw1 fr' v' law i j := by
  unfold lw1; rw [h1, h2, h3, h4, h5]; exact h
def PN (S A n : Nat) (fr ag v : Nat → Int32) (r : Nat → Nat → Int32) : Prop := (S ≤ 8 ∧ A ≤ 9) ∧ (v 0 = fr 1 ∧ v 3 = fr 52 ∧ v 10 = fr 2 ∧ v 11 = fr 56 ∧ v 12 = fr 0) ∧ CD fr v r n ∧ (∀ k, k < S → r 1 k = fr (9 + k)) ∧ (r 2 0 = 0 ∧ (∀ k, k < 8 → r 2 (k + 1) = fr (17 + k)) ∧ ∀ k, S ≤ k + 1 → k < 8 → fr (17 + k) = 0) ∧ (∀ p, p < A → r 4 p = fr (57 + p) ∧ r 5 p = fr (66 + p) ∧ r 6 p = ag p) ∧ (∀ p, A ≤ p → p < 9 → r 6 p = 0) ∧ (∀ p, p < 9 → r 7 p = fr (25 + p) ∧ r 8 p = fr (34 + p) ∧ r 9 p = fr (43 + p)) ∧ lw1 fr v 0 15 16 ∧ lw1 fr v 1 17 18
section PNS
variable {S A n i j q R : Nat} {fr ag v fr' v' : Nat → Int32} {r r' : Nat → Nat → Int32} {x y : Int32}
theorem CD.cg (h : CD fr v r n) (hf : ∀ i, 493 ≤ i → fr' i = fr i) (h1 : v' 14 = v 14) (h2 : r' 13 = r 13) : CD fr' v' r' n := by
  obtain ⟨a, ⟨b1, b2⟩, c⟩ := h
  exact ⟨by rw [h1]; exact a, ⟨by rw [hf 493 (by omega)]; exact b1, b2⟩, fun i hi => by rw [h2, hf _ (by omega)]; exact c i hi⟩
theorem PN.joint (h : PN S A n fr ag v r) (hq : q + 1 < S) : PN S A n (upd fr (17 + q) x) ag v (up2 r 2 (upd (r 2) (q + 1) x)) := by
  obtain ⟨⟨z1, z2⟩, ⟨a1, a2, a3, a4, a5⟩, b, c, ⟨d1, d2, d3⟩, e, e', g, l0, l1⟩ := h
  refine ⟨⟨z1, z2⟩, ⟨?_, ?_, ?_, ?_, ?_⟩, b.cg (fun i hi => upd_ne (by omega)) rfl (up2_ne (by decide)), fun k hk => ?_, ⟨?_, fun k hk => ?_, fun k hk hk2 => ?_⟩, fun p hp => ?_, fun p hp hp2 => ?_, fun p hp => ?_, ?_, ?_⟩
  · rw [upd_ne (by omega)]; exact a1
  · rw [upd_ne (by omega)]; exact a2
  · rw [upd_ne (by omega)]; exact a3
  · rw [upd_ne (by omega)]; exact a4
  · rw [upd_ne (by omega)]; exact a5
  · rw [up2_ne (by decide), upd_ne (by omega)]; exact c k hk
  · rw [up2_eq, upd_ne (by omega)]; exact d1
  · rw [up2_eq]
    by_cases hkq : k = q
    · subst hkq; rw [upd_eq, upd_eq]
    · rw [upd_ne (by omega), upd_ne (by omega)]; exact d2 k hk
  · rw [upd_ne (by omega)]; exact d3 k hk hk2
  · rw [up2_ne (by decide), up2_ne (by decide), up2_ne (by decide), upd_ne (by omega), upd_ne (by omega)]; exact e p hp
  · rw [up2_ne (by decide)]; exact e' p hp hp2
  · rw [up2_ne (by decide), up2_ne (by decide), up2_ne (by decide), upd_ne (by omega), upd_ne (by omega), upd_ne (by omega)]; exact g p hp
  · exact l0.cg (upd_ne (by omega)) (upd_ne (by omega)) (upd_ne (by omega)) rfl rfl
  · exact l1.cg (upd_ne (by omega)) (upd_ne (by omega)) (upd_ne (by omega)) rfl rfl
/-- a number told alone: lines, quota, day, people -/
theorem PN.one (h : PN S A n fr ag v r) (hi : (i = 0 ∧ j = 12) ∨ (i = 2 ∧ j = 10) ∨ (i = 56 ∧ j = 11) ∨ (i = 52 ∧ j = 3)) : PN S A n (upd fr i x) ag (upd v j x) r := by
  obtain ⟨⟨z1, z2⟩, ⟨a1, a2, a3, a4, a5⟩, b, c, ⟨d1, d2, d3⟩, e, e', g, l0, l1⟩ := h
  have hF : ∀ k, k ≠ 0 → k ≠ 2 → k ≠ 56 → k ≠ 52 → upd fr i x k = fr k := fun k p1 p2 p3 p4 => upd_ne (by omega)
  have hV : ∀ k, k ≠ 12 → k ≠ 10 → k ≠ 11 → k ≠ 3 → upd v j x k = v k := fun k p1 p2 p3 p4 => upd_ne (by omega)
  refine ⟨⟨z1, z2⟩, ⟨?_, ?_, ?_, ?_, ?_⟩, b.cg (fun i hi => hF i (by omega) (by omega) (by omega) (by omega)) (hV 14 (by omega) (by omega) (by omega) (by omega)) rfl, fun k hk => ?_, ⟨d1, fun k hk => ?_, fun k hk hk2 => ?_⟩, fun p hp => ?_, e', fun p hp => ?_, ?_, ?_⟩
  · rw [hF 1 (by omega) (by omega) (by omega) (by omega), hV 0 (by omega) (by omega) (by omega) (by omega)]; exact a1
  · rcases hi with ⟨rfl, rfl⟩ | ⟨rfl, rfl⟩ | ⟨rfl, rfl⟩ | ⟨rfl, rfl⟩
    · rw [upd_ne (by omega), upd_ne (by omega)]; exact a2
    · rw [upd_ne (by omega), upd_ne (by omega)]; exact a2
    · rw [upd_ne (by omega), upd_ne (by omega)]; exact a2
    · rw [upd_eq, upd_eq]
  · rcases hi with ⟨rfl, rfl⟩ | ⟨rfl, rfl⟩ | ⟨rfl, rfl⟩ | ⟨rfl, rfl⟩
    · rw [upd_ne (by omega), upd_ne (by omega)]; exact a3
    · rw [upd_eq, upd_eq]
    · rw [upd_ne (by omega), upd_ne (by omega)]; exact a3
    · rw [upd_ne (by omega), upd_ne (by omega)]; exact a3
  · rcases hi with ⟨rfl, rfl⟩ | ⟨rfl, rfl⟩ | ⟨rfl, rfl⟩ | ⟨rfl, rfl⟩
    · rw [upd_ne (by omega), upd_ne (by omega)]; exact a4
    · rw [upd_ne (by omega), upd_ne (by omega)]; exact a4
    · rw [upd_eq, upd_eq]
    · rw [upd_ne (by omega), upd_ne (by omega)]; exact a4
  · rcases hi with ⟨rfl, rfl⟩ | ⟨rfl, rfl⟩ | ⟨rfl, rfl⟩ | ⟨rfl, rfl⟩
    · rw [upd_eq, upd_eq]
    · rw [upd_ne (by omega), upd_ne (by omega)]; exact a5
    · rw [upd_ne (by omega), upd_ne (by omega)]; exact a5
    · rw [upd_ne (by omega), upd_ne (by omega)]; exact a5
  · rw [hF _ (by omega) (by omega) (by omega) (by omega)]; exact c k hk
  · rw [hF _ (by omega) (by omega) (by omega) (by omega)]; exact d2 k hk
  · rw [hF _ (by omega) (by omega) (by omega) (by omega)]; exact d3 k hk hk2
  · rw [hF _ (by omega) (by omega) (by omega) (by omega), hF _ (by omega) (by omega) (by omega) (by omega)]; exact e p hp
  · rw [hF _ (by omega) (by omega) (by omega) (by omega), hF _ (by omega) (by omega) (by omega) (by omega), hF _ (by omega) (by omega) (by omega) (by omega)]; exact g p hp
  · exact l0.cg (hF _ (by omega) (by omega) (by omega) (by omega)) (hF _ (by omega) (by omega) (by omega) (by omega)) (hF _ (by omega) (by omega) (by omega) (by omega)) (hV _ (by omega) (by omega) (by omega) (by omega)) (hV _ (by omega) (by omega) (by omega) (by omega))
  · exact l1.cg (hF _ (by omega) (by omega) (by omega) (by omega)) (hF _ (by omega) (by omega) (by omega) (by omega)) (hF _ (by omega) (by omega) (by omega) (by omega)) (hV _ (by omega) (by omega) (by omega) (by omega)) (hV _ (by omega) (by omega) (by omega) (by omega))
/-- a row of people: frailty, days, couples -/
theorem PN.row {m i0 p0 : Nat} (h : PN S A n fr ag v r) (hp0 : p0 < 9) (hm : (i0 = 25 ∧ m = 7) ∨ (i0 = 34 ∧ m = 8) ∨ (i0 = 43 ∧ m = 9)) : PN S A n (upd fr (i0 + p0) x) ag v (up2 r m (upd (r m) p0 x)) := by
  obtain ⟨⟨z1, z2⟩, ⟨a1, a2, a3, a4, a5⟩, b, c, ⟨d1, d2, d3⟩, e, e', g, l0, l1⟩ := h
  have hF : ∀ k, k < 25 ∨ 52 ≤ k → upd fr (i0 + p0) x k = fr k := fun k p => upd_ne (by omega)
  have hR : ∀ k, k ≠ 7 → k ≠ 8 → k ≠ 9 → up2 r m (upd (r m) p0 x) k = r k := fun k p1 p2 p3 => up2_ne (by omega)
  refine ⟨⟨z1, z2⟩, ⟨?_, ?_, ?_, ?_, ?_⟩, b.cg (fun i hi => hF i (by omega)) rfl (hR 13 (by omega) (by omega) (by omega)), fun k hk => ?_, ⟨?_, fun k hk => ?_, fun k hk hk2 => ?_⟩, fun p hp => ?_, fun p hp hp2 => ?_, fun p hp => ?_, ?_, ?_⟩
  · rw [hF _ (by omega)]; exact a1
  · rw [hF _ (by omega)]; exact a2
  · rw [hF _ (by omega)]; exact a3
  · rw [hF _ (by omega)]; exact a4
  · rw [hF _ (by omega)]; exact a5
  · rw [hF _ (by omega), hR 1 (by omega) (by omega) (by omega)]; exact c k hk
  · rw [hR 2 (by omega) (by omega) (by omega)]; exact d1
  · rw [hF _ (by omega), hR 2 (by omega) (by omega) (by omega)]; exact d2 k hk
  · rw [hF _ (by omega)]; exact d3 k hk hk2
  · rw [hR 4 (by omega) (by omega) (by omega), hR 5 (by omega) (by omega) (by omega), hR 6 (by omega) (by omega) (by omega), hF _ (by omega), hF _ (by omega)]; exact e p hp
  · rw [hR 6 (by omega) (by omega) (by omega)]; exact e' p hp hp2
  · obtain ⟨g1, g2, g3⟩ := g p hp
    rcases hm with ⟨rfl, rfl⟩ | ⟨rfl, rfl⟩ | ⟨rfl, rfl⟩
    · refine ⟨?_, by rw [up2_ne (by decide), upd_ne (by omega)]; exact g2, by rw [up2_ne (by decide), upd_ne (by omega)]; exact g3⟩
      rw [up2_eq]
      by_cases hpp : p = p0
      · subst hpp; rw [upd_eq, upd_eq]
      · rw [upd_ne hpp, upd_ne (by omega)]; exact g1
    · refine ⟨by rw [up2_ne (by decide), upd_ne (by omega)]; exact g1, ?_, by rw [up2_ne (by decide), upd_ne (by omega)]; exact g3⟩
      rw [up2_eq]
      by_cases hpp : p = p0
      · subst hpp; rw [upd_eq, upd_eq]
      · rw [upd_ne hpp, upd_ne (by omega)]; exact g2
    · refine ⟨by rw [up2_ne (by decide), upd_ne (by omega)]; exact g1, by rw [up2_ne (by decide), upd_ne (by omega)]; exact g2, ?_⟩
      rw [up2_eq]
      by_cases hpp : p = p0
      · subst hpp; rw [upd_eq, upd_eq]
      · rw [upd_ne hpp, upd_ne (by omega)]; exact g3
  · exact l0.cg (hF _ (by omega)) (hF _ (by omega)) (hF _ (by omega)) rfl rfl
  · exact l1.cg (hF _ (by omega)) (hF _ (by omega)) (hF _ (by omega)) rfl rfl
theorem PN.age (h : PN S (R + 1) n fr ag v r) : PN S (R + 1) n fr (upd ag R x) v (up2 r 6 (upd (r 6) R x)) := by
  obtain ⟨⟨z1, z2⟩, a, b, c, ⟨d1, d2, d3⟩, e, e', g, l0, l1⟩ := h
  refine ⟨⟨z1, z2⟩, a, b.cg (fun _ _ => rfl) rfl (up2_ne (by decide)), fun k hk => by rw [up2_ne (by decide)]; exact c k hk, ⟨by rw [up2_ne (by decide)]; exact d1, fun k hk => by rw [up2_ne (by decide)]; exact d2 k hk, d3⟩, fun p hp => ?_, fun p hp hp2 => ?_, fun p hp => ?_, l0, l1⟩
  · obtain ⟨e1, e2, e3⟩ := e p hp
    refine ⟨by rw [up2_ne (by decide)]; exact e1, by rw [up2_ne (by decide)]; exact e2, ?_⟩
    rw [up2_eq]
    by_cases hpp : p = R
    · subst hpp; rw [upd_eq, upd_eq]
    · rw [upd_ne hpp, upd_ne hpp]; exact e3
  · rw [up2_eq, upd_ne (by omega)]; exact e' p hp hp2
  · rw [up2_ne (by decide), up2_ne (by decide), up2_ne (by decide)]; exact g p hp
theorem PN.person (h : PN S R n fr ag v r) (hR : R < 9) : PN S (R + 1) n (upd (upd fr (57 + R) x) (66 + R) y) (upd ag R 0) v (up2 (up2 r 4 (upd (r 4) R x)) 5 (upd (r 5) R y)) := by
  obtain ⟨⟨z1, z2⟩, ⟨a1, a2, a3, a4, a5⟩, b, c, ⟨d1, d2, d3⟩, e, e', g, l0, l1⟩ := h
  have hF : ∀ k, k < 57 ∨ 75 ≤ k → upd (upd fr (57 + R) x) (66 + R) y k = fr k := fun k p => by rw [upd_ne (by omega), upd_ne (by omega)]
  have hQ : ∀ k, k ≠ 4 → k ≠ 5 → up2 (up2 r 4 (upd (r 4) R x)) 5 (upd (r 5) R y) k = r k := fun k p1 p2 => by rw [up2_ne p2, up2_ne p1]
  refine ⟨⟨z1, hR⟩, ⟨?_, ?_, ?_, ?_, ?_⟩, b.cg (fun i hi => hF i (by omega)) rfl (hQ 13 (by omega) (by omega)), fun k hk => ?_, ⟨?_, fun k hk => ?_, fun k hk hk2 => ?_⟩, fun p hp => ?_, fun p hp hp2 => ?_, fun p hp => ?_, ?_, ?_⟩
  · rw [hF _ (by omega)]; exact a1
  · rw [hF _ (by omega)]; exact a2
  · rw [hF _ (by omega)]; exact a3
  · rw [hF _ (by omega)]; exact a4
  · rw [hF _ (by omega)]; exact a5
  · rw [hF _ (by omega), hQ 1 (by omega) (by omega)]; exact c k hk
  · rw [hQ 2 (by omega) (by omega)]; exact d1
  · rw [hF _ (by omega), hQ 2 (by omega) (by omega)]; exact d2 k hk
  · rw [hF _ (by omega)]; exact d3 k hk hk2
  · rw [hQ 6 (by omega) (by omega), up2_ne (show 4 ≠ 5 by decide), up2_eq, up2_eq]
    by_cases hpp : p = R
    · subst hpp
      rw [upd_eq, upd_eq, upd_ne (by omega), upd_eq, upd_eq, upd_eq]
      exact ⟨rfl, rfl, e' p (Nat.le_refl _) hR⟩
    · obtain ⟨e1, e2, e3⟩ := e p (by omega)
      rw [upd_ne hpp, upd_ne hpp, upd_ne hpp, upd_ne (show 57 + p ≠ 66 + R by omega), upd_ne (show 57 + p ≠ 57 + R by omega), upd_ne (show 66 + p ≠ 66 + R by omega), upd_ne (show 66 + p ≠ 57 + R by omega)]
      exact ⟨e1, e2, e3⟩
  · rw [hQ 6 (by omega) (by omega)]; exact e' p (by omega) hp2
  · rw [hQ 7 (by omega) (by omega), hQ 8 (by omega) (by omega), hQ 9 (by omega) (by omega), hF _ (by omega), hF _ (by omega), hF _ (by omega)]; exact g p hp
  · exact l0.cg (hF _ (by omega)) (hF _ (by omega)) (hF _ (by omega)) rfl rfl
  · exact l1.cg (hF _ (by omega)) (hF _ (by omega)) (hF _ (by omega)) rfl rfl
theorem nI_subN {a b : Nat} (h : b ≤ a) (ha : a < 2147483648) : nI a - nI b = nI (a - b) := by
  have : nI a = nI (a - b) + nI b := by rw [nI_add]; exact congrArg nI (by omega)
  rw [this, Int32.add_sub_cancel]
/-- a law is read -/
theorem PN.law {law n3 : Nat} {fr3 v3 : Nat → Int32} {r3 : Nat → Nat → Int32} (h : PN S A n fr ag v r) (hl : law < 2) (hlo : ∀ i, i < 493 → fr3 i = fr i) (C3 : CD fr3 v3 r3 n3) (hn : n ≤ n3) (hn9 : n3 ≤ 900) (o : VO (upd v (15 + 2 * law) (nI n)) v3 r r3) : PN S A n3 (l_end fr3 law n) ag (upd v3 (16 + 2 * law) (nI n3)) r3 := by
  obtain ⟨⟨z1, z2⟩, ⟨a1, a2, a3, a4, a5⟩, b, c, ⟨d1, d2, d3⟩, e, e', g, l0, l1⟩ := h
  have h493 : fr3 493 - nI n = nI (n3 - n) := by rw [C3.2.1.1, nI_subN hn (by omega)]
  have hF : ∀ k, k < 3 ∨ (9 ≤ k ∧ k < 493) → l_end fr3 law n k = fr k := fun k p => by
    unfold l_end
    rw [upd_ne (by omega), upd_ne (by omega), upd_ne (by omega)]; exact hlo k (by omega)
  have hV : ∀ k, k < 14 → upd v3 (16 + 2 * law) (nI n3) k = v k := fun k p => by
    rw [upd_ne (by omega), o.1 k (by omega), upd_ne (by omega)]
  have hQ : ∀ k, k ≠ 13 → r3 k = r k := o.2
  refine ⟨⟨z1, z2⟩, ⟨?_, ?_, ?_, ?_, ?_⟩, C3.cg (fun i hi => ?_) (upd_ne (by omega)) rfl, fun k hk => ?_, ⟨?_, fun k hk => ?_, fun k hk hk2 => ?_⟩, fun p hp => ?_, fun p hp hp2 => ?_, fun p hp => ?_, ?_, ?_⟩
  · rw [hF _ (by omega), hV _ (by omega)]; exact a1
  · rw [hF _ (by omega), hV _ (by omega)]; exact a2
  · rw [hF _ (by omega), hV _ (by omega)]; exact a3
  · rw [hF _ (by omega), hV _ (by omega)]; exact a4
  · rw [hF _ (by omega), hV _ (by omega)]; exact a5
  · unfold l_end; rw [upd_ne (by omega), upd_ne (by omega), upd_ne (by omega)]
  · rw [hF _ (by omega), hQ 1 (by omega)]; exact c k hk
  · rw [hQ 2 (by omega)]; exact d1
  · rw [hF _ (by omega), hQ 2 (by omega)]; exact d2 k hk
  · rw [hF _ (by omega)]; exact d3 k hk hk2
  · rw [hF _ (by omega), hF _ (by omega), hQ 4 (by omega), hQ 5 (by omega), hQ 6 (by omega)]; exact e p hp
  · rw [hQ 6 (by omega)]; exact e' p hp hp2
  · rw [hF _ (by omega), hF _ (by omega), hF _ (by omega), hQ 7 (by omega), hQ 8 (by omega), hQ 9 (by omega)]; exact g p hp
  · rcases (show law = 0 ∨ law = 1 by omega) with rfl | rfl
    · refine Or.inr ⟨?_, n, n3 - n, ?_, ?_, ?_, ?_⟩
      · unfold l_end; rw [upd_ne (by omega), upd_ne (by omega), upd_eq]
      · unfold l_end; rw [upd_ne (by omega), upd_eq]
      · unfold l_end; rw [upd_eq]; exact h493
      · rw [upd_ne (by omega), o.1 15 (by omega), upd_eq]
      · rw [upd_eq]; exact congrArg nI (by omega)
    · refine l0.cg ?_ ?_ ?_ ?_ ?_
      · unfold l_end; rw [upd_ne (by omega), upd_ne (by omega), upd_ne (by omega)]; exact hlo _ (by omega)
      · unfold l_end; rw [upd_ne (by omega), upd_ne (by omega), upd_ne (by omega)]; exact hlo _ (by omega)
      · unfold l_end; rw [upd_ne (by omega), upd_ne (by omega), upd_ne (by omega)]; exact hlo _ (by omega)
      · rw [upd_ne (by omega), o.1 15 (by omega), upd_ne (by omega)]
      · rw [upd_ne (by omega), o.1 16 (by omega), upd_ne (by omega)]
  · rcases (show law = 0 ∨ law = 1 by omega) with rfl | rfl
    · refine l1.cg ?_ ?_ ?_ ?_ ?_
      · unfold l_end; rw [upd_ne (by omega), upd_ne (by omega), upd_ne (by omega)]; exact hlo _ (by omega)
      · unfold l_end; rw [upd_ne (by omega), upd_ne (by omega), upd_ne (by omega)]; exact hlo _ (by omega)
      · unfold l_end; rw [upd_ne (by omega), upd_ne (by omega), upd_ne (by omega)]; exact hlo _ (by omega)
      · rw [upd_ne (by omega), o.1 17 (by omega), upd_ne (by omega)]
      · rw [upd_ne (by omega), o.1 18 (by omega), upd_ne (by omega)]
    · refine Or.inr ⟨?_, n, n3 - n, ?_, ?_, ?_, ?_⟩
      · unfold l_end; rw [upd_ne (by omega), upd_ne (by omega), upd_eq]
      · unfold l_end; rw [upd_ne (by omega), upd_eq]
      · unfold l_end; rw [upd_eq]; exact h493
      · rw [upd_ne (by omega), o.1 17 (by omega), upd_eq]
      · rw [upd_eq]; exact congrArg nI (by omega)
end PNS

/-! what is read keeps its bounds -/
def vb (x : Int32) (m : Nat) : Prop := ∃ v, v < m ∧ x = nI v
def fok (S R i : Nat) (x : Int32) : Prop :=
  (i = 2 → ∃ v, 1 ≤ v ∧ v ≤ 9 ∧ x = nI v) ∧
  ((9 ≤ i ∧ i < 25) → vb x 1000) ∧
  ((25 ≤ i ∧ i < 34) → vb x 11 ∧ (25 + R ≤ i → x = 0)) ∧
  ((34 ≤ i ∧ i < 43) → (x = -1 ∨ vb x 1000) ∧ (34 + R ≤ i → x = -1)) ∧
  ((57 ≤ i ∧ i < 57 + R) → vb x S) ∧
  ((66 ≤ i ∧ i < 66 + R) → vb x 100) ∧
  (i = 56 → vb x 1000) ∧
  ((53 ≤ i ∧ i ≤ 55) → x = 0) ∧
  ((84 ≤ i ∧ i < 93) → x = 0)
def mts (fr : Nat → Int32) (R : Nat) : Prop := ∀ p, p < 9 → fr (43 + p) = -1 ∨ ∃ j, j < R ∧ p < R ∧ j ≠ p ∧ fr (43 + p) = nI j ∧ fr (43 + j) = nI p
def lws (fr : Nat → Int32) (n : Nat) : Prop := ∀ law, law < 2 → fr (3 + law) = 0 ∨ (fr (3 + law) = 1 ∧ ∃ F M, fr (5 + law) = nI F ∧ fr (7 + law) = nI M ∧ F + M ≤ n ∧ tyr (decide (law = 1)) (fun i => fr (494 + i)) M F [] = some [decide (law = 1)])
def FK (S R n : Nat) (fr ag : Nat → Int32) : Prop := (1 ≤ S ∧ S ≤ 8 ∧ R ≤ 9) ∧ fr 1 = nI S ∧ ncs fr n ∧ (∀ i, i < 93 → fok S R i (fr i)) ∧ mts fr R ∧ (∀ p, p < R → vb (ag p) 100) ∧ lws fr n
theorem FK.up {S R n i : Nat} {fr ag : Nat → Int32} {x : Int32} (h : FK S R n fr ag) (h1 : i ≠ 1) (h2 : ¬ (3 ≤ i ∧ i ≤ 8)) (h3 : ¬ (43 ≤ i ∧ i ≤ 51)) (h4 : i < 93) (hx : fok S R i x) : FK S R n (upd fr i x) ag := by
  obtain ⟨a1, a2, a3, a4, a5, a6, a7⟩ := h
  refine ⟨a1, by rw [upd_ne (Ne.symm h1)]; exact a2, ⟨by rw [upd_ne (by omega)]; exact a3.1, a3.2⟩, ?_, ?_, a6, ?_⟩
  · intro j hj
    by_cases hji : j = i
    · subst hji; rw [upd_eq]; exact hx
    · rw [upd_ne hji]; exact a4 j hj
  · intro p hp
    rcases a5 p hp with z | ⟨j, b1, b2, b3, b4, b5⟩
    · left; rw [upd_ne (by omega)]; exact z
    · right; exact ⟨j, b1, b2, b3, by rw [upd_ne (by omega)]; exact b4, by rw [upd_ne (by omega)]; exact b5⟩
  · intro law hl
    rcases a7 law hl with z | ⟨b1, F, M, b2, b3, b4, b5⟩
    · left; rw [upd_ne (by omega)]; exact z
    · right
      refine ⟨by rw [upd_ne (by omega)]; exact b1, F, M, by rw [upd_ne (by omega)]; exact b2, by rw [upd_ne (by omega)]; exact b3, b4, ?_⟩
      rw [← b5]
      exact tyr_cg _ _ _ (fun j _ _ => upd_ne (by omega))
theorem FK.age {S R n p : Nat} {fr ag : Nat → Int32} {x : Int32} (h : FK S R n fr ag) (hx : vb x 100) : FK S R n fr (upd ag p x) := by
  obtain ⟨a1, a2, a3, a4, a5, a6, a7⟩ := h
  refine ⟨a1, a2, a3, a4, a5, fun q hq => ?_, a7⟩
  by_cases hqp : q = p
  · subst hqp; rw [upd_eq]; exact hx
  · rw [upd_ne hqp]; exact a6 q hq
theorem FK.more {S R n : Nat} {fr ag : Nat → Int32} (h : FK S R n fr ag) (hR : R < 9) (h1 : vb (fr (57 + R)) S) (h2 : vb (fr (66 + R)) 100) (h3 : vb (ag R) 100) : FK S (R + 1) n fr ag := by
  obtain ⟨a1, a2, a3, a4, a5, a6, a7⟩ := h
  refine ⟨⟨a1.1, a1.2.1, by omega⟩, a2, a3, ?_, ?_, ?_, a7⟩
  · intro i hi
    obtain ⟨b1, b2, b3, b4, b5, b6, b7, b8, b9⟩ := a4 i hi
    refine ⟨b1, b2, fun z => ⟨(b3 z).1, fun y => (b3 z).2 (by omega)⟩, fun z => ⟨(b4 z).1, fun y => (b4 z).2 (by omega)⟩, fun z => ?_, fun z => ?_, b7, b8, b9⟩
    · by_cases hh : i = 57 + R
      · subst hh; exact h1
      · exact b5 (by omega)
    · by_cases hh : i = 66 + R
      · subst hh; exact h2
      · exact b6 (by omega)
  · intro p hp
    rcases a5 p hp with z | ⟨j, c1, c2, c3, c4, c5⟩
    · exact Or.inl z
    · exact Or.inr ⟨j, by omega, by omega, c3, c4, c5⟩
  · intro p hp
    by_cases hh : p = R
    · subst hh; exact h3
    · exact a6 p (by omega)
theorem tko_v {c : Cu} {lo hi : Int} (hc : cnm c) (h : tko c lo hi = true) : ∃ v, v < 1000 ∧ c.2.2.2 = nI v ∧ lo ≤ v ∧ (v : Int) ≤ hi := by
  obtain ⟨h1, h2, h3⟩ := tko_iff.mp h
  obtain ⟨q, hq, he⟩ := hc h1
  rw [he, nI_toInt (by omega)] at h2 h3
  exact ⟨q, hq, he, h2, h3⟩
theorem flag_FK {tx : Nat → Int32} {sz S R n p : Nat} {c c' : Cu} {fr ag fr' ag' : Nat → Int32} (hp : p + 1 = R) (h : FK S R n fr ag) (hf : l_flag tx sz p c fr ag = some (.inl (c', fr', ag'))) : FK S R n fr' ag' ∧ cnm c' := by
  have hR := h.1.2.2
  unfold l_flag at hf
  split at hf
  · split at hf
    · next t =>
      cases hf
      obtain ⟨v, hv, he, -, h3⟩ := tko_v cnm_nx t
      exact ⟨h.age ⟨v, by omega, he⟩, cnm_nx⟩
    · cases hf
  · split at hf
    · split at hf
      · next t =>
        cases hf
        obtain ⟨v, hv, he, -, h3⟩ := tko_v cnm_nx t
        refine ⟨h.up (by omega) (by omega) (by omega) (by omega) ?_, cnm_nx⟩
        exact ⟨fun z => by omega, fun z => by omega, fun z => ⟨⟨v, by omega, he⟩, fun y => by omega⟩, fun z => by omega, fun z => by omega, fun z => by omega, fun z => by omega, fun z => by omega, fun z => by omega⟩
      · cases hf
    · split at hf
      · split at hf
        · next t =>
          cases hf
          obtain ⟨v, hv, he, -, h3⟩ := tko_v cnm_nx t
          refine ⟨h.up (by omega) (by omega) (by omega) (by omega) ?_, cnm_nx⟩
          exact ⟨fun z => by omega, fun z => by omega, fun z => by omega, fun z => ⟨Or.inr ⟨v, by omega, he⟩, fun y => by omega⟩, fun z => by omega, fun z => by omega, fun z => by omega, fun z => by omega, fun z => by omega⟩
        · cases hf
      · cases hf
theorem flags_FK {tx : Nat → Int32} {sz S R n p : Nat} (hp : p + 1 = R) : ∀ (k : Nat) (c c' : Cu) (fr ag fr' ag' : Nat → Int32), FK S R n fr ag → cnm c → l_flags tx sz p k c fr ag = some (.inl (c', fr', ag')) → FK S R n fr' ag' ∧ cnm c' := by
  intro k
  induction k with
  | zero => intro c c' fr ag fr' ag' _ _ h; cases h
  | succ k ih =>
    intro c c' fr ag fr' ag' hK hc h
    unfold l_flags at h
    cases hf : l_flag tx sz p c fr ag with
    | none => rw [hf] at h; cases h; exact ⟨hK, hc⟩
    | some q =>
      rw [hf] at h
      rcases q with ⟨c1, fr1, ag1⟩ | e
      · have h1 := flag_FK hp hK hf
        exact ih _ _ _ _ _ _ h1.1 h1.2 h
      · cases h
/-- with the people counted -/
def FI (S R n : Nat) (fr ag : Nat → Int32) : Prop := FK S R n fr ag ∧ fr 52 = nI R
theorem fok_0 {S R i : Nat} {x : Int32} (h : i = 0 ∨ i = 52) : fok S R i x := by
  refine ⟨fun z => by omega, fun z => by omega, fun z => by omega, fun z => by omega, fun z => by omega, fun z => by omega, fun z => by omega, fun z => by omega, fun z => by omega⟩
theorem ty_at {wt : Bool} {g : Nat → Int32} {F : Nat} : ∀ (m k : Nat) (st : List Bool), tyr wt (fun i => g (F + i)) m k st = tyr wt g m (F + k) st := by
  intro m
  induction m with
  | zero => intro k st; rfl
  | succ m ih =>
    intro k st
    rw [tyr, tyr]
    cases ty1 wt (g (F + k)) st with
    | none => rfl
    | some st' => exact ih (k + 1) st'
theorem line_FI {tx : Nat → Int32} {sz S R n k : Nat} {c c' : Cu} {fr ag fr' ag' : Nat → Int32} (hz : sz ≤ 900) (hI : FI S R n fr ag) (hv : cv sz c) (hle : n ≤ c.1) (hk : c.2.2.1 ≠ 24) (hl : l_line tx sz S R k c fr ag (.inl (c', fr', ag'))) : cnm c' ∧ ∃ R' n', FI S R' n' fr' ag' := by
  obtain ⟨hK, h52⟩ := hI
  have hS := hK.1
  have g1 := cv_go (tx := tx) hv hk
  have num : ∀ i lo hi, (i = 2 ∧ lo = 1 ∧ hi = 9 ∨ i = 56 ∧ lo = 0 ∧ hi = 999) → .inl (c', fr', ag') = l_num tx sz i lo hi c fr ag → cnm c' ∧ ∃ R' n', FI S R' n' fr' ag' := by
    intro i lo hi hi2 hr
    unfold l_num at hr
    split at hr
    · next t =>
      cases hr
      obtain ⟨v, hv, he, h2, h3⟩ := tko_v cnm_nx t
      refine ⟨cnm_nx, R, n, hK.up (by omega) (by omega) (by omega) (by omega) ?_, ?_⟩
      · refine ⟨fun z => ⟨v, by omega, by omega, he⟩, fun z => by omega, fun z => by omega, fun z => by omega, fun z => by omega, fun z => by omega, fun z => ⟨v, by omega, he⟩, fun z => by omega, fun z => by omega⟩
      · rw [upd_ne (by omega)]; exact h52
    · cases hr
  have law : ∀ law, law < 2 → l_law' tx sz law k c fr ag (.inl (c', fr', ag')) → cnm c' ∧ ∃ R' n', FI S R' n' fr' ag' := by
    intro law hlaw hr
    rcases hr with ⟨_, he⟩ | ⟨h31, ⟨c3, fr3, q1, he⟩ | ⟨e, _, he⟩⟩
    · cases he
    · cases he
      have g2 := cv_go (tx := tx) g1.1 (by rw [h31]; decide)
      obtain ⟨a1, a2, a3, a4, a5, a6, a7⟩ := hK
      obtain ⟨p0, p1, n', w1, w2, w3, w4, w5⟩ := rs_ty _ _ _ _ _ _ q1 n g2.1 cnm_nx hz (by omega) a3 (by omega) _ _ rfl
      have lo : ∀ i, i < 493 → fr3 i = fr i := fun i hi => rs_lo hi _ _ _ _ _ _ q1 _ _ rfl
      have e0 : decide ((nI law : Int32) = 1) = decide (law = 1) := by
        rcases (show law = 0 ∨ law = 1 by omega) with rfl | rfl <;> rfl
      have hty : tyr (decide (law = 1)) (fun i => fr3 (494 + i)) (n' - n) n [] = some [decide (law = 1)] := by
        have := w5 [] (by
          rcases (show law = 0 ∨ law = 1 by omega) with rfl | rfl
          · show 0 + 3 + _ ≤ 40; omega
          · show 0 + 6 + _ ≤ 40; omega)
        rw [e0] at this
        rcases (show law = 0 ∨ law = 1 by omega) with rfl | rfl <;> exact this
      have hn2 := w1.2
      have e1 : ∀ i, i < 93 → ¬ (i = 3 + law ∨ i = 5 + law ∨ i = 7 + law) → l_end fr3 law (nN fr) i = fr i := by
        intro i hi hne
        unfold l_end
        rw [upd_ne (by omega), upd_ne (by omega), upd_ne (by omega)]
        exact lo i (by omega)
      have e493 : l_end fr3 law (nN fr) 493 = fr3 493 := by
        unfold l_end
        rw [upd_ne (by omega), upd_ne (by omega), upd_ne (by omega)]
      have ehi : ∀ i, l_end fr3 law (nN fr) (494 + i) = fr3 (494 + i) := by
        intro i
        unfold l_end
        rw [upd_ne (by omega), upd_ne (by omega), upd_ne (by omega)]
      have eN := a3.eq
      refine ⟨p0, R, n', ⟨a1, by rw [e1 1 (by omega) (by omega)]; exact a2, ⟨by rw [e493]; exact w1.1, hn2⟩, ?_, ?_, a6, ?_⟩, by rw [e1 52 (by omega) (by omega)]; exact h52⟩
      · intro i hi
        by_cases hh : i = 3 + law ∨ i = 5 + law ∨ i = 7 + law
        · refine ⟨fun z => by omega, fun z => by omega, fun z => by omega, fun z => by omega, fun z => by omega, fun z => by omega, fun z => by omega, fun z => by omega, fun z => by omega⟩
        · rw [e1 i hi hh]; exact a4 i hi
      · intro p hp
        rw [e1 (43 + p) (by omega) (by omega)]
        rcases a5 p hp with z | ⟨j, b1, b2, b3, b4, b5⟩
        · exact Or.inl z
        · exact Or.inr ⟨j, b1, b2, b3, b4, by rw [e1 (43 + j) (by omega) (by omega)]; exact b5⟩
      · intro l2 hl2
        by_cases hh : l2 = law
        · subst hh
          right
          refine ⟨?_, n, n' - n, ?_, ?_, by omega, ?_⟩
          · unfold l_end; rw [upd_ne (by omega), upd_ne (by omega), upd_eq]
          · unfold l_end; rw [upd_ne (by omega), upd_eq, eN]
          · unfold l_end; rw [upd_eq, w1.1, eN, pk_sub (by omega)]
          · rw [← hty]; exact tyr_cg _ _ _ (fun i _ _ => ehi i)
        · rcases a7 l2 hl2 with z | ⟨b1, F, M, b2, b3, b4, b5⟩
          · left; rw [e1 (3 + l2) (by omega) (by omega)]; exact z
          · right
            refine ⟨by rw [e1 (3 + l2) (by omega) (by omega)]; exact b1, F, M, by rw [e1 (5 + l2) (by omega) (by omega)]; exact b2, by rw [e1 (7 + l2) (by omega) (by omega)]; exact b3, by omega, ?_⟩
            rw [← b5]
            refine tyr_cg _ _ _ (fun i h1 h2 => ?_)
            rw [ehi, w4 i (by omega)]
    · cases he
  rcases hl with ⟨d1, hr⟩ | ⟨d3, hr⟩ | ⟨d9, hr⟩ | ⟨d10, hr⟩ | ⟨d11, hr⟩ | ⟨d12, hr⟩ | ⟨d13, hr⟩ | ⟨_, hr⟩
  · unfold l_joint at hr
    split at hr
    · next t1 =>
      split at hr
      · next t2 =>
        split at hr
        · next t3 =>
          cases hr
          obtain ⟨v, hv1, he1, h2, h3⟩ := tko_v cnm_nx t1
          obtain ⟨u, hu1, hue, -, -⟩ := tko_v cnm_nx t3
          have ev : (nx tx sz c).2.2.2.toInt.toNat = v := by rw [he1, nI_toInt (by omega)]; rfl
          rw [ev]
          refine ⟨cnm_nx, R, n, hK.up (by omega) (by omega) (by omega) (by omega) ?_, by rw [upd_ne (by omega)]; exact h52⟩
          refine ⟨fun z => by omega, fun z => ⟨u, hu1, hue⟩, fun z => by omega, fun z => by omega, fun z => by omega, fun z => by omega, fun z => by omega, fun z => by omega, fun z => by omega⟩
        · cases hr
      · cases hr
    · cases hr
  · unfold l_person at hr
    split at hr
    · cases hr
    · next hR9 =>
      split at hr
      · next t1 =>
        split at hr
        · next t2 =>
          split at hr
          · next t3 =>
            split at hr
            · next t4 =>
              cases hf : l_flags tx sz R k (nx tx sz (nx tx sz (nx tx sz (nx tx sz (nx tx sz c))))) (upd (upd fr (57 + R) (nx tx sz (nx tx sz c)).2.2.2) (66 + R) (nx tx sz (nx tx sz (nx tx sz (nx tx sz c)))).2.2.2) (upd ag R 0) with
              | none => rw [hf] at hr; cases hr
              | some q =>
                rw [hf] at hr
                rcases q with ⟨c1, fr1, ag1⟩ | e
                · cases hr
                  obtain ⟨v, hv1, he1, h2, h3⟩ := tko_v cnm_nx t2
                  obtain ⟨u, hu1, hue, h4, h5⟩ := tko_v cnm_nx t4
                  have K1 := ((hK.up (i := 57 + R) (x := (nx tx sz (nx tx sz c)).2.2.2) (by omega) (by omega) (by omega) (by omega) ⟨fun z => by omega, fun z => by omega, fun z => by omega, fun z => by omega, fun z => by omega, fun z => by omega, fun z => by omega, fun z => by omega, fun z => by omega⟩).up (i := 66 + R) (x := (nx tx sz (nx tx sz (nx tx sz (nx tx sz c)))).2.2.2) (by omega) (by omega) (by omega) (by omega) ⟨fun z => by omega, fun z => by omega, fun z => by omega, fun z => by omega, fun z => by omega, fun z => by omega, fun z => by omega, fun z => by omega, fun z => by omega⟩).age (p := R) (x := 0) ⟨0, by omega, rfl⟩
                  have K2 := K1.more (by omega) (by rw [upd_ne (by omega), upd_eq]; exact ⟨v, by omega, he1⟩) (by rw [upd_eq]; exact ⟨u, by omega, hue⟩) (by rw [upd_eq]; exact ⟨0, by omega, rfl⟩)
                  have K3 := flags_FK rfl _ _ _ _ _ _ _ K2 cnm_nx hf
                  refine ⟨K3.2, R + 1, n, K3.1.up (by omega) (by omega) (by omega) (by omega) (fok_0 (by omega)), upd_eq⟩
                · cases hr
            · cases hr
          · cases hr
        · cases hr
      · cases hr
  · unfold l_couple at hr
    have ok : ∀ (c : Cu) nt, l_one c fr R nt = none → tko c 0 ((R : Int) - 1) = true ∧ nt ≠ some c.2.2.2.toInt.toNat ∧ wdB fr R c.2.2.2.toInt.toNat = false := by
      intro c nt ho
      unfold l_one at ho
      split at ho
      · cases ho
      · next hn =>
        split at ho
        · next t =>
          have t1 := (tko_iff.mp t).1
          refine ⟨t, fun z => hn ⟨t1, Or.inl z⟩, ?_⟩
          cases hw : wdB fr R c.2.2.2.toInt.toNat with
          | false => rfl
          | true => exact absurd ⟨t1, Or.inr hw⟩ hn
        · cases ho
    cases ho : l_one (nx tx sz c) fr R none with
    | some e => rw [ho] at hr; cases hr
    | none =>
      rw [ho] at hr
      simp only at hr
      cases ho2 : l_one (nx tx sz (nx tx sz c)) fr R (some (nx tx sz c).2.2.2.toInt.toNat) with
      | some e => rw [ho2] at hr; cases hr
      | none =>
        rw [ho2] at hr
        cases hr
        obtain ⟨o1, -, o3⟩ := ok _ _ ho
        obtain ⟨p1, p2, p3⟩ := ok _ _ ho2
        obtain ⟨v, hv1, he1, h2, h3⟩ := tko_v cnm_nx o1
        obtain ⟨u, hu1, hue, h4, h5⟩ := tko_v cnm_nx p1
        have ev : (nx tx sz c).2.2.2.toInt.toNat = v := by rw [he1, nI_toInt (by omega)]; rfl
        have eu : (nx tx sz (nx tx sz c)).2.2.2.toInt.toNat = u := by rw [hue, nI_toInt (by omega)]; rfl
        rw [ev] at o3 p2
        rw [eu] at p2 p3
        rw [ev, eu, he1, hue]
        have huv : u ≠ v := fun z => p2 (by rw [z])
        have w1 : fr (43 + v) = -1 := by
          unfold wdB at o3
          have d1 : decide (v < R) = true := decide_eq_true (by omega)
          rw [d1] at o3
          simpa using o3
        have w2 : fr (43 + u) = -1 := by
          unfold wdB at p3
          have d1 : decide (u < R) = true := decide_eq_true (by omega)
          rw [d1] at p3
          simpa using p3
        obtain ⟨a1, a2, a3, a4, a5, a6, a7⟩ := hK
        refine ⟨cnm_nx, R, n, ⟨a1, by rw [upd_ne (by omega), upd_ne (by omega)]; exact a2, ⟨by rw [upd_ne (by omega), upd_ne (by omega)]; exact a3.1, a3.2⟩, ?_, ?_, a6, ?_⟩, by rw [upd_ne (by omega), upd_ne (by omega)]; exact h52⟩
        · intro i hi
          by_cases hh : i = 43 + u ∨ i = 43 + v
          · refine ⟨fun z => by omega, fun z => by omega, fun z => by omega, fun z => by omega, fun z => by omega, fun z => by omega, fun z => by omega, fun z => by omega, fun z => by omega⟩
          · rw [upd_ne (by omega), upd_ne (by omega)]; exact a4 i hi
        · intro p hp
          by_cases hu : p = u
          · subst hu
            right
            exact ⟨v, by omega, by omega, Ne.symm huv, by rw [upd_eq], by rw [upd_ne (by omega), upd_eq]⟩
          · by_cases hvp : p = v
            · subst hvp
              right
              exact ⟨u, by omega, by omega, huv, by rw [upd_ne (by omega), upd_eq], by rw [upd_eq]⟩
            · rw [upd_ne (by omega), upd_ne (by omega)]
              rcases a5 p hp with z | ⟨j, b1, b2, b3, b4, b5⟩
              · exact Or.inl z
              · right
                have ju : j ≠ u := by
                  rintro rfl
                  rw [w2] at b5
                  have := ne_m1 (m := p) (by omega)
                  rw [← b5] at this
                  simp at this
                have jv : j ≠ v := by
                  rintro rfl
                  rw [w1] at b5
                  have := ne_m1 (m := p) (by omega)
                  rw [← b5] at this
                  simp at this
                exact ⟨j, b1, b2, b3, b4, by rw [upd_ne (by omega), upd_ne (by omega)]; exact b5⟩
        · intro l2 hl2
          rcases a7 l2 hl2 with z | ⟨b1, F, M, b2, b3, b4, b5⟩
          · left; rw [upd_ne (by omega), upd_ne (by omega)]; exact z
          · right
            refine ⟨by rw [upd_ne (by omega), upd_ne (by omega)]; exact b1, F, M, by rw [upd_ne (by omega), upd_ne (by omega)]; exact b2, by rw [upd_ne (by omega), upd_ne (by omega)]; exact b3, b4, ?_⟩
            rw [← b5]
            exact tyr_cg _ _ _ (fun j _ _ => by rw [upd_ne (by omega), upd_ne (by omega)])
  · exact num _ _ _ (Or.inl ⟨rfl, rfl, rfl⟩) hr
  · exact law 0 (by omega) hr
  · exact law 1 (by omega) hr
  · exact num _ _ _ (Or.inr ⟨rfl, rfl, rfl⟩) hr
  · cases hr

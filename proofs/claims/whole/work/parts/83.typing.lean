/-! codes as they are read: numbers and truths -/
def ty1 (wt : Bool) (c : Int32) (st : List Bool) : Option (List Bool) :=
  if 0 ≤ c.toInt ∧ c.toInt < (if wt = true then 1007 else 1006) ∧ st.length < 40 then some (false :: st)
  else if c = 3006 then (match st with | true :: r => some (true :: r) | _ => none)
  else if c = 3000 ∨ c = 3001 ∨ c = 3002 then (match st with | false :: false :: r => some (false :: r) | _ => none)
  else if c = 3003 ∨ c = 3004 ∨ c = 3005 then (match st with | false :: false :: r => some (true :: r) | _ => none)
  else if c = 3007 ∨ c = 3008 then (match st with | true :: true :: r => some (true :: r) | _ => none)
  else none
def tyr (wt : Bool) (cs : Nat → Int32) : Nat → Nat → List Bool → Option (List Bool)
  | 0, _, st => some st
  | m + 1, k, st => match ty1 wt (cs k) st with
    | some st' => tyr wt cs m (k + 1) st'
    | none => none
theorem tyr_cg {wt : Bool} {cs cs' : Nat → Int32} : ∀ (m k : Nat) (st : List Bool), (∀ i, k ≤ i → i < k + m → cs i = cs' i) → tyr wt cs m k st = tyr wt cs' m k st := by
  intro m
  induction m with
  | zero => intro k st _; rfl
  | succ m ih =>
    intro k st h
    rw [tyr, tyr, h k (by omega) (by omega)]
    cases ty1 wt (cs' k) st with
    | none => rfl
    | some st' => exact ih (k + 1) st' (fun i h1 h2 => h i (by omega) (by omega))
theorem tyr_app {wt : Bool} {cs : Nat → Int32} {m2 : Nat} {st2 : List Bool} : ∀ (m1 k : Nat) (st st1 : List Bool), tyr wt cs m1 k st = some st1 → tyr wt cs m2 (k + m1) st1 = some st2 → tyr wt cs (m1 + m2) k st = some st2 := by
  intro m1
  induction m1 with
  | zero =>
    intro k st st1 h1 h2
    rw [tyr] at h1
    cases h1
    rw [Nat.zero_add]; exact h2
  | succ m1 ih =>
    intro k st st1 h1 h2
    rw [show m1 + 1 + m2 = (m1 + m2) + 1 by omega, tyr]
    rw [tyr] at h1
    cases hq : ty1 wt (cs k) st with
    | none => rw [hq] at h1; cases h1
    | some st' =>
      rw [hq] at h1
      exact ih (k + 1) st' st1 h1 (by rw [show k + 1 + m1 = k + (m1 + 1) by omega]; exact h2)
theorem tyr_1 {wt : Bool} {cs : Nat → Int32} {k : Nat} {st st' : List Bool} (h : ty1 wt (cs k) st = some st') : tyr wt cs 1 k st = some st' := by
  rw [tyr, h]; rfl
def tp (m : Nat) : Bool := decide (5 ≤ m)
/-- what row m leaves -/
def ty_C (wt : Bool) (m d n n' : Nat) (fr' : Nat → Int32) : Prop := ∀ st : List Bool, st.length + rk m + 2 * (6 - d) ≤ 40 → tyr wt (fun i => fr' (494 + i)) (n' - n) n (if isL m then tp m :: st else st) = some (tp m :: st)
def ty_P (sz : Nat) (wt : Bool) (m d : Nat) (c : Cu) (fr : Nat → Int32) (r : Rr) : Prop := ∀ n, cv sz c → cnm c → sz ≤ 900 → d ≤ 6 → ncs fr n → n ≤ c.1 → ∀ c' fr', r = .inl (c', fr') → cnm c' ∧ cv sz c' ∧ ∃ n', ncs fr' n' ∧ n' + c.1 ≤ c'.1 + n ∧ n ≤ n' ∧ (∀ i, i < n → fr' (494 + i) = fr (494 + i)) ∧ ty_C wt m d n n' fr'
theorem em_at {fr : Nat → Int32} {n : Nat} {x : Int32} (h : ncs fr n) : em fr x (494 + n) = x := by
  unfold em
  rw [h.eq, upd_ne (by omega), upd_eq]
theorem em_be {fr : Nat → Int32} {n i : Nat} {x : Int32} (h : ncs fr n) (hi : i < n) : em fr x (494 + i) = fr (494 + i) := by
  unfold em
  rw [h.eq, upd_ne (by omega), upd_ne (by omega)]
theorem wrd_v {rd kd : Int32} (h : wrd rd kd ≠ -1) : ∃ j, j < (if decide (rd = 1) = true then 7 else 6) ∧ wrd rd kd = nI j := by
  have t : ∀ (b : Bool) (j : Nat), j < 6 → j < (if b = true then 7 else 6) := by intro b j hj; split <;> omega
  by_cases h1 : kd.toInt = 14
  · exact ⟨0, t _ 0 (by decide), by unfold wrd; rw [if_pos h1]; rfl⟩
  by_cases h2 : kd.toInt = 5
  · exact ⟨1, t _ 1 (by decide), by unfold wrd; rw [if_neg h1, if_pos h2]; rfl⟩
  by_cases h3 : kd.toInt = 6
  · exact ⟨2, t _ 2 (by decide), by unfold wrd; rw [if_neg h1, if_neg h2, if_pos h3]; rfl⟩
  by_cases h4 : kd.toInt = 15
  · exact ⟨3, t _ 3 (by decide), by unfold wrd; rw [if_neg h1, if_neg h2, if_neg h3, if_pos h4]; rfl⟩
  by_cases h5 : kd.toInt = 13
  · exact ⟨4, t _ 4 (by decide), by unfold wrd; rw [if_neg h1, if_neg h2, if_neg h3, if_neg h4, if_pos h5]; rfl⟩
  by_cases h6 : kd.toInt = 16
  · exact ⟨5, t _ 5 (by decide), by unfold wrd; rw [if_neg h1, if_neg h2, if_neg h3, if_neg h4, if_neg h5, if_pos h6]; rfl⟩
  by_cases h7 : kd.toInt = 17
  · by_cases h8 : rd = 1
    · exact ⟨6, by rw [if_pos (decide_eq_true h8)]; decide, by unfold wrd; rw [if_neg h1, if_neg h2, if_neg h3, if_neg h4, if_neg h5, if_neg h6, if_pos h7, if_pos h8]; rfl⟩
    · exfalso; apply h; unfold wrd; rw [if_neg h1, if_neg h2, if_neg h3, if_neg h4, if_neg h5, if_neg h6, if_pos h7, if_neg h8]
  · exfalso; apply h; unfold wrd; rw [if_neg h1, if_neg h2, if_neg h3, if_neg h4, if_neg h5, if_neg h6, if_neg h7]
theorem ty1_num {wt : Bool} {q : Nat} {st : List Bool} (hq : q < (if wt = true then 1007 else 1006)) (hs : st.length < 40) : ty1 wt (nI q) st = some (false :: st) := by
  have h7 : q < 1007 := by split at hq <;> omega
  unfold ty1
  have e : (nI q).toInt = q := nI_toInt (by omega)
  rw [if_pos]
  refine ⟨by rw [e]; omega, ?_, hs⟩
  rw [e]
  split at hq
  · next h => rw [if_pos h]; omega
  · next h => rw [if_neg h]; omega
theorem ty1_op {wt : Bool} {c : Int32} {st st' : List Bool} (h3 : 3000 ≤ c.toInt) (h : (if c = 3006 then (match st with | true :: r => some (true :: r) | _ => none)
  else if c = 3000 ∨ c = 3001 ∨ c = 3002 then (match st with | false :: false :: r => some (false :: r) | _ => none)
  else if c = 3003 ∨ c = 3004 ∨ c = 3005 then (match st with | false :: false :: r => some (true :: r) | _ => none)
  else if c = 3007 ∨ c = 3008 then (match st with | true :: true :: r => some (true :: r) | _ => none)
  else none) = some st') : ty1 wt c st = some st' := by
  unfold ty1
  rw [if_neg, h]
  rintro ⟨-, h2, -⟩
  split at h2 <;> omega
theorem opc_ty {wt : Bool} {m : Nat} {kd x : Int32} {st : List Bool} (hl : isL m = true) (h : opc m kd = some x) : ty1 wt x (tp m :: tp m :: st) = some (tp m :: st) := by
  unfold opc at h
  unfold isL at hl
  have hl := of_decide_eq_true hl
  by_cases m2 : m = 2
  · subst m2
    simp only [if_true] at h
    split at h
    · cases h; exact ty1_op (by decide) (by simp [tp])
    · cases h
  · rw [if_neg m2] at h
    by_cases m4 : m = 4
    · subst m4
      simp only [if_true] at h
      split at h
      · cases h; exact ty1_op (by decide) (by simp [tp])
      · split at h
        · cases h; exact ty1_op (by decide) (by simp [tp])
        · cases h
    · rw [if_neg m4] at h
      by_cases m7 : m = 7
      · subst m7
        simp only [if_true] at h
        split at h
        · cases h; exact ty1_op (by decide) (by simp [tp])
        · cases h
      · rw [if_neg m7] at h
        have m9 : m = 9 := by omega
        subst m9
        split at h
        · cases h; exact ty1_op (by decide) (by simp [tp])
        · cases h
theorem cmc_ty {wt : Bool} {kd : Int32} {st : List Bool} : ty1 wt (cmc kd) (false :: false :: st) = some (true :: st) := by
  unfold cmc
  split
  · exact ty1_op (by decide) (by simp)
  · split
    · exact ty1_op (by decide) (by simp)
    · exact ty1_op (by decide) (by simp)
/-- one code more behind codes -/
theorem ty_em {wt : Bool} {fr : Nat → Int32} {n n1 : Nat} {x : Int32} {st st1 st2 : List Bool} (hn : ncs fr n1) (hle : n ≤ n1) (h1 : tyr wt (fun i => fr (494 + i)) (n1 - n) n st = some st1) (h2 : ty1 wt x st1 = some st2) : tyr wt (fun i => em fr x (494 + i)) (n1 + 1 - n) n st = some st2 := by
  rw [show n1 + 1 - n = (n1 - n) + 1 by omega]
  refine tyr_app (n1 - n) n st st1 ?_ ?_
  · rw [← h1]
    exact tyr_cg _ _ _ (fun i _ hi => em_be hn (by omega))
  · refine tyr_1 ?_
    show ty1 wt (em fr x (494 + (n + (n1 - n)))) st1 = _
    rw [show n + (n1 - n) = n1 by omega, em_at hn]
    exact h2
/-- codes behind codes -/
theorem ty_seq {wt : Bool} {fr1 fr2 : Nat → Int32} {n n1 n2 : Nat} {st st1 st2 : List Bool} (h01 : n ≤ n1) (h12 : n1 ≤ n2) (hk : ∀ i, i < n1 → fr2 (494 + i) = fr1 (494 + i)) (h1 : tyr wt (fun i => fr1 (494 + i)) (n1 - n) n st = some st1) (h2 : tyr wt (fun i => fr2 (494 + i)) (n2 - n1) n1 st1 = some st2) : tyr wt (fun i => fr2 (494 + i)) (n2 - n) n st = some st2 := by
  rw [show n2 - n = (n1 - n) + (n2 - n1) by omega]
  refine tyr_app (n1 - n) n st st1 ?_ ?_
  · rw [← h1]
    exact tyr_cg _ _ _ (fun i _ hi => hk i (by omega))
  · rw [show n + (n1 - n) = n1 by omega]; exact h2
theorem rs_ty {tx : Nat → Int32} {sz : Nat} {rd : Int32} : ∀ (k m d : Nat) (c : Cu) (fr : Nat → Int32) (r : Rr), Rs tx sz rd k m d c fr r → ty_P sz (decide (rd = 1)) m d c fr r := by
  intro k
  induction k with
  | zero => intro m d c fr r h; exact h.elim
  | succ k ih =>
    intro m d c fr r h n hc hcn hz hd6 hn hle c' fr' hr
    have sqs : ∀ {A : Rr → Prop} {K : Cu → (Nat → Int32) → Prop}, sq A K r → ∃ c1 fr1, A (.inl (c1, fr1)) ∧ K c1 fr1 := by
      intro A K hs
      rcases hs with hs | ⟨e, h1, h2⟩
      · exact hs
      · rw [hr] at h2; cases h2
    have nofl : ∀ {w c}, r = fl w c → False := by intro w c he; rw [hr] at he; cases he
    have lt9 : ∀ {n1 : Nat} {c1 : Cu} {fr1 : Nat → Int32}, cv sz c1 → ncs fr1 n1 → n1 + 1 ≤ c1.1 → n1 < 900 := by
      intro n1 c1 fr1 i1 i2 i3
      have := i1.1.2
      omega
    rw [Rs] at h
    by_cases m0 : m = 0
    · rw [if_pos m0] at h
      subst m0
      have r0 : rk 0 = 1 := rfl
      rcases h with ⟨hk, he⟩ | ⟨hk, hw, he⟩ | ⟨hk, hd, he⟩ | ⟨hk, hd, hs⟩ | ⟨h1, h2, h3, he⟩
      · rw [hr] at he
        cases he
        have g1 := cv_go (tx := tx) hc (by rw [hk]; decide)
        have g2 := cv_lt hc (by rw [hk]; decide) hz
        obtain ⟨q, hq, hqe⟩ := hcn hk
        refine ⟨cnm_nx, g1.1, n + 1, hn.em (by omega), by omega, by omega, fun i hi => em_be hn hi, ?_⟩
        intro st hst
        refine ty_em hn (Nat.le_refl _) (st1 := st) (by rw [Nat.sub_self]; rfl) ?_
        rw [hqe]
        exact ty1_num (by split <;> omega) (by omega)
      · rw [hr] at he
        cases he
        have g1 := cv_go (tx := tx) hc (wrd_ne hw)
        have g2 := cv_lt hc (wrd_ne hw) hz
        obtain ⟨j, hj, hje⟩ := wrd_v hw
        refine ⟨cnm_nx, g1.1, n + 1, hn.em (by omega), by omega, by omega, fun i hi => em_be hn hi, ?_⟩
        intro st hst
        refine ty_em hn (Nat.le_refl _) (st1 := st) (by rw [Nat.sub_self]; rfl) ?_
        rw [hje, lit_nI 1000, nI_add]
        refine ty1_num ?_ (by omega)
        split at hj
        · next hb => rw [if_pos hb]; omega
        · next hb => rw [if_neg hb]; omega
      · exact (nofl he).elim
      · obtain ⟨c1, fr1, h1, h2⟩ := sqs hs
        have g1 := cv_go (tx := tx) hc (by rw [hk]; decide)
        obtain ⟨i0, i1, n1, i2, i3, i4, i5, i6⟩ := ih _ _ _ _ _ h1 n g1.1 cnm_nx hz (by omega) hn (by omega) _ _ rfl
        rcases h2 with ⟨h3, he⟩ | ⟨h3, he⟩
        · rw [hr] at he
          cases he
          have g2 := cv_go (tx := tx) i1 (by rw [h3]; decide)
          refine ⟨cnm_nx, g2.1, n1, i2, by omega, i4, i5, ?_⟩
          intro st hst
          have r3 : rk 3 = 3 := rfl
          exact i6 st (by omega)
        · exact (nofl he).elim
      · exact (nofl he).elim
    · rw [if_neg m0] at h
      by_cases m5 : m = 5
      · rw [if_pos m5] at h
        subst m5
        have r5 : rk 5 = 4 := rfl
        have r8 : rk 8 = 6 := rfl
        have r3 : rk 3 = 3 := rfl
        rcases h with ⟨hk, hd, he⟩ | ⟨hk, hd, hs⟩ | ⟨hk, hd, hs⟩ | ⟨hk1, hk2, hs⟩
        · exact (nofl he).elim
        · obtain ⟨c1, fr1, h1, he⟩ := sqs hs
          have g1 := cv_go (tx := tx) hc (by rw [hk]; decide)
          obtain ⟨i0, i1, n1, i2, i3, i4, i5, i6⟩ := ih _ _ _ _ _ h1 n g1.1 cnm_nx hz (by omega) hn (by omega) _ _ rfl
          rw [hr] at he
          cases he
          refine ⟨i0, i1, n1 + 1, i2.em (lt9 i1 i2 (by omega)), by omega, by omega, fun i hi => ?_, ?_⟩
          · rw [em_be i2 (by omega)]; exact i5 i hi
          · intro st hst
            refine ty_em i2 i4 (i6 st (by omega)) ?_
            exact ty1_op (by decide) (by simp [tp])
        · obtain ⟨c1, fr1, h1, h2⟩ := sqs hs
          have g1 := cv_go (tx := tx) hc (by rw [hk]; decide)
          obtain ⟨i0, i1, n1, i2, i3, i4, i5, i6⟩ := ih _ _ _ _ _ h1 n g1.1 cnm_nx hz (by omega) hn (by omega) _ _ rfl
          rcases h2 with ⟨h3, he⟩ | ⟨h3, he⟩
          · rw [hr] at he
            cases he
            have g2 := cv_go (tx := tx) i1 (by rw [h3]; decide)
            refine ⟨cnm_nx, g2.1, n1, i2, by omega, i4, i5, ?_⟩
            intro st hst
            exact i6 st (by omega)
          · exact (nofl he).elim
        · obtain ⟨c1, fr1, h1, h2⟩ := sqs hs
          obtain ⟨i0, i1, n1, i2, i3, i4, i5, i6⟩ := ih _ _ _ _ _ h1 n hc hcn hz hd6 hn hle _ _ rfl
          rcases h2 with ⟨h3, hs2⟩ | ⟨h3, he⟩
          · obtain ⟨c2, fr2, h4, he⟩ := sqs hs2
            have g1 := cv_go (tx := tx) i1 (by rcases h3 with z | z | z <;> (rw [z]; decide))
            obtain ⟨j0, j1, n2, j2, j3, j4, j5, j6⟩ := ih _ _ _ _ _ h4 n1 g1.1 cnm_nx hz hd6 i2 (by omega) _ _ rfl
            rw [hr] at he
            cases he
            refine ⟨j0, j1, n2 + 1, j2.em (lt9 j1 j2 (by omega)), by omega, by omega, fun i hi => ?_, ?_⟩
            · rw [em_be j2 (by omega), j5 i (by omega)]; exact i5 i hi
            · intro st hst
              have a1 := i6 st (by omega)
              have a2 := j6 (false :: st) (by rw [List.length_cons]; omega)
              exact ty_em j2 (by omega) (ty_seq i4 j4 (fun i hi => j5 i hi) a1 a2) cmc_ty
          · exact (nofl he).elim
      · rw [if_neg m5] at h
        by_cases mc : m = 1 ∨ m = 3 ∨ m = 6 ∨ m = 8
        · rw [if_pos mc] at h
          obtain ⟨c1, fr1, h1, h2⟩ := sqs h
          obtain ⟨i0, i1, n1, i2, i3, i4, i5, i6⟩ := ih _ _ _ _ _ h1 n hc hcn hz hd6 hn hle _ _ rfl
          obtain ⟨j0, j1, n2, j2, j3, j4, j5, j6⟩ := ih _ _ _ _ _ h2 n1 i1 i0 hz hd6 i2 (by omega) _ _ hr
          refine ⟨j0, j1, n2, j2, by omega, by omega, fun i hi => ?_, ?_⟩
          · rw [j5 i (by omega)]; exact i5 i hi
          · intro st hst
            have a1 := i6 st (by
              rcases mc with rfl | rfl | rfl | rfl
              · show st.length + 1 + _ ≤ 40; have : rk 1 = 2 := rfl; omega
              · show st.length + 2 + _ ≤ 40; have : rk 3 = 3 := rfl; omega
              · show st.length + 4 + _ ≤ 40; have : rk 6 = 5 := rfl; omega
              · show st.length + 5 + _ ≤ 40; have : rk 8 = 6 := rfl; omega)
            have a2 := j6 st (by
              rcases mc with rfl | rfl | rfl | rfl
              · exact hst
              · exact hst
              · exact hst
              · exact hst)
            have e1 : (if isL (sb m) then tp (sb m) :: st else st) = st := by rcases mc with rfl | rfl | rfl | rfl <;> rfl
            have e2 : (if isL m then tp m :: st else st) = st := by rcases mc with rfl | rfl | rfl | rfl <;> rfl
            have e3 : (if isL (m + 1) then tp (m + 1) :: st else st) = tp (sb m) :: st := by rcases mc with rfl | rfl | rfl | rfl <;> rfl
            have e4 : tp (m + 1) = tp m := by rcases mc with rfl | rfl | rfl | rfl <;> rfl
            rw [e1] at a1
            rw [e3, e4] at a2
            rw [e2]
            exact ty_seq i4 j4 (fun i hi => j5 i hi) a1 a2
        · rw [if_neg mc] at h
          by_cases m9 : m ≤ 9
          · rw [if_pos m9] at h
            have hl : m = 2 ∨ m = 4 ∨ m = 7 ∨ m = 9 := by omega
            have hL : isL m = true := decide_eq_true hl
            rcases h with ⟨ho, he⟩ | ⟨x, ho, hs⟩
            · rw [hr] at he
              cases he
              refine ⟨hcn, hc, n, hn, by omega, Nat.le_refl _, fun i _ => rfl, ?_⟩
              intro st hst
              rw [Nat.sub_self, hL, if_pos rfl]
              rfl
            · obtain ⟨c1, fr1, h1, h2⟩ := sqs hs
              have g1 := cv_go (tx := tx) hc (opc_ne ho)
              obtain ⟨i0, i1, n1, i2, i3, i4, i5, i6⟩ := ih _ _ _ _ _ h1 n g1.1 cnm_nx hz hd6 hn (by omega) _ _ rfl
              have hem := i2.em (x := x) (lt9 i1 i2 (by omega))
              obtain ⟨j0, j1, n2, j2, j3, j4, j5, j6⟩ := ih _ _ _ _ _ h2 (n1 + 1) i1 i0 hz hd6 hem (by omega) _ _ hr
              refine ⟨j0, j1, n2, j2, by omega, by omega, fun i hi => ?_, ?_⟩
              · rw [j5 i (by omega), em_be i2 (by omega)]; exact i5 i hi
              · intro st hst
                have a1 := i6 (tp m :: st) (by
                  rw [List.length_cons]
                  rcases hl with rfl | rfl | rfl | rfl
                  · show st.length + 1 + 1 + _ ≤ 40; have : rk 2 = 2 := rfl; omega
                  · show st.length + 1 + 2 + _ ≤ 40; have : rk 4 = 3 := rfl; omega
                  · show st.length + 1 + 4 + _ ≤ 40; have : rk 7 = 5 := rfl; omega
                  · show st.length + 1 + 5 + _ ≤ 40; have : rk 9 = 6 := rfl; omega)
                have a2 := j6 st hst
                have e1 : (if isL (sb m) then tp (sb m) :: tp m :: st else tp m :: st) = tp m :: st := by rcases hl with rfl | rfl | rfl | rfl <;> rfl
                have e3 : tp (sb m) = tp m := by rcases hl with rfl | rfl | rfl | rfl <;> rfl
                rw [e1, e3] at a1
                rw [hL, if_pos rfl] at a2 ⊢
                exact ty_seq (n1 := n1 + 1) (by omega) j4 (fun i hi => j5 i hi) (ty_em i2 i4 a1 (opc_ty hL ho)) a2
          · rw [if_neg m9] at h; exact h.elim
theorem ty1_inv {wt : Bool} {c : Int32} {st st' : List Bool} (h : ty1 wt c st = some st') : (0 ≤ c.toInt ∧ c.toInt < (if wt = true then 1007 else 1006) ∧ st.length < 40 ∧ st' = false :: st) ∨ (c = 3006 ∧ ∃ r, st = true :: r ∧ st' = true :: r) ∨ ((c = 3000 ∨ c = 3001 ∨ c = 3002) ∧ ∃ r, st = false :: false :: r ∧ st' = false :: r) ∨ ((c = 3003 ∨ c = 3004 ∨ c = 3005) ∧ ∃ r, st = false :: false :: r ∧ st' = true :: r) ∨ ((c = 3007 ∨ c = 3008) ∧ ∃ r, st = true :: true :: r ∧ st' = true :: r) := by
  unfold ty1 at h
  generalize (if wt = true then (1007 : Int) else 1006) = B at h ⊢
  split at h
  · next hc => cases h; exact Or.inl ⟨hc.1, hc.2.1, hc.2.2, rfl⟩
  · split at h
    · next hc =>
      split at h
      · cases h; exact Or.inr (Or.inl ⟨hc, _, rfl, rfl⟩)
      · cases h
    · split at h
      · next hc =>
        split at h
        · cases h; exact Or.inr (Or.inr (Or.inl ⟨hc, _, rfl, rfl⟩))
        · cases h
      · split at h
        · next hc =>
          split at h
          · cases h; exact Or.inr (Or.inr (Or.inr (Or.inl ⟨hc, _, rfl, rfl⟩)))
          · cases h
        · split at h
          · next hc =>
            split at h
            · cases h; exact Or.inr (Or.inr (Or.inr (Or.inr ⟨hc, _, rfl, rfl⟩)))
            · cases h
          · cases h
theorem ty_7 {wt : Bool} {z : Int} (h : z < (if wt = true then 1007 else 1006)) : z < 1007 := by split at h <;> omega
/-- codes that end with one thing can be reckoned -/
theorem ty_vd {wt : Bool} {cs : Nat → Int32} {b : Bool} : ∀ (m k : Nat) (st : List Bool), tyr wt cs m k st = some [b] → m_vd cs m k st.length := by
  intro m
  induction m with
  | zero =>
    intro k st h
    rw [tyr] at h
    cases h
    rfl
  | succ m ih =>
    intro k st h
    rw [tyr] at h
    cases hq : ty1 wt (cs k) st with
    | none => rw [hq] at h; cases h
    | some st' =>
      rw [hq] at h
      have hv := ih (k + 1) st' h
      rw [m_vd]
      have e3000 : (3000 : Int32).toInt = 3000 := by decide
      rcases ty1_inv hq with ⟨h1, h2, h3, rfl⟩ | ⟨hc, r, rfl, rfl⟩ | ⟨hc, r, rfl, rfl⟩ | ⟨hc, r, rfl, rfl⟩ | ⟨hc, r, rfl, rfl⟩
      · have h7 := ty_7 h2
        refine Or.inl ⟨?_, h3, ?_, by simpa using hv⟩
        · rw [Int32.lt_iff_toInt_lt, e3000]; omega
        · by_cases h1000 : (cs k).toInt < 1000
          · refine Or.inl ⟨?_, ?_⟩
            · rw [Int32.lt_iff_toInt_lt, show (1000 : Int32).toInt = 1000 by decide]; exact h1000
            · rw [Int32.le_iff_toInt_le, show (0 : Int32).toInt = 0 by decide]; exact h1
          · refine Or.inr ⟨((cs k).toInt - 1000).toNat, by omega, Int32.toInt_inj.mp ?_⟩
            rw [nI_toInt (by omega)]; omega
      · exact Or.inr (Or.inl ⟨hc, by simp, by simpa using hv⟩)
      · exact Or.inr (Or.inr ⟨by rcases hc with z | z | z <;> (rw [z]; decide), by rcases hc with z | z | z <;> (rw [z]; decide), by simp, by simpa using hv⟩)
      · exact Or.inr (Or.inr ⟨by rcases hc with z | z | z <;> (rw [z]; decide), by rcases hc with z | z | z <;> (rw [z]; decide), by simp, by simpa using hv⟩)
      · exact Or.inr (Or.inr ⟨by rcases hc with z | z <;> (rw [z]; decide), by rcases hc with z | z <;> (rw [z]; decide), by simp, by simpa using hv⟩)

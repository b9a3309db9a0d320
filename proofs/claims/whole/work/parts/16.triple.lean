/-! runs of the small machine as total triples -/
theorem ev_fuel {X : Nat × (Nat → Int32)} : ∀ {n d mi pc : Nat} {lv st : List Value} {h : e_H} {r : e_H × Option Value}, ev X n d mi pc lv st h = some r → ev X (n + 1) d mi pc lv st h = some r := by
  intro n
  induction n with
  | zero => intro d mi pc lv st h r hs; cases hs
  | succ n ih =>
    intro d mi pc lv st h r hs
    rw [ev] at hs ⊢
    split at hs
    · cases hs
    · next i len hcd =>
      split at hs
      · next v hre => exact hs
      · next hre =>
        split at hs
        · next hst => exact ih hs
        · next hst =>
          split at hs
          · next kind idx d' hkn =>
            split at hs
            · next cm as rest hcp =>
              split at hs
              · next r2 hrc =>
                split at hs
                · next h1 v hev =>
                  rw [ih hev]
                  exact ih hs
                · cases hs
              · cases hs
            · cases hs
          · cases hs
theorem ev_fuelk {X : Nat × (Nat → Int32)} {n d mi pc : Nat} {lv st : List Value} {h : e_H} {r : e_H × Option Value} (hs : ev X n d mi pc lv st h = some r) (k : Nat) : ev X (n + k) d mi pc lv st h = some r := by
  induction k with
  | zero => exact hs
  | succ k ih => exact ev_fuel ih
theorem ev_one {X : Nat × (Nat → Int32)} {n n' d mi pc : Nat} {lv st : List Value} {h : e_H} {r r' : e_H × Option Value} (hs : ev X n d mi pc lv st h = some r) (hs' : ev X n' d mi pc lv st h = some r') : r = r' := by
  have h1 := ev_fuelk hs n'
  have h2 := ev_fuelk hs' n
  rw [Nat.add_comm n' n] at h2
  rw [h1] at h2
  exact Option.some.inj h2
abbrev t_Q : Type := (Nat → e_C) → Nat → Nat → Option Value → Prop
def TT (X : Nat × (Nat → Int32)) (d mi pc : Nat) (lv st : List Value) (f : Nat → e_C) (n k : Nat) (Q : t_Q) : Prop := ∃ (N : Nat) (f' : Nat → e_C) (n' k' : Nat) (v : Option Value), ev X N d mi pc lv st (f, n, k) = some ((f', n', k'), v) ∧ Q f' n' k' v
section TTS
variable {X : Nat × (Nat → Int32)} {d mi pc n k : Nat} {lv st : List Value} {f : Nat → e_C} {Q : t_Q} {i : Instr} {len : Nat}
theorem TT.mono {Q' : t_Q} (h : TT X d mi pc lv st f n k Q) (hq : ∀ f' n' k' v, Q f' n' k' v → Q' f' n' k' v) : TT X d mi pc lv st f n k Q' := by
  obtain ⟨N, f', n', k', v, h1, h2⟩ := h
  exact ⟨N, f', n', k', v, h1, hq _ _ _ _ h2⟩
/-- an instruction that is no call and no return -/
theorem tt_st {pc' n' k' : Nat} {lv' st' : List Value} {f' : Nat → e_C} (hc : e_cd mi pc = some (i, len)) (hr : e_re mi i st = none) (hs : e_st X (e_ow mi) (e_ni mi) pc i lv st (f, n, k) = some (pc', lv', st', (f', n', k'))) : TT X d mi pc lv st f n k Q = TT X d mi pc' lv' st' f' n' k' Q := by
  apply propext
  constructor
  · rintro ⟨N, g, n1, k1, v, h1, h2⟩
    cases N with
    | zero => cases h1
    | succ N =>
      rw [ev, hc] at h1
      simp only [hr, hs] at h1
      exact ⟨N, g, n1, k1, v, h1, h2⟩
  · rintro ⟨N, g, n1, k1, v, h1, h2⟩
    refine ⟨N + 1, g, n1, k1, v, ?_, h2⟩
    rw [ev, hc]
    simp only [hr, hs]
    exact h1
/-- one that can't be -/
theorem tt_no (hc : e_cd mi pc = some (i, len)) (hr : e_re mi i st = none) (hs : e_st X (e_ow mi) (e_ni mi) pc i lv st (f, n, k) = none) (hk : e_kn i = none) : TT X d mi pc lv st f n k Q = False := by
  apply propext
  constructor
  · rintro ⟨N, g, n1, k1, v, h1, h2⟩
    cases N with
    | zero => cases h1
    | succ N =>
      rw [ev, hc] at h1
      simp only [hr, hs, hk] at h1
      cases h1
  · exact fun h => h.elim
theorem tt_re {v : Option Value} (hc : e_cd mi pc = some (i, len)) (hr : e_re mi i st = some v) : TT X d mi pc lv st f n k Q = Q f n k v := by
  apply propext
  constructor
  · rintro ⟨N, g, n1, k1, v1, h1, h2⟩
    cases N with
    | zero => cases h1
    | succ N =>
      rw [ev, hc] at h1
      simp only [hr] at h1
      cases h1
      exact h2
  · intro h
    refine ⟨1, f, n, k, v, ?_, h⟩
    rw [ev, hc]
    simp only [hr]
/-- a call, by what the callee does -/
theorem tt_call {kind idx cm : Nat} {as rest : List Value} {r : e_R} {Q1 : t_Q} (hc : e_cd mi pc = some (i, len)) (hr : e_re mi i st = none) (hs : e_st X (e_ow mi) (e_ni mi) pc i lv st (f, n, k) = none) (hk : e_kn i = some (kind, idx)) (hp : e_cp (e_ow mi) kind idx st (f, n, k) = some (cm, as, rest)) (hm : e_rc cm = some r)
    (h1 : TT X d cm 0 (e_lc r.2.2.1 as) [] f n k Q1) (h2 : ∀ f' n' k' v, Q1 f' n' k' v → TT X (d + 1) mi (pc + 3) lv (v.toList ++ rest) f' n' k' Q) : TT X (d + 1) mi pc lv st f n k Q := by
  obtain ⟨N, f1, n1, k1, v1, g1, g2⟩ := h1
  obtain ⟨M, f2, n2, k2, v2, g3, g4⟩ := h2 _ _ _ _ g2
  refine ⟨N + M + 1, f2, n2, k2, v2, ?_, g4⟩
  rw [ev, hc]
  simp only [hr, hs, hk, hp, hm]
  rw [ev_fuelk g1 M]
  simp only
  have := ev_fuelk g3 N
  rw [Nat.add_comm M N] at this
  exact this
/-- a call of one that only answers -/
def PU (X : Nat × (Nat → Int32)) (d mi : Nat) (lv : List Value) (f : Nat → e_C) (n k : Nat) (r : Option Value) : Prop := TT X d mi 0 lv [] f n k (fun f' n' k' v => f' = f ∧ n' = n ∧ k' = k ∧ v = r)
theorem tt_pure {kind idx cm : Nat} {as rest : List Value} {r : e_R} {v : Option Value} (hc : e_cd mi pc = some (i, len)) (hr : e_re mi i st = none) (hs : e_st X (e_ow mi) (e_ni mi) pc i lv st (f, n, k) = none) (hk : e_kn i = some (kind, idx)) (hp : e_cp (e_ow mi) kind idx st (f, n, k) = some (cm, as, rest)) (hm : e_rc cm = some r)
    (h1 : PU X d cm (e_lc r.2.2.1 as) f n k v) : TT X (d + 1) mi pc lv st f n k Q = TT X (d + 1) mi (pc + 3) lv (v.toList ++ rest) f n k Q := by
  apply propext
  constructor
  · rintro ⟨N, g, n2, k2, v2, g1, g2⟩
    obtain ⟨M, f1, n1, k1, v1, g3, rfl, rfl, rfl, rfl⟩ := h1
    cases N with
    | zero => cases g1
    | succ N =>
      rw [ev, hc] at g1
      simp only [hr, hs, hk, hp, hm] at g1
      split at g1
      · next h' v' hev =>
        cases ev_one g3 hev
        exact ⟨N, g, n2, k2, v2, g1, g2⟩
      · cases g1
  · intro h2
    refine tt_call hc hr hs hk hp hm h1 ?_
    rintro f' n' k' v' ⟨rfl, rfl, rfl, rfl⟩
    exact h2
end TTS
/-! reading cells -/
def fld (c : e_C) (ci j : Nat) : Option Value := match c with
  | .inr (c2, fs) => if c2 = ci then fs[j]? else none
  | _ => none
def sfl (c : e_C) (j : Nat) (v : Value) : e_C := match c with
  | .inr (ci, fs) => .inr (ci, fs.set j v)
  | c => c
def arI (c : e_C) : Option (Nat × (Nat → Int32)) := match c with
  | .inl (.int, n, .inl g) => some (n, g)
  | _ => none
def arB (c : e_C) : Option (Nat × (Nat → Int32)) := match c with
  | .inl (.byte, n, .inl g) => some (n, g)
  | _ => none
def arZ (c : e_C) : Option (Nat × (Nat → Int32)) := match c with
  | .inl (.boolean, n, .inl g) => some (n, g)
  | _ => none
def arL (c : e_C) : Option (Nat × (Nat → Int64)) := match c with
  | .inl (.long, n, .inr (.inl g)) => some (n, g)
  | _ => none
def arR (c : e_C) (C : String) : Option (Nat × (Nat → Option Nat)) := match c with
  | .inl (.object C2, n, .inr (.inr (.inr (.inr g)))) => if C2 = C then some (n, g) else none
  | _ => none
def cno (c : e_C) : Option Nat := match c with
  | .inr (ci, _) => some ci
  | _ => none
theorem fld_sfl_same {c : e_C} {ci j : Nat} {v : Value} (h : (fld c ci j).isSome = true) : fld (sfl c j v) ci j = some v := by
  unfold fld at h
  split at h
  · next c2 fs =>
    split at h
    · next hc =>
      have hj : j < fs.length := by
        cases hfs : fs[j]? with
        | none => rw [hfs] at h; cases h
        | some w => exact (List.getElem?_eq_some_iff.mp hfs).1
      simp [fld, sfl, hc, hj]
    · cases h
  · cases h
theorem fld_sfl_ne {c : e_C} {ci j j' : Nat} {v : Value} (h : j' ≠ j) : fld (sfl c j v) ci j' = fld c ci j' := by
  unfold sfl
  split
  · next c2 fs =>
    simp only [fld]
    split
    · rw [List.getElem?_set_ne (fun z => h z.symm)]
    · rfl
  · rfl
theorem cno_sfl {c : e_C} {j : Nat} {v : Value} : cno (sfl c j v) = cno c := by
  unfold sfl
  split <;> rfl
theorem cno_fld {c : e_C} {ci j : Nat} (h : (fld c ci j).isSome = true) : cno c = some ci := by
  unfold fld at h
  split at h
  · split at h
    · next hc => rw [cno, hc]
    · cases h
  · cases h
theorem arI_mk (n : Nat) (g : Nat → Int32) : arI (.inl (.int, n, .inl g)) = some (n, g) := rfl
theorem arB_mk (n : Nat) (g : Nat → Int32) : arB (.inl (.byte, n, .inl g)) = some (n, g) := rfl
theorem arZ_mk (n : Nat) (g : Nat → Int32) : arZ (.inl (.boolean, n, .inl g)) = some (n, g) := rfl
theorem arL_mk (n : Nat) (g : Nat → Int64) : arL (.inl (.long, n, .inr (.inl g))) = some (n, g) := rfl
theorem vu_eq {f : Nat → e_C} {a : Nat} {c : e_C} : va_up f a c a = c := by simp [va_up]
theorem vu_ne {f : Nat → e_C} {a b : Nat} {c : e_C} (h : b ≠ a) : va_up f a c b = f b := by simp [va_up, h]
section TTH
variable {X : Nat × (Nat → Int32)} {d mi pc n k : Nat} {lv st : List Value} {f : Nat → e_C} {Q : t_Q}
/-- what a read goes on with: none: it can't be -/
def ow {α : Type} (o : Option α) (P : α → Prop) : Prop := match o with
  | some v => P v
  | none => False
theorem ow_some {α : Type} {v : α} {P : α → Prop} : ow (some v) P = P v := rfl
theorem tt_gf {a ci j idx : Nat} (hc : e_cd mi pc = some (.getfield idx, 3)) (hf : e_fd (e_ow mi) idx = some (ci, j)) : TT X d mi pc lv (.ref a :: st) f n k Q = ow (fld (f a) ci j) (fun v => TT X d mi (pc + 3) lv (v :: st) f n k Q) := by
  have hr : e_re mi (.getfield idx) (.ref a :: st) = none := rfl
  cases hv : fld (f a) ci j with
  | some v =>
    refine tt_st hc hr ?_
    unfold fld at hv
    split at hv
    · next c2 fs hfa =>
      split at hv
      · next hcc => simp only [e_st, e_gf, hf, hfa, hcc, if_true, hv, Option.map_some]
      · cases hv
    · cases hv
  | none =>
    refine tt_no hc hr ?_ rfl
    simp only [e_st, e_gf, hf]
    unfold fld at hv
    split at hv
    · next c2 fs hfa =>
      simp only [hfa]
      split at hv
      · next hcc => simp [hcc, hv]
      · next hcc => simp [hcc]
    · next hne =>
      split
      · next c2 fs hfa => exact absurd hfa (hne c2 fs)
      · rfl
theorem tt_iald {a : Nat} {i : Int32} (hc : e_cd mi pc = some (.iaload, 1)) : TT X d mi pc lv (.int i :: .ref a :: st) f n k Q = ow (arI (f a)) (fun q => e_in i q.1 = true ∧ TT X d mi (pc + 1) lv (.int (q.2 i.toNatClampNeg) :: st) f n k Q) := by
  have hr : e_re mi .iaload (.int i :: .ref a :: st) = none := rfl
  cases hv : arI (f a) with
  | some q =>
    obtain ⟨m, g⟩ := q
    have hfa : f a = .inl (.int, m, .inl g) := by
      unfold arI at hv
      split at hv
      · next h => rw [h]; cases hv; rfl
      · cases hv
    simp only [ow]
    by_cases hin : e_in i m = true
    · rw [eq_true hin, true_and]
      refine tt_st hc hr ?_
      simp only [e_st, e_iald, hfa, hin, if_true]
    · rw [eq_false hin, false_and]
      refine tt_no hc hr ?_ rfl
      simp only [e_st, e_iald, hfa, hin]
      rfl
  | none =>
    refine tt_no hc hr ?_ rfl
    simp only [e_st, e_iald]
    split
    · next m g hfa => rw [hfa] at hv; cases hv
    · rfl
theorem tt_iast {a : Nat} {i x : Int32} (hc : e_cd mi pc = some (.iastore, 1)) : TT X d mi pc lv (.int x :: .int i :: .ref a :: st) f n k Q = ow (arI (f a)) (fun q => e_in i q.1 = true ∧ TT X d mi (pc + 1) lv st (va_up f a (.inl (.int, q.1, .inl (upd q.2 i.toNatClampNeg x)))) n k Q) := by
  have hr : e_re mi .iastore (.int x :: .int i :: .ref a :: st) = none := rfl
  cases hv : arI (f a) with
  | some q =>
    obtain ⟨m, g⟩ := q
    have hfa : f a = .inl (.int, m, .inl g) := by
      unfold arI at hv
      split at hv
      · next h => rw [h]; cases hv; rfl
      · cases hv
    simp only [ow]
    by_cases hin : e_in i m = true
    · rw [eq_true hin, true_and]
      refine tt_st hc hr ?_
      simp only [e_st, e_iast, hfa, hin, if_true]
    · rw [eq_false hin, false_and]
      refine tt_no hc hr ?_ rfl
      simp only [e_st, e_iast, hfa, hin]
      rfl
  | none =>
    refine tt_no hc hr ?_ rfl
    simp only [e_st, e_iast]
    split
    · next m g hfa => rw [hfa] at hv; cases hv
    · rfl
end TTH

/-! how the small machine's cells lie in the real heap -/
def e_rl (b0 : Nat) (K : Nat → Value) : Value → Value
  | .ref k => .ref (b0 + k)
  | .retAddr k => K k
  | v => v
def e_ra (b0 : Nat) (a : vp_A) : vp_A := match a.2 with
  | .inr (.inr (.inr (.inr f))) => (a.1, .inr (.inr (.inr (.inr (fun j => (f j).map (fun q => b0 + q))))))
  | _ => a
def e_ce (b0 : Nat) (K : Nat → Value) (aC : FieldType → ClassId) : e_C → va_E
  | .inl (ty, a) => .inl (aC ty, e_ra b0 a)
  | .inr (ci, fs) => .inr (ci, fs.map (e_rl b0 K))
def e_ws (b0 : Nat) (K : Nat → Value) (aC : FieldType → ClassId) (h : e_H) : va_W := (List.range h.2.1).map fun k => (b0 + k, e_ce b0 K aC (h.1 k))
def e_A (b0 : Nat) : Nat → Prop := fun q => b0 ≤ q
theorem e_ws_at {b0 : Nat} {K : Nat → Value} {aC : FieldType → ClassId} {h : e_H} {k : Nat} (hk : k < h.2.1) : (e_ws b0 K aC h)[k]? = some (b0 + k, e_ce b0 K aC (h.1 k)) := by
  simp [e_ws, hk]
theorem e_ws_set {b0 : Nat} {K : Nat → Value} {aC : FieldType → ClassId} {h : e_H} {k : Nat} (c : e_C) : (e_ws b0 K aC h).set k (b0 + k, e_ce b0 K aC c) = e_ws b0 K aC (va_up h.1 k c, h.2) := by
  apply List.ext_getElem?
  intro j
  simp only [e_ws, List.getElem?_set, List.length_map, List.length_range, List.getElem?_map]
  by_cases hj : k = j
  · subst hj
    by_cases hl : k < h.2.1
    · simp [hl, va_up]
    · simp [hl]
  · have hj' : ¬ j = k := fun q => hj q.symm
    by_cases hl : j < h.2.1
    · simp [hj, hl, va_up, hj']
    · simp [hj, hl]
theorem e_ws_new {b0 : Nat} {K : Nat → Value} {aC : FieldType → ClassId} {h : e_H} (c : e_C) (z : Nat) : e_ws b0 K aC (va_up h.1 h.2.1 c, h.2.1 + 1, z) = e_ws b0 K aC h ++ [(b0 + h.2.1, e_ce b0 K aC c)] := by
  simp only [e_ws, List.range_succ, List.map_append, List.map_cons, List.map_nil]
  congr 1
  · apply List.map_congr_left
    intro k hk
    have : ¬ k = h.2.1 := by have := List.mem_range.mp hk; omega
    simp [va_up, this]
  · simp [va_up]
theorem e_ws_D {b0 : Nat} {K : Nat → Value} {aC : FieldType → ClassId} {h : e_H} : va_D (e_A b0) (e_ws b0 K aC h) := by
  have key : ∀ (i : Nat) (p : Nat × va_E), (e_ws b0 K aC h)[i]? = some p → p.1 = b0 + i := by
    intro i p hp
    by_cases hi : i < h.2.1
    · rw [e_ws_at hi] at hp
      cases hp
      rfl
    · simp [e_ws, hi] at hp
  refine ⟨fun i j p q hp hq e => ?_, fun k q hq => ?_⟩
  · have h1 := key i p hp
    have h2 := key j q hq
    omega
  · have h1 := key k q hq
    show b0 ≤ q.1
    omega
/-- the heap now: the small machine's cells, nothing else of ours; what was there before us unchanged -/
def e_D (b0 : Nat) (K : Nat → Value) (aC : FieldType → ClassId) (D : va_G) (H0 : Heap) (h : e_H) (H : Heap) (locs : List Loc) : Prop :=
  H.size = b0 + h.2.1 ∧ va_P D e_cls (e_ws b0 K aC h) H ∧ (∀ k, h.2.1 ≤ k → h.1 k = e_dm) ∧ va_S (e_A b0) H0 H locs
theorem e_D.lt {b0 : Nat} {K : Nat → Value} {aC : FieldType → ClassId} {D : va_G} {H0 : Heap} {h : e_H} {H : Heap} {locs : List Loc} (hD : e_D b0 K aC D H0 h H locs) {k : Nat} (hk : h.1 k ≠ e_dm) : k < h.2.1 := by
  apply Nat.lt_of_not_le
  intro q
  exact hk (hD.2.2.1 k q)
theorem e_D.upd {b0 : Nat} {K : Nat → Value} {aC : FieldType → ClassId} {D : va_G} {H0 : Heap} {h : e_H} {H H1 : Heap} {locs locs1 : List Loc} (hD : e_D b0 K aC D H0 h H locs) {k : Nat} (hk : k < h.2.1) {c : e_C} (hz : H1.size = H.size) (hP : va_P D e_cls (e_ws b0 K aC (va_up h.1 k c, h.2)) H1) (hS : va_S (e_A b0) H0 H1 locs1) : e_D b0 K aC D H0 (va_up h.1 k c, h.2) H1 locs1 := by
  refine ⟨by rw [hz]; exact hD.1, hP, fun j hj => ?_, hS⟩
  have : ¬ j = k := by have : h.2.1 ≤ j := hj; omega
  show va_up h.1 k c j = e_dm
  rw [va_up, if_neg this]
  exact hD.2.2.1 j hj
/-- the locals: values, a long with its second place; unset ones are floats here -/
def e_cn (b0 : Nat) (K : Nat → Value) (lv : List Value) (i : Nat) : Option Value := match lv[i]? with
  | some (.int x) => some (.int x)
  | some (.ref x) => some (.ref (b0 + x))
  | some (.retAddr x) => some (K x)
  | some (.long x) => match lv[i + 1]? with
    | some (.double _) => some (.long x)
    | _ => none
  | _ => none
def e_la (b0 : Nat) (K : Nat → Value) (lv : List Value) : List (Nat × Value) := (List.range lv.length).filterMap fun i => (e_cn b0 K lv i).map fun v => (i, v)
theorem e_la_mem {b0 : Nat} {K : Nat → Value} {lv : List Value} {q : Nat × Value} : q ∈ e_la b0 K lv ↔ e_cn b0 K lv q.1 = some q.2 := by
  simp only [e_la, List.mem_filterMap, List.mem_range, Option.map_eq_some_iff]
  constructor
  · rintro ⟨i, hi, v, hv, rfl⟩
    exact hv
  · intro h
    refine ⟨q.1, ?_, q.2, h, rfl⟩
    apply Nat.lt_of_not_le
    intro hl
    rw [e_cn, List.getElem?_eq_none hl] at h
    cases h
def e_lr (b0 : Nat) (K : Nat → Value) (ls : Array Slot) (nL : Nat) (lv : List Value) : Prop := lv.length = nL ∧ lv_has ls nL (e_la b0 K lv)
theorem e_lr.at {b0 : Nat} {K : Nat → Value} {ls : Array Slot} {nL : Nat} {lv : List Value} (h : e_lr b0 K ls nL lv) {i : Nat} {v : Value} (hv : e_cn b0 K lv i = some v) : ls[i]? = some (.val v) := h.2.2.2 (i, v) (e_la_mem.mpr hv)
theorem e_lr.sto {b0 : Nat} {K : Nat → Value} (hK1 : ∀ k, (K k).category = 1) {ls ls' : Array Slot} {nL : Nat} {lv : List Value} (h : e_lr b0 K ls nL lv) {i : Nat} {v : Value} (hv : v.category = 1) (hc : ∀ w, v ≠ .float w) (hd : ∀ w, v ≠ .double w)
    (hl : lv_has ls' nL ((i, e_rl b0 K v) :: (e_la b0 K lv).filter (fun q => !(q.1 == i) && !(q.1 + 1 == i && q.2.category == 2)))) : e_lr b0 K ls' nL (lv.set i v) := by
  refine ⟨by rw [List.length_set]; exact h.1, hl.1, hl.2.1, fun q hq => hl.2.2 q ?_⟩
  have hq := e_la_mem.mp hq
  obtain ⟨j, w⟩ := q
  simp only at hq
  by_cases hj : j = i
  · subst hj
    have hi : j < lv.length := by
      apply Nat.lt_of_not_le
      intro z
      rw [e_cn, List.getElem?_eq_none (by rw [List.length_set]; exact z)] at hq
      cases hq
    rw [e_cn, List.getElem?_set_self hi] at hq
    have : w = e_rl b0 K v := by
      cases v with
      | int x => exact (Option.some.inj hq).symm
      | ref x => exact (Option.some.inj hq).symm
      | retAddr x => exact (Option.some.inj hq).symm
      | null => cases hq
      | float x => exact absurd rfl (hc x)
      | long x => cases hv
      | double x => cases hv
    rw [this]
    exact List.mem_cons_self
  · refine List.mem_cons_of_mem _ (List.mem_filter.mpr ⟨?_, ?_⟩)
    · refine e_la_mem.mpr ?_
      simp only [e_cn] at hq ⊢
      rw [List.getElem?_set_ne (fun z => hj z.symm)] at hq
      cases hlv : lv[j]? with
      | none => rw [hlv] at hq; cases hq
      | some u =>
        rw [hlv] at hq
        cases u with
        | long x =>
          by_cases hji : j + 1 = i
          · subst hji
            simp only at hq
            by_cases hl2 : j + 1 < lv.length
            · rw [List.getElem?_set_self hl2] at hq
              cases v <;> first | (exact absurd rfl (hd _)) | (simp at hq)
            · rw [List.getElem?_eq_none (by rw [List.length_set]; omega)] at hq
              simp at hq
          · rw [List.getElem?_set_ne (fun z => hji z.symm)] at hq
            exact hq
        | _ => exact hq
    · simp only [Bool.and_eq_true, Bool.not_eq_true', beq_eq_false_iff_ne, ne_eq, Bool.and_eq_false_iff, beq_iff_eq]
      refine ⟨hj, ?_⟩
      by_cases hji : j + 1 = i
      · right
        subst hji
        intro hcat
        simp only [e_cn] at hq
        rw [List.getElem?_set_ne (fun z => hj z.symm)] at hq
        cases hlv : lv[j]? with
        | none => rw [hlv] at hq; cases hq
        | some u =>
          rw [hlv] at hq
          cases u with
          | long x =>
            simp only at hq
            by_cases hl2 : j + 1 < lv.length
            · rw [List.getElem?_set_self hl2] at hq
              cases v <;> first | (exact absurd rfl (hd _)) | (simp at hq)
            · rw [List.getElem?_eq_none (by rw [List.length_set]; omega)] at hq
              simp at hq
          | int x => cases hq; cases hcat
          | ref x => cases hq; cases hcat
          | retAddr x => cases hq; rw [hK1] at hcat; cases hcat
          | null => cases hq
          | float x => cases hq
          | double x => cases hq
      · left; exact hji
theorem e_lr.stl {b0 : Nat} {K : Nat → Value} (hK1 : ∀ k, (K k).category = 1) {ls ls' : Array Slot} {nL : Nat} {lv : List Value} (h : e_lr b0 K ls nL lv) {i : Nat} {x : Int64}
    (hl : lv_has ls' nL ((i, .long x) :: (e_la b0 K lv).filter (fun q => !(q.1 == i) && (!(q.1 == i + 1) && !(q.1 + 1 == i && q.2.category == 2))))) : e_lr b0 K ls' nL ((lv.set i (.long x)).set (i + 1) (.double 0)) := by
  refine ⟨by rw [List.length_set, List.length_set]; exact h.1, hl.1, hl.2.1, fun q hq => hl.2.2 q ?_⟩
  have hq := e_la_mem.mp hq
  obtain ⟨j, w⟩ := q
  simp only at hq
  by_cases hj : j = i
  · subst hj
    have hw : w = .long x := by
      simp only [e_cn] at hq
      rw [List.getElem?_set_ne (by omega)] at hq
      by_cases hi : j < lv.length
      · rw [List.getElem?_set_self hi] at hq
        simp only at hq
        split at hq
        · exact (Option.some.inj hq).symm
        · cases hq
      · rw [List.getElem?_eq_none (by rw [List.length_set]; omega)] at hq
        cases hq
    rw [hw]
    exact List.mem_cons_self
  · by_cases hj1 : j = i + 1
    · exfalso
      subst hj1
      simp only [e_cn] at hq
      by_cases hi : i + 1 < lv.length
      · rw [List.getElem?_set_self (by rw [List.length_set]; exact hi)] at hq
        cases hq
      · rw [List.getElem?_eq_none (by rw [List.length_set, List.length_set]; omega)] at hq
        cases hq
    · have hn : ¬ (j + 1 = i ∧ w.category = 2) := by
        rintro ⟨hji, hcat⟩
        subst hji
        simp only [e_cn] at hq
        rw [List.getElem?_set_ne (by omega), List.getElem?_set_ne (by omega)] at hq
        cases hlv : lv[j]? with
        | none => rw [hlv] at hq; cases hq
        | some u =>
          rw [hlv] at hq
          cases u with
          | long y =>
            simp only at hq
            rw [List.getElem?_set_ne (by omega)] at hq
            by_cases hl2 : j + 1 < lv.length
            · rw [List.getElem?_set_self hl2] at hq
              simp at hq
            · rw [List.getElem?_eq_none (by rw [List.length_set]; omega)] at hq
              simp at hq
          | int y => cases hq; cases hcat
          | ref y => cases hq; cases hcat
          | retAddr y => cases hq; rw [hK1] at hcat; cases hcat
          | null => cases hq
          | float y => cases hq
          | double y => cases hq
      refine List.mem_cons_of_mem _ (List.mem_filter.mpr ⟨?_, ?_⟩)
      · refine e_la_mem.mpr ?_
        simp only [e_cn] at hq ⊢
        rw [List.getElem?_set_ne (by omega), List.getElem?_set_ne (by omega)] at hq
        cases hlv : lv[j]? with
        | none => rw [hlv] at hq; cases hq
        | some u =>
          rw [hlv] at hq
          cases u with
          | long y =>
            simp only at hq ⊢
            by_cases hji : j + 1 = i
            · exfalso
              subst hji
              rw [List.getElem?_set_ne (by omega)] at hq
              by_cases hl2 : j + 1 < lv.length
              · rw [List.getElem?_set_self hl2] at hq
                simp at hq
              · rw [List.getElem?_eq_none (by rw [List.length_set]; omega)] at hq
                simp at hq
            · rw [List.getElem?_set_ne (by omega), List.getElem?_set_ne (by omega)] at hq
              exact hq
          | _ => exact hq
      · simp only [Bool.and_eq_true, Bool.not_eq_true', beq_eq_false_iff_ne, ne_eq, Bool.and_eq_false_iff, beq_iff_eq]
        refine ⟨hj, hj1, ?_⟩
        by_cases hji : j + 1 = i
        · right
          intro hcat
          exact hn ⟨hji, hcat⟩
        · left; exact hji
theorem e_args_in {b0 : Nat} {K : Nat → Value} (hK1 : ∀ k, (K k).category = 1) : ∀ (as : List Value) (k : Nat) (pre : List Value) (N : Nat), pre.length = k → ∀ (j : Nat) (w : Value), k ≤ j → e_cn b0 K (pre ++ ((as.flatMap fun v => if v.category = 2 then [v, Value.double 0] else [v]) ++ List.replicate N (.float 0))) j = some w → (j, w) ∈ lv_args k (as.map (e_rl b0 K)) := by
  intro as
  induction as with
  | nil =>
    intro k pre N hk j w hj h
    exfalso
    simp only [List.flatMap_nil, List.nil_append, e_cn] at h
    rw [List.getElem?_append_right (by omega), List.getElem?_replicate] at h
    by_cases hl : j - pre.length < N
    · rw [if_pos hl] at h; cases h
    · rw [if_neg hl] at h; cases h
  | cons v t ih =>
    intro k pre N hk j w hj h
    have hcat : (e_rl b0 K v).category = v.category := by cases v <;> first | rfl | exact hK1 _
    simp only [List.map_cons, lv_args, hcat]
    by_cases hc : v.category = 2
    · rw [if_pos hc]
      simp only [List.flatMap_cons, if_pos hc] at h
      by_cases hjk : j = k
      · subst hjk
        have e0 : (pre ++ (([v, Value.double 0] ++ (t.flatMap fun v => if v.category = 2 then [v, Value.double 0] else [v])) ++ List.replicate N (.float 0)))[j]? = some v := by
          rw [List.getElem?_append_right (by omega)]; simp [hk]
        have e1 : (pre ++ (([v, Value.double 0] ++ (t.flatMap fun v => if v.category = 2 then [v, Value.double 0] else [v])) ++ List.replicate N (.float 0)))[j + 1]? = some (.double 0) := by
          rw [List.getElem?_append_right (by omega)]; simp [show j + 1 - pre.length = 1 by omega]
        simp only [e_cn, e0] at h
        cases v with
        | long x =>
          simp only [e1] at h
          rw [← Option.some.inj h]
          exact List.mem_cons_self
        | double x => cases h
        | int x => cases hc
        | ref x => cases hc
        | retAddr x => cases hc
        | null => cases hc
        | float x => cases hc
      · refine List.mem_cons_of_mem _ ?_
        by_cases hjk1 : j = k + 1
        · exfalso
          subst hjk1
          have e1 : (pre ++ (([v, Value.double 0] ++ (t.flatMap fun v => if v.category = 2 then [v, Value.double 0] else [v])) ++ List.replicate N (.float 0)))[k + 1]? = some (.double 0) := by
            rw [List.getElem?_append_right (by omega)]; simp [show k + 1 - pre.length = 1 by omega]
          simp only [e_cn, e1] at h
          cases h
        · refine ih (k + 2) (pre ++ [v, Value.double 0]) N (by simp [hk]) j w (by omega) ?_
          simpa using h
    · rw [if_neg hc]
      simp only [List.flatMap_cons, if_neg hc] at h
      by_cases hjk : j = k
      · subst hjk
        have e0 : (pre ++ (([v] ++ (t.flatMap fun v => if v.category = 2 then [v, Value.double 0] else [v])) ++ List.replicate N (.float 0)))[j]? = some v := by
          rw [List.getElem?_append_right (by omega)]; simp [hk]
        simp only [e_cn, e0] at h
        cases v with
        | int x => rw [← Option.some.inj h]; exact List.mem_cons_self
        | ref x => rw [← Option.some.inj h]; exact List.mem_cons_self
        | retAddr x => rw [← Option.some.inj h]; exact List.mem_cons_self
        | long x => exact absurd rfl hc
        | double x => cases h
        | null => cases h
        | float x => cases h
      · refine List.mem_cons_of_mem _ ?_
        refine ih (k + 1) (pre ++ [v]) N (by simp [hk]) j w (by omega) ?_
        simpa using h
/-- a callee's locals -/
theorem e_lr.entry {b0 : Nat} {K : Nat → Value} {as : List Value} {nL : Nat} (hK1 : ∀ k, (K k).category = 1) (hlen : (lg_sl (as.map (e_rl b0 K))).length ≤ nL) :
    e_lr b0 K ((lg_sl (as.map (e_rl b0 K)) ++ List.replicate (nL - (lg_sl (as.map (e_rl b0 K))).length) Slot.unset).toArray) nL (e_lc nL as) := by
  have hcat : ∀ v : Value, (e_rl b0 K v).category = v.category := by
    intro v
    cases v <;> first | rfl | exact hK1 _
  have hlens : ∀ as : List Value, (lg_sl (as.map (e_rl b0 K))).length = (as.flatMap fun v => if v.category = 2 then [v, Value.double 0] else [v]).length := by
    intro as
    induction as with
    | nil => rfl
    | cons v t ih =>
      simp only [lg_sl, List.map_cons, List.flatMap_cons, List.length_append] at ih ⊢
      rw [ih, hcat]
      split <;> rfl
  have h0 := lv_entry (as.map (e_rl b0 K)) hlen
  refine ⟨?_, h0.1, h0.2.1, fun q hq => h0.2.2 q ?_⟩
  · simp only [e_lc, List.length_append, List.length_replicate]
    rw [← hlens as]
    omega
  · have hq := e_la_mem.mp hq
    have key := e_args_in (b0 := b0) (K := K) hK1
    obtain ⟨j, w⟩ := q
    refine key as 0 [] (nL - (as.flatMap fun v => if v.category = 2 then [v, Value.double 0] else [v]).length) rfl j w (Nat.zero_le _) ?_
    simpa [e_lc] using hq

/-! what the decided tables say, in words -/
theorem e_lk {α β : Type} [BEq α] [LawfulBEq α] {l : List (α × β)} {a : α} {b : β} (h : l.lookup a = some b) : (a, b) ∈ l := by
  induction l with
  | nil => cases h
  | cons q t ih =>
    obtain ⟨x, y⟩ := q
    rw [List.lookup_cons] at h
    by_cases hx : a = x
    · subst hx
      simp at h
      subst h
      exact List.mem_cons_self
    · have : (a == x) = false := by simpa using hx
      rw [this] at h
      exact List.mem_cons_of_mem _ (ih h)
theorem e_clsAt {ci : Nat} {q : vw_C × (Nat → FieldType) × List Value} (h : e_K[ci]? = some q) : e_cls[ci]? = some q.1 := by
  simp [e_cls, List.getElem?_map, h]
theorem e_kOf {ci : Nat} {q : vw_C × (Nat → FieldType) × List Value} (h : e_K[ci]? = some q) : e_okK q := e_kAll q (List.mem_of_getElem? h)
theorem e_uw {C : String} {T : u_T} {N : Nat} : ∀ w ∈ u_ws C T N, goodWord w = true := by
  intro w hw
  obtain ⟨k, -, rfl⟩ := List.mem_map.mp hw
  unfold u_lay
  split <;> rfl
theorem e_fdS {own idx ci j : Nat} (h : e_fd own idx = some (ci, j)) : ∃ (C0 : String) (q : vw_C × (Nat → FieldType) × List Value), e_N[own]? = some C0 ∧ e_K[ci]? = some q ∧ j < q.1.2.2 ∧ Cond.fieldLink C0 idx q.1.1 (q.1.2.1 j).2.1 (q.1.2.1 j).2.2.1 ∈ lw_tbl ∧ (q.1.2.1 j).1 = q.1.1 := by
  have h1 := e_lk h
  obtain ⟨e, he, h2⟩ := List.mem_map.mp h1
  obtain ⟨⟨⟨o1, i1⟩, c1, j1⟩, w⟩ := e
  cases h2
  have h3 := List.all_eq_true.mp e_cFok _ he
  simp only [e_cF] at h3
  split at h3
  · next C0 q hC hq =>
    simp only [Bool.and_eq_true, decide_eq_true_eq] at h3
    obtain ⟨⟨h4, h5⟩, h6⟩ := h3
    split at h5
    · next c i r n d hw =>
      simp only [decide_eq_true_eq] at h5
      obtain ⟨rfl, rfl, rfl, rfl, rfl⟩ := h5
      exact ⟨_, q, hC, hq, h4, List.mem_of_getElem? hw, h6⟩
    · cases h5
  · cases h3
theorem e_wMLs {i : Nat} {C : String} {k : Nat} {y : MethodName} (h : e_wML i C k y = true) : Cond.methodLink C k y ∈ lw_tbl := by
  unfold e_wML at h
  split at h
  · next hw =>
    simp only [decide_eq_true_eq] at h
    obtain ⟨rfl, rfl, rfl⟩ := h
    exact List.mem_of_getElem? hw
  · cases h
theorem e_wSTs {i : Nat} {y : MethodName} (h : e_wST i y = true) : Cond.static y ∈ lw_tbl := by
  unfold e_wST at h
  split at h
  · next hw =>
    simp only [decide_eq_true_eq] at h
    subst h
    exact List.mem_of_getElem? hw
  · cases h
theorem e_wIMs {i : Nat} {y : MethodName} (h : e_wIM i y = true) : Cond.instanceMethod y ∈ lw_tbl := by
  unfold e_wIM at h
  split at h
  · next hw =>
    simp only [decide_eq_true_eq] at h
    subst h
    exact List.mem_of_getElem? hw
  · cases h
theorem e_wSEs {i : Nat} {y : MethodName} (h : e_wSE i y = true) : Cond.selects y.cls y y ∈ lw_tbl := by
  unfold e_wSE at h
  split at h
  · next hw =>
    simp only [decide_eq_true_eq] at h
    obtain ⟨rfl, rfl, rfl⟩ := h
    exact List.mem_of_getElem? hw
  · cases h
def e_lnk (C0 : String) (idx : Nat) (r : e_R) (k : Nat) : Prop := match k with
  | 0 => Cond.methodLink C0 idx r.1 ∈ lw_tbl ∧ Cond.static r.1 ∈ lw_tbl
  | 1 => Cond.methodLink C0 idx r.1 ∈ lw_tbl ∧ Cond.instanceMethod r.1 ∈ lw_tbl ∧ Cond.selects r.1.cls r.1 r.1 ∈ lw_tbl
  | 2 => Cond.methodLink C0 idx r.1 ∈ lw_tbl ∧ Cond.instanceMethod r.1 ∈ lw_tbl ∧ r.1.name = "<init>" ∧ r.2.2.2.1 = none
  | _ => Cond.methodLink C0 idx Lib.objectInit ∈ lw_tbl
theorem e_rsS {own idx cm k : Nat} (h : e_rs own idx = some (cm, k)) : ∃ (C0 : String) (r : e_R), e_N[own]? = some C0 ∧ e_M[cm]? = some r ∧ e_lnk C0 idx r k := by
  have h1 := e_lk h
  obtain ⟨e, he, h2⟩ := List.mem_map.mp h1
  obtain ⟨⟨⟨o1, i1⟩, c1, j1⟩, w⟩ := e
  cases h2
  have h3 := List.all_eq_true.mp e_cRok _ he
  simp only [e_cR] at h3
  split at h3
  · next C0 r hC hr =>
    refine ⟨C0, r, hC, hr, ?_⟩
    unfold e_lnk
    split at h3 <;> (try simp only [Bool.and_eq_true, decide_eq_true_eq] at h3)
    · exact ⟨e_wMLs h3.1, e_wSTs h3.2⟩
    · exact ⟨e_wMLs h3.1.1, e_wIMs h3.1.2, e_wSEs h3.2⟩
    · exact ⟨e_wMLs h3.1.1.1, e_wIMs h3.1.1.2, h3.1.2, h3.2⟩
    · next n0 n1 n2 =>
      split
      · exact absurd rfl n0
      · exact absurd rfl n1
      · exact absurd rfl n2
      · exact e_wMLs h3
  · cases h3
theorem e_kdS {own idx : Nat} {v : Value} (h : e_kd own idx = some v) : ∃ C0 : String, e_N[own]? = some C0 ∧ (∀ x, v = .int x → Cond.constant C0 idx x ∈ lw_tbl) ∧ ∀ x, v = .long x → Cond.constantLong C0 idx x ∈ lw_tbl := by
  have h1 := e_lk h
  obtain ⟨e, he, h2⟩ := List.mem_map.mp h1
  obtain ⟨⟨⟨o1, i1⟩, v1⟩, w⟩ := e
  cases h2
  have h3 := List.all_eq_true.mp e_cLok _ he
  simp only [e_cL] at h3
  split at h3
  · next C0 x hC =>
    simp only [decide_eq_true_eq] at h3
    exact ⟨C0, hC, (fun y hy => by cases hy; exact List.mem_of_getElem? h3), fun y hy => by cases hy⟩
  · next C0 x hC =>
    simp only [decide_eq_true_eq] at h3
    exact ⟨C0, hC, (fun y hy => by cases hy), fun y hy => by cases hy; exact List.mem_of_getElem? h3⟩
  · cases h3
theorem e_nwS {own idx ci : Nat} (h : e_nw own idx = some ci) : ∃ (C0 : String) (q : vw_C × (Nat → FieldType) × List Value), e_N[own]? = some C0 ∧ e_K[ci]? = some q ∧ Cond.classLink C0 idx q.1.1 ∈ lw_tbl := by
  have h1 := e_lk h
  obtain ⟨e, he, h2⟩ := List.mem_map.mp h1
  obtain ⟨⟨⟨o1, i1⟩, v1⟩, w⟩ := e
  cases h2
  have h3 := List.all_eq_true.mp e_cWok _ he
  simp only [e_cW] at h3
  split at h3
  · next C0 q hC hq =>
    simp only [decide_eq_true_eq] at h3
    exact ⟨C0, q, hC, hq, List.mem_of_getElem? h3⟩
  · cases h3
/-- a method of the table -/
def e_okM (r : e_R) : Prop := plainFor r.1 = true ∧ Cond.code r.1 r.2.1 r.2.2.1 r.2.2.2.1 ∈ lw_tbl ∧ Cond.initialized r.1.cls ∈ lw_tbl ∧ e_N[r.2.2.2.2.1]? = some r.1.cls ∧ (r.1.cls ≠ "java/lang/invoke/MethodHandle" ∧ r.1.cls ≠ "java/lang/invoke/VarHandle" ∧ (parseMethodDescriptor r.1.desc).map (fun d => d.parameters.length) = some r.2.2.2.2.2.1) ∧ r.2.2.1 ≤ 40
theorem e_mOf {mi : Nat} {r : e_R} (h : e_M[mi]? = some r) : e_okM r ∧ e_okD r ∧ ∀ q ∈ r.2.2.2.2.2.2, e_lok q.2 = true := by
  have h1 : r ∈ e_M := List.mem_of_getElem? h
  obtain ⟨e, he, h2⟩ := List.mem_map.mp h1
  subst h2
  refine ⟨?_, e_dAll e he, fun q hq => ?_⟩
  · have h3 := List.all_eq_true.mp e_cMok _ he
    simp only [e_cM, Bool.and_eq_true, decide_eq_true_eq] at h3
    obtain ⟨⟨⟨⟨⟨⟨⟨h4, h5⟩, h6⟩, h7⟩, h8⟩, h9⟩, h10⟩, h11⟩ := h3
    refine ⟨h6, ?_, ?_, h7, ⟨h8, h9, h10⟩, h11⟩
    · split at h4
      · next y b mm tt hw =>
        simp only [Bool.and_eq_true, decide_eq_true_eq, beq_iff_eq] at h4
        obtain ⟨⟨⟨g1, g2⟩, g3⟩, g4⟩ := h4
        have := List.mem_of_getElem? hw
        rw [g1, e_nb_inj g2, g3, g4] at this
        exact this
      · cases h4
    · split at h5
      · next C hw =>
        simp only [decide_eq_true_eq] at h5
        have := List.mem_of_getElem? hw
        rw [h5] at this
        exact this
      · cases h5
  · have h3 := List.all_eq_true.mp e_lAll _ h1
    exact List.all_eq_true.mp h3 q hq
theorem e_lkCS : Cond.fieldLink "java/lang/String" 38 "java/lang/String" "COMPACT_STRINGS" "Z" ∈ lw_tbl := by decide +kernel
theorem e_lkSF : Cond.fieldLink "java/lang/String" 1053 "jdk/internal/util/Preconditions" "SIOOBE_FORMATTER" "Ljava/util/function/BiFunction;" ∈ lw_tbl := by decide +kernel
theorem e_lkVA : Cond.fieldLink "java/lang/String" 9 "java/lang/String" "value" "[B" ∈ lw_tbl := by decide +kernel
theorem e_lkCO : Cond.fieldLink "java/lang/String" 15 "java/lang/String" "coder" "B" ∈ lw_tbl := by decide +kernel
theorem e_nkAll : ∀ ci, ci < 13 → e_N[ci]? = (e_K[ci]?).map (fun q => q.1.1) := by decide +kernel
theorem e_nk {ci : Nat} {q : vw_C × (Nat → FieldType) × List Value} (h : e_K[ci]? = some q) : e_N[ci]? = some q.1.1 := by
  have hl : ci < 13 := (List.getElem?_eq_some_iff.mp h).1
  rw [e_nkAll ci hl, h]; rfl
theorem e_dfltAll : ∀ q ∈ e_K, q.2.2.all (fun v => match v with | .int _ => true | .long _ => true | .null => true | _ => false) = true := by
  intro q hq
  have h : (e_K.all fun q => q.2.2.all (fun v => match v with | .int _ => true | .long _ => true | .null => true | _ => false)) = true := by decide +kernel
  exact List.all_eq_true.mp h q hq
theorem e_dflt {b0 ci : Nat} {K : Nat → Value} {q : vw_C × (Nat → FieldType) × List Value} (h : e_K[ci]? = some q) : q.2.2.map (e_rl b0 K) = q.2.2 := by
  have h1 := e_dfltAll q (List.mem_of_getElem? h)
  rw [List.all_eq_true] at h1
  have : q.2.2.map (e_rl b0 K) = q.2.2.map id := by
    apply List.map_congr_left
    intro v hv
    have := h1 v hv
    cases v <;> first | rfl | (simp at this)
  rw [this, List.map_id]

/-! a law over a list -/
def l_st (w : Nat → Int32) (c : Int32) (st : List Int32) : List Int32 := if c < 3000 then (if c < 1000 then c else w (c - 1000).toNatClampNeg) :: st else if c = 3006 then (match st with | a :: r => (1 - a) :: r | [] => []) else (match st with | b :: a :: r => m_btw c a b :: r | _ => [])
def l_it (w cs : Nat → Int32) : Nat → Nat → List Int32 → List Int32
  | 0, _, s => s
  | m + 1, k, s => l_it w cs m (k + 1) (l_st w (cs k) s)
def l_R (h : Nat) (g : Nat → Int32) (st : List Int32) : Prop := st.length = h ∧ ∀ i, i < h → st[i]? = some (g (h - 1 - i))
theorem l_same {w cs : Nat → Int32} : ∀ (m k h : Nat) (g : Nat → Int32) (st : List Int32), m_vd cs m k h → l_R h g st → ∃ v, l_it w cs m k st = [v] ∧ (m_it w cs m k (h, g)).2 0 = v := by
  intro m
  induction m with
  | zero =>
    intro k h g st hv hr
    rw [m_vd] at hv
    subst hv
    obtain ⟨h1, h2⟩ := hr
    match st, h1 with
    | [v], _ =>
      have := h2 0 (by omega)
      simp at this
      exact ⟨v, rfl, this.symm⟩
  | succ m ih =>
    intro k h g st hv hr
    obtain ⟨h1, h2⟩ := hr
    rw [m_vd] at hv
    rw [l_it, m_it]
    unfold l_st m_st
    rcases hv with ⟨hc, hh40, hcode, hv⟩ | ⟨hc, hh1, hv⟩ | ⟨hc, hc6, hh2, hv⟩
    · rw [if_pos hc, if_pos hc]
      refine ih _ _ _ _ hv ⟨by simp [h1], fun i hi => ?_⟩
      cases i with
      | zero => simp [upd]
      | succ i =>
        have := h2 i (by omega)
        simp only [List.getElem?_cons_succ, this]
        rw [show h + 1 - 1 - (i + 1) = h - 1 - i by omega]
        simp [upd, show ¬ h - 1 - i = h by omega]
    · have h3 : ¬ (3006 : Int32) < 3000 := by decide
      rw [hc, if_neg h3, if_neg h3, if_pos rfl, if_pos rfl]
      match st, h1 with
      | [], h1 => simp at h1; omega
      | a :: r, h1 =>
        have ha := h2 0 (by omega)
        simp at ha
        refine ih _ _ _ _ hv ⟨by simpa using h1, fun i hi => ?_⟩
        cases i with
        | zero => simp [upd, ha]
        | succ i =>
          have := h2 (i + 1) (by omega)
          simp only [List.getElem?_cons_succ] at this ⊢
          rw [this]
          simp [upd, show ¬ h - 1 - (i + 1) = h - 1 by omega]
    · rw [if_neg hc, if_neg hc, if_neg hc6, if_neg hc6]
      match st, h1 with
      | [], h1 => simp at h1; omega
      | [a], h1 => simp at h1; omega
      | b :: a :: r, h1 =>
        have hb := h2 0 (by omega)
        have ha := h2 1 (by omega)
        simp at hb ha
        refine ih _ _ _ _ hv ⟨by simp at h1 ⊢; omega, fun i hi => ?_⟩
        cases i with
        | zero =>
          simp [upd, show h - 1 - 1 = h - 2 by omega, hb, ha]
        | succ i =>
          have := h2 (i + 2) (by omega)
          simp only [List.getElem?_cons_succ] at this ⊢
          rw [this]
          simp [upd, show h - 1 - 1 - (i + 1) = h - 1 - (i + 2) by omega, show ¬ h - 1 - (i + 2) = h - 2 by omega]
/-- what a law tells of a person -/
def l_law (all : Nat → Int32) (F Mn p : Nat) (wed : Int32) : Int32 := (l_it (m_words all p wed) (fun i => all (494 + F + i)) Mn 0 []).headD 0
theorem l_law_of {all : Nat → Int32} {F Mn p : Nat} {wed : Int32} {g w : Nat → Int32} (hw : ∀ i, i < 7 → w i = m_words all p wed i) (hv : m_vd (fun i => all (494 + F + i)) Mn 0 0) : (m_it w (fun i => all (494 + F + i)) Mn 0 (0, g)).2 0 = l_law all F Mn p wed := by
  rw [m_it_words hw _ _ _ _ hv]
  obtain ⟨v, h1, h2⟩ := l_same (w := m_words all p wed) Mn 0 0 g [] hv ⟨rfl, fun i hi => by omega⟩
  rw [h2, l_law, h1]
  rfl

/-! what no run changes: rows' types and lengths, objects' classes; and, where no field is written, objects -/
def shp (c : e_C) : (FieldType × Nat × Nat) ⊕ (Nat × Nat) := match c with
  | .inl (ty, n, .inl _) => .inl (ty, n, 0)
  | .inl (ty, n, .inr (.inl _)) => .inl (ty, n, 1)
  | .inl (ty, n, .inr (.inr (.inl _))) => .inl (ty, n, 2)
  | .inl (ty, n, .inr (.inr (.inr (.inl _)))) => .inl (ty, n, 3)
  | .inl (ty, n, .inr (.inr (.inr (.inr _)))) => .inl (ty, n, 4)
  | .inr (ci, fs) => .inr (ci, fs.length)
def KP (h h' : e_H) : Prop := h.2.1 ≤ h'.2.1 ∧ ∀ a, a < h.2.1 → shp (h'.1 a) = shp (h.1 a)
def KO (h h' : e_H) : Prop := ∀ a, a < h.2.1 → ∀ c, h.1 a = .inr c → h'.1 a = .inr c
theorem KP.rf {h : e_H} : KP h h := ⟨Nat.le_refl _, fun _ _ => rfl⟩
theorem KO.rf {h : e_H} : KO h h := fun _ _ _ hc => hc
theorem KP.tr {h g i : e_H} (h1 : KP h g) (h2 : KP g i) : KP h i := ⟨Nat.le_trans h1.1 h2.1, fun a ha => (h2.2 a (Nat.lt_of_lt_of_le ha h1.1)).trans (h1.2 a ha)⟩
theorem KO.tr {h g i : e_H} (h1 : KO h g) (k1 : KP h g) (h2 : KO g i) : KO h i := fun a ha c hc => h2 a (Nat.lt_of_lt_of_le ha k1.1) c (h1 a ha c hc)
theorem KP.put {f : Nat → e_C} {n k a : Nat} {c : e_C} (h : shp c = shp (f a)) : KP (f, n, k) (va_up f a c, n, k) := by
  refine ⟨Nat.le_refl _, fun b hb => ?_⟩
  by_cases hba : b = a
  · subst hba; show shp (va_up f b c b) = _; rw [vu_eq]; exact h
  · show shp (va_up f a c b) = _; rw [vu_ne hba]
theorem KO.put {f : Nat → e_C} {n k a : Nat} {c : e_C} {x : FieldType × vp_A} (h : f a = .inl x) : KO (f, n, k) (va_up f a c, n, k) := by
  intro b hb c' hc
  by_cases hba : b = a
  · subst hba
    have hc' : f b = .inr c' := hc
    rw [h] at hc'; cases hc'
  · show va_up f a c b = _; rw [vu_ne hba]; exact hc
theorem KP.new {f : Nat → e_C} {n k k' : Nat} {c : e_C} : KP (f, n, k) (va_up f n c, n + 1, k') := ⟨Nat.le_succ _, fun b hb => by
  have hb' : b < n := hb
  show shp (va_up f n c b) = _; rw [vu_ne (by omega)]⟩
theorem KO.new {f : Nat → e_C} {n k k' : Nat} {c : e_C} : KO (f, n, k) (va_up f n c, n + 1, k') := fun b hb c' hc => by
  have hb' : b < n := hb
  show va_up f n c b = _; rw [vu_ne (by omega)]; exact hc
def npi : Instr → Bool
  | .putfield _ => false
  | _ => true
theorem nm_kp {h h' : e_H} {i : Instr} (e : h = h') : KP h h' ∧ (npi i = true → KO h h') := by subst e; exact ⟨KP.rf, fun _ => KO.rf⟩
theorem kp_pf {own pc pc' idx : Nat} {ini : Bool} {lv st lv' st' : List Value} {h h' : e_H} (hs : e_pf own ini pc lv st h idx = some (pc', lv', st', h')) : KP h h' := by
  obtain ⟨f, n, k⟩ := h
  unfold e_pf at hs
  split at hs
  · split at hs
    · split at hs
      · split at hs
        · cases hs
          next c2 fs q hfa hq hcc =>
          refine KP.put ?_
          rw [show f _ = _ from hfa, hcc.1]
          simp [shp]
        · cases hs
      · cases hs
    · cases hs
  · cases hs
theorem kp_iast {pc pc' : Nat} {lv st lv' st' : List Value} {h h' : e_H} (hs : e_iast pc lv st h = some (pc', lv', st', h')) : KP h h' ∧ KO h h' := by
  obtain ⟨f, n, k⟩ := h
  unfold e_iast at hs
  split at hs
  · split at hs
    · next hfa =>
      split at hs
      · cases hs
        exact ⟨KP.put (by rw [show f _ = _ from hfa]; rfl), KO.put hfa⟩
      · cases hs
    · cases hs
  · cases hs
theorem kp_bast {pc pc' : Nat} {lv st lv' st' : List Value} {h h' : e_H} (hs : e_bast pc lv st h = some (pc', lv', st', h')) : KP h h' ∧ KO h h' := by
  obtain ⟨f, n, k⟩ := h
  unfold e_bast at hs
  split at hs
  · split at hs
    · next hfa =>
      split at hs
      · cases hs
        exact ⟨KP.put (by rw [show f _ = _ from hfa]; rfl), KO.put hfa⟩
      · cases hs
    · next hfa =>
      split at hs
      · cases hs
        exact ⟨KP.put (by rw [show f _ = _ from hfa]; rfl), KO.put hfa⟩
      · cases hs
    · cases hs
  · cases hs
theorem kp_last {pc pc' : Nat} {lv st lv' st' : List Value} {h h' : e_H} (hs : e_last pc lv st h = some (pc', lv', st', h')) : KP h h' ∧ KO h h' := by
  obtain ⟨f, n, k⟩ := h
  unfold e_last at hs
  split at hs
  · split at hs
    · next hfa =>
      split at hs
      · cases hs
        exact ⟨KP.put (by rw [show f _ = _ from hfa]; rfl), KO.put hfa⟩
      · cases hs
    · cases hs
  · cases hs
theorem kp_aast {pc pc' : Nat} {lv st lv' st' : List Value} {h h' : e_H} (hs : e_aast pc lv st h = some (pc', lv', st', h')) : KP h h' ∧ KO h h' := by
  obtain ⟨f, n, k⟩ := h
  unfold e_aast at hs
  split at hs
  · split at hs
    · next hfa hfv =>
      split at hs
      · split at hs
        · cases hs
          exact ⟨KP.put (by rw [show f _ = _ from hfa]; rfl), KO.put hfa⟩
        · cases hs
      · cases hs
    · cases hs
  · cases hs
theorem kp_newa {pc pc' : Nat} {lv st lv' st' : List Value} {h h' : e_H} {ty : FieldType} {z : Nat → vp_A} (hs : e_newa pc lv st h ty z = some (pc', lv', st', h')) : KP h h' ∧ KO h h' := by
  obtain ⟨f, n, k⟩ := h
  unfold e_newa at hs
  split at hs
  · split at hs
    · cases hs
      exact ⟨KP.new, KO.new⟩
    · cases hs
  · cases hs
theorem kp_new {own pc pc' idx : Nat} {lv st lv' st' : List Value} {h h' : e_H} (hs : e_new own pc lv st h idx = some (pc', lv', st', h')) : KP h h' ∧ KO h h' := by
  obtain ⟨f, n, k⟩ := h
  unfold e_new at hs
  split at hs
  · split at hs
    · cases hs
      exact ⟨KP.new, KO.new⟩
    · cases hs
  · cases hs
theorem kk {i : Instr} {h h' : e_H} (e : KP h h' ∧ KO h h') : KP h h' ∧ (npi i = true → KO h h') := ⟨e.1, fun _ => e.2⟩
theorem e_st_kp {X : Nat × (Nat → Int32)} {own : Nat} {ini : Bool} {pc pc' : Nat} {i : Instr} {lv st lv' st' : List Value} {h h' : e_H} (hs : e_st X own ini pc i lv st h = some (pc', lv', st', h')) : KP h h' ∧ (npi i = true → KO h h') := by
  unfold e_st at hs
  split at hs
  all_goals
    first
      | exact kk (kp_iast hs)
      | exact kk (kp_bast hs)
      | exact kk (kp_last hs)
      | exact kk (kp_aast hs)
      | exact kk (kp_newa hs)
      | exact kk (kp_new hs)
      | exact ⟨kp_pf hs, fun z => by cases z⟩
      | skip
  all_goals try simp only [e_ldi, e_lda, e_ldl, e_sti, e_sta, e_stll, e_ii, e_iz, e_i1, e_ll, e_lz, e_ls, e_gf, e_iald, e_bald, e_lald, e_aald, e_alen, Option.map] at hs
  all_goals
    repeat' split at hs
  all_goals first | (cases hs; exact nm_kp rfl) | exact kk (kp_newa hs) | (cases hs; done)
def e_code (mi : Nat) : List (Nat × Instr × Nat) := match (if mi = 999 then some e_ML else e_rc mi) with
  | some r => r.2.2.2.2.2.2
  | none => []
def np_ok (L : List Nat) : Bool := L.all fun mi => (e_code mi).all fun q => npi q.2.1 && (match e_kn q.2.1 with
  | some (_, idx) => match e_rs (e_ow mi) idx with
    | some (cm, k) => decide (k = 3) || L.contains cm
    | none => true
  | none => true)
theorem cd_mem {mi pc : Nat} {i : Instr} {len : Nat} (h : e_cd mi pc = some (i, len)) : (pc, i, len) ∈ e_code mi := by
  unfold e_cd at h
  unfold e_code
  split at h
  · next r hr =>
    simp only [hr]
    generalize r.2.2.2.2.2.2 = l at h
    induction l with
    | nil => cases h
    | cons a l ih =>
      obtain ⟨p, q⟩ := a
      rw [List.lookup_cons] at h
      split at h
      · next hp =>
        cases h
        rw [beq_iff_eq.mp hp]
        exact List.mem_cons_self
      · exact List.mem_cons_of_mem _ (ih h)
  · cases h
theorem cp_rs {own kind idx cm : Nat} {st as rest : List Value} {h : e_H} (hc : e_cp own kind idx st h = some (cm, as, rest)) : ∃ k, k < 3 ∧ e_rs own idx = some (cm, k) := by
  unfold e_cp at hc
  split at hc
  · next cm1 as1 rest1 h0 =>
    split at hc
    · split at hc
      · cases hc
        unfold e_cp0 at h0
        split at h0
        · next cm2 k2 hrs =>
          split at h0
          · split at h0
            · next hk =>
              refine ⟨k2, hk.2.1, ?_⟩
              rw [hrs]
              split at h0
              · split at h0
                · cases h0; rfl
                · cases h0
              · split at h0
                · split at h0
                  · split at h0
                    · cases h0; rfl
                    · cases h0
                  · cases h0
                · split at h0
                  · cases h0; rfl
                  · cases h0
                · cases h0
            · cases h0
          · cases h0
        · cases h0
      · cases hc
    · cases hc
  · cases hc
theorem ev_kp {X : Nat × (Nat → Int32)} {L : List Nat} (hL : np_ok L = true) : ∀ {n d mi pc : Nat} {lv st : List Value} {h h' : e_H} {v : Option Value}, ev X n d mi pc lv st h = some (h', v) → KP h h' ∧ (mi ∈ L → KO h h') := by
  intro n
  induction n with
  | zero => intro d mi pc lv st h h' v hs; cases hs
  | succ n ih =>
    intro d mi pc lv st h h' v hs
    rw [ev] at hs
    split at hs
    · cases hs
    · next i len hcd =>
      split at hs
      · cases hs; exact ⟨KP.rf, fun _ => KO.rf⟩
      · split at hs
        · next pc1 lv1 st1 h1 hst =>
          have k1 := e_st_kp hst
          have k2 := ih hs
          refine ⟨k1.1.tr k2.1, fun hm => (k1.2 ?_).tr k1.1 (k2.2 hm)⟩
          have q1 := List.all_eq_true.mp hL mi hm
          have q2 := List.all_eq_true.mp q1 _ (cd_mem hcd)
          exact (Bool.and_eq_true_iff.mp q2).1
        · split at hs
          · next kind idx d' hkn =>
            split at hs
            · next cm as rest hcp =>
              split at hs
              · split at hs
                · next h1 v1 hev =>
                  have k1 := ih hev
                  have k2 := ih hs
                  refine ⟨k1.1.tr k2.1, fun hm => (k1.2 ?_).tr k1.1 (k2.2 hm)⟩
                  have q1 := List.all_eq_true.mp hL mi hm
                  have q2 := (Bool.and_eq_true_iff.mp (List.all_eq_true.mp q1 _ (cd_mem hcd))).2
                  obtain ⟨k3, hk3, hrs⟩ := cp_rs hcp
                  simp only [hkn, hrs] at q2
                  have : ¬ k3 = 3 := by omega
                  simpa [this] using q2
                · cases hs
              · cases hs
            · cases hs
          · cases hs
/-- a triple's end may lean on that -/
theorem TT.kp {X : Nat × (Nat → Int32)} {d mi pc n k : Nat} {lv st : List Value} {f : Nat → e_C} {Q : t_Q} (h : TT X d mi pc lv st f n k Q) : TT X d mi pc lv st f n k (fun f' n' k' v => Q f' n' k' v ∧ n ≤ n' ∧ ∀ a, a < n → shp (f' a) = shp (f a)) := by
  obtain ⟨N, f', n', k', v, h1, h2⟩ := h
  have := (ev_kp (L := []) rfl h1).1
  exact ⟨N, f', n', k', v, h1, h2, this⟩
theorem TT.np {X : Nat × (Nat → Int32)} {d mi pc n k : Nat} {lv st : List Value} {f : Nat → e_C} {Q : t_Q} (L : List Nat) (hL : np_ok L = true) (hm : mi ∈ L) (h : TT X d mi pc lv st f n k Q) : TT X d mi pc lv st f n k (fun f' n' k' v => Q f' n' k' v ∧ ∀ a, a < n → ∀ c, f a = .inr c → f' a = .inr c) := by
  obtain ⟨N, f', n', k', v, h1, h2⟩ := h
  have := (ev_kp hL h1).2 hm
  exact ⟨N, f', n', k', v, h1, h2, this⟩
theorem np_M : np_ok [201, 202, 203, 204, 205, 206, 207, 208, 209, 210, 211, 174, 214, 215, 217, 218, 223, 224, 225, 226, 227, 229, 230, 231, 233, 234, 236, 237, 238, 240, 243, 245, 246, 247] = true := by decide +kernel

/-! a whole run of the small machine is one of the real machine -/
theorem e_st_mono {X : Nat × (Nat → Int32)} {own : Nat} {ini : Bool} {pc pc' : Nat} {i : Instr} {lv st lv' st' : List Value} {h h' : e_H} (hs : e_st X own ini pc i lv st h = some (pc', lv', st', h')) : h.2.1 ≤ h'.2.1 ∧ h.2.2 ≤ h'.2.2 := by
  have newa : ∀ {pc : Nat} {ty : FieldType} {z : Nat → vp_A}, e_newa pc lv st h ty z = some (pc', lv', st', h') → h.2.1 ≤ h'.2.1 ∧ h.2.2 ≤ h'.2.2 := by
    intro pc ty z hs
    obtain ⟨n, r, -, -, -, ho⟩ := e_newa_inv hs
    cases ho
    exact ⟨Nat.le_add_right _ _, Nat.le_add_right _ _⟩
  cases i with
  | newarray at0 =>
    cases at0 with
    | int => exact newa (ty := .int) (by simpa only [e_st] using hs)
    | byte => exact newa (ty := .byte) (by simpa only [e_st] using hs)
    | boolean => exact newa (ty := .boolean) (by simpa only [e_st] using hs)
    | long => exact newa (ty := .long) (by simpa only [e_st] using hs)
    | _ => cases hs
  | anewarray idx =>
    simp only [e_st] at hs
    split at hs
    · split at hs
      · split at hs
        · exact newa hs
        · cases hs
      · cases hs
    · cases hs
  | new idx =>
    simp only [e_st, e_new] at hs
    split at hs
    · split at hs
      · cases hs
        exact ⟨Nat.le_add_right _ _, Nat.le_add_right _ _⟩
      · cases hs
    · cases hs
  | _ =>
    simp only [e_st, e_ldi, e_lda, e_ldl, e_sti, e_sta, e_stll, e_ii, e_iz, e_i1, e_ll, e_lz, e_ls, e_gf, e_pf, e_iald, e_bald, e_lald, e_aald, e_iast, e_bast, e_last, e_aast, e_alen, Option.map_eq_some_iff] at hs
    repeat' split at hs
    all_goals first | (cases hs; done) | (cases hs; exact ⟨Nat.le_refl _, Nat.le_refl _⟩) | (obtain ⟨t, ht, hs⟩ := hs; cases hs; exact ⟨Nat.le_refl _, Nat.le_refl _⟩) | (obtain ⟨t, ht, hs⟩ := Option.map_eq_some_iff.mp hs; cases hs; exact ⟨Nat.le_refl _, Nat.le_refl _⟩)
theorem ev_mono {X : Nat × (Nat → Int32)} : ∀ {n d mi pc : Nat} {lv st : List Value} {h h' : e_H} {v : Option Value}, ev X n d mi pc lv st h = some (h', v) → h.2.1 ≤ h'.2.1 ∧ h.2.2 ≤ h'.2.2 := by
  intro n
  induction n with
  | zero => intro d mi pc lv st h h' v hs; cases hs
  | succ n ih =>
    intro d mi pc lv st h h' v hs
    rw [ev] at hs
    split at hs
    · cases hs
    · split at hs
      · cases hs
        exact ⟨Nat.le_refl _, Nat.le_refl _⟩
      · split at hs
        · next h2 =>
          have h3 := e_st_mono h2
          have h4 := ih hs
          exact ⟨Nat.le_trans h3.1 h4.1, Nat.le_trans h3.2 h4.2⟩
        · split at hs
          · split at hs
            · split at hs
              · split at hs
                · next h2 =>
                  have h3 := ih h2
                  have h4 := ih hs
                  exact ⟨Nat.le_trans h3.1 h4.1, Nat.le_trans h3.2 h4.2⟩
                · cases hs
              · cases hs
            · cases hs
          · cases hs
def e_wr (r : e_R) : List Cond := Cond.code r.1 r.2.1 r.2.2.1 r.2.2.2.1 :: lw_tbl.filter goodWord
def e_rm (d k n : Nat) : Room := { frames := d + 1, cells := k, slots := n, locals := 64 * (d + 1) }
def e_Wd (b0 : Nat) (K : Nat → Value) (aC : FieldType → ClassId) (D : va_G) (X : Nat × (Nat → Int32)) (h : e_H) (U : State) : Prop := U.heap.size = b0 + h.2.1 ∧ va_P D e_cls (e_ws b0 K aC h) U.heap ∧ (∀ k, h.2.1 ≤ k → h.1 k = e_dm) ∧ e_Kx aC D U ∧ e_Cs b0 K X U U.heap
def e_Q (b0 : Nat) (K : Nat → Value) (aC : FieldType → ClassId) (D : va_G) (h' : e_H) (v : Option Value) : Array Value → State → Outcome → State → Prop := fun _ st o t => o = .returned (v.map (e_rl b0 K)) ∧ t.heap.size = b0 + h'.2.1 ∧ va_P D e_cls (e_ws b0 K aC h') t.heap ∧ (∀ k, h'.2.1 ≤ k → h'.1 k = e_dm) ∧ va_F (e_A b0) st t
def e_S (l : Launch) (b0 : Nat) (K : Nat → Value) (aC : FieldType → ClassId) (D : va_G) (X : Nat × (Nat → Int32)) (n : Nat) : Prop := ∀ (d mi : Nat) (r : e_R) (as : List Value) (h h' : e_H) (v : Option Value), e_M[mi]? = some r → e_al as ≤ r.2.2.1 → ev X n d mi 0 (e_lc r.2.2.1 as) [] h = some (h', v) →
  Met l r.1 (e_wr r) (e_rm d (h'.2.1 - h.2.1) (h'.2.2 - h.2.2)) (va_Pc (as.map (e_rl b0 K)) (e_Wd b0 K aC D X h)) (e_Q b0 K aC D h' v) (h'.2.1 - h.2.1) (h'.2.2 - h.2.2) (e_A b0)
theorem e_Kx.moved {aC : FieldType → ClassId} {D : va_G} {u U : State} (hvm : u.vm.Alike U.vm) (h : e_Kx aC D u) : e_Kx aC D U := ⟨va_K.moved hvm h.1, fun ty ht => ⟨arrOfT_moved hvm (h.2 ty ht).1, (h.2 ty ht).2.1.moved hvm, fun C hC => ((h.2 ty ht).2.2 C hC).moved hvm⟩⟩
theorem e_Cs.moved {b0 : Nat} {K : Nat → Value} {X : Nat × (Nat → Int32)} {u U : State} {H : Heap} (hvm : u.vm.Alike U.vm) (hR : ∀ own k tx a, vk_R own k tx a u → vk_R own k tx a U) (h : e_Cs b0 K X u H) : e_Cs b0 K X U H := by
  obtain ⟨h1, h2, h3, h4, h5, h6, b, h7, h8, h9⟩ := h
  refine ⟨h1, h2, fun q hq => ?_, va_Z.moved hvm h4, va_Z.moved hvm h5, fun e he C0 hC => ?_, b, h7, h8.moved hvm, h9⟩
  · obtain ⟨a, v, g1, g2, g3, g4, g5, g6⟩ := h3 q hq
    exact ⟨a, v, g1, g2, va_O.moved hvm g3, va_OF.moved hvm g4, va_OF.moved hvm g5, va_T.moved hvm g6⟩
  · obtain ⟨tx, a, g1, g2⟩ := h6 e he C0 hC
    exact ⟨tx, a, g1, hR _ _ _ _ g2⟩
theorem e_Cs.kept {b0 : Nat} {K : Nat → Value} {X : Nat × (Nat → Int32)} {U : State} {H H1 : Heap} (hz : H.size ≤ H1.size) (hq : ∀ a : Nat, a < H.size → ¬ e_A b0 a → H1[a]? = H[a]?) (h : e_Cs b0 K X U H) : e_Cs b0 K X U H1 := by
  obtain ⟨h1, h2, h3, h4, h5, h6, b, h7, h8, h9, h10⟩ := h
  refine ⟨h1, h2, fun q hq2 => ?_, h4.kept hq, h5.kept hq, h6, b, h7, h8.kept (hq b h9 h10), Nat.lt_of_lt_of_le h9 hz, h10⟩
  obtain ⟨a, v, g1, g2, g3, g4, g5, g6⟩ := h3 q hq2
  exact ⟨a, v, g1, g2, g3.kept hq, g4.kept hq, g5.kept hq, g6.kept hq⟩
theorem e_blind {b0 : Nat} {K : Nat → Value} {aC : FieldType → ClassId} {D : va_G} {X : Nat × (Nat → Int32)} {h : e_H} {av : List Value} : FrameBlind (va_Pc av (e_Wd b0 K aC D X h)) := by
  rintro a U g mk ⟨h1, h2, h3, h4, h5, h6⟩
  exact ⟨h1, h2, h3, h4, h5.moved (Vm.Alike.refl U.vm), h6.moved (Vm.Alike.refl U.vm) (fun _ _ _ _ z => vk_R.same rfl z)⟩
theorem e_ofW {l : Launch} {y : MethodName} {ws ws' : List Cond} {rm : Room} {Pc : Array Value → State → Prop} {Qc : Array Value → State → Outcome → State → Prop} {mc ms : Nat} {free : Addr → Prop} {cc : ByteArray} {maxL : Nat} {ret : Option FieldType}
    (hy : plainFor y = true) (hw : ws = Cond.code y cc maxL ret :: ws')
    (body : ∀ p e s m args below meth c s₁, BodyLoose p l y (headSpec ws rm) cc maxL ret e s m args below meth c s₁ → c.maxLocals = maxL → Pc args s →
      W p l e (headSpec ws rm).room s m args below meth c s.heap [] 0 0 (MQ below Qc args s mc ms free) (entryFrame m args maxL)) : Met l y ws rm Pc Qc mc ms free := by
  refine MetFree.of_bodySF (code := cc) (maxLocals := maxL) (ret := ret) hy ?_ ?_
  · intro args s m h hn
    obtain ⟨meth, c, h1, h2, h3, h4, h5, h6, -, -⟩ := Cond.code_spec hn (atoms_spec (ws := ws) h _ (by rw [hw]; exact List.mem_cons_self))
    exact ⟨meth, c, h1, h2, h3, h4, h5, h6⟩
  · intro p e s m args below meth c s₁ B hml hP _
    have hh0 : s₁.heap = s.heap := by rw [B.state]; rfl
    obtain ⟨t, a1, o, b1, b2, b3⟩ := body p e s m args below meth c s₁ B hml hP s₁ hh0 (Stand.of_body B)
    exact ⟨t, o, a1, b1, b2, ⟨b3.1, b3.2⟩⟩
section RUN
variable {p : Program} {l : Launch} {e : Env} {R : Room} {s : State} {m : MethodId} {args : Array Value} {below : List Frame} {meth : Method} {c : Code} {Q : State → Prop}
variable {cc : ByteArray} {nL own b0 : Nat} {K : Nat → Value} {aC : FieldType → ClassId} {D : va_G} {X : Nat × (Nat → Int32)} {n0 k0 : Nat}
variable {pc : Nat} {lv st : List Value} {h : e_H} {ls : Array Slot} {H : Heap} {locs : List Loc}
theorem e_go {h1 : e_H} {v : Option Value} {rest st0 : List Value} {a : Array Value} {cells slots mc ms : Nat} (hr : va_Run p l e R s m args below meth c H locs cells slots mc ms (F0 m pc ls st0) rest (e_Q b0 K aC D h1 v a) (e_A b0)) (hD : e_D b0 K aC D s.heap h H locs)
    (kk : ∀ H1 locs1, e_D b0 K aC D s.heap h1 H1 locs1 → W p l e R s m args below meth c H1 locs1 (cells + mc) (slots + ms) Q (F0 m (pc + 3) ls ((v.map (e_rl b0 K)).toList ++ rest))) : W p l e R s m args below meth c H locs cells slots Q (F0 m pc ls st0) := by
  intro T hT X1
  obtain ⟨v', st₀, t, T', L, h0, X', hL, e1, e2, ⟨hv, hz, hP, hdm, hF⟩, st⟩ := hr T hT X1
  cases hv
  obtain ⟨hF1, hF2⟩ := hF
  rw [h0] at hF1 hF2
  obtain ⟨t2, a1, b1⟩ := kk T'.heap (locs ++ L) ⟨by rw [e1]; exact hz, by rw [e1]; exact hP, hdm, Nat.le_trans hD.2.2.2.1 (by rw [e1]; exact hF1), fun q g1 g2 => by rw [e1, hF2 q (Nat.lt_of_lt_of_le g1 hD.2.2.2.1) g2]; exact hD.2.2.2.2.1 q g1 g2, fun q hq => by
      rcases List.mem_append.mp hq with z | z
      · exact hD.2.2.2.2.2 q z
      · exact hL q z⟩ T' rfl X'
  exact ⟨t2, st t2 a1, b1⟩
end RUN

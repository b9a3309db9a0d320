/-! the reference: a law reckoned -/
def m_st (w : Nat → Int32) (c : Int32) (s : Nat × (Nat → Int32)) : Nat × (Nat → Int32) := if c < 3000 then (s.1 + 1, upd s.2 s.1 (if c < 1000 then c else w (c - 1000).toNatClampNeg)) else if c = 3006 then (s.1, upd s.2 (s.1 - 1) (1 - s.2 (s.1 - 1))) else (s.1 - 1, upd s.2 (s.1 - 2) (m_btw c (s.2 (s.1 - 2)) (s.2 (s.1 - 1))))
def m_it (w cs : Nat → Int32) : Nat → Nat → Nat × (Nat → Int32) → Nat × (Nat → Int32)
  | 0, _, s => s
  | m + 1, k, s => m_it w cs m (k + 1) (m_st w (cs k) s)
/-- codes that can be reckoned: how many numbers wait -/
def m_vd (cs : Nat → Int32) : Nat → Nat → Nat → Prop
  | 0, _, h => h = 1
  | m + 1, k, h => (cs k < 3000 ∧ h < 40 ∧ ((cs k < 1000 ∧ 0 ≤ cs k) ∨ ∃ j, j < 7 ∧ cs k = nI (1000 + j)) ∧ m_vd cs m (k + 1) (h + 1)) ∨ (cs k = 3006 ∧ 1 ≤ h ∧ m_vd cs m (k + 1) h) ∨ (¬ cs k < 3000 ∧ ¬ cs k = 3006 ∧ 2 ≤ h ∧ m_vd cs m (k + 1) (h - 1))
theorem SX.rf {L : List Nat} {f : Nat → e_C} : SX L f f := fun _ _ => rfl
theorem SX.up {L : List Nat} {f : Nat → e_C} {a : Nat} {c : e_C} (h : a ∈ L) : SX L f (va_up f a c) := fun b hb => vu_ne (fun e => hb (e ▸ h))
theorem SX.tr {L : List Nat} {f g h : Nat → e_C} (h1 : SX L f g) (h2 : SX L g h) : SX L f h := fun a ha => (h2 a ha).trans (h1 a ha)
theorem MR.same {L : List Nat} {f f' : Nat → e_C} (h : MR f) (hs : SX L f f') (h1 : 171 ∉ L) : MR f' := by
  unfold MR at h ⊢
  rw [hs 171 h1]
  exact h
theorem hb_le {x : Int32} (h : x < 3000) : (3000 ≤ x) = False := by
  apply propext
  exact ⟨fun z => Int32.not_le.mpr h z, fun z => z.elim⟩
theorem sp_reckLoop {X : Nat × (Nat → Int32)} {d N0 K0 : Nat} {Q : t_Q} {all w : Nat → Int32} {law p F Mn : Nat} {wed : Int32} (hlaw : law < 2) (hF : all (5 + law) = nI F) (hM : all (7 + law) = nI Mn) (hFM : F + Mn ≤ 900) :
    ∀ (m kk h : Nat) (f : Nat → e_C) (g : Nat → Int32) (u : Value), MR f → arI (f 172) = some (4182, all) → arI (f 177) = some (900, g) → arI (f 178) = some (7, w) → kk + m = Mn → h ≤ kk → m_vd (fun i => all (494 + F + i)) m kk h → (∀ f', SX [177] f f' → arI (f' 177) = some (900, (m_it w (fun i => all (494 + F + i)) m kk (h, g)).2) → Q f' N0 K0 (some (.int ((m_it w (fun i => all (494 + F + i)) m kk (h, g)).2 0)))) →
    TT X (d + 1) 208 101 [.ref 171, .int (nI law), .int (nI p), .int wed, .int (nI h), .int (nI kk), u] [] f N0 K0 Q := by
  intro m
  induction m with
  | zero =>
    intro kk h f g u mr ma mg mw hk hh hv hQ
    have m1 := mr.1
    have m6 := mr.2.2.2.2.2.1
    simp (disch := first | omega | decide) only [s208_101, s208_103, s208_104, s208_107, s208_109, s208_110, s208_111, s208_112, s208_252, s208_253, s208_256, s208_257, s208_258, m1, m6, ow_some, ma, mg, lt_add, ix_in, ix_cl, lt_in, lt_cl, true_and, hM, ix_le]
    rw [if_pos (by omega)]
    exact hQ f SX.rf mg
  | succ m ih =>
    intro kk h f g u mr ma mg mw hk hh hv hQ
    have m1 := mr.1
    have m6 := mr.2.2.2.2.2.1
    have m7 := mr.2.2.2.2.2.2.1
    have go : ∀ (c : Int32) (f1 : Nat → e_C) (g1 : Nat → Int32) (h1 : Nat) (u1 : Value), f1 = va_up f 177 (.inl (.int, 900, .inl g1)) → m_vd (fun i => all (494 + F + i)) m (kk + 1) h1 → h1 ≤ kk + 1 → m_st w (all (494 + F + kk)) (h, g) = (h1, g1) → TT X (d + 1) 208 101 [.ref 171, .int (nI law), .int (nI p), .int wed, .int (nI h1), .int (nI (kk + 1)), u1] [] f1 N0 K0 Q := by
      rintro c f1 g1 h1 u1 rfl hv1 hh1 hst
      have hs : SX [177] f (va_up f 177 (.inl (.int, 900, .inl g1))) := SX.up (by simp)
      refine ih (kk + 1) h1 _ g1 u1 (mr.same hs (by decide)) (by rw [hs 172 (by decide)]; exact ma) (by rw [vu_eq]; rfl) (by rw [hs 178 (by decide)]; exact mw) (by omega) hh1 hv1 ?_
      intro f' hs' hg'
      have := hQ f' (hs.tr hs')
      rw [m_it, hst] at this
      exact this hg'
    simp (disch := first | omega | decide) only [s208_101, s208_103, s208_104, s208_107, s208_109, s208_110, s208_111, s208_112, s208_115, s208_116, s208_119, s208_122, s208_123, s208_126, s208_127, s208_128, s208_129, s208_130, s208_131, s208_133, s208_134, s208_135, s208_137, s208_139, s208_142, m1, m6, ow_some, ma, mg, lt_add, ix_in, ix_cl, lt_in, lt_cl, true_and, hM, hF, ix_le, nI_add]
    rw [if_neg (by omega)]
    rw [m_vd] at hv
    rcases hv with ⟨hc, hh40, hcode, hv⟩ | ⟨hc, hh1, hv⟩ | ⟨hc, hc6, hh2, hv⟩
    · -- a number or a word
      rw [if_neg (Int32.not_le.mpr hc)]
      have hst : m_st w (all (494 + F + kk)) (h, g) = (h + 1, upd g h (if all (494 + F + kk) < 1000 then all (494 + F + kk) else w (all (494 + F + kk) - 1000).toNatClampNeg)) := by
        unfold m_st; rw [if_pos hc]
      rcases hcode with ⟨hc1, hc0⟩ | ⟨j, hj, hcj⟩
      · have q1 : (1000 ≤ all (494 + F + kk)) = False := by
          apply propext
          exact ⟨fun z => Int32.not_le.mpr hc1 z, fun z => z.elim⟩
        rw [if_pos hc1] at hst
        simp (disch := first | omega | decide) only [s208_145, s208_146, s208_149, s208_151, s208_153, s208_156, s208_159, s208_161, s208_164, s208_165, s208_168, s208_170, s208_173, s208_174, s208_175, s208_176, s208_179, s208_246, s208_249, m1, m6, m7, ow_some, mg, ix_in, ix_cl, true_and, q1, if_false, ix_one]
        exact go 0 _ _ _ _ rfl hv (by omega) hst
      · have q1 : (1000 ≤ nI (1000 + j)) = True := by
          rw [show (1000 : Int32) = nI 1000 from rfl, ix_le (by omega) (by omega)]
          simp
        have q2 : nI (1000 + j) - 1000 = nI j := by
          rw [show (1000 : Int32) = nI 1000 from rfl, pk_sub (by omega), show 1000 + j - 1000 = j by omega]
        have q3 : ¬ nI (1000 + j) < 1000 := Int32.not_lt.mpr (by rw [q1]; trivial)
        rw [hcj, if_neg q3, q2, ix_cl (by omega)] at hst
        simp (disch := first | omega | decide) only [s208_145, s208_146, s208_149, s208_151, s208_153, s208_156, s208_159, s208_161, s208_164, s208_165, s208_168, s208_170, s208_173, s208_174, s208_175, s208_176, s208_179, s208_246, s208_249, m1, m6, m7, ow_some, mg, mw, ix_in, ix_cl, true_and, hcj, q1, q2, if_true, ix_one]
        exact go 0 _ _ _ _ rfl hv (by omega) (by rw [hcj]; exact hst)
    · obtain ⟨h', rfl⟩ : ∃ h', h = h' + 1 := ⟨h - 1, by omega⟩
      have hst : m_st w (all (494 + F + kk)) (h' + 1, g) = (h' + 1, upd g h' (1 - g h')) := by
        unfold m_st
        have : ¬ (3006 : Int32) < 3000 := by decide
        rw [hc, if_neg this, if_pos rfl]
        rfl
      have q1 : ((3000 : Int32) ≤ 3006) = True := by simp
      simp (disch := first | omega | decide) only [s208_182, s208_184, s208_187, s208_190, s208_191, s208_194, s208_196, s208_197, s208_198, s208_199, s208_200, s208_203, s208_205, s208_206, s208_207, s208_208, s208_209, s208_210, s208_246, s208_249, m1, m6, m7, ow_some, mg, ix_in, ix_cl, true_and, hc, q1, if_true, if_false, ne_eq, not_true, ix_sub1, ix_one]
      exact go 0 _ _ _ _ rfl hv (by omega) hst
    · obtain ⟨h', rfl⟩ : ∃ h', h = h' + 2 := ⟨h - 2, by omega⟩
      have hst : m_st w (all (494 + F + kk)) (h' + 2, g) = (h' + 1, upd g h' (m_btw (all (494 + F + kk)) (g h') (g (h' + 1)))) := by
        unfold m_st
        rw [if_neg hc, if_neg hc6]
        rfl
      have q1 : (3000 ≤ all (494 + F + kk)) = True := eq_true (Int32.not_lt.mp hc)
      have q2 : nI (h' + 2) + Int32.ofInt (-1) = nI (h' + 1) := pk_m1 (h' + 1)
      have e2 : ∀ (lv rest : List Value) (a b c : Int32) (Q : t_Q), e_cat rest ≤ 8 → TT X (d + 1) 208 242 lv (.int b :: .int a :: .int c :: rest) f N0 K0 Q = TT X (d + 1) 208 245 lv (.int (m_btw c a b) :: rest) f N0 K0 Q := fun lv rest a b c Q h => p208_242 h sp_between
      have e3 : ∀ (x : Int32) (r : Nat), e_cat [.int x, .ref r] ≤ 8 := fun _ _ => Nat.le_of_ble_eq_true rfl
      simp (disch := first | omega | decide | exact e3 _ _) only [s208_182, s208_184, s208_187, s208_213, s208_216, s208_217, s208_220, s208_222, s208_223, s208_224, s208_226, s208_227, s208_230, s208_232, s208_233, s208_234, s208_235, s208_236, s208_239, s208_241, s208_245, s208_246, s208_249, m1, m6, m7, ow_some, mg, ix_in, ix_cl, true_and, q1, q2, if_true, hc6, not_false_eq_true, ix_sub1, ix_one, e2]
      exact go 0 _ _ _ _ rfl (by simpa using hv) (by omega) hst
/-- the words of a law -/
def m_words (all : Nat → Int32) (p : Nat) (wed : Int32) : Nat → Int32 := fun i => if i = 0 then nI p else if i = 1 then all (66 + p) else if i = 2 then all 56 - all (75 + p) else if i = 3 then all (57 + p) else if i = 4 then all 56 - all 56 / 7 * 7 else if i = 5 then wed else m_wait all p
theorem m_it_words {w w' cs : Nat → Int32} (hw : ∀ i, i < 7 → w i = w' i) : ∀ (m k : Nat) (h : Nat) (g : Nat → Int32), m_vd cs m k h → m_it w cs m k (h, g) = m_it w' cs m k (h, g) := by
  intro m
  induction m with
  | zero => intro k h g _; rfl
  | succ m ih =>
    intro k h g hv
    rw [m_it, m_it]
    rw [m_vd] at hv
    have key : m_st w (cs k) (h, g) = m_st w' (cs k) (h, g) := by
      unfold m_st
      rcases hv with ⟨hc, hh40, hcode, hv⟩ | ⟨hc, hh1, hv⟩ | ⟨hc, hc6, hh2, hv⟩
      · rw [if_pos hc, if_pos hc]
        rcases hcode with ⟨hc1, -⟩ | ⟨j, hj, hcj⟩
        · rw [if_pos hc1, if_pos hc1]
        · have q2 : nI (1000 + j) - 1000 = nI j := by
            rw [show (1000 : Int32) = nI 1000 from rfl, pk_sub (by omega), show 1000 + j - 1000 = j by omega]
          rw [hcj, q2, ix_cl (by omega), hw j hj]
      · have : ¬ (3006 : Int32) < 3000 := by decide
        rw [hc, if_neg this, if_neg this]
      · rw [if_neg hc, if_neg hc]
    rw [key]
    unfold m_st
    rcases hv with ⟨hc, hh40, hcode, hv⟩ | ⟨hc, hh1, hv⟩ | ⟨hc, hc6, hh2, hv⟩
    · rw [if_pos hc]; exact ih _ _ _ hv
    · have : ¬ (3006 : Int32) < 3000 := by decide
      rw [hc, if_neg this, if_pos rfl]; exact ih _ _ _ hv
    · rw [if_neg hc, if_neg hc6]; exact ih _ _ _ hv
/-- what a law tells of a person -/
def m_law (all : Nat → Int32) (F Mn p : Nat) (wed : Int32) (g : Nat → Int32) : Int32 := (m_it (m_words all p wed) (fun i => all (494 + F + i)) Mn 0 (0, g)).2 0

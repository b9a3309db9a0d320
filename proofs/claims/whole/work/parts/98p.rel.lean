/-! the relation of the class's cells to the reference's: what of a row counts -/
theorem lit_cs {w cs cs' : Nat → Int32} : ∀ (m k : Nat) (st : List Int32), (∀ i, k ≤ i → i < k + m → cs i = cs' i) → l_it w cs m k st = l_it w cs' m k st := by
  intro m
  induction m with
  | zero => intro k st _; rfl
  | succ m ih => intro k st h; rw [l_it, l_it, h k (by omega) (by omega)]; exact ih _ _ (fun i h1 h2 => h i (by omega) (by omega))
def cg4 (all all' : Nat → Int32) : Prop := ∀ i, i < 92 ∨ (494 ≤ i ∧ i < 1394) → all' i = all i
theorem words_cb {all all' : Nat → Int32} {p : Nat} {wd : Int32} (hp : p < 9) (h : cg4 all all') : m_words all' p wd = m_words all p wd := by
  funext i
  unfold m_words m_wait
  rw [h (66 + p) (by omega), h 56 (by omega), h (75 + p) (by omega), h (57 + p) (by omega), h (34 + p) (by omega)]
theorem bears_cb {all all' : Nat → Int32} {p T : Nat} (hp : p < 9) (h : cg4 all all') (hl : lw2 all) : m_bears all' p T = m_bears all p T := by
  unfold m_bears l_law
  rw [h 3 (by omega), h (66 + p) (by omega), h 5 (by omega), h 7 (by omega), wed_cg (h (43 + p) (by omega)), words_cb hp h]
  rcases hl 0 (by omega) with z | ⟨h1, F, M, h5, h7, hFM, -⟩
  · have z : all 3 = 0 := z
    rw [if_pos z, if_pos z]
  · have h5 : all 5 = nI F := h5
    have h7 : all 7 = nI M := h7
    rw [h5, h7, ix_cl (by omega), ix_cl (by omega)]
    rw [lit_cs M 0 [] (fun i _ hi => h (494 + F + i) (by omega))]
theorem bo_cb {all all' : Nat → Int32} {T : Nat} (h : cg4 all all') (hl : lw2 all) : ∀ p k, p ≤ 9 → k < 8 → m_bo all' T p k = m_bo all T p k := by
  intro p
  induction p with
  | zero => intro k _ hk; show 10 * all' (84 + k) = 10 * all (84 + k); rw [h _ (by omega)]
  | succ p ih =>
    intro k hp hk
    rw [m_bo, m_bo, h (57 + p) (by omega), bears_cb (by omega) h hl]
    split
    · by_cases hh : k = (all (57 + p)).toNatClampNeg
      · subst hh; rw [upd_eq, upd_eq, ih _ (by omega) hk]
      · rw [upd_ne hh, upd_ne hh]; exact ih k (by omega) hk
    · exact ih k (by omega) hk
theorem sp_cb {all all' : Nat → Int32} {S P T : Nat} (h : cg4 all all') (hl : lw2 all) (hS : S ≤ 8) (hP : P ≤ 9) : m_sp all' S P T = m_sp all S P T := by
  unfold m_sp m_spare
  rw [so_ca (all := all) (fun k hk => h k (by omega)) hS S 0 _ (by omega)]
  exact m_so_cong hS (fun k hk => bo_cb h hl P k hP hk) S 0 _ (by omega)
theorem hold_cb {all all' : Nat → Int32} {S P T : Nat} (h : cg4 all all') (hl : lw2 all) (hS : S ≤ 8) (hP : P ≤ 9) : m_hold all' S P T = m_hold all S P T := by
  unfold m_hold; rw [sp_cb h hl hS hP]
theorem nT_cb {all all' : Nat → Int32} (h : cg4 all all') : nT all' = nT all := by unfold nT; rw [h 53 (by omega)]
theorem mfl.cb {all all' : Nat → Int32} {S R P : Nat} (m : mfl all S P) (h : cg4 all all') (I : IS all S R P) : mfl all' S P := by
  unfold mfl
  rw [h 54 (by omega), nT_cb h, hold_cb h I.lw I.s8 I.p9]
  exact m
theorem IV.cb {all all' : Nat → Int32} {S R P : Nat} (v : IV all S R P) (h : cg4 all all') (hS : S ≤ 8) : IV all' S R P := by
  obtain ⟨a1, a2, a3, a4, a5, a6, a7, a8, a9, a10, a11⟩ := v
  refine ⟨a1, by rw [h _ (by omega)]; exact a2, by rw [nT_cb h, h _ (by omega)]; exact a3, by rw [nT_cb h]; exact a4, fun p hp => by rw [h _ (by omega)]; exact a5 p hp, fun p hp => by rw [h _ (by omega)]; exact a6 p hp, by rw [h 55 (by omega), h 2 (by omega)]; exact a7, by rw [h _ (by omega)]; exact a8, fun k hk => by rw [h _ (by omega)]; exact a9 k hk, ?_, by rw [h _ (by omega)]; exact a11⟩
  rw [sum_cg (all := all) S 0 0 (fun i _ hi => h _ (by omega))]; exact a10
theorem IS.cb {all all' : Nat → Int32} {S R P : Nat} (I : IS all S R P) (h : cg4 all all') : IS all' S R P := ⟨I.1.cg (fun i hi => h i (by omega)), I.2.cb h I.s8⟩
theorem lr.cb {all all' : Nat → Int32} {law C : Nat} {cc : Nat → Int32} {fm to : Int32} (l : lr all law C cc fm to) (hl : law < 2) (he : cg4 all all') : lr all' law C cc fm to := by
  rcases l with ⟨h0, hf⟩ | ⟨h1, F, M, h5, h7, hfm, hto, hFM, hC9, hcs, hty⟩
  · exact Or.inl ⟨by rw [he _ (by omega)]; exact h0, hf⟩
  · refine Or.inr ⟨by rw [he _ (by omega)]; exact h1, F, M, by rw [he _ (by omega)]; exact h5, by rw [he _ (by omega)]; exact h7, hfm, hto, hFM, hC9, fun i hi => by rw [he _ (by omega)]; exact hcs i hi, ?_⟩
    rw [← hty]
    exact tyr_cg _ _ _ (fun i _ _ => he _ (by omega))
theorem PR.cb {all all' : Nat → Int32} {S C : Nat} {v : Nat → Int32} {r : Nat → Nat → Int32} (h : PR all S v r C) (hS : S ≤ 8) (he : cg4 all all') : PR all' S v r C := by
  obtain ⟨⟨a1, a2, a3⟩, b1, b2, b3, b4, b5, b6, b7⟩ := h
  exact ⟨⟨by rw [he 1 (by omega)]; exact a1, by rw [he 2 (by omega)]; exact a2, by rw [he 0 (by omega)]; exact a3⟩, fun k hk => by rw [he _ (by omega)]; exact b1 k hk, fun i hi => by rw [jnt_cg hS (fun i hi => he i (by omega))]; exact b2 i hi, fun p hp => by rw [he _ (by omega)]; exact b3 p hp, fun p hp => by rw [he _ (by omega)]; exact b4 p hp, fun p hp => by rw [he _ (by omega)]; exact b5 p hp, b6.cb (by omega) he, b7.cb (by omega) he⟩
theorem CR.cb {all all' : Nat → Int32} {S P C : Nat} {w v : Nat → Int32} {x r : Nat → Nat → Int32} (G : CR all S P w x v r C) (hS : S ≤ 8) (hP : P ≤ 9) (he : cg4 all all') : CR all' S P w x v r C :=
  ⟨⟨by rw [he _ (by omega)]; exact G.w1, by rw [he _ (by omega)]; exact G.w6, by rw [he _ (by omega)]; exact G.w7, by rw [he _ (by omega)]; exact G.w8, by rw [he _ (by omega)]; exact G.w9⟩, fun p hp => by rw [he _ (by omega)]; exact G.x2 hp, fun p hp => by rw [he _ (by omega)]; exact G.x3 hp, fun p hp => by rw [he _ (by omega)]; exact G.x4 hp, fun k hk => by rw [he _ (by omega)]; exact G.x5 hk, G.pr.cb hS he⟩
/-! scenes that stand for rows -/
def okp (N pl : Nat) : Prop := pl = 2 ∨ (189 ≤ pl ∧ pl + 10 ≤ N)
def SR (f : Nat → e_C) (N a : Nat) (all : Nat → Int32) (S R P B : Nat) : Prop := ∃ pl w x v r C, SV f a pl w x ∧ PV f pl v r C ∧ CR all S P w x v r C ∧ IS all S R P ∧ mfl all S P ∧ okp N pl ∧ (all 56).toInt ≤ B
theorem SR.cb {f : Nat → e_C} {N a S R P B : Nat} {all all' : Nat → Int32} (h : SR f N a all S R P B) (he : cg4 all all') : SR f N a all' S R P B := by
  obtain ⟨pl, w, x, v, r, C, V, W, G, I, m, hp, hb⟩ := h
  exact ⟨pl, w, x, v, r, C, V, W, G.cb I.s8 I.p9 he, I.cb he, m.cb he I, hp, by rw [he 56 (by omega)]; exact hb⟩
theorem SR.fr {f f' : Nat → e_C} {N N' a S R P B B' : Nat} {all : Nat → Int32} (h : SR f N a all S R P B) (hN : N ≤ N') (hB : B ≤ B') (hf : ∀ b, (a ≤ b ∧ b < a + 5) ∨ (2 ≤ b ∧ b < 12) ∨ (189 ≤ b ∧ b < N) → f' b = f b) : SR f' N' a all S R P B' := by
  obtain ⟨pl, w, x, v, r, C, V, W, G, I, m, hp, hb⟩ := h
  refine ⟨pl, w, x, v, r, C, V.fr (fun b h1 h2 => hf b (by omega)), W.fr (fun b h1 h2 => hf b ?_), G, I, m, ?_, by omega⟩
  · rcases hp with rfl | hp <;> omega
  · rcases hp with rfl | hp
    · exact Or.inl rfl
    · exact Or.inr ⟨hp.1, by omega⟩
def anyS (f : Nat → e_C) (a : Nat) : Prop := ∃ pl w x, SV f a pl w x
theorem anyS.fr {f f' : Nat → e_C} {a : Nat} (h : anyS f a) (hf : ∀ b, a ≤ b → b < a + 5 → f' b = f b) : anyS f' a := by
  obtain ⟨pl, w, x, V⟩ := h
  exact ⟨pl, w, x, V.fr hf⟩
theorem SR.an {f : Nat → e_C} {N a S R P B : Nat} {all : Nat → Int32} (h : SR f N a all S R P B) : anyS f a := by
  obtain ⟨pl, w, x, v, r, C, V, -⟩ := h
  exact ⟨pl, w, x, V⟩
/-- a row that can be brought back -/
def brow (s1 : Nat → Int32) (k : Nat) : Nat → Int32 := m_back s1 (fun i => s1 (93 + 40 * k + i)) 40
def PSt (f : Nat → e_C) (N : Nat) (s1 : Nat → Int32) (S R D B j : Nat) : Prop := (∃ g, arS (f 22) = some (11, g) ∧ ∀ i, i < 11 → g i = some (23 + 5 * i)) ∧ (∀ i, i < 11 → anyS f (23 + 5 * i)) ∧ s1 92 = nI D ∧ D ≤ 10 ∧ j < 11 ∧ ∀ i, i < D → ∃ P', SR f N (23 + 5 * ((j + 10 - i) % 11)) (brow s1 (D - 1 - i)) S R P' B
def IM (f : Nat → e_C) (N : Nat) (s : m_T) (B : Nat) : Prop := (∃ g, arS (f 78) = some (2, g) ∧ ∀ i, i < 2 → g i = some (79 + 5 * i)) ∧ (∃ im, arZ (f 89) = some (2, im) ∧ ∀ i, i < 2 → im i = s.2.2.2.1 i ∧ (im i = 0 ∨ im i = 1)) ∧ (∀ i, i < 2 → anyS f (79 + 5 * i)) ∧ ∀ i, i < 2 → s.2.2.2.1 i ≠ 0 → ∃ S' R' P', SR f N (79 + 5 * i) (fun a => s.1 (1394 * (i + 1) + a)) S' R' P' B
def TR (f : Nat → e_C) (s : m_T) : Prop := (∃ g, arS (f 90) = some (4, g) ∧ ∀ i, i < 4 → g i = some (91 + 2 * i)) ∧ ∀ i, i < 4 → ∃ so sz g M, TV f (91 + 2 * i) so sz g ∧ vb so 4 ∧ M ≤ 40 ∧ s.2.2.2.2.2.1 i = nI M ∧ ((s.2.2.2.2.1 i = -1 ∧ sz = -1) ∨ (s.2.2.2.2.1 i = so ∧ sz = nI M ∧ ∀ k, k < M → g k = s.2.2.2.2.2.2 (40 * i + k)))
def TP (f : Nat → e_C) (s : m_T) (t : Nat → Int32) : Prop := ∃ tb F, arB (f 1) = some (900, tb) ∧ t 1 = nI F ∧ s.2.1.1 = nI F ∧ F ≤ 900 ∧ ∀ i, i < F → (-128 ≤ (tb i).toInt ∧ (tb i).toInt ≤ 127) ∧ s.2.2.1 i = tb i &&& 255
def RDV (f : Nat → e_C) : Prop := (∀ j, j < 9 → (fld (f 99) 3 j).isSome = true) ∧ (fld (f 99) 3 0 = some (.ref 100) ∧ fld (f 99) 3 1 = some (.ref 101)) ∧ (∃ kk, arI (f 100) = some (901, kk)) ∧ ∃ pp, arI (f 101) = some (901, pp)
theorem RDV.frm {f f' : Nat → e_C} (h : RDV f) (e : f' 99 = f 99) (e0 : f' 100 = f 100) (e1 : f' 101 = f 101) : RDV f' := by unfold RDV; rw [e, e0, e1]; exact h
/-- the class's own state stands for the reference's -/
def ST (f : Nat → e_C) (N : Nat) (s : m_T) (S R P D B : Nat) (t : Nat → Int32) : Prop := HV f t ∧ SR f N 12 s.1 S R P B ∧ anyS f 17 ∧ (∃ j, t 7 = nI j ∧ t 8 = nI D ∧ PSt f N s.1 S R D B j) ∧ IM f N s B ∧ TR f s ∧ TP f s t ∧ (t 2 = s.2.1.2.1 ∧ t 3 = s.2.1.2.2) ∧ RDV f
theorem PSt.fr {f f' : Nat → e_C} {N N' : Nat} {s1 : Nat → Int32} {S R D B B' j : Nat} (h : PSt f N s1 S R D B j) (hN : N ≤ N') (hB : B ≤ B') (hf : ∀ b, b < 112 ∨ (189 ≤ b ∧ b < N) → f' b = f b) : PSt f' N' s1 S R D B' j := by
  obtain ⟨a1, a2, a3, a4, a5, a6⟩ := h
  refine ⟨by rw [hf 22 (by omega)]; exact a1, fun i hi => (a2 i hi).fr (fun b h1 h2 => hf b (by omega)), a3, a4, a5, fun i hi => ?_⟩
  obtain ⟨P', h⟩ := a6 i hi
  have := Nat.mod_lt (j + 10 - i) (show 11 > 0 by omega)
  exact ⟨P', h.fr hN hB (fun b hb => hf b (by omega))⟩
theorem IM.fr {f f' : Nat → e_C} {N N' : Nat} {s : m_T} {B B' : Nat} (h : IM f N s B) (hN : N ≤ N') (hB : B ≤ B') (hf : ∀ b, b < 112 ∨ (189 ≤ b ∧ b < N) → f' b = f b) : IM f' N' s B' := by
  obtain ⟨a1, a2, a3, a4⟩ := h
  refine ⟨by rw [hf 78 (by omega)]; exact a1, by rw [hf 89 (by omega)]; exact a2, fun i hi => (a3 i hi).fr (fun b h1 h2 => hf b (by omega)), fun i hi hz => ?_⟩
  obtain ⟨S', R', P', h⟩ := a4 i hi hz
  exact ⟨S', R', P', h.fr hN hB (fun b hb => hf b (by omega))⟩
theorem TR.fr {f f' : Nat → e_C} {s : m_T} (h : TR f s) (hf : ∀ b, 90 ≤ b → b < 99 → f' b = f b) : TR f' s := by
  obtain ⟨a1, a2⟩ := h
  refine ⟨by rw [hf 90 (by omega) (by omega)]; exact a1, fun i hi => ?_⟩
  obtain ⟨so, sz, g, M, T, h⟩ := a2 i hi
  exact ⟨so, sz, g, M, T.fr (hf _ (by omega) (by omega)) (hf _ (by omega) (by omega)), h⟩
theorem ST.fr {f f' : Nat → e_C} {N N' : Nat} {s : m_T} {S R P D B B' : Nat} {t : Nat → Int32} (h : ST f N s S R P D B t) (hN : N ≤ N') (hB : B ≤ B') (hf : ∀ b, b < 112 ∨ (189 ≤ b ∧ b < N) → f' b = f b) : ST f' N' s S R P D B' t := by
  obtain ⟨a1, a2, a3, ⟨j, b1, b2, b3⟩, a5, a6, a7, a8, a9⟩ := h
  refine ⟨a1.fr (hf 0 (by omega)), a2.fr hN hB (fun b hb => hf b (by omega)), a3.fr (fun b h1 h2 => hf b (by omega)), ⟨j, b1, b2, b3.fr hN hB hf⟩, a5.fr hN hB hf, a6.fr (fun b h1 h2 => hf b (by omega)), ?_, a8, ?_⟩
  · unfold TP; rw [hf 1 (by omega)]; exact a7
  · unfold RDV; rw [hf 99 (by omega), hf 100 (by omega), hf 101 (by omega)]; exact a9
/-- what the class works with beside -/
def SCR (f : Nat → e_C) : Prop := (∃ y, LV f 112 y) ∧ (∃ sd wy y, DV f sd wy ∧ LV f 120 y) ∧ (∃ y tb, LV f 128 y ∧ OV f tb) ∧ ((∃ y, LV f 137 y) ∧ EW f) ∧ (∃ y rm ab pb, LV f 149 y ∧ RV f 149 rm ab pb) ∧ (∃ y br mo up li, LV f 160 y ∧ XV f 160 br mo up li)
theorem EW.fr {f f' : Nat → e_C} (h : EW f) (hf : ∀ b, b = 136 ∨ (144 ≤ b ∧ b < 148) → f' b = f b) : EW f' := by
  obtain ⟨mm, kk, A, O, sb, cb, ra, oa, E⟩ := h
  exact ⟨mm, kk, A, O, sb, cb, ra, oa, E.fr hf⟩
def sc1 (f : Nat → e_C) : Prop := ∃ y, LV f 112 y
def sc2 (f : Nat → e_C) : Prop := ∃ sd wy y, DV f sd wy ∧ LV f 120 y
def sc3 (f : Nat → e_C) : Prop := ∃ y tb, LV f 128 y ∧ OV f tb
def sc4 (f : Nat → e_C) : Prop := (∃ y, LV f 137 y) ∧ EW f
def sc5 (f : Nat → e_C) : Prop := ∃ y rm ab pb, LV f 149 y ∧ RV f 149 rm ab pb
def sc6 (f : Nat → e_C) : Prop := ∃ y br mo up li, LV f 160 y ∧ XV f 160 br mo up li
theorem sc1.fr {f f' : Nat → e_C} (h : sc1 f) (hf : ∀ b, 112 ≤ b → b < 119 → f' b = f b) : sc1 f' := by
  obtain ⟨y, L⟩ := h; exact ⟨y, L.fr hf⟩
theorem sc2.fr {f f' : Nat → e_C} (h : sc2 f) (hf : ∀ b, 119 ≤ b → b < 127 → f' b = f b) : sc2 f' := by
  obtain ⟨sd, wy, y, D, L⟩ := h
  exact ⟨sd, wy, y, by unfold DV; rw [hf 119 (by omega) (by omega)]; exact D, L.fr (fun b h1 h2 => hf b (by omega) (by omega))⟩
theorem sc3.fr {f f' : Nat → e_C} (h : sc3 f) (hf : ∀ b, 127 ≤ b → b < 136 → f' b = f b) : sc3 f' := by
  obtain ⟨y, tb, L, O⟩ := h
  exact ⟨y, tb, L.fr (fun b h1 h2 => hf b (by omega) (by omega)), O.fr (hf _ (by omega) (by omega)) (hf _ (by omega) (by omega))⟩
theorem sc4.fr {f f' : Nat → e_C} (h : sc4 f) (hf : ∀ b, 136 ≤ b → b < 148 → f' b = f b) : sc4 f' := by
  obtain ⟨⟨y, L⟩, E⟩ := h
  exact ⟨⟨y, L.fr (fun b h1 h2 => hf b (by omega) (by omega))⟩, E.fr (fun b hb => hf b (by omega) (by omega))⟩
theorem sc5.fr {f f' : Nat → e_C} (h : sc5 f) (hf : ∀ b, 148 ≤ b → b < 159 → f' b = f b) : sc5 f' := by
  obtain ⟨y, rm, ab, pb, L, O⟩ := h
  exact ⟨y, rm, ab, pb, L.fr (fun b h1 h2 => hf b (by omega) (by omega)), O.fr (hf _ (by omega) (by omega)) (hf _ (by omega) (by omega)) (hf _ (by omega) (by omega)) (hf _ (by omega) (by omega))⟩
theorem sc6.fr {f f' : Nat → e_C} (h : sc6 f) (hf : ∀ b, 159 ≤ b → b < 171 → f' b = f b) : sc6 f' := by
  obtain ⟨y, br, mo, up, li, L, O⟩ := h
  exact ⟨y, br, mo, up, li, L.fr (fun b h1 h2 => hf b (by omega) (by omega)), O.fr (hf _ (by omega) (by omega)) (fun b h1 h2 => hf b (by omega) (by omega))⟩
theorem SCR.fr {f f' : Nat → e_C} (h : SCR f) (hf : ∀ b, 112 ≤ b → b < 171 → f' b = f b) : SCR f' := by
  obtain ⟨a1, a2, a3, a4, a5, a6⟩ := h
  exact ⟨sc1.fr a1 (fun b h1 h2 => hf b (by omega) (by omega)), sc2.fr a2 (fun b h1 h2 => hf b (by omega) (by omega)), sc3.fr a3 (fun b h1 h2 => hf b (by omega) (by omega)), sc4.fr a4 (fun b h1 h2 => hf b (by omega) (by omega)), sc5.fr a5 (fun b h1 h2 => hf b (by omega) (by omega)), sc6.fr a6 (fun b h1 h2 => hf b (by omega) (by omega))⟩
/-- all that holds between two calls, c calls done -/
def REL (f : Nat → e_C) (N K c : Nat) : Prop := 189 ≤ N ∧ N ≤ 189 + 100 * c ∧ K ≤ 100000 + 10000 * c ∧ SCR f ∧ ∃ s S R P D t, MV f s ∧ ST f N s S R P D (1000 + 99 * c) t
/-- both calls answer alike and all holds behind them -/
def PAIR (X : Nat × (Nat → Int32)) (d mc mr : Nat) (l1 l2 : List Value) (f : Nat → e_C) (N K c : Nat) : Prop := TT X d mc 0 l1 [] f N K (fun f1 n1 k1 v1 => ∃ z, v1 = some z ∧ TT X d mr 0 l2 [] f1 n1 k1 (fun f2 n2 k2 v2 => v2 = some z ∧ REL f2 n2 k2 (c + 1)))

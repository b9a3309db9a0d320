section STA
variable {p : Program} {l : Launch} {e : Env} {R : Room} {s : State} {m : MethodId} {args : Array Value} {below : List Frame} {meth : Method} {c : Code} {Q : State → Prop}
variable {cc : ByteArray} {nL own b0 : Nat} {K : Nat → Value} {aC : FieldType → ClassId} {D : va_G} {X : Nat × (Nat → Int32)} {n0 k0 : Nat}
variable {ini : Bool} {pc len pc' : Nat} {i : Instr} {lv st lv' st' : List Value} {h h' : e_H} {ls : Array Slot} {H H1 : Heap} {locs : List Loc}
theorem e_rdA (hD : e_D b0 K aC D s.heap h H locs) {a : Nat} {ty : FieldType} {x : vp_A} (ha : h.1 a = .inl (ty, x)) : va_P D e_cls [(b0 + a, .inl (aC ty, e_ra b0 x))] H := by
  have hP := e_read hD (e_ce_ne ha)
  rw [ha] at hP
  exact hP
set_option maxHeartbeats 4000000 in
theorem e_st_ald (Z : e_X p s m args c cc nL own b0 K aC D X n0) (hd : decode cc pc = .ok (i, len)) (hlen : e_lok (i, len) = true)
    (hi : i = .iaload ∨ i = .baload ∨ i = .laload ∨ i = .aaload ∨ i = .arraylength)
    (hs : e_st X own ini pc i lv st h = some (pc', lv', st', h')) (hl : e_lr b0 K ls nL lv) (hD : e_D b0 K aC D s.heap h H locs)
    (kk : ∀ ls' H' locs', e_lr b0 K ls' nL lv' → e_D b0 K aC D s.heap h' H' locs' → W p l e R s m args below meth c H' locs' (h'.2.1 - n0) (h'.2.2 - k0) Q (F0 m pc' ls' (st'.map (e_rl b0 K)))) :
    W p l e R s m args below meth c H locs (h.2.1 - n0) (h.2.2 - k0) Q (F0 m pc ls (st.map (e_rl b0 K))) := by
  obtain ⟨⟨hx, hb, hml⟩, ⟨C0, hC0, hown⟩, hts, hK, hC, hsz⟩ := Z
  rcases hi with rfl | rfl | rfl | rfl | rfl
  · obtain rfl : len = 1 := of_decide_eq_true hlen
    simp only [e_st, e_iald] at hs
    split at hs
    · next j a r =>
      split at hs
      · next n f ha =>
        split at hs
        · next hin =>
          cases hs
          exact va_iald hx hb (e_Ktys hK (ty := .int) rfl) (e_rdA hD ha) 0 0 rfl rfl (e_in_iff.mp hin) hd (kk ls H locs hl hD)
        · cases hs
      · cases hs
    · next j r =>
      split at hs
      · next hin =>
        cases hs
        obtain ⟨b, hKb, hXb, hbl, hbA⟩ := hC.2.2.2.2.2.2
        show W p l e R s m args below meth c H locs (h.2.1 - n0) (h.2.2 - k0) Q (F0 m pc ls (.int j :: K 20 :: r.map (e_rl b0 K)))
        rw [hKb]
        exact va_sld hx hb hXb hbl hbA hD.2.2.2 (e_in_iff.mp hin) hd (kk ls H locs hl hD)
      · cases hs
    · cases hs
  · obtain rfl : len = 1 := of_decide_eq_true hlen
    simp only [e_st, e_bald] at hs
    split at hs
    · next j a r =>
      split at hs
      · next n f ha =>
        split at hs
        · next hin =>
          cases hs
          exact va_bald hx hb (e_Ktys hK (ty := .byte) rfl) (e_rdA hD ha) 0 0 rfl rfl (e_in_iff.mp hin) hd (kk ls H locs hl hD)
        · cases hs
      · next n f ha =>
        split at hs
        · next hin =>
          cases hs
          exact va_zald hx hb (e_Ktys hK (ty := .boolean) rfl) (e_rdA hD ha) 0 0 rfl rfl (e_in_iff.mp hin) hd (kk ls H locs hl hD)
        · cases hs
      · cases hs
    · next j q r =>
      split at hs
      · next hq =>
        obtain ⟨hq1, hq2, hin⟩ := hq
        cases hs
        obtain ⟨a, v, -, e2, -, -, -, e3⟩ := hC.2.2.1 (q - 10) (by omega)
        rw [show 10 + (q - 10) = q by omega] at e2
        show W p l e R s m args below meth c H locs (h.2.1 - n0) (h.2.2 - k0) Q (F0 m pc ls (.int j :: K q :: r.map (e_rl b0 K)))
        rw [e2]
        exact va_tb hx hb e3 hD.2.2.2 (e_in_iff.mp hin) rfl hd (kk ls H locs hl hD)
      · cases hs
    · cases hs
  · obtain rfl : len = 1 := of_decide_eq_true hlen
    simp only [e_st, e_lald] at hs
    split at hs
    · next j a r =>
      split at hs
      · next n f ha =>
        split at hs
        · next hin =>
          cases hs
          exact va_lald hx hb (e_Ktys hK (ty := .long) rfl) (e_rdA hD ha) 0 0 rfl rfl (e_in_iff.mp hin) hd (kk ls H locs hl hD)
        · cases hs
      · cases hs
    · cases hs
  · obtain rfl : len = 1 := of_decide_eq_true hlen
    simp only [e_st, e_aald] at hs
    split at hs
    · next j a r =>
      split at hs
      · next C n f ha =>
        split at hs
        · next hin =>
          cases hs
          have kk := kk ls H locs hl hD
          have er : e_rl b0 K (va_rf (f j.toNatClampNeg)) = va_rf ((f j.toNatClampNeg).map (fun q => b0 + q)) := by
            cases f j.toNatClampNeg <;> rfl
          simp only [List.map_cons, er] at kk
          exact va_aldq hx hb (e_Ktys hK (ty := .object C) hin.2) (e_rdA hD ha) 0 0 rfl rfl (e_in_iff.mp hin.1) hd kk
        · cases hs
      · cases hs
    · cases hs
  · obtain rfl : len = 1 := of_decide_eq_true hlen
    simp only [e_st, e_alen] at hs
    split at hs
    · next a r =>
      split at hs
      · next ty x ha =>
        split at hs
        · next ht =>
          cases hs
          have e1 : (e_ra b0 x).1 = x.1 := by
            unfold e_ra
            split <;> rfl
          exact va_alen hx hb (e_Ktys hK ht) (e_rdA hD ha) 0 0 rfl rfl (by rw [e1]) hd (kk ls H locs hl hD)
        · cases hs
      · cases hs
    · next r =>
      cases hs
      obtain ⟨b, hKb, hXb, hbl, hbA⟩ := hC.2.2.2.2.2.2
      show W p l e R s m args below meth c H locs (h.2.1 - n0) (h.2.2 - k0) Q (F0 m pc ls (K 20 :: r.map (e_rl b0 K)))
      rw [hKb]
      exact va_slen hx hb hXb hbl hbA hD.2.2.2 hd (kk ls H locs hl hD)
    · next q r hne =>
      split at hs
      · next hq =>
        cases hs
        obtain ⟨a, v, -, e2, -, -, -, e3⟩ := hC.2.2.1 (q - 10) (by omega)
        rw [show 10 + (q - 10) = q by omega] at e2
        show W p l e R s m args below meth c H locs (h.2.1 - n0) (h.2.2 - k0) Q (F0 m pc ls (K q :: r.map (e_rl b0 K)))
        rw [e2]
        exact va_tlen hx hb e3 hD.2.2.2 rfl hd (kk ls H locs hl hD)
      · cases hs
    · cases hs
set_option maxHeartbeats 4000000 in
theorem e_st_ast (Z : e_X p s m args c cc nL own b0 K aC D X n0) (hd : decode cc pc = .ok (i, len)) (hlen : e_lok (i, len) = true)
    (hi : i = .iastore ∨ i = .bastore ∨ i = .lastore ∨ i = .aastore)
    (hs : e_st X own ini pc i lv st h = some (pc', lv', st', h')) (hl : e_lr b0 K ls nL lv) (hD : e_D b0 K aC D s.heap h H locs)
    (kk : ∀ ls' H' locs', e_lr b0 K ls' nL lv' → e_D b0 K aC D s.heap h' H' locs' → W p l e R s m args below meth c H' locs' (h'.2.1 - n0) (h'.2.2 - k0) Q (F0 m pc' ls' (st'.map (e_rl b0 K)))) :
    W p l e R s m args below meth c H locs (h.2.1 - n0) (h.2.2 - k0) Q (F0 m pc ls (st.map (e_rl b0 K))) := by
  obtain ⟨⟨hx, hb, hml⟩, ⟨C0, hC0, hown⟩, hts, hK, hC, hsz⟩ := Z
  rcases hi with rfl | rfl | rfl | rfl
  · obtain rfl : len = 1 := of_decide_eq_true hlen
    simp only [e_st, e_iast] at hs
    split at hs
    · next x j a r =>
      split at hs
      · next n f ha =>
        split at hs
        · next hin =>
          cases hs
          have hin := e_in_iff.mp hin
          obtain ⟨hlt, hcell⟩ := e_arr hD ha
          refine W.iast hx hb hcell ((hK.2 .int rfl).1 n (fun j => .int (f j))) (fun q => by cases q) (by show ¬ (j < 0 ∨ (arrV _ _ _).slots.size ≤ _); rw [arrV_size]; exact hin) rfl rfl hd fun H1 e z oq => kk ls H1 _ hl (hD.cell hlt ?_ z oq)
          show H1[b0 + a]? = some (vp_cell (aC .int) (n, .inl (upd f j.toNatClampNeg x)))
          rw [e]
          show some ((arrV (aC .int) n (fun j => .int (f j))).setSlot _ _) = some (arrV (aC .int) n (fun q => .int (upd f j.toNatClampNeg x q)))
          rw [arrV_store]
          congr 2
          funext q
          by_cases hq : q = j.toNatClampNeg
          · subst hq; simp [updV, upd]
          · simp [updV, upd, hq]
        · cases hs
      · cases hs
    · cases hs
  · obtain rfl : len = 1 := of_decide_eq_true hlen
    simp only [e_st, e_bast] at hs
    split at hs
    · next x j a r =>
      split at hs
      · next n f ha =>
        split at hs
        · next hin =>
          cases hs
          have hin := e_in_iff.mp hin
          obtain ⟨hlt, hcell⟩ := e_arr hD ha
          refine W.bast hx hb hcell ((hK.2 .byte rfl).1 n (fun j => .int (f j))) (fun q => by cases q) (by show ¬ (j < 0 ∨ (arrV _ _ _).slots.size ≤ _); rw [arrV_size]; exact hin) rfl rfl hd fun H1 e z oq => kk ls H1 _ hl (hD.cell hlt ?_ z oq)
          show H1[b0 + a]? = some (vp_cell (aC .byte) (n, .inl (upd f j.toNatClampNeg (vp_nar .byte x))))
          rw [e]
          show some ((arrV (aC .byte) n (fun j => .int (f j))).setSlot _ _) = some (arrV (aC .byte) n (fun q => .int (upd f j.toNatClampNeg (vp_nar .byte x) q)))
          rw [arrV_store]
          congr 2
          funext q
          by_cases hq : q = j.toNatClampNeg
          · subst hq
            simp [updV, upd, vp_nar]
            try rfl
          · simp [updV, upd, hq]
        · cases hs
      · next n f ha =>
        split at hs
        · next hin =>
          cases hs
          have hin := e_in_iff.mp hin
          obtain ⟨hlt, hcell⟩ := e_arr hD ha
          refine W.zast hx hb hcell ((hK.2 .boolean rfl).1 n (fun j => .int (f j))) (fun q => by cases q) (by show ¬ (j < 0 ∨ (arrV _ _ _).slots.size ≤ _); rw [arrV_size]; exact hin) rfl rfl hd fun H1 e z oq => kk ls H1 _ hl (hD.cell hlt ?_ z oq)
          show H1[b0 + a]? = some (vp_cell (aC .boolean) (n, .inl (upd f j.toNatClampNeg (vp_nar .boolean x))))
          rw [e]
          show some ((arrV (aC .boolean) n (fun j => .int (f j))).setSlot _ _) = some (arrV (aC .boolean) n (fun q => .int (upd f j.toNatClampNeg (vp_nar .boolean x) q)))
          rw [arrV_store]
          congr 2
          funext q
          by_cases hq : q = j.toNatClampNeg
          · subst hq
            simp [updV, upd, vp_nar]
            try rfl
          · simp [updV, upd, hq]
        · cases hs
      · cases hs
    · cases hs
  · obtain rfl : len = 1 := of_decide_eq_true hlen
    simp only [e_st, e_last] at hs
    split at hs
    · next x j a r =>
      split at hs
      · next n f ha =>
        split at hs
        · next hin =>
          cases hs
          have hin := e_in_iff.mp hin
          obtain ⟨hlt, hcell⟩ := e_arr hD ha
          refine W.last hx hb hcell ((hK.2 .long rfl).1 n (fun j => .long (f j))) (fun q => by cases q) (by show ¬ (j < 0 ∨ (arrV _ _ _).slots.size ≤ _); rw [arrV_size]; exact hin) rfl rfl hd fun H1 e z oq => kk ls H1 _ hl (hD.cell hlt ?_ z oq)
          show H1[b0 + a]? = some (vp_cell (aC .long) (n, .inr (.inl (vp_updL f j.toNatClampNeg x))))
          rw [e]
          show some ((arrV (aC .long) n (fun j => .long (f j))).setSlot _ _) = some (arrV (aC .long) n (fun q => .long (vp_updL f j.toNatClampNeg x q)))
          rw [arrV_store]
          congr 2
          funext q
          by_cases hq : q = j.toNatClampNeg
          · subst hq; simp [updV, vp_updL]
          · simp [updV, vp_updL, hq]
        · cases hs
      · cases hs
    · cases hs
  · obtain rfl : len = 1 := of_decide_eq_true hlen
    simp only [e_st, e_aast] at hs
    split at hs
    · next v j a r =>
      split at hs
      · next C n f ci fs ha hv =>
        split at hs
        · next q hq =>
          split at hs
          · next hin =>
            obtain ⟨hin, hok, rfl⟩ := hin
            cases hs
            have hin := e_in_iff.mp hin
            have hin1 : j.toNatClampNeg < n := Nat.not_le.mp fun z => hin (Or.inr z)
            have h0 : ¬ j < 0 := fun z => hin (Or.inl z)
            obtain ⟨hlt, hcell⟩ := e_arr hD ha
            have hltv := hD.lt (e_ce_ne2 hv hq)
            have hat := hD.2.1 v _ (e_ws_at hltv)
            rw [hv] at hat
            obtain ⟨r', r1, cellV, g1, g2, g3, -⟩ := hat
            have hc := e_clsAt hq
            have hcls := (hK.1.1 ci q.1 hc).2
            obtain ⟨kA, comp, k1, k2, k3, -⟩ := (hK.2 (.object q.1.1) hok).2.1
            have hcomp : comp = D.1 ci := Option.some.inj (k3.symm.trans hcls.1)
            subst hcomp
            obtain ⟨kC, hkC, -⟩ := hcls.2
            refine W.aast hx hb hcell (fun q h => by cases h) (fun h => by cases h) k1 k2 rfl hkC ⟨h0, by show _ < (arrV _ _ _).slots.size; rw [arrV_size]; exact hin1⟩ g1 (fun q h => by rw [g3] at h; cases h) (by rw [g2]; exact hkC) (by rw [g2]; exact va_assign hcls) rfl rfl hd fun H1 e z oq => kk ls H1 _ hl (hD.cell hlt ?_ z oq)
            show H1[b0 + a]? = some (vp_cell (aC (.object q.1.1)) (n, .inr (.inr (.inr (.inr (fun z => (va_up f j.toNatClampNeg (some v) z).map (fun w => b0 + w)))))))
            rw [e]
            show some ((arrV (aC (.object q.1.1)) n (fun z => va_rf ((f z).map (fun w => b0 + w)))).setSlot _ _) = some (arrV (aC (.object q.1.1)) n (fun z => va_rf ((va_up f j.toNatClampNeg (some v) z).map (fun w => b0 + w))))
            rw [arrV_store]
            congr 2
            funext z
            by_cases hz : z = j.toNatClampNeg
            · subst hz; simp [updV, va_up, va_rf]
            · simp [updV, va_up, hz]
          · cases hs
        · cases hs
      · cases hs
    · cases hs
end STA

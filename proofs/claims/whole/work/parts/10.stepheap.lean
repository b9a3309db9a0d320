section STH
variable {p : Program} {l : Launch} {e : Env} {R : Room} {s : State} {m : MethodId} {args : Array Value} {below : List Frame} {meth : Method} {c : Code} {Q : State → Prop}
variable {cc : ByteArray} {nL own b0 : Nat} {K : Nat → Value} {aC : FieldType → ClassId} {D : va_G} {X : Nat × (Nat → Int32)} {n0 k0 : Nat}
variable {ini : Bool} {pc len pc' : Nat} {i : Instr} {lv st lv' st' : List Value} {h h' : e_H} {ls : Array Slot} {H H1 : Heap} {locs : List Loc}
/-- a cell changed -/
theorem e_D.cell (hD : e_D b0 K aC D s.heap h H locs) {k j : Nat} (hk : k < h.2.1) {cl : e_C} (hc : va_at D e_cls (b0 + k, e_ce b0 K aC cl) H1) (z : H1.size = H.size) (oq : ∀ q : Nat, q ≠ b0 + k → H1[q]? = H[q]?) : e_D b0 K aC D s.heap (va_up h.1 k cl, h.2) H1 (locs ++ [⟨b0 + k, j⟩]) := by
  refine hD.upd hk z ?_ (hD.2.2.2.put z oq (Nat.le_add_right _ _))
  rw [← e_ws_set]
  exact hD.2.1.set e_ws_D (e_ws_at hk) hc oq
/-- a cell made -/
theorem e_D.made (hD : e_D b0 K aC D s.heap h H locs) {cl : e_C} {z : Nat} (hb : b0 ≤ H.size) (hc : va_at D e_cls (b0 + h.2.1, e_ce b0 K aC cl) H1) (hz : H1.size = H.size + 1) (oq : ∀ q : Nat, q < H.size → H1[q]? = H[q]?) : e_D b0 K aC D s.heap (va_up h.1 h.2.1 cl, h.2.1 + 1, z) H1 locs := by
  have hsz := hD.1
  refine ⟨by rw [hz, hsz]; rfl, ?_, fun j hj => ?_, Nat.le_trans hD.2.2.2.1 (by omega), fun x h1 h2 => (oq x (Nat.lt_of_lt_of_le h1 hD.2.2.2.1)).trans (hD.2.2.2.2.1 x h1 h2), hD.2.2.2.2.2⟩
  · rw [e_ws_new]
    refine (hD.2.1.kept (fun k x hx => oq x.1 ((hD.2.1 k x hx).lt))).app (fun k x hx => ?_)
    have hz : k < 1 := (List.getElem?_eq_some_iff.mp hx).1
    rw [show k = 0 by omega] at hx
    cases hx
    exact hc
  · have hj : h.2.1 + 1 ≤ j := hj
    show va_up h.1 h.2.1 cl j = e_dm
    rw [va_up, if_neg (by omega)]
    exact hD.2.2.1 j (by omega)
theorem e_arr (hD : e_D b0 K aC D s.heap h H locs) {a : Nat} {ty : FieldType} {x : vp_A} (ha : h.1 a = .inl (ty, x)) : a < h.2.1 ∧ H[b0 + a]? = some (vp_cell (aC ty) (e_ra b0 x)) := by
  have hlt := hD.lt (e_ce_ne ha)
  refine ⟨hlt, ?_⟩
  have := hD.2.1 a _ (e_ws_at hlt)
  rw [ha] at this
  exact this
set_option maxHeartbeats 4000000 in
theorem e_st_gf (Z : e_X p s m args c cc nL own b0 K aC D X n0) {idx : Nat} (hd : decode cc pc = .ok (.getfield idx, len)) (hlen : e_lok (.getfield idx, len) = true)
    (hs : e_st X own ini pc (.getfield idx) lv st h = some (pc', lv', st', h')) (hl : e_lr b0 K ls nL lv) (hD : e_D b0 K aC D s.heap h H locs)
    (kk : ∀ ls' H' locs', e_lr b0 K ls' nL lv' → e_D b0 K aC D s.heap h' H' locs' → W p l e R s m args below meth c H' locs' (h'.2.1 - n0) (h'.2.2 - k0) Q (F0 m pc' ls' (st'.map (e_rl b0 K)))) :
    W p l e R s m args below meth c H locs (h.2.1 - n0) (h.2.2 - k0) Q (F0 m pc ls (st.map (e_rl b0 K))) := by
  obtain ⟨⟨hx, hb, hml⟩, ⟨C0, hC0, hown⟩, hts, hK, hC, hsz⟩ := Z
  obtain rfl : len = 3 := of_decide_eq_true hlen
  simp only [e_st, e_gf] at hs
  split at hs
  · next k r =>
    split at hs
    · next ci j hf =>
      split at hs
      · next c2 fs hk =>
        split at hs
        · next hci =>
          subst hci
          simp only [Option.map_eq_some_iff] at hs
          obtain ⟨v, hv, hs⟩ := hs
          cases hs
          obtain ⟨C1, q, h1, h2, h3, h4, h5⟩ := e_fdS hf
          cases hC0.symm.trans h1
          obtain ⟨g1, g2, g3, g4, g5, g6, g7⟩ := e_kOf h2
          have hP := e_read hD (e_ce_ne2 hk h2)
          rw [hk] at hP
          exact va_get (D := D) (ci := c2) (v := e_rl b0 K v) (C := q.1.1) (T := q.1.2.1) (N := q.1.2.2) hx hb (fun w hw => hts w (g1 w hw) (e_uw w hw)) (fun _ z => z) hown hK.1 hP 0 rfl (e_clsAt h2) j h3 (hts _ h4 rfl) (fun x hx => by rw [h5] at hx; exact hx) (by rw [List.getElem?_map, hv]; rfl) hd (kk ls H locs hl hD)
        · cases hs
      · cases hs
    · cases hs
  · next q r =>
    split at hs
    · next hq =>
      obtain ⟨rfl, hq⟩ := hq
      have hn : C0 = "java/lang/String" := Option.some.inj (hC0.symm.trans (by decide +kernel))
      subst hn
      obtain ⟨a, v, e1, e2, -, e3, e4, -⟩ := hC.2.2.1 q hq
      split at hs
      · next hi =>
        subst hi
        cases hs
        show W p l e R s m args below meth c H locs (h.2.1 - n0) (h.2.2 - k0) Q (F0 m pc ls (K q :: r.map (e_rl b0 K)))
        rw [e1]
        exact vk_getf hx hb e3 hD.2.2.2 hown (hts _ e_lkCO rfl) (fun _ z => z) hd (kk ls H locs hl hD)
      · split at hs
        · next hi =>
          subst hi
          cases hs
          have kk := kk ls H locs hl hD
          simp only [List.map_cons, e_rl, e2] at kk
          show W p l e R s m args below meth c H locs (h.2.1 - n0) (h.2.2 - k0) Q (F0 m pc ls (K q :: r.map (e_rl b0 K)))
          rw [e1]
          exact vk_getf hx hb e4 hD.2.2.2 hown (hts _ e_lkVA rfl) (fun _ z => z) hd kk
        · cases hs
    · cases hs
  · cases hs
theorem e_pok_n {ty : FieldType} {v : Value} (hv : e_pok ty v = true) : narrow ty (e_rl b0 K v) = e_rl b0 K v ∧ fits ty (e_rl b0 K v) = true := by
  unfold e_pok at hv
  split at hv
  · exact ⟨rfl, rfl⟩
  · next x =>
    simp only [decide_eq_true_eq] at hv
    rcases hv with rfl | rfl <;> exact ⟨rfl, rfl⟩
  · exact ⟨rfl, rfl⟩
  · exact ⟨rfl, rfl⟩
  · cases hv
set_option maxHeartbeats 4000000 in
theorem e_st_pf (Z : e_X p s m args c cc nL own b0 K aC D X n0) (hini : ini = true → meth.name = "<init>") {idx : Nat} (hd : decode cc pc = .ok (.putfield idx, len)) (hlen : e_lok (.putfield idx, len) = true)
    (hs : e_st X own ini pc (.putfield idx) lv st h = some (pc', lv', st', h')) (hl : e_lr b0 K ls nL lv) (hD : e_D b0 K aC D s.heap h H locs)
    (kk : ∀ ls' H' locs', e_lr b0 K ls' nL lv' → e_D b0 K aC D s.heap h' H' locs' → W p l e R s m args below meth c H' locs' (h'.2.1 - n0) (h'.2.2 - k0) Q (F0 m pc' ls' (st'.map (e_rl b0 K)))) :
    W p l e R s m args below meth c H locs (h.2.1 - n0) (h.2.2 - k0) Q (F0 m pc ls (st.map (e_rl b0 K))) := by
  obtain ⟨⟨hx, hb, hml⟩, ⟨C0, hC0, hown⟩, hts, hK, hC, hsz⟩ := Z
  obtain rfl : len = 3 := of_decide_eq_true hlen
  simp only [e_st, e_pf] at hs
  split at hs
  · next v k r =>
    split at hs
    · next ci j hf =>
      split at hs
      · next c2 fs q hk hq =>
        split at hs
        · next hci =>
          obtain ⟨rfl, hj, hv, hfin⟩ := hci
          cases hs
          obtain ⟨C1, q', h1, h2, h3, h4, h5⟩ := e_fdS hf
          cases hC0.symm.trans h1
          cases hq.symm.trans h2
          obtain ⟨g1, g2, g3, g4, g5, g6, g7⟩ := e_kOf hq
          have hts' : ∀ w ∈ u_ws q.1.1 q.1.2.1 q.1.2.2, w.before args s = true := fun w hw => hts w (g1 w hw) (e_uw w hw)
          have hin : ∀ w ∈ u_ws q.1.1 q.1.2.1 q.1.2.2, w ∈ u_ws q.1.1 q.1.2.1 q.1.2.2 := fun _ z => z
          have hc := e_clsAt hq
          have hlt := hD.lt (e_ce_ne2 hk hq)
          have hap := va_apart (own := C0) hts' hin q.2.1 g2 g3 hK.1 hc
          have hat := hD.2.1 k _ (e_ws_at hlt)
          rw [hk] at hat
          obtain ⟨r', r1, cell, q1, q2, q3, q4⟩ := hat
          cases r1.symm.trans hc
          obtain ⟨hS, hfc, kC, hkC, hkind⟩ := hK.1.1 c2 _ hc
          obtain ⟨cf, kf, fi, f, hi, hsl⟩ := hS j h3
          have hst := (u_facts hfc hkC (u_lays hts' hin h3) hi).1
          obtain ⟨n1, n2⟩ := e_pok_n (b0 := b0) (K := K) hv
          have hsame : s.fieldFound? q.1.1 (q.1.2.1 j).2.1 (q.1.2.1 j).2.2.1 = some (cf, kf, fi, f) := by rw [h5] at hi; exact hi
          have fin : ∀ (H' : Heap), H'[b0 + k]? = some (cell.setSlot ((D.2 c2) j) (e_rl b0 K v)) → H'.size = H.size → (∀ x, x ≠ b0 + k → H'[x]? = H[x]?) → e_D b0 K aC D s.heap (va_up h.1 k (.inr (c2, fs.set j v)), h.2) H' (locs ++ [⟨b0 + k, (D.2 c2) j⟩]) := by
            intro H' e1 e2 e3
            refine hD.cell hlt ?_ e2 e3
            refine ⟨_, hc, ?_⟩
            have hj' : j < (fs.map (e_rl b0 K)).length := by rw [List.length_map]; exact hj
            have := t_OB.to (V := updV (vp_V (fs.map (e_rl b0 K))) j (e_rl b0 K v)) ⟨_, e1, q2, q3, t_set q4 hap h3 (e_rl b0 K v)⟩ (fun z _ => vp_updV_set hj' (e_rl b0 K v) z)
            rw [List.map_set]
            exact this
          by_cases hf2 : (q.1.2.1 j).2.2.2 = true
          · have hio : ini = true ∧ own = c2 := by
              rcases hfin with z | z
              · rw [hf2] at z; cases z
              · exact z
            have hlay := hts' _ (hin _ (u_in_lay h3))
            unfold u_lay at hlay
            rw [if_pos hf2] at hlay
            have hcf : m.cls = cf := by
              obtain ⟨_, _, c', _, _, _, -, -, hf', -, -, -, hown2, -⟩ := Cond.laysFinal_spec hlay
              have e1 : c' = cf := by have := hi.symm.trans hf'; simp at this; exact this.1.symm
              have hC : C0 = q.1.1 := by
                have := e_nk hq
                rw [← hio.2, hC0] at this
                exact Option.some.inj this
              rw [h5, ← hC] at hown2
              rw [← e1]; exact Option.some.inj (hown.symm.trans hown2)
            have h6 := u_fits hfc hkC hkind (Or.inr hlay) hi (g2 j h3) n1 n2
            refine W.putFinK hx hb hown (hts _ h4 rfl) hsame hst hcf (hini hio.1) (by rw [q2]; exact h6) q1 q3 (by rw [hsl]; exact k2_hasslot (q4 j h3)) rfl rfl hd fun H' e1 e2 e3 => ?_
            rw [hsl] at e1 ⊢
            exact kk ls H' _ hl (fin H' e1 e2 e3)
          · have hf2 : (q.1.2.1 j).2.2.2 = false := by simpa using hf2
            have hlay := hts' _ (hin _ (u_in_lay h3))
            unfold u_lay at hlay
            rw [if_neg (by rw [hf2]; decide)] at hlay
            have h6 := u_store hfc hkC hkind hlay hi (g2 j h3) n1 n2
            refine W.putK hx hb (f := f) ⟨hown, hts _ h4 rfl, ⟨_, _, _, hsame⟩, hst⟩ (by rw [q2]; exact h6) q1 q3 (by rw [hsl]; exact k2_hasslot (q4 j h3)) rfl rfl hd fun H' e1 e2 e3 => ?_
            rw [hsl] at e1 ⊢
            exact kk ls H' _ hl (fin H' e1 e2 e3)
        · cases hs
      · cases hs
    · cases hs
  · cases hs
end STH

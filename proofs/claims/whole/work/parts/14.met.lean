/-! every method's contract, out of the small machine's run -/
theorem e_cp_inv {own kind idx cm : Nat} {st as rest : List Value} {h : e_H} (hs : e_cp own kind idx st h = some (cm, as, rest)) :
    ∃ r, e_M[cm]? = some r ∧ e_rs own idx = some (cm, kind) ∧ e_al as ≤ r.2.2.1 ∧ r.2.2.2.2.2.1 ≤ st.length ∧ e_cat rest ≤ 8 ∧
    ((kind = 0 ∧ as = (st.take r.2.2.2.2.2.1).reverse ∧ rest = st.drop r.2.2.2.2.2.1) ∨
     ((kind = 1 ∨ kind = 2) ∧ ∃ a ci fs, st.drop r.2.2.2.2.2.1 = .ref a :: rest ∧ as = .ref a :: (st.take r.2.2.2.2.2.1).reverse ∧ h.1 a = .inr (ci, fs) ∧ ci = r.2.2.2.2.1 ∧ ci < 13) ∨
     (kind = 1 ∧ ∃ q, st.drop r.2.2.2.2.2.1 = .retAddr q :: rest ∧ as = .retAddr q :: (st.take r.2.2.2.2.2.1).reverse ∧ q < 4 ∧ r.2.2.2.2.1 = 16)) := by
  unfold e_cp at hs
  split at hs
  · next cm1 as1 rest1 h0 =>
    split at hs
    · next r hr =>
      split at hs
      · next hal =>
        cases hs
        unfold e_cp0 at h0
        split at h0
        · next cm2 k hrs =>
          split at h0
          · next r2 hr2 =>
            split at h0
            · next hk =>
              obtain ⟨rfl, hk3, hlen⟩ := hk
              split at h0
              · next hk0 =>
                split at h0
                · next hcat =>
                  cases h0
                  cases hr.symm.trans hr2
                  exact ⟨r, hr, hrs, hal, hlen, hcat, Or.inl ⟨hk0, rfl, rfl⟩⟩
                · cases h0
              · next hk0 =>
                split at h0
                · next a rest2 hdrop =>
                  split at h0
                  · next ci fs ha =>
                    split at h0
                    · next hc =>
                      cases h0
                      cases hr.symm.trans hr2
                      exact ⟨r, hr, hrs, hal, hlen, hc.1, Or.inr (Or.inl ⟨by omega, a, ci, fs, hdrop, rfl, ha, hc.2.1, hc.2.2⟩)⟩
                    · cases h0
                  · cases h0
                · next q rest2 hdrop =>
                  split at h0
                  · next hc =>
                    cases h0
                    cases hr.symm.trans hr2
                    exact ⟨r, hr, hrs, hal, hlen, hc.1, Or.inr (Or.inr ⟨hc.2.2.2, q, hdrop, rfl, hc.2.2.1, hc.2.1⟩)⟩
                  · cases h0
                · cases h0
            · cases h0
          · cases h0
        · cases h0
      · cases hs
    · cases hs
  · cases hs
theorem e_fil {w : Cond} (h : w ∈ lw_tbl) (hg : goodWord w = true) : w ∈ lw_tbl.filter goodWord := List.mem_filter.mpr ⟨h, hg⟩
section RUN2
variable {p : Program} {l : Launch} {e : Env} {R : Room} {s : State} {m : MethodId} {args : Array Value} {below : List Frame} {meth : Method} {c : Code} {Q : State → Prop}
variable {cc : ByteArray} {nL own b0 : Nat} {K : Nat → Value} {aC : FieldType → ClassId} {D : va_G} {X : Nat × (Nat → Int32)} {n0 k0 : Nat}
variable {pc : Nat} {lv st : List Value} {h : e_H} {ls : Array Slot} {H : Heap} {locs : List Loc}
theorem e_callB (Z : e_X p s m args c cc nL own b0 K aC D X n0) {C0 : String} {r : e_R} {idx d mc ms : Nat} (hok : e_okM r) (hlink : Cond.methodLink C0 idx r.1 ∈ lw_tbl) (hR : d + 2 ≤ R.frames ∧ 64 * (d + 2) ≤ R.locals) :
    CallB R s args C0 idx r.1 r.2.1 r.2.2.1 r.2.2.2.1 (e_wr r) (e_rm d mc ms) mc ms r.2.2.2.2.2.1 := by
  obtain ⟨⟨hx, hb, hml⟩, ⟨C1, hC1, hown⟩, hts, hK, hC, hsz⟩ := Z
  obtain ⟨o1, o2, o3, o4, o5, o6⟩ := hok
  have htT : ∀ w ∈ lw_tbl.filter goodWord, w.before args s = true := fun w hw => hts w (List.mem_filter.mp hw).1 (List.mem_filter.mp hw).2
  refine callB_of (Ts := lw_tbl.filter goodWord) (ws' := lw_tbl.filter goodWord) r.2.2.2.2.2.1 htT ?_ rfl rfl rfl (hts _ o3 rfl) (hts _ hlink rfl) o5 ⟨by show d + 1 + 1 ≤ R.frames; omega, by show 8 + (r.2.2.1 + 11) + 64 * (d + 1) ≤ R.locals; omega⟩
  intro w hw
  rcases List.mem_cons.mp hw with rfl | hw
  · exact ⟨e_fil o2 rfl, Or.inl rfl⟩
  · exact ⟨hw, good_of_word (List.mem_filter.mp hw).2⟩
theorem e_pre (Z : e_X p s m args c cc nL own b0 K aC D X n0) (hD : e_D b0 K aC D s.heap h H locs) {U : State} (hU : U.heap = H) (hW : s.WarmedH U.vm) : e_Wd b0 K aC D X h U := by
  obtain ⟨-, -, -, hK, hC, hsz⟩ := Z
  refine ⟨by rw [hU]; exact hD.1, by rw [hU]; exact hD.2.1, hD.2.2.1, hK.moved hW.alike, ?_⟩
  rw [hU]
  exact (hC.kept hD.2.2.2.1 hD.2.2.2.2.1).moved hW.alike (fun _ _ _ _ z => z.warm hW)
theorem e_catm (hK1 : ∀ k, (K k).category = 1) (r : List Value) : ((r.map (e_rl b0 K)).map fun v => v.category).sum = e_cat r := by
  unfold e_cat
  rw [List.map_map]
  congr 1
  apply List.map_congr_left
  intro v _
  exact e_rl_cat hK1 v
set_option maxHeartbeats 4000000 in
/-- a call -/
theorem e_call (Z : e_X p s m args c cc nL own b0 K aC D X n0) {i : Instr} {len kind idx cm d n : Nat} {as rest : List Value} {h1 : e_H} {v : Option Value} (hd : decode cc pc = .ok (i, len)) (hlen : e_lok (i, len) = true) (hk : e_kn i = some (kind, idx)) (hcp : e_cp own kind idx st h = some (cm, as, rest))
    (IH : e_S l b0 K aC D X n) {r : e_R} (hrc : e_M[cm]? = some r) (hev : ev X n d cm 0 (e_lc r.2.2.1 as) [] h = some (h1, v)) (hl : e_lr b0 K ls nL lv) (hD : e_D b0 K aC D s.heap h H locs) (hn : n0 ≤ h.2.1 ∧ k0 ≤ h.2.2) (hroom : h1.2.1 ≤ n0 + R.cells ∧ h1.2.2 ≤ k0 + R.slots) (hR : d + 2 ≤ R.frames ∧ 64 * (d + 2) ≤ R.locals)
    (kk : ∀ H' locs', e_D b0 K aC D s.heap h1 H' locs' → W p l e R s m args below meth c H' locs' (h1.2.1 - n0) (h1.2.2 - k0) Q (F0 m (pc + 3) ls ((v.toList ++ rest).map (e_rl b0 K)))) :
    W p l e R s m args below meth c H locs (h.2.1 - n0) (h.2.2 - k0) Q (F0 m pc ls (st.map (e_rl b0 K))) := by
  have Z0 := Z
  obtain ⟨⟨hx, hb, hml⟩, ⟨C0, hC0, hown⟩, hts, hK, hC, hsz⟩ := Z
  obtain ⟨r', hr', hrs, hal, hle, hcat, hcase⟩ := e_cp_inv hcp
  cases hrc.symm.trans hr'
  obtain ⟨C1, r1, hN1, hr1, hlnk⟩ := e_rsS hrs
  cases hC0.symm.trans hN1
  cases hrc.symm.trans hr1
  obtain ⟨hok, -, -⟩ := e_mOf hrc
  have hmono := ev_mono hev
  have hMet := IH d cm r as h h1 v hrc hal hev
  have hfill : h.2.1 - n0 + (h1.2.1 - h.2.1) = h1.2.1 - n0 := by omega
  have hfill2 : h.2.2 - k0 + (h1.2.2 - h.2.2) = h1.2.2 - k0 := by omega
  have htT : ∀ w ∈ lw_tbl.filter goodWord, w.before args s = true := fun w hw => hts w (List.mem_filter.mp hw).1 (List.mem_filter.mp hw).2
  have hfix : CallFix p m c cc nL s args (lw_tbl.filter goodWord) C0 := ⟨hx, hb, hml, hown, htT⟩
  have hcats := e_catm (b0 := b0) hC.1 rest
  have hrm : ∀ st0 : List Value, 2 * (F0 m pc ls st0).monitorRoom + ((rest.map (e_rl b0 K)).map fun v => v.category).sum ≤ 8 := fun st0 => by
    show 2 * 0 + _ ≤ 8
    rw [hcats]; omega
  have kk2 : ∀ H' locs', e_D b0 K aC D s.heap h1 H' locs' → W p l e R s m args below meth c H' locs' (h.2.1 - n0 + (h1.2.1 - h.2.1)) (h.2.2 - k0 + (h1.2.2 - h.2.2)) Q (F0 m (pc + 3) ls ((v.map (e_rl b0 K)).toList ++ rest.map (e_rl b0 K))) := by
    intro H' locs' hD'
    rw [hfill, hfill2]
    have := kk H' locs' hD'
    rw [List.map_append] at this
    have e1 : v.toList.map (e_rl b0 K) = (v.map (e_rl b0 K)).toList := by cases v <;> rfl
    rw [e1] at this
    exact this
  have hlenA : (((st.take r.2.2.2.2.2.1).reverse).map (e_rl b0 K)).length = r.2.2.2.2.2.1 := by
    rw [List.length_map, List.length_reverse, List.length_take]; omega
  have hcells : h.2.1 - n0 + (h1.2.1 - h.2.1) ≤ R.cells ∧ h.2.2 - k0 + (h1.2.2 - h.2.2) ≤ R.slots := ⟨by omega, by omega⟩
  have hCB := e_callB Z0 (R := R) (C0 := C0) (idx := idx) (mc := h1.2.1 - h.2.1) (ms := h1.2.2 - h.2.2) (d := d) hok
  rcases hcase with ⟨rfl, rfl, hrest⟩ | ⟨hk12, a, ci, fs, hdrop, rfl, ha, hci, hci13⟩ | ⟨rfl, q, hdrop, rfl, hq4, hs16⟩
  · -- static
    obtain ⟨hl1, hl2⟩ := hlnk
    have hi : i = .invokestatic idx := by
      unfold e_kn at hk
      split at hk <;> cases hk
      rfl
    subst hi
    obtain rfl : len = 3 := of_decide_eq_true hlen
    refine e_go (va_runS hfix hMet ⟨hCB hl1 hR, hts _ hl2 rfl⟩ ⟨e_blind, fun U hU hW => ⟨rfl, e_pre Z0 hD hU hW⟩⟩ rfl hlenA hl.2.1 ?_ (hrm _) hd hcells) hD kk2
    show st.map (e_rl b0 K) = _
    rw [List.map_reverse, List.reverse_reverse, hrest, ← List.map_append, List.take_append_drop]
  · have hstk : st.map (e_rl b0 K) = (((st.take r.2.2.2.2.2.1).reverse).map (e_rl b0 K)).reverse ++ .ref (b0 + a) :: rest.map (e_rl b0 K) := by
      have e1 : st = st.take r.2.2.2.2.2.1 ++ (.ref a :: rest) := by rw [← hdrop, List.take_append_drop]
      rw [List.map_reverse, List.reverse_reverse]
      conv => lhs; rw [e1]
      rw [List.map_append]
      rfl
    rcases hk12 with rfl | rfl
    · obtain ⟨hl1, hl2, hl3⟩ := hlnk
      have hi : i = .invokevirtual idx := by
        unfold e_kn at hk
        split at hk <;> cases hk
        rfl
      subst hi
      obtain rfl : len = 3 := of_decide_eq_true hlen
      obtain ⟨qk, hqk⟩ : ∃ qk, e_K[ci]? = some qk := ⟨e_K[ci]'(by exact hci13), List.getElem?_eq_getElem _⟩
      have hCn : r.1.cls = qk.1.1 := by
        have h1 := e_nk hqk
        rw [hci, hok.2.2.2.1] at h1
        exact Option.some.inj h1
      have hP := e_read hD (e_ce_ne2 ha hqk)
      rw [ha] at hP
      have hrv := va_recv hK.1 hP (e_clsAt hqk) (q0 := 0) rfl
      rw [← hCn] at hrv
      exact e_go (va_runV hfix hMet ⟨hCB hl1 hR, hts _ hl2 rfl, hts _ hl3 rfl⟩ ⟨e_blind, hrv, fun U hU hW => ⟨rfl, e_pre Z0 hD hU hW⟩⟩ rfl hlenA hl.2.1 hstk (hrm _) hd hcells) hD kk2
    · obtain ⟨hl1, hl2, hl3, hl4⟩ := hlnk
      have hi : i = .invokespecial idx := by
        unfold e_kn at hk
        split at hk <;> cases hk
        rfl
      subst hi
      obtain rfl : len = 3 := of_decide_eq_true hlen
      have hCB2 := hCB hl1 hR
      rw [hl4] at hCB2
      exact e_go (va_runI hfix hMet ⟨hCB2, hl3, hts _ hl2 rfl⟩ ⟨e_blind, fun U hU hW => ⟨rfl, e_pre Z0 hD hU hW⟩⟩ rfl hlenA hl.2.1 hstk (hrm _) hd hcells) hD kk2
  · obtain ⟨hl1, hl2, hl3⟩ := hlnk
    have hi : i = .invokevirtual idx := by
      unfold e_kn at hk
      split at hk <;> cases hk
      rfl
    subst hi
    obtain rfl : len = 3 := of_decide_eq_true hlen
    obtain ⟨a, v0, e1, -, e3, -⟩ := hC.2.2.1 q hq4
    have hCn : r.1.cls = "java/lang/String" := by
      have h1 := hok.2.2.2.1
      rw [hs16] at h1
      exact Option.some.inj (h1.symm.trans (by decide +kernel))
    have hrv : ∃ cell : Cell, H[a]? = some cell ∧ cell.vm.isStatics = false ∧ s.vm.findClass r.1.cls = some cell.cls := by
      obtain ⟨cell, g1, g2, g3, -⟩ := e3.kept hD.2.2.2.2.1
      exact ⟨cell, g1, g2, by rw [hCn]; exact g3⟩
    have hstk : st.map (e_rl b0 K) = (((st.take r.2.2.2.2.2.1).reverse).map (e_rl b0 K)).reverse ++ .ref a :: rest.map (e_rl b0 K) := by
      have e2 : st = st.take r.2.2.2.2.2.1 ++ (.retAddr q :: rest) := by rw [← hdrop, List.take_append_drop]
      rw [List.map_reverse, List.reverse_reverse]
      conv => lhs; rw [e2]
      rw [List.map_append]
      show _ ++ (K q :: _) = _
      rw [e1]
    have hav : (Value.retAddr q :: (st.take r.2.2.2.2.2.1).reverse).map (e_rl b0 K) = .ref a :: ((st.take r.2.2.2.2.2.1).reverse).map (e_rl b0 K) := by
      show K q :: _ = _
      rw [e1]
    rw [hav] at hMet
    exact e_go (va_runV hfix hMet ⟨hCB hl1 hR, hts _ hl2 rfl, hts _ hl3 rfl⟩ ⟨e_blind, hrv, fun U hU hW => ⟨rfl, e_pre Z0 hD hU hW⟩⟩ rfl hlenA hl.2.1 hstk (hrm _) hd hcells) hD kk2
set_option maxHeartbeats 4000000 in
theorem e_run {N mi d : Nat} {hE : e_H} {vE : Option Value} (IH : ∀ k, k < N → e_S l b0 K aC D X k) (Z : e_X p s m args c cc nL (e_ow mi) b0 K aC D X n0) (hini : e_ni mi = true → meth.name = "<init>") (hdec : ∀ pc i len, e_cd mi pc = some (i, len) → decode cc pc = .ok (i, len) ∧ e_lok (i, len) = true)
    (hR : d + 1 ≤ R.frames ∧ 64 * (d + 1) ≤ R.locals) (hroom : hE.2.1 ≤ n0 + R.cells ∧ hE.2.2 ≤ k0 + R.slots)
    (Ret : ∀ pc ls st H locs i len, decode cc pc = .ok (i, len) → e_lok (i, len) = true → e_re mi i st = some vE → e_D b0 K aC D s.heap hE H locs → W p l e R s m args below meth c H locs (hE.2.1 - n0) (hE.2.2 - k0) Q (F0 m pc ls (st.map (e_rl b0 K)))) :
    ∀ n, n ≤ N → ∀ pc lv st h ls H locs, ev X n d mi pc lv st h = some (hE, vE) → e_lr b0 K ls nL lv → e_D b0 K aC D s.heap h H locs → n0 ≤ h.2.1 ∧ k0 ≤ h.2.2 → W p l e R s m args below meth c H locs (h.2.1 - n0) (h.2.2 - k0) Q (F0 m pc ls (st.map (e_rl b0 K))) := by
  intro n
  induction n with
  | zero => intro _ pc lv st h ls H locs hs; cases hs
  | succ n ih =>
    intro hnN pc lv st h ls H locs hs hl hD hn
    rw [ev] at hs
    split at hs
    · cases hs
    · next i len hcd =>
      obtain ⟨hd, hlen⟩ := hdec pc i len hcd
      split at hs
      · next r hre =>
        cases hs
        exact Ret pc ls st H locs i len hd hlen hre hD
      · split at hs
        · next pc' lv' st' h' hst =>
          have hm1 := e_st_mono hst
          have hm2 := ev_mono hs
          exact e_st_ok Z hini hd hlen hst hl hD hn ⟨Nat.le_trans hm2.1 hroom.1, Nat.le_trans hm2.2 hroom.2⟩ ⟨by omega, by omega⟩ (fun ls' H' locs' hl' hD' => ih (by omega) pc' lv' st' h' ls' H' locs' hs hl' hD' ⟨Nat.le_trans hn.1 hm1.1, Nat.le_trans hn.2 hm1.2⟩)
        · split at hs
          · next kind idx d' hkn =>
            split at hs
            · next cm as rest hcp =>
              split at hs
              · next r hrc =>
                split at hs
                · next h1 v hev =>
                  have hm1 := ev_mono hev
                  have hm2 := ev_mono hs
                  exact e_call Z hd hlen hkn hcp (IH n (by omega)) hrc hev hl hD hn ⟨Nat.le_trans hm2.1 hroom.1, Nat.le_trans hm2.2 hroom.2⟩ hR (fun H' locs' hD' => ih (by omega) (pc + 3) lv (v.toList ++ rest) h1 ls H' locs' hs hl hD' ⟨Nat.le_trans hn.1 hm1.1, Nat.le_trans hn.2 hm1.2⟩)
                · cases hs
              · cases hs
            · cases hs
          · cases hs
end RUN2
theorem e_mi {mi : Nat} {r : e_R} (h : e_M[mi]? = some r) : (if mi = 999 then some e_ML else e_rc mi) = some r := by
  have hl : mi < e_M.length := (List.getElem?_eq_some_iff.mp h).1
  have h1 : e_M.length = 323 := by decide +kernel
  rw [if_neg (by omega)]
  exact h
theorem e_cdOf {mi pc len : Nat} {r : e_R} {i : Instr} (hmi : (if mi = 999 then some e_ML else e_rc mi) = some r) (z : e_cd mi pc = some (i, len)) : (pc, i, len) ∈ r.2.2.2.2.2.2 := by
  unfold e_cd at z
  rw [hmi] at z
  have z : r.2.2.2.2.2.2.lookup pc = some (i, len) := z
  exact e_lk z
theorem e_niOf {mi : Nat} {r : e_R} (hmi : (if mi = 999 then some e_ML else e_rc mi) = some r) (z : e_ni mi = true) : r.1.name = "<init>" := by
  unfold e_ni at z
  rw [hmi] at z
  exact of_decide_eq_true z
set_option maxHeartbeats 4000000 in
theorem e_met (l : Launch) (b0 : Nat) (K : Nat → Value) (aC : FieldType → ClassId) (D : va_G) (X : Nat × (Nat → Int32)) : ∀ n, e_S l b0 K aC D X n := by
  intro n
  induction n using Nat.strongRecOn with
  | ind N IH =>
    intro d mi r as h h' v hr hal hev
    obtain ⟨hok, hokD, hlok⟩ := e_mOf hr
    have hmi := e_mi hr
    refine e_ofW (cc := r.2.1) (maxL := r.2.2.1) (ret := r.2.2.2.1) hok.1 rfl ?_
    intro p e s m args below meth c s₁ B hml hv
    obtain ⟨rfl, hsz, hP, hdm, hK, hC⟩ := hv
    have hx := B.exec
    have hb := B.bytes
    have hret := B.returns
    have hts := atoms_spec (ws := e_wr r) B.pre
    have hown : s.vm.findClass r.1.cls = some m.cls := findClass_of_methodNamed B.named
    have hlocks := B.notSynchronized
    have how : e_ow mi = r.2.2.2.2.1 := by unfold e_ow; rw [hmi]
    have hrt : e_rt mi = r.2.2.2.1 := by unfold e_rt; rw [hmi]
    have Z : e_X p s m (as.map (e_rl b0 K)).toArray c r.2.1 r.2.2.1 (e_ow mi) b0 K aC D X h.2.1 := by
      refine ⟨⟨hx, hb, hml⟩, ⟨r.1.cls, by rw [how]; exact hok.2.2.2.1, hown⟩, fun w hw hg => hts w (List.mem_cons_of_mem _ (e_fil hw hg)), hK, hC, hsz⟩
    have hm := ev_mono hev
    have hDD : e_D b0 K aC D s.heap h s.heap [] := ⟨hsz, hP, hdm, va_S.rf⟩
    rw [lg_entry_eq]
    have hlens : (lg_sl (as.map (e_rl b0 K))).length ≤ r.2.2.1 := by
      have : (lg_sl (as.map (e_rl b0 K))).length = e_al as := by
        unfold e_al lg_sl
        clear hal hev hDD Z hts B
        induction as with
        | nil => rfl
        | cons v t ih =>
          simp only [List.map_cons, List.flatMap_cons, List.length_append]
          rw [ih, e_rl_cat hC.1]
          split <;> rfl
      omega
    have hl := e_lr.entry (b0 := b0) (K := K) (as := as) (nL := r.2.2.1) hC.1 hlens
    have key := e_run (p := p) (l := l) (e := e) (R := (headSpec (e_wr r) (e_rm d (h'.2.1 - h.2.1) (h'.2.2 - h.2.2))).room) (s := s) (m := m) (args := (as.map (e_rl b0 K)).toArray) (below := below) (meth := meth) (c := c) (Q := MQ below (e_Q b0 K aC D h' v) (as.map (e_rl b0 K)).toArray s (h'.2.1 - h.2.1) (h'.2.2 - h.2.2) (e_A b0)) (k0 := h.2.2) (N := N) (mi := mi) (d := d) (hE := h') (vE := v) IH Z
      (by
        intro z
        have h1 : meth.name = r.1.name := (name_of_methodNamed B.named B.method).1
        rw [h1]
        exact e_niOf hmi z)
      (by
        intro pc i len z
        have z2 := e_cdOf hmi z
        exact ⟨hokD (pc, i, len) z2, hlok (pc, i, len) z2⟩)
      ⟨Nat.le_refl _, Nat.le_refl _⟩ ⟨by show h'.2.1 ≤ h.2.1 + (h'.2.1 - h.2.1); omega, by show h'.2.2 ≤ h.2.2 + (h'.2.2 - h.2.2); omega⟩
      (by
        intro pc ls st H locs i len hd hlen hre hD
        have hq : ∀ (o : Option Value), o = v.map (e_rl b0 K) → ∀ t : State, t.heap = H → s.WarmedH t.vm → e_Q b0 K aC D h' v (as.map (e_rl b0 K)).toArray s (.returned o) t := fun o ho t ht _ => ⟨by rw [ho], by rw [ht]; exact hD.1, by rw [ht]; exact hD.2.1, hD.2.2.1, hD.2.2.2.F ht⟩
        have hf : ∀ q ∈ locs, e_A b0 q.base := hD.2.2.2.2.2
        unfold e_re at hre
        split at hre
        · next x =>
          rw [hrt] at hre
          split at hre
          · next ty hty =>
            split at hre
            · next hnar =>
              cases hre
              obtain rfl : len = 1 := of_decide_eq_true hlen
              exact W.zret hx hb (by rw [hret, hty]) hnar (hq _ rfl) hf hd
            · cases hre
          · cases hre
        · next x =>
          split at hre
          · next hty =>
            cases hre
            obtain rfl : len = 1 := of_decide_eq_true hlen
            exact W.lret hx hb (by rw [hret, ← hrt, hty]) (hq _ rfl) hf hd
          · cases hre
        · next x =>
          rw [hrt] at hre
          split at hre
          · next nm hty =>
            cases hre
            obtain rfl : len = 1 := of_decide_eq_true hlen
            exact W.aret hx hb (by rw [hret, hty]) (Or.inl ⟨nm, rfl⟩) (Or.inr ⟨_, rfl⟩) (hq _ rfl) hf hd
          · cases hre
        · split at hre
          · next hty =>
            cases hre
            obtain rfl : len = 1 := of_decide_eq_true hlen
            exact W.vret hx hb (by rw [hret, ← hrt, hty]) (hq _ rfl) hf hd
          · cases hre
        · cases hre)
      N (Nat.le_refl _) 0 (e_lc r.2.2.1 as) [] h _ s.heap [] hev hl hDD ⟨Nat.le_refl _, Nat.le_refl _⟩
    rw [Nat.sub_self, Nat.sub_self] at key
    exact key

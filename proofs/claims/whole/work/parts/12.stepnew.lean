section STN
variable {p : Program} {l : Launch} {e : Env} {R : Room} {s : State} {m : MethodId} {args : Array Value} {below : List Frame} {meth : Method} {c : Code} {Q : State → Prop}
variable {cc : ByteArray} {nL own b0 : Nat} {K : Nat → Value} {aC : FieldType → ClassId} {D : va_G} {X : Nat × (Nat → Int32)} {n0 k0 : Nat}
variable {ini : Bool} {pc len pc' : Nat} {i : Instr} {lv st lv' st' : List Value} {h h' : e_H} {ls : Array Slot} {H H1 : Heap} {locs : List Loc}
theorem e_newa_inv {ty : FieldType} {z : Nat → vp_A} {o : Nat × List Value × List Value × e_H} (hs : e_newa pc lv st h ty z = some o) : ∃ n r, st = .int n :: r ∧ ¬ n < 0 ∧ n.toNatClampNeg ≤ 65536 ∧ o = (pc, lv, .ref h.2.1 :: r, (va_up h.1 h.2.1 (.inl (ty, z n.toNatClampNeg)), h.2.1 + 1, h.2.2 + n.toNatClampNeg)) := by
  unfold e_newa at hs
  split at hs
  · next n r =>
    split at hs
    · next hq => exact ⟨n, r, rfl, hq.1, hq.2, (Option.some.inj hs).symm⟩
    · cases hs
  · cases hs
set_option maxHeartbeats 4000000 in
/-- arrays of numbers -/
theorem e_newp (Z : e_X p s m args c cc nL own b0 K aC D X n0) {at0 : ArrayType} {z : Nat → vp_A} (hd : decode cc pc = .ok (.newarray at0, 2)) (hok : e_okT (newarray.typeOf at0) = true) (hcb : componentBytes (newarray.typeOf at0) ≤ 8) (hnm : (Cond.arrayClass (newarray.typeOf at0)) ∈ lw_tbl) (hRA : ∀ U cA, va_RA U cA (newarray.typeOf at0) → U.vm.findClass ("[" ++ (newarray.typeOf at0).toString) = some cA) (hz : ∀ n cA, vp_cell cA (e_ra b0 (z n)) = arrV cA n (fun _ => defaultValue (newarray.typeOf at0)))
    (hs : e_newa (pc + 2) lv st h (newarray.typeOf at0) z = some (pc', lv', st', h')) (hl : e_lr b0 K ls nL lv) (hD : e_D b0 K aC D s.heap h H locs) (hn : n0 ≤ h.2.1 ∧ k0 ≤ h.2.2) (hroom : h'.2.1 ≤ n0 + R.cells ∧ h'.2.2 ≤ k0 + R.slots)
    (kk : ∀ ls' H' locs', e_lr b0 K ls' nL lv' → e_D b0 K aC D s.heap h' H' locs' → W p l e R s m args below meth c H' locs' (h'.2.1 - n0) (h'.2.2 - k0) Q (F0 m pc' ls' (st'.map (e_rl b0 K)))) :
    W p l e R s m args below meth c H locs (h.2.1 - n0) (h.2.2 - k0) Q (F0 m pc ls (st.map (e_rl b0 K))) := by
  obtain ⟨⟨hx, hb, hml⟩, ⟨C0, hC0, hown⟩, hts, hK, hC, hsz⟩ := Z
  obtain ⟨n, r, rfl, hn0, hn1, ho⟩ := e_newa_inv hs
  cases ho
  have hroom1 : h.2.1 + 1 ≤ n0 + R.cells := hroom.1
  have hroom2 : h.2.2 + n.toNatClampNeg ≤ k0 + R.slots := hroom.2
  have hbytes : n.toNatClampNeg * componentBytes (newarray.typeOf at0) ≤ 536870912 := Nat.le_trans (Nat.mul_le_mul hn1 hcb) (by decide)
  refine va_newaK hx hb (hts _ hnm rfl) rfl hd rfl hn0 rfl hbytes (by omega) (by omega) rfl fun H1 cA e1 z1 o1 hAr hNm => ?_
  have hcA : cA = aC (newarray.typeOf at0) := Option.some.inj (hNm.symm.trans (hRA s _ (hK.2 _ hok).2.1))
  subst hcA
  have hsz2 := hD.1
  have kk := kk ls H1 locs hl (hD.made (cl := .inl (newarray.typeOf at0, z n.toNatClampNeg)) (by omega) (by show H1[b0 + h.2.1]? = some (vp_cell _ _); rw [hz, ← hsz2]; exact e1) z1 o1)
  rw [show h.2.1 - n0 + 1 = h.2.1 + 1 - n0 by omega, show h.2.2 - k0 + n.toNatClampNeg = h.2.2 + n.toNatClampNeg - k0 by omega, hsz2]
  exact kk
set_option maxHeartbeats 4000000 in
theorem e_st_new (Z : e_X p s m args c cc nL own b0 K aC D X n0) (hd : decode cc pc = .ok (i, len)) (hlen : e_lok (i, len) = true)
    (hi : (∃ at0, i = .newarray at0) ∨ (∃ idx, i = .anewarray idx ∨ i = .new idx ∨ i = .invokespecial idx))
    (hs : e_st X own ini pc i lv st h = some (pc', lv', st', h')) (hl : e_lr b0 K ls nL lv) (hD : e_D b0 K aC D s.heap h H locs) (hn : n0 ≤ h.2.1 ∧ k0 ≤ h.2.2) (hroom : h'.2.1 ≤ n0 + R.cells ∧ h'.2.2 ≤ k0 + R.slots) (hfr : 1 ≤ R.frames ∧ 20 ≤ R.locals)
    (kk : ∀ ls' H' locs', e_lr b0 K ls' nL lv' → e_D b0 K aC D s.heap h' H' locs' → W p l e R s m args below meth c H' locs' (h'.2.1 - n0) (h'.2.2 - k0) Q (F0 m pc' ls' (st'.map (e_rl b0 K)))) :
    W p l e R s m args below meth c H locs (h.2.1 - n0) (h.2.2 - k0) Q (F0 m pc ls (st.map (e_rl b0 K))) := by
  have Z0 := Z
  obtain ⟨⟨hx, hb, hml⟩, ⟨C0, hC0, hown⟩, hts, hK, hC, hsz⟩ := Z
  rcases hi with ⟨at0, rfl⟩ | ⟨idx, rfl | rfl | rfl⟩
  · obtain rfl : len = 2 := of_decide_eq_true hlen
    cases at0 with
    | int => exact e_newp Z0 (z := fun n => (n, .inl (fun _ => 0))) hd rfl (by decide) e_ac1.1 (fun _ _ z => z) (fun _ _ => rfl) hs hl hD hn hroom kk
    | byte => exact e_newp Z0 (z := fun n => (n, .inl (fun _ => 0))) hd rfl (by decide) e_ac1.2.1 (fun _ _ z => z) (fun _ _ => rfl) hs hl hD hn hroom kk
    | boolean => exact e_newp Z0 (z := fun n => (n, .inl (fun _ => 0))) hd rfl (by decide) e_ac1.2.2.1 (fun _ _ z => z) (fun _ _ => rfl) hs hl hD hn hroom kk
    | long => exact e_newp Z0 (z := fun n => (n, .inr (.inl (fun _ => 0)))) hd rfl (by decide) e_ac1.2.2.2.1 (fun _ _ z => z) (fun _ _ => rfl) hs hl hD hn hroom kk
    | char => cases hs
    | float => cases hs
    | double => cases hs
    | short => cases hs
  · obtain rfl : len = 3 := of_decide_eq_true hlen
    simp only [e_st] at hs
    split at hs
    · next ci hci =>
      split at hs
      · next q hq =>
        split at hs
        · next hok =>
          obtain ⟨C1, q', h1, h2, h3⟩ := e_nwS hci
          cases hC0.symm.trans h1
          cases hq.symm.trans h2
          obtain ⟨n, r, rfl, hn0, hn1, ho⟩ := e_newa_inv hs
          cases ho
          have hroom1 : h.2.1 + 1 ≤ n0 + R.cells := hroom.1
          have hroom2 : h.2.2 + n.toNatClampNeg ≤ k0 + R.slots := hroom.2
          refine W.anew hx hb hown (hts _ h3 rfl) (va_AO.use ((hK.2 (.object q.1.1) hok).2.2 _ rfl)) rfl hd rfl hn0 (by omega) (by omega) (by omega) fun cA kA comp f1 f2 f3 f4 => ?_
          have hcA : cA = aC (.object q.1.1) := by
            obtain ⟨kA', comp', k1, k2, k3, k4⟩ := (hK.2 (.object q.1.1) hok).2.1
            exact Option.some.inj (f1.symm.trans k4)
          subst hcA
          have hsz2 := hD.1
          have kk := kk ls (H.push { cls := aC (.object q.1.1), slots := Array.replicate n.toNatClampNeg .null, vm := .none }) locs hl (hD.made (cl := .inl (.object q.1.1, (n.toNatClampNeg, .inr (.inr (.inr (.inr (fun _ => none))))))) (by omega)
            (by
              show (H.push _)[b0 + h.2.1]? = some (vp_cell _ _)
              rw [← hsz2, Array.getElem?_push_size, arrV_new]
              rfl)
            (by rw [Array.size_push]) (fun x hx => by rw [Array.getElem?_push, if_neg (Nat.ne_of_lt hx)]))
          rw [show h.2.1 - n0 + 1 = h.2.1 + 1 - n0 by omega, show h.2.2 - k0 + n.toNatClampNeg = h.2.2 + n.toNatClampNeg - k0 by omega, hsz2]
          exact kk
        · cases hs
      · cases hs
    · cases hs
  · obtain rfl : len = 3 := of_decide_eq_true hlen
    simp only [e_st, e_new] at hs
    split at hs
    · next ci hci =>
      split at hs
      · next q hq =>
        cases hs
        obtain ⟨C1, q', h1, h2, h3⟩ := e_nwS hci
        cases hC0.symm.trans h1
        cases hq.symm.trans h2
        obtain ⟨g1, g2, g3, g4, g5, g6, g7⟩ := e_kOf hq
        have hroom1 : h.2.1 + 1 ≤ n0 + R.cells := hroom.1
        have hroom2 : h.2.2 + q.1.2.2 ≤ k0 + R.slots := hroom.2
        have hts' : ∀ w ∈ u_ws q.1.1 q.1.2.1 q.1.2.2, w.before args s = true := fun w hw => hts w (g1 w hw) (e_uw w hw)
        have hc := e_clsAt hq
        have hKn := hK.1.1 ci _ hc
        refine W.newcK hx hb hown (hts _ h3 rfl) (hts _ g4 rfl) (hts _ g5 rfl) rfl hd (by omega) (by omega) hKn.2.1 rfl fun H1 kC hkC e1 z1 o1 => ?_
        have hsz2 := hD.1
        have hdef : q.2.2.map (e_rl b0 K) = q.2.2 := e_dflt hq
        have kk := kk ls H1 locs hl (hD.made (cl := .inr (ci, q.2.2)) (by omega)
          (by
            refine ⟨_, hc, ?_⟩
            show t_OB (b0 + h.2.1) _ _ _ H1 (vp_V (q.2.2.map (e_rl b0 K)))
            rw [hdef, ← hsz2]
            exact (u_born q.2.1 hts' (fun _ z => z) hKn hkC e1 g2).to g6) z1 o1)
        rw [show h.2.1 - n0 + 1 = h.2.1 + 1 - n0 by omega, show h.2.2 - k0 + q.1.2.2 = h.2.2 + q.1.2.2 - k0 by omega, hsz2]
        exact kk
      · cases hs
    · cases hs
  · obtain rfl : len = 3 := of_decide_eq_true hlen
    simp only [e_st] at hs
    split at hs
    · next cm a r hr =>
      split at hs
      · next hcat =>
        obtain ⟨C1, rr, h1, h2, h3⟩ := e_rsS hr
        cases hC0.symm.trans h1
        have hcats : ((r.map (e_rl b0 K)).map fun v => v.category).sum = e_cat r := by
          unfold e_cat
          rw [List.map_map]
          congr 1
          apply List.map_congr_left
          intro v _
          exact e_rl_cat hC.1 v
        have hle : 2 * 0 + ((r.map (e_rl b0 K)).map fun v => v.category).sum + 12 ≤ R.locals := by rw [hcats]; omega
        cases hs
        exact W.objInit hx hb hown (hts _ h3 rfl) (hts _ e_oi1 rfl) (hts _ e_oi2 rfl) rfl (by rw [hml, hl.2.1]) rfl hd hfr.1 hle (kk ls H locs hl hD)
      · cases hs
    · cases hs
set_option maxHeartbeats 4000000 in
theorem e_st_ok (Z : e_X p s m args c cc nL own b0 K aC D X n0) (hini : ini = true → meth.name = "<init>") (hd : decode cc pc = .ok (i, len)) (hlen : e_lok (i, len) = true)
    (hs : e_st X own ini pc i lv st h = some (pc', lv', st', h')) (hl : e_lr b0 K ls nL lv) (hD : e_D b0 K aC D s.heap h H locs) (hn : n0 ≤ h.2.1 ∧ k0 ≤ h.2.2) (hroom : h'.2.1 ≤ n0 + R.cells ∧ h'.2.2 ≤ k0 + R.slots) (hfr : 1 ≤ R.frames ∧ 20 ≤ R.locals)
    (kk : ∀ ls' H' locs', e_lr b0 K ls' nL lv' → e_D b0 K aC D s.heap h' H' locs' → W p l e R s m args below meth c H' locs' (h'.2.1 - n0) (h'.2.2 - k0) Q (F0 m pc' ls' (st'.map (e_rl b0 K)))) :
    W p l e R s m args below meth c H locs (h.2.1 - n0) (h.2.2 - k0) Q (F0 m pc ls (st.map (e_rl b0 K))) := by
  cases i with
  | iload k => exact e_st_load Z hd hlen ⟨k, by simp⟩ hs hl hD kk
  | lload k => exact e_st_load Z hd hlen ⟨k, by simp⟩ hs hl hD kk
  | aload k => exact e_st_load Z hd hlen ⟨k, by simp⟩ hs hl hD kk
  | iload_n k => exact e_st_load Z hd hlen ⟨0, by simp⟩ hs hl hD kk
  | lload_n k => exact e_st_load Z hd hlen ⟨0, by simp⟩ hs hl hD kk
  | aload_n k => exact e_st_load Z hd hlen ⟨0, by simp⟩ hs hl hD kk
  | istore k => exact e_st_store Z hd hlen ⟨k, by simp⟩ hs hl hD kk
  | lstore k => exact e_st_store Z hd hlen ⟨k, by simp⟩ hs hl hD kk
  | astore k => exact e_st_store Z hd hlen ⟨k, by simp⟩ hs hl hD kk
  | istore_n k => exact e_st_store Z hd hlen ⟨0, by simp⟩ hs hl hD kk
  | lstore_n k => exact e_st_store Z hd hlen ⟨0, by simp⟩ hs hl hD kk
  | astore_n k => exact e_st_store Z hd hlen ⟨0, by simp⟩ hs hl hD kk
  | iinc k n => exact e_st_store Z hd hlen ⟨k, by simp⟩ hs hl hD kk
  | iconst n => exact e_st_plain Z hd hlen (by simp) hs hl hD kk
  | bipush n => exact e_st_plain Z hd hlen (by simp) hs hl hD kk
  | sipush n => exact e_st_plain Z hd hlen (by simp) hs hl hD kk
  | lconst n => exact e_st_plain Z hd hlen (by simp) hs hl hD kk
  | iadd => exact e_st_plain Z hd hlen (by simp) hs hl hD kk
  | isub => exact e_st_plain Z hd hlen (by simp) hs hl hD kk
  | imul => exact e_st_plain Z hd hlen (by simp) hs hl hD kk
  | iand => exact e_st_plain Z hd hlen (by simp) hs hl hD kk
  | ior => exact e_st_plain Z hd hlen (by simp) hs hl hD kk
  | ixor => exact e_st_plain Z hd hlen (by simp) hs hl hD kk
  | ishl => exact e_st_plain Z hd hlen (by simp) hs hl hD kk
  | ishr => exact e_st_plain Z hd hlen (by simp) hs hl hD kk
  | iushr => exact e_st_plain Z hd hlen (by simp) hs hl hD kk
  | idiv => exact e_st_plain Z hd hlen (by simp) hs hl hD kk
  | irem => exact e_st_plain Z hd hlen (by simp) hs hl hD kk
  | ineg => exact e_st_plain Z hd hlen (by simp) hs hl hD kk
  | i2l => exact e_st_plain Z hd hlen (by simp) hs hl hD kk
  | i2b => exact e_st_plain Z hd hlen (by simp) hs hl hD kk
  | i2s => exact e_st_plain Z hd hlen (by simp) hs hl hD kk
  | i2c => exact e_st_plain Z hd hlen (by simp) hs hl hD kk
  | ladd => exact e_st_plain Z hd hlen (by simp) hs hl hD kk
  | lsub => exact e_st_plain Z hd hlen (by simp) hs hl hD kk
  | lmul => exact e_st_plain Z hd hlen (by simp) hs hl hD kk
  | land => exact e_st_plain Z hd hlen (by simp) hs hl hD kk
  | lor => exact e_st_plain Z hd hlen (by simp) hs hl hD kk
  | lcmp => exact e_st_plain Z hd hlen (by simp) hs hl hD kk
  | ldiv => exact e_st_plain Z hd hlen (by simp) hs hl hD kk
  | lrem => exact e_st_plain Z hd hlen (by simp) hs hl hD kk
  | lshl => exact e_st_plain Z hd hlen (by simp) hs hl hD kk
  | lshr => exact e_st_plain Z hd hlen (by simp) hs hl hD kk
  | l2i => exact e_st_plain Z hd hlen (by simp) hs hl hD kk
  | goto off => exact e_st_ctl Z hd hlen (by simp) hs hl hD kk
  | ifCond cd off => exact e_st_ctl Z hd hlen (by simp) hs hl hD kk
  | if_icmp cd off => exact e_st_ctl Z hd hlen (by simp) hs hl hD kk
  | tableswitch d lo hi offs => exact e_st_ctl Z hd hlen (by simp) hs hl hD kk
  | lookupswitch d ps => exact e_st_ctl Z hd hlen (by simp) hs hl hD kk
  | dup => exact e_st_ctl Z hd hlen (by simp) hs hl hD kk
  | pop => exact e_st_ctl Z hd hlen (by simp) hs hl hD kk
  | pop2 => exact e_st_ctl Z hd hlen (by simp) hs hl hD kk
  | dup2 => exact e_st_ctl Z hd hlen (by simp) hs hl hD kk
  | ldc idx => exact e_st_const Z hd hlen ⟨idx, by simp⟩ hs hl hD kk
  | ldc_w idx => exact e_st_const Z hd hlen ⟨idx, by simp⟩ hs hl hD kk
  | ldc2_w idx => exact e_st_const Z hd hlen ⟨idx, by simp⟩ hs hl hD kk
  | getstatic idx => exact e_st_const Z hd hlen ⟨idx, by simp⟩ hs hl hD kk
  | getfield idx => exact e_st_gf Z hd hlen hs hl hD kk
  | putfield idx => exact e_st_pf Z hini hd hlen hs hl hD kk
  | iaload => exact e_st_ald Z hd hlen (by simp) hs hl hD kk
  | baload => exact e_st_ald Z hd hlen (by simp) hs hl hD kk
  | laload => exact e_st_ald Z hd hlen (by simp) hs hl hD kk
  | aaload => exact e_st_ald Z hd hlen (by simp) hs hl hD kk
  | arraylength => exact e_st_ald Z hd hlen (by simp) hs hl hD kk
  | iastore => exact e_st_ast Z hd hlen (by simp) hs hl hD kk
  | bastore => exact e_st_ast Z hd hlen (by simp) hs hl hD kk
  | lastore => exact e_st_ast Z hd hlen (by simp) hs hl hD kk
  | aastore => exact e_st_ast Z hd hlen (by simp) hs hl hD kk
  | newarray at0 => exact e_st_new Z hd hlen (by simp) hs hl hD hn hroom hfr kk
  | anewarray idx => exact e_st_new Z hd hlen (by simp) hs hl hD hn hroom hfr kk
  | new idx => exact e_st_new Z hd hlen (by simp) hs hl hD hn hroom hfr kk
  | invokespecial idx => exact e_st_new Z hd hlen (by simp) hs hl hD hn hroom hfr kk
  | _ => cases hs
end STN

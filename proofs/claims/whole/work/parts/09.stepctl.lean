section STC
variable {p : Program} {l : Launch} {e : Env} {R : Room} {s : State} {m : MethodId} {args : Array Value} {below : List Frame} {meth : Method} {c : Code} {Q : State → Prop}
variable {cc : ByteArray} {nL own b0 : Nat} {K : Nat → Value} {aC : FieldType → ClassId} {D : va_G} {X : Nat × (Nat → Int32)} {n0 k0 : Nat}
variable {ini : Bool} {pc len pc' : Nat} {i : Instr} {lv st lv' st' : List Value} {h h' : e_H} {ls : Array Slot} {H : Heap} {locs : List Loc}
theorem e_rl_cat (hK1 : ∀ k, (K k).category = 1) (v : Value) : (e_rl b0 K v).category = v.category := by cases v <;> first | rfl | exact hK1 _
set_option maxHeartbeats 4000000 in
theorem e_st_ctl (Z : e_X p s m args c cc nL own b0 K aC D X n0) (hd : decode cc pc = .ok (i, len)) (hlen : e_lok (i, len) = true)
    (hi : (∃ off : Int, i = .goto off) ∨ (∃ (cd : ClassFile.Cond) (off : Int), i = .ifCond cd off ∨ i = .if_icmp cd off) ∨ (∃ (d lo hi : Int) (offs : Array Int), i = .tableswitch d lo hi offs) ∨ (∃ (d : Int) (ps : Array (Int × Int)), i = .lookupswitch d ps) ∨ i = .dup ∨ i = .pop ∨ i = .pop2 ∨ i = .dup2)
    (hs : e_st X own ini pc i lv st h = some (pc', lv', st', h')) (hl : e_lr b0 K ls nL lv) (hD : e_D b0 K aC D s.heap h H locs)
    (kk : ∀ ls' H' locs', e_lr b0 K ls' nL lv' → e_D b0 K aC D s.heap h' H' locs' → W p l e R s m args below meth c H' locs' (h'.2.1 - n0) (h'.2.2 - k0) Q (F0 m pc' ls' (st'.map (e_rl b0 K)))) :
    W p l e R s m args below meth c H locs (h.2.1 - n0) (h.2.2 - k0) Q (F0 m pc ls (st.map (e_rl b0 K))) := by
  obtain ⟨⟨hx, hb, hml⟩, ⟨C0, hC0, hown⟩, hts, hK, hC, hsz⟩ := Z
  rcases hi with ⟨off, rfl⟩ | ⟨cd, off, rfl | rfl⟩ | ⟨d, lo, hi, offs, rfl⟩ | ⟨d, ps, rfl⟩ | rfl | rfl | rfl | rfl
  · obtain rfl : len = 3 := of_decide_eq_true hlen
    simp only [e_st, Option.map_eq_some_iff] at hs
    obtain ⟨t, ht, hs⟩ := hs
    cases hs
    exact lv_goto hx hb hd (e_jmp_inv ht) (kk ls H locs hl hD)
  · obtain rfl : len = 3 := of_decide_eq_true hlen
    simp only [e_st] at hs
    split at hs
    · next x r =>
      simp only [Option.map_eq_some_iff] at hs
      obtain ⟨t, ht, hs⟩ := hs
      cases hs
      have ht := e_jmp_inv ht
      have kk := kk ls H locs hl hD
      have kt : e_c0 cd x = true → W p l e R s m args below meth c H locs (h.2.1 - n0) (h.2.2 - k0) Q (F0 m t ls (st'.map (e_rl b0 K))) := fun q => by rw [q] at kk; exact kk
      have kf : e_c0 cd x = false → W p l e R s m args below meth c H locs (h.2.1 - n0) (h.2.2 - k0) Q (F0 m (pc + 3) ls (st'.map (e_rl b0 K))) := fun q => by rw [q] at kk; exact kk
      cases cd with
      | eq => exact lv_if_eq hx hb hd ht (fun q => kt (by simp [e_c0, q])) (fun q => kf (by simp [e_c0, q]))
      | ne => exact lv_if_ne hx hb hd ht (fun q => kt (by simp [e_c0, q])) (fun q => kf (by simp [e_c0, q]))
      | lt => exact lv_if_lt hx hb hd ht (fun q => kt (by simp only [e_c0, q, decide_true])) (fun q => kf (by simp only [e_c0, q, decide_false]))
      | ge => exact lv_if_ge hx hb hd ht (fun q => kt (by simp only [e_c0, q, decide_true])) (fun q => kf (by simp only [e_c0, q, decide_false]))
      | gt => exact lv_if_gt hx hb hd ht (fun q => kt (by simp only [e_c0, q, decide_true])) (fun q => kf (by simp only [e_c0, q, decide_false]))
      | le => exact lv_if_le hx hb hd ht (fun q => kt (by simp only [e_c0, q, decide_true])) (fun q => kf (by simp only [e_c0, q, decide_false]))
    · cases hs
  · obtain rfl : len = 3 := of_decide_eq_true hlen
    simp only [e_st] at hs
    split at hs
    · next y x r =>
      simp only [Option.map_eq_some_iff] at hs
      obtain ⟨t, ht, hs⟩ := hs
      cases hs
      have ht := e_jmp_inv ht
      have kk := kk ls H locs hl hD
      have kt : e_c2 cd x y = true → W p l e R s m args below meth c H locs (h.2.1 - n0) (h.2.2 - k0) Q (F0 m t ls (st'.map (e_rl b0 K))) := fun q => by rw [q] at kk; exact kk
      have kf : e_c2 cd x y = false → W p l e R s m args below meth c H locs (h.2.1 - n0) (h.2.2 - k0) Q (F0 m (pc + 3) ls (st'.map (e_rl b0 K))) := fun q => by rw [q] at kk; exact kk
      cases cd with
      | eq => exact lv_icmp_eq hx hb hd ht (fun q => kt (by simp [e_c2, q])) (fun q => kf (by simp [e_c2, q]))
      | ne => exact lv_icmp_ne hx hb hd ht (fun q => kt (by simp [e_c2, q])) (fun q => kf (by simp [e_c2, q]))
      | lt => exact lv_icmp_lt hx hb hd ht (fun q => kt (by simp only [e_c2, q, decide_true])) (fun q => kf (by simp only [e_c2, q, decide_false]))
      | ge => exact lv_icmp_ge hx hb hd ht (fun q => kt (by simp only [e_c2, q, decide_true])) (fun q => kf (by simp only [e_c2, q, decide_false]))
      | gt => exact lv_icmp_gt hx hb hd ht (fun q => kt (by simp only [e_c2, q, decide_true])) (fun q => kf (by simp only [e_c2, q, decide_false]))
      | le => exact lv_icmp_le hx hb hd ht (fun q => kt (by simp only [e_c2, q, decide_true])) (fun q => kf (by simp only [e_c2, q, decide_false]))
    · cases hs
  · simp only [e_st] at hs
    split at hs
    · next x r =>
      split at hs
      · next hq =>
        simp only [Option.map_eq_some_iff] at hs
        obtain ⟨t, ht, hs⟩ := hs
        cases hs
        exact lv_tableOut hx hb hd hq (e_jmp_inv ht) (kk ls H locs hl hD)
      · next hq =>
        split at hs
        · next off ho =>
          simp only [Option.map_eq_some_iff] at hs
          obtain ⟨t, ht, hs⟩ := hs
          cases hs
          exact lv_tableIn hx hb hd (fun z => hq (Or.inl z)) (fun z => hq (Or.inr z)) ho (e_jmp_inv ht) (kk ls H locs hl hD)
        · cases hs
    · cases hs
  · simp only [e_st] at hs
    split at hs
    · next x r =>
      split at hs
      · next hq =>
        simp only [Option.map_eq_some_iff] at hs
        obtain ⟨t, ht, hs⟩ := hs
        cases hs
        exact lv_lookup hx hb hd hq rfl (e_jmp_inv ht) (kk ls H locs hl hD)
      · cases hs
    · cases hs
  · obtain rfl : len = 1 := of_decide_eq_true hlen
    simp only [e_st] at hs
    split at hs
    · next v r =>
      split at hs
      · next hq =>
        cases hs
        exact lv_dup hx hb hd (by rw [e_rl_cat hC.1]; exact hq) (kk ls H locs hl hD)
      · cases hs
    · cases hs
  · obtain rfl : len = 1 := of_decide_eq_true hlen
    simp only [e_st] at hs
    split at hs
    · next v r =>
      split at hs
      · next hq =>
        cases hs
        exact lv_pop hx hb hd (va := e_rl b0 K v) (by rw [e_rl_cat hC.1]; exact hq) (kk ls H locs hl hD)
      · cases hs
    · cases hs
  · obtain rfl : len = 1 := of_decide_eq_true hlen
    simp only [e_st] at hs
    split at hs
    · next v r =>
      cases hs
      exact lv_pop2_2 hx hb hd (va := .long v) rfl (kk ls H locs hl hD)
    · cases hs
  · obtain rfl : len = 1 := of_decide_eq_true hlen
    simp only [e_st] at hs
    split at hs
    · next v w r =>
      split at hs
      · next hq =>
        cases hs
        exact lv_dup2_11 hx hb hd (va := e_rl b0 K v) (vb := e_rl b0 K w) (by rw [e_rl_cat hC.1]; exact hq.1) (by rw [e_rl_cat hC.1]; exact hq.2) (kk ls H locs hl hD)
      · cases hs
    · cases hs
set_option maxHeartbeats 4000000 in
theorem e_st_const (Z : e_X p s m args c cc nL own b0 K aC D X n0) (hd : decode cc pc = .ok (i, len)) (hlen : e_lok (i, len) = true)
    (hi : ∃ idx, i = .ldc idx ∨ i = .ldc_w idx ∨ i = .ldc2_w idx ∨ i = .getstatic idx)
    (hs : e_st X own ini pc i lv st h = some (pc', lv', st', h')) (hl : e_lr b0 K ls nL lv) (hD : e_D b0 K aC D s.heap h H locs)
    (kk : ∀ ls' H' locs', e_lr b0 K ls' nL lv' → e_D b0 K aC D s.heap h' H' locs' → W p l e R s m args below meth c H' locs' (h'.2.1 - n0) (h'.2.2 - k0) Q (F0 m pc' ls' (st'.map (e_rl b0 K)))) :
    W p l e R s m args below meth c H locs (h.2.1 - n0) (h.2.2 - k0) Q (F0 m pc ls (st.map (e_rl b0 K))) := by
  obtain ⟨⟨hx, hb, hml⟩, ⟨C0, hC0, hown⟩, hts, hK, hC, hsz⟩ := Z
  obtain ⟨idx, rfl | rfl | rfl | rfl⟩ := hi
  · obtain rfl : len = 2 := of_decide_eq_true hlen
    simp only [e_st] at hs
    split at hs
    · next v hv =>
      cases hs
      obtain ⟨C1, h1, h2, -⟩ := e_kdS hv
      cases hC0.symm.trans h1
      exact lv_ldc hx hb hown (hts _ (h2 _ rfl) rfl) hd (kk ls H locs hl hD)
    · split at hs
      · next q hq =>
        split at hs
        · cases hs
          obtain ⟨tx, a, ha, hR⟩ := hC.2.2.2.2.2.1 _ (e_lk hq) C0 hC0
          have kk := kk ls H locs hl hD
          simp only [List.map_cons, e_rl, ha] at kk
          exact va_ldcS hx hb hown hR hd kk
        · cases hs
      · cases hs
  · obtain rfl : len = 3 := of_decide_eq_true hlen
    simp only [e_st] at hs
    split at hs
    · next v hv =>
      cases hs
      obtain ⟨C1, h1, h2, -⟩ := e_kdS hv
      cases hC0.symm.trans h1
      exact lv_ldcw hx hb hown (hts _ (h2 _ rfl) rfl) hd (kk ls H locs hl hD)
    · cases hs
  · obtain rfl : len = 3 := of_decide_eq_true hlen
    simp only [e_st] at hs
    split at hs
    · next v hv =>
      cases hs
      obtain ⟨C1, h1, -, h2⟩ := e_kdS hv
      cases hC0.symm.trans h1
      exact lv_ldc2 hx hb hown (hts _ (h2 _ rfl) rfl) hd (kk ls H locs hl hD)
    · cases hs
  · obtain rfl : len = 3 := of_decide_eq_true hlen
    simp only [e_st] at hs
    split at hs
    · next hq =>
      cases hs
      obtain ⟨rfl, rfl⟩ := hq
      have hn : C0 = "java/lang/String" := Option.some.inj (hC0.symm.trans (by decide +kernel))
      subst hn
      exact va_gets hx hb hC.2.2.2.1 hD.2.2.2 hown (hts _ e_lkCS rfl) (fun _ z => z) hd (kk ls H locs hl hD)
    · split at hs
      · next hq =>
        cases hs
        obtain ⟨rfl, rfl⟩ := hq
        have hn : C0 = "java/lang/String" := Option.some.inj (hC0.symm.trans (by decide +kernel))
        subst hn
        exact va_gets hx hb hC.2.2.2.2.1 hD.2.2.2 hown (hts _ e_lkSF rfl) (fun _ z => z) hd (kk ls H locs hl hD)
      · cases hs
end STC

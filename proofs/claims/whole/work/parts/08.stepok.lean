section STP
variable {p : Program} {l : Launch} {e : Env} {R : Room} {s : State} {m : MethodId} {args : Array Value} {below : List Frame} {meth : Method} {c : Code} {Q : State → Prop}
variable {cc : ByteArray} {nL own b0 : Nat} {K : Nat → Value} {aC : FieldType → ClassId} {D : va_G} {X : Nat × (Nat → Int32)} {n0 k0 : Nat}
variable {ini : Bool} {pc len pc' : Nat} {i : Instr} {lv st lv' st' : List Value} {h h' : e_H} {ls : Array Slot} {H : Heap} {locs : List Loc}
/-- reading a cell: the row's own words -/
theorem e_read (hD : e_D b0 K aC D s.heap h H locs) {k : Nat} (hk : h.1 k ≠ e_dm) : va_P D e_cls [(b0 + k, e_ce b0 K aC (h.1 k))] H :=
  hD.2.1.sub [k] (by simp [e_ws_at (hD.lt hk)])
theorem e_Ktys (hK : e_Kx aC D s) {ty : FieldType} (ht : e_okT ty = true) : va_K D e_cls [(aC ty, ty)] s := by
  refine ⟨hK.1.1, fun k q hq => ?_⟩
  have hz : k < 1 := (List.getElem?_eq_some_iff.mp hq).1
  rw [show k = 0 by omega] at hq
  cases hq
  exact ⟨(hK.2 ty ht).1, (hK.2 ty ht).2.1⟩
theorem e_Hsize {H1 : Heap} {b0 n : Nat} {K : Nat → Value} {aC : FieldType → ClassId} {D : va_G} {h : e_H} : True := trivial
set_option maxHeartbeats 4000000 in
theorem e_st_load (Z : e_X p s m args c cc nL own b0 K aC D X n0) (hd : decode cc pc = .ok (i, len)) (hlen : e_lok (i, len) = true)
    (hi : ∃ k : Nat, i = .iload k ∨ i = .lload k ∨ i = .aload k ∨ (∃ f : Fin 4, (i = .iload_n f ∨ i = .lload_n f ∨ i = .aload_n f)))
    (hs : e_st X own ini pc i lv st h = some (pc', lv', st', h')) (hl : e_lr b0 K ls nL lv) (hD : e_D b0 K aC D s.heap h H locs)
    (kk : ∀ ls' H' locs', e_lr b0 K ls' nL lv' → e_D b0 K aC D s.heap h' H' locs' → W p l e R s m args below meth c H' locs' (h'.2.1 - n0) (h'.2.2 - k0) Q (F0 m pc' ls' (st'.map (e_rl b0 K)))) :
    W p l e R s m args below meth c H locs (h.2.1 - n0) (h.2.2 - k0) Q (F0 m pc ls (st.map (e_rl b0 K))) := by
  obtain ⟨⟨hx, hb, hml⟩, ⟨C0, hC0, hown⟩, hts, hK, hC, hsz⟩ := Z
  obtain ⟨k, rfl | rfl | rfl | ⟨f, rfl | rfl | rfl⟩⟩ := hi
  · obtain rfl : len = 2 := of_decide_eq_true hlen
    obtain ⟨x, hx1, ho⟩ := e_ldi_inv hs
    cases ho
    exact lv_iload hx hb hd (hl.at (e_cn_int hx1)) (kk ls H locs hl hD)
  · obtain rfl : len = 2 := of_decide_eq_true hlen
    obtain ⟨x, y, hx1, hx2, ho⟩ := e_ldl_inv hs
    cases ho
    exact lv_lload hx hb hd (hl.at (e_cn_long hx1 hx2)) (kk ls H locs hl hD)
  · obtain rfl : len = 2 := of_decide_eq_true hlen
    rcases e_lda_inv hs with ⟨x, hx1, ho⟩ | ⟨x, hx1, hx2, ho⟩
    · cases ho
      exact lv_aload hx hb hd (hl.at (e_cn_ref hx1)) (kk ls H locs hl hD)
    · cases ho
      obtain ⟨a, ha⟩ := hC.2.1 x hx2
      have kk := kk ls H locs hl hD
      simp only [List.map_cons, e_rl, ha] at kk
      exact lv_aload hx hb hd (hl.at (by rw [e_cn_ra hx1, ha])) kk
  · obtain rfl : len = 1 := of_decide_eq_true hlen
    obtain ⟨x, hx1, ho⟩ := e_ldi_inv hs
    cases ho
    exact lv_iload_n hx hb hd rfl (hl.at (e_cn_int hx1)) (kk ls H locs hl hD)
  · obtain rfl : len = 1 := of_decide_eq_true hlen
    obtain ⟨x, y, hx1, hx2, ho⟩ := e_ldl_inv hs
    cases ho
    exact lv_lload_n hx hb hd rfl (hl.at (e_cn_long hx1 hx2)) (kk ls H locs hl hD)
  · obtain rfl : len = 1 := of_decide_eq_true hlen
    rcases e_lda_inv hs with ⟨x, hx1, ho⟩ | ⟨x, hx1, hx2, ho⟩
    · cases ho
      exact lv_aload_n hx hb hd rfl (hl.at (e_cn_ref hx1)) (kk ls H locs hl hD)
    · cases ho
      obtain ⟨a, ha⟩ := hC.2.1 x hx2
      have kk := kk ls H locs hl hD
      simp only [List.map_cons, e_rl, ha] at kk
      exact lv_aload_n hx hb hd rfl (hl.at (by rw [e_cn_ra hx1, ha])) kk
set_option maxHeartbeats 4000000 in
theorem e_st_store (Z : e_X p s m args c cc nL own b0 K aC D X n0) (hd : decode cc pc = .ok (i, len)) (hlen : e_lok (i, len) = true)
    (hi : ∃ k : Nat, i = .istore k ∨ i = .lstore k ∨ i = .astore k ∨ (∃ f : Fin 4, (i = .istore_n f ∨ i = .lstore_n f ∨ i = .astore_n f)) ∨ ∃ n : Int, i = .iinc k n)
    (hs : e_st X own ini pc i lv st h = some (pc', lv', st', h')) (hl : e_lr b0 K ls nL lv) (hD : e_D b0 K aC D s.heap h H locs)
    (kk : ∀ ls' H' locs', e_lr b0 K ls' nL lv' → e_D b0 K aC D s.heap h' H' locs' → W p l e R s m args below meth c H' locs' (h'.2.1 - n0) (h'.2.2 - k0) Q (F0 m pc' ls' (st'.map (e_rl b0 K)))) :
    W p l e R s m args below meth c H locs (h.2.1 - n0) (h.2.2 - k0) Q (F0 m pc ls (st.map (e_rl b0 K))) := by
  obtain ⟨⟨hx, hb, hml⟩, ⟨C0, hC0, hown⟩, hts, hK, hC, hsz⟩ := Z
  obtain ⟨k, rfl | rfl | rfl | ⟨f, rfl | rfl | rfl⟩ | ⟨n, rfl⟩⟩ := hi
  · obtain rfl : len = 2 := of_decide_eq_true hlen
    obtain ⟨x, r, rfl, hi, ho⟩ := e_sti_inv hs
    cases ho
    exact lv_istore hx hb hd hl.2 (by rw [← hl.1]; exact hi) rfl (fun ls' h' => kk ls' H locs (hl.sto hC.1 (v := .int x) rfl (fun _ q => by cases q) (fun _ q => by cases q) h') hD)
  · obtain rfl : len = 2 := of_decide_eq_true hlen
    obtain ⟨x, r, rfl, hi, ho⟩ := e_stll_inv hs
    cases ho
    exact lv_lstore hx hb hd hl.2 (by rw [← hl.1]; exact hi) rfl (fun ls' h' => kk ls' H locs (hl.stl hC.1 h') hD)
  · obtain rfl : len = 2 := of_decide_eq_true hlen
    obtain ⟨x, r, rfl, hi, ho⟩ := e_sta_inv hs
    cases ho
    exact lv_astore hx hb hd hl.2 (by rw [← hl.1]; exact hi) rfl (fun ls' h' => kk ls' H locs (hl.sto hC.1 (v := .ref x) rfl (fun _ q => by cases q) (fun _ q => by cases q) h') hD)
  · obtain rfl : len = 1 := of_decide_eq_true hlen
    obtain ⟨x, r, rfl, hi, ho⟩ := e_sti_inv hs
    cases ho
    exact lv_istore_n hx hb hd rfl hl.2 (by rw [← hl.1]; exact hi) rfl (fun ls' h' => kk ls' H locs (hl.sto hC.1 (v := .int x) rfl (fun _ q => by cases q) (fun _ q => by cases q) h') hD)
  · obtain rfl : len = 1 := of_decide_eq_true hlen
    obtain ⟨x, r, rfl, hi, ho⟩ := e_stll_inv hs
    cases ho
    exact lv_lstore_n hx hb hd rfl hl.2 (by rw [← hl.1]; exact hi) rfl (fun ls' h' => kk ls' H locs (hl.stl hC.1 h') hD)
  · obtain rfl : len = 1 := of_decide_eq_true hlen
    obtain ⟨x, r, rfl, hi, ho⟩ := e_sta_inv hs
    cases ho
    exact lv_astore_n hx hb hd rfl hl.2 (by rw [← hl.1]; exact hi) rfl (fun ls' h' => kk ls' H locs (hl.sto hC.1 (v := .ref x) rfl (fun _ q => by cases q) (fun _ q => by cases q) h') hD)
  · obtain rfl : len = 3 := of_decide_eq_true hlen
    simp only [e_st] at hs
    split at hs
    · next x hx1 =>
      cases hs
      have hi : k < lv.length := (List.getElem?_eq_some_iff.mp hx1).1
      obtain ⟨j, hj⟩ := List.getElem?_of_mem (e_la_mem (b0 := b0) (K := K) (q := (k, .int x)) |>.mpr (e_cn_int hx1))
      exact lv_iinc hx hb hd hl.2 hj rfl (by rw [← hl.1]; exact hi) rfl (fun ls' h' => kk ls' H locs (hl.sto hC.1 (v := .int (x + Int32.ofInt n)) rfl (fun _ q => by cases q) (fun _ q => by cases q) h') hD)
    · cases hs
set_option maxHeartbeats 8000000 in
theorem e_st_plain (Z : e_X p s m args c cc nL own b0 K aC D X n0) (hd : decode cc pc = .ok (i, len)) (hlen : e_lok (i, len) = true)
    (hi : (∃ n : Int, i = .iconst n ∨ i = .bipush n ∨ i = .sipush n) ∨ (∃ f : Fin 2, i = .lconst f) ∨ i = .iadd ∨ i = .isub ∨ i = .imul ∨ i = .iand ∨ i = .ior ∨ i = .ixor ∨ i = .ishl ∨ i = .ishr ∨ i = .iushr ∨ i = .idiv ∨ i = .irem ∨ i = .ineg ∨ i = .i2l ∨ i = .i2b ∨ i = .i2s ∨ i = .i2c ∨ i = .ladd ∨ i = .lsub ∨ i = .lmul ∨ i = .land ∨ i = .lor ∨ i = .lcmp ∨ i = .ldiv ∨ i = .lrem ∨ i = .lshl ∨ i = .lshr ∨ i = .l2i)
    (hs : e_st X own ini pc i lv st h = some (pc', lv', st', h')) (hl : e_lr b0 K ls nL lv) (hD : e_D b0 K aC D s.heap h H locs)
    (kk : ∀ ls' H' locs', e_lr b0 K ls' nL lv' → e_D b0 K aC D s.heap h' H' locs' → W p l e R s m args below meth c H' locs' (h'.2.1 - n0) (h'.2.2 - k0) Q (F0 m pc' ls' (st'.map (e_rl b0 K)))) :
    W p l e R s m args below meth c H locs (h.2.1 - n0) (h.2.2 - k0) Q (F0 m pc ls (st.map (e_rl b0 K))) := by
  obtain ⟨⟨hx, hb, hml⟩, ⟨C0, hC0, hown⟩, hts, hK, hC, hsz⟩ := Z
  rcases hi with ⟨n, rfl | rfl | rfl⟩ | ⟨f, rfl⟩ | rfl | rfl | rfl | rfl | rfl | rfl | rfl | rfl | rfl | rfl | rfl | rfl | rfl | rfl | rfl | rfl | rfl | rfl | rfl | rfl | rfl | rfl | rfl | rfl | rfl | rfl | rfl
  · obtain rfl : len = 1 := of_decide_eq_true hlen
    cases (Option.some.inj hs)
    exact lv_iconst hx hb hd rfl (kk ls H locs hl hD)
  · obtain rfl : len = 2 := of_decide_eq_true hlen
    cases (Option.some.inj hs)
    exact lv_bipush hx hb hd rfl (kk ls H locs hl hD)
  · obtain rfl : len = 3 := of_decide_eq_true hlen
    cases (Option.some.inj hs)
    exact lv_sipush hx hb hd rfl (kk ls H locs hl hD)
  · obtain rfl : len = 1 := of_decide_eq_true hlen
    cases (Option.some.inj hs)
    exact lv_lconst hx hb hd rfl (kk ls H locs hl hD)
  · obtain rfl : len = 1 := of_decide_eq_true hlen
    obtain ⟨x, y, r, rfl, ho⟩ := e_ii_inv hs
    cases ho
    exact lv_iadd hx hb hd (kk ls H locs hl hD)
  · obtain rfl : len = 1 := of_decide_eq_true hlen
    obtain ⟨x, y, r, rfl, ho⟩ := e_ii_inv hs
    cases ho
    exact lv_isub hx hb hd (kk ls H locs hl hD)
  · obtain rfl : len = 1 := of_decide_eq_true hlen
    obtain ⟨x, y, r, rfl, ho⟩ := e_ii_inv hs
    cases ho
    exact lv_imul hx hb hd (kk ls H locs hl hD)
  · obtain rfl : len = 1 := of_decide_eq_true hlen
    obtain ⟨x, y, r, rfl, ho⟩ := e_ii_inv hs
    cases ho
    exact lv_iand hx hb hd (kk ls H locs hl hD)
  · obtain rfl : len = 1 := of_decide_eq_true hlen
    obtain ⟨x, y, r, rfl, ho⟩ := e_ii_inv hs
    cases ho
    exact lv_ior hx hb hd (kk ls H locs hl hD)
  · obtain rfl : len = 1 := of_decide_eq_true hlen
    obtain ⟨x, y, r, rfl, ho⟩ := e_ii_inv hs
    cases ho
    exact lv_ixor hx hb hd (kk ls H locs hl hD)
  · obtain rfl : len = 1 := of_decide_eq_true hlen
    obtain ⟨x, y, r, rfl, ho⟩ := e_ii_inv hs
    cases ho
    exact lv_ishl hx hb hd (kk ls H locs hl hD)
  · obtain rfl : len = 1 := of_decide_eq_true hlen
    obtain ⟨x, y, r, rfl, ho⟩ := e_ii_inv hs
    cases ho
    exact lv_ishr hx hb hd (kk ls H locs hl hD)
  · obtain rfl : len = 1 := of_decide_eq_true hlen
    obtain ⟨x, y, r, rfl, ho⟩ := e_ii_inv hs
    cases ho
    exact lv_iushr hx hb hd rfl (kk ls H locs hl hD)
  · obtain rfl : len = 1 := of_decide_eq_true hlen
    obtain ⟨x, y, r, rfl, hy, ho⟩ := e_iz_inv hs
    cases ho
    exact lv_idiv hx hb hd hy (kk ls H locs hl hD)
  · obtain rfl : len = 1 := of_decide_eq_true hlen
    obtain ⟨x, y, r, rfl, hy, ho⟩ := e_iz_inv hs
    cases ho
    exact lv_irem hx hb hd hy (kk ls H locs hl hD)
  · obtain rfl : len = 1 := of_decide_eq_true hlen
    obtain ⟨x, r, rfl, ho⟩ := e_i1_inv hs
    cases ho
    exact lv_ineg hx hb hd (kk ls H locs hl hD)
  · obtain rfl : len = 1 := of_decide_eq_true hlen
    obtain ⟨x, r, rfl, ho⟩ := e_i1_inv hs
    cases ho
    exact lv_i2l hx hb hd rfl (kk ls H locs hl hD)
  · obtain rfl : len = 1 := of_decide_eq_true hlen
    obtain ⟨x, r, rfl, ho⟩ := e_i1_inv hs
    cases ho
    exact lv_i2b hx hb hd rfl (kk ls H locs hl hD)
  · obtain rfl : len = 1 := of_decide_eq_true hlen
    obtain ⟨x, r, rfl, ho⟩ := e_i1_inv hs
    cases ho
    exact lv_i2s hx hb hd rfl (kk ls H locs hl hD)
  · obtain rfl : len = 1 := of_decide_eq_true hlen
    obtain ⟨x, r, rfl, ho⟩ := e_i1_inv hs
    cases ho
    exact lv_i2c hx hb hd rfl (kk ls H locs hl hD)
  · obtain rfl : len = 1 := of_decide_eq_true hlen
    obtain ⟨x, y, r, rfl, ho⟩ := e_ll_inv hs
    cases ho
    exact lv_ladd hx hb hd (kk ls H locs hl hD)
  · obtain rfl : len = 1 := of_decide_eq_true hlen
    obtain ⟨x, y, r, rfl, ho⟩ := e_ll_inv hs
    cases ho
    exact lv_lsub hx hb hd (kk ls H locs hl hD)
  · obtain rfl : len = 1 := of_decide_eq_true hlen
    obtain ⟨x, y, r, rfl, ho⟩ := e_ll_inv hs
    cases ho
    exact lv_lmul hx hb hd (kk ls H locs hl hD)
  · obtain rfl : len = 1 := of_decide_eq_true hlen
    obtain ⟨x, y, r, rfl, ho⟩ := e_ll_inv hs
    cases ho
    exact lv_land hx hb hd (kk ls H locs hl hD)
  · obtain rfl : len = 1 := of_decide_eq_true hlen
    obtain ⟨x, y, r, rfl, ho⟩ := e_ll_inv hs
    cases ho
    exact lv_lor hx hb hd (kk ls H locs hl hD)
  · obtain rfl : len = 1 := of_decide_eq_true hlen
    obtain ⟨x, y, r, rfl, ho⟩ := e_ll_inv hs
    cases ho
    exact W.lcmp hx hb hd (kk ls H locs hl hD)
  · obtain rfl : len = 1 := of_decide_eq_true hlen
    obtain ⟨x, y, r, rfl, hy, ho⟩ := e_lz_inv hs
    cases ho
    exact lv_ldiv hx hb hd hy (kk ls H locs hl hD)
  · obtain rfl : len = 1 := of_decide_eq_true hlen
    obtain ⟨x, y, r, rfl, hy, ho⟩ := e_lz_inv hs
    cases ho
    exact lv_lrem hx hb hd hy (kk ls H locs hl hD)
  · obtain rfl : len = 1 := of_decide_eq_true hlen
    obtain ⟨x, y, r, rfl, ho⟩ := e_ls_inv hs
    cases ho
    exact lv_lshl hx hb hd rfl (kk ls H locs hl hD)
  · obtain rfl : len = 1 := of_decide_eq_true hlen
    obtain ⟨x, y, r, rfl, ho⟩ := e_ls_inv hs
    cases ho
    exact lv_lshr hx hb hd rfl (kk ls H locs hl hD)
  · obtain rfl : len = 1 := of_decide_eq_true hlen
    simp only [e_st] at hs
    split at hs
    · cases hs
      exact lv_l2i hx hb hd rfl (kk ls H locs hl hD)
    · cases hs
end STP

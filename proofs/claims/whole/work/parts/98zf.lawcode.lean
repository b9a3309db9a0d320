/-! the law's code -/
section LAW
variable {X : Nat × (Nat → Int32)} {d N K n k c mi pc i : Nat} {f : Nat → e_C} {Q : t_Q} {lv st : List Value} {a1 a2 : Value}
theorem tt_sl0 (hc : e_cd mi pc = some (.aload_n 0, 1)) : TT X d mi pc (.retAddr 20 :: lv) st f n k Q = TT X d mi (pc + 1) (.retAddr 20 :: lv) (.retAddr 20 :: st) f n k Q := tt_st hc rfl rfl
theorem tt_sld (hc : e_cd mi pc = some (.iaload, 1)) (h : i < X.1) (h2 : X.1 ≤ 3072) : TT X d mi pc lv (.int (nI i) :: .retAddr 20 :: st) f n k Q = TT X d mi (pc + 1) lv (.int (X.2 i) :: st) f n k Q := by
  have e1 : (nI i).toNatClampNeg = i := nI_clamp (by omega)
  have e2 : e_in (nI i) X.1 = true := by
    unfold e_in
    rw [e1]
    exact decide_eq_true (by
      rintro (z | z)
      · exact nI_pos (by omega) z
      · omega)
  exact tt_st hc rfl (by simp only [e_st, e_iald, e1, e2, if_true])
theorem tt_sal (hc : e_cd mi pc = some (.arraylength, 1)) : TT X d mi pc lv (.retAddr 20 :: st) f n k Q = TT X d mi (pc + 1) lv (.int (nI X.1) :: st) f n k Q := tt_st hc rfl rfl
theorem nI_k (a : Nat) (m : Nat) : nI m + nI a = nI (m + a) := by rw [nI_add]
theorem and63 (v : Int32) : ∃ q, q < 64 ∧ v &&& 63 = nI q := by
  refine ⟨(v &&& 63).toBitVec.toNat, ?_, ?_⟩
  · rw [Int32.toBitVec_and, BitVec.toNat_and]
    exact Nat.and_lt_two_pow _ (n := 6) (by decide)
  · apply Int32.toBitVec_inj.mp
    show _ = (Int32.ofNat _).toBitVec
    simp
theorem lg_rf (z : Int64) : lg_cmp z z = 0 := by unfold lg_cmp; simp
theorem a999_229 (h : i + 1 < X.1) (h2 : X.1 ≤ 3072) : TT X d 999 229 [.retAddr 20, a1, a2, .int (nI i)] st f n k Q = TT X d 999 234 [.retAddr 20, a1, a2, .int (nI i)] (.int (X.2 (i + 1)) :: st) f n k Q := by
  rw [tt_sl0 (by decide +kernel), s999_230, s999_231, s999_232, show (1 : Int32) = nI 1 from rfl, nI_add, tt_sld (by decide +kernel) h h2]
theorem a999_234 (h : i + 2 < X.1) (h2 : X.1 ≤ 3072) : TT X d 999 234 [.retAddr 20, a1, a2, .int (nI i)] st f n k Q = TT X d 999 239 [.retAddr 20, a1, a2, .int (nI i)] (.int (X.2 (i + 2)) :: st) f n k Q := by
  rw [tt_sl0 (by decide +kernel), s999_235, s999_236, s999_237, show (2 : Int32) = nI 2 from rfl, nI_add, tt_sld (by decide +kernel) h h2]
theorem a999_239 (h : i + 3 < X.1) (h2 : X.1 ≤ 3072) : TT X d 999 239 [.retAddr 20, a1, a2, .int (nI i)] st f n k Q = TT X d 999 244 [.retAddr 20, a1, a2, .int (nI i)] (.int (X.2 (i + 3)) :: st) f n k Q := by
  rw [tt_sl0 (by decide +kernel), s999_240, s999_241, s999_242, show (3 : Int32) = nI 3 from rfl, nI_add, tt_sld (by decide +kernel) h h2]
theorem a999_244 (h : i + 4 < X.1) (h2 : X.1 ≤ 3072) : TT X d 999 244 [.retAddr 20, a1, a2, .int (nI i)] st f n k Q = TT X d 999 249 [.retAddr 20, a1, a2, .int (nI i)] (.int (X.2 (i + 4)) :: st) f n k Q := by
  rw [tt_sl0 (by decide +kernel), s999_245, s999_246, s999_247, show (4 : Int32) = nI 4 from rfl, nI_add, tt_sld (by decide +kernel) h h2]
theorem a999_249 (h : i + 5 < X.1) (h2 : X.1 ≤ 3072) : TT X d 999 249 [.retAddr 20, a1, a2, .int (nI i)] st f n k Q = TT X d 999 254 [.retAddr 20, a1, a2, .int (nI i)] (.int (X.2 (i + 5)) :: st) f n k Q := by
  rw [tt_sl0 (by decide +kernel), s999_250, s999_251, s999_252, show (5 : Int32) = nI 5 from rfl, nI_add, tt_sld (by decide +kernel) h h2]
theorem a999_258 (h : i + 1 < X.1) (h2 : X.1 ≤ 3072) : TT X d 999 258 [.retAddr 20, a1, a2, .int (nI i)] st f n k Q = TT X d 999 263 [.retAddr 20, a1, a2, .int (nI i)] (.int (X.2 (i + 1)) :: st) f n k Q := by
  rw [tt_sl0 (by decide +kernel), s999_259, s999_260, s999_261, show (1 : Int32) = nI 1 from rfl, nI_add, tt_sld (by decide +kernel) h h2]
theorem a999_263 (h : i + 2 < X.1) (h2 : X.1 ≤ 3072) : TT X d 999 263 [.retAddr 20, a1, a2, .int (nI i)] st f n k Q = TT X d 999 268 [.retAddr 20, a1, a2, .int (nI i)] (.int (X.2 (i + 2)) :: st) f n k Q := by
  rw [tt_sl0 (by decide +kernel), s999_264, s999_265, s999_266, show (2 : Int32) = nI 2 from rfl, nI_add, tt_sld (by decide +kernel) h h2]
theorem a999_268 (h : i + 3 < X.1) (h2 : X.1 ≤ 3072) : TT X d 999 268 [.retAddr 20, a1, a2, .int (nI i)] st f n k Q = TT X d 999 273 [.retAddr 20, a1, a2, .int (nI i)] (.int (X.2 (i + 3)) :: st) f n k Q := by
  rw [tt_sl0 (by decide +kernel), s999_269, s999_270, s999_271, show (3 : Int32) = nI 3 from rfl, nI_add, tt_sld (by decide +kernel) h h2]
theorem a999_273 (h : i + 4 < X.1) (h2 : X.1 ≤ 3072) : TT X d 999 273 [.retAddr 20, a1, a2, .int (nI i)] st f n k Q = TT X d 999 278 [.retAddr 20, a1, a2, .int (nI i)] (.int (X.2 (i + 4)) :: st) f n k Q := by
  rw [tt_sl0 (by decide +kernel), s999_274, s999_275, s999_276, show (4 : Int32) = nI 4 from rfl, nI_add, tt_sld (by decide +kernel) h h2]
theorem a999_278 (h : i + 5 < X.1) (h2 : X.1 ≤ 3072) : TT X d 999 278 [.retAddr 20, a1, a2, .int (nI i)] st f n k Q = TT X d 999 283 [.retAddr 20, a1, a2, .int (nI i)] (.int (X.2 (i + 5)) :: st) f n k Q := by
  rw [tt_sl0 (by decide +kernel), s999_279, s999_280, s999_281, show (5 : Int32) = nI 5 from rfl, nI_add, tt_sld (by decide +kernel) h h2]
theorem a999_292 (h : i + 1 < X.1) (h2 : X.1 ≤ 3072) : TT X d 999 292 [.retAddr 20, a1, a2, .int (nI i)] st f n k Q = TT X d 999 297 [.retAddr 20, a1, a2, .int (nI i)] (.int (X.2 (i + 1)) :: st) f n k Q := by
  rw [tt_sl0 (by decide +kernel), s999_293, s999_294, s999_295, show (1 : Int32) = nI 1 from rfl, nI_add, tt_sld (by decide +kernel) h h2]
theorem a999_301 (h : i + 1 < X.1) (h2 : X.1 ≤ 3072) : TT X d 999 301 [.retAddr 20, a1, a2, .int (nI i)] st f n k Q = TT X d 999 306 [.retAddr 20, a1, a2, .int (nI i)] (.int (X.2 (i + 1)) :: st) f n k Q := by
  rw [tt_sl0 (by decide +kernel), s999_302, s999_303, s999_304, show (1 : Int32) = nI 1 from rfl, nI_add, tt_sld (by decide +kernel) h h2]
theorem a999_315 (h : i + 1 < X.1) (h2 : X.1 ≤ 3072) : TT X d 999 315 [.retAddr 20, a1, a2, .int (nI i)] st f n k Q = TT X d 999 320 [.retAddr 20, a1, a2, .int (nI i)] (.int (X.2 (i + 1)) :: st) f n k Q := by
  rw [tt_sl0 (by decide +kernel), s999_316, s999_317, s999_318, show (1 : Int32) = nI 1 from rfl, nI_add, tt_sld (by decide +kernel) h h2]
theorem a999_324 (h : i + 1 < X.1) (h2 : X.1 ≤ 3072) : TT X d 999 324 [.retAddr 20, a1, a2, .int (nI i)] st f n k Q = TT X d 999 329 [.retAddr 20, a1, a2, .int (nI i)] (.int (X.2 (i + 1)) :: st) f n k Q := by
  rw [tt_sl0 (by decide +kernel), s999_325, s999_326, s999_327, show (1 : Int32) = nI 1 from rfl, nI_add, tt_sld (by decide +kernel) h h2]
theorem a999_338 (h : i + 1 < X.1) (h2 : X.1 ≤ 3072) : TT X d 999 338 [.retAddr 20, a1, a2, .int (nI i)] st f n k Q = TT X d 999 343 [.retAddr 20, a1, a2, .int (nI i)] (.int (X.2 (i + 1)) :: st) f n k Q := by
  rw [tt_sl0 (by decide +kernel), s999_339, s999_340, s999_341, show (1 : Int32) = nI 1 from rfl, nI_add, tt_sld (by decide +kernel) h h2]
theorem a999_343 (h : i + 2 < X.1) (h2 : X.1 ≤ 3072) : TT X d 999 343 [.retAddr 20, a1, a2, .int (nI i)] st f n k Q = TT X d 999 348 [.retAddr 20, a1, a2, .int (nI i)] (.int (X.2 (i + 2)) :: st) f n k Q := by
  rw [tt_sl0 (by decide +kernel), s999_344, s999_345, s999_346, show (2 : Int32) = nI 2 from rfl, nI_add, tt_sld (by decide +kernel) h h2]
theorem a999_352 (h : i + 1 < X.1) (h2 : X.1 ≤ 3072) : TT X d 999 352 [.retAddr 20, a1, a2, .int (nI i)] st f n k Q = TT X d 999 357 [.retAddr 20, a1, a2, .int (nI i)] (.int (X.2 (i + 1)) :: st) f n k Q := by
  rw [tt_sl0 (by decide +kernel), s999_353, s999_354, s999_355, show (1 : Int32) = nI 1 from rfl, nI_add, tt_sld (by decide +kernel) h h2]
theorem a999_357 (h : i + 2 < X.1) (h2 : X.1 ≤ 3072) : TT X d 999 357 [.retAddr 20, a1, a2, .int (nI i)] st f n k Q = TT X d 999 362 [.retAddr 20, a1, a2, .int (nI i)] (.int (X.2 (i + 2)) :: st) f n k Q := by
  rw [tt_sl0 (by decide +kernel), s999_358, s999_359, s999_360, show (2 : Int32) = nI 2 from rfl, nI_add, tt_sld (by decide +kernel) h h2]
theorem a999_371 (h : i + 1 < X.1) (h2 : X.1 ≤ 3072) : TT X d 999 371 [.retAddr 20, a1, a2, .int (nI i)] st f n k Q = TT X d 999 376 [.retAddr 20, a1, a2, .int (nI i)] (.int (X.2 (i + 1)) :: st) f n k Q := by
  rw [tt_sl0 (by decide +kernel), s999_372, s999_373, s999_374, show (1 : Int32) = nI 1 from rfl, nI_add, tt_sld (by decide +kernel) h h2]
theorem a999_376 (h : i + 2 < X.1) (h2 : X.1 ≤ 3072) : TT X d 999 376 [.retAddr 20, a1, a2, .int (nI i)] st f n k Q = TT X d 999 381 [.retAddr 20, a1, a2, .int (nI i)] (.int (X.2 (i + 2)) :: st) f n k Q := by
  rw [tt_sl0 (by decide +kernel), s999_377, s999_378, s999_379, show (2 : Int32) = nI 2 from rfl, nI_add, tt_sld (by decide +kernel) h h2]
theorem a999_385 (h : i + 1 < X.1) (h2 : X.1 ≤ 3072) : TT X d 999 385 [.retAddr 20, a1, a2, .int (nI i)] st f n k Q = TT X d 999 390 [.retAddr 20, a1, a2, .int (nI i)] (.int (X.2 (i + 1)) :: st) f n k Q := by
  rw [tt_sl0 (by decide +kernel), s999_386, s999_387, s999_388, show (1 : Int32) = nI 1 from rfl, nI_add, tt_sld (by decide +kernel) h h2]
theorem a999_390 (h : i + 2 < X.1) (h2 : X.1 ≤ 3072) : TT X d 999 390 [.retAddr 20, a1, a2, .int (nI i)] st f n k Q = TT X d 999 395 [.retAddr 20, a1, a2, .int (nI i)] (.int (X.2 (i + 2)) :: st) f n k Q := by
  rw [tt_sl0 (by decide +kernel), s999_391, s999_392, s999_393, show (2 : Int32) = nI 2 from rfl, nI_add, tt_sld (by decide +kernel) h h2]
theorem a999_417 (h : i + 1 < X.1) (h2 : X.1 ≤ 3072) : TT X d 999 417 [.retAddr 20, a1, a2, .int (nI i)] st f n k Q = TT X d 999 422 [.retAddr 20, a1, a2, .int (nI i)] (.int (X.2 (i + 1)) :: st) f n k Q := by
  rw [tt_sl0 (by decide +kernel), s999_418, s999_419, s999_420, show (1 : Int32) = nI 1 from rfl, nI_add, tt_sld (by decide +kernel) h h2]
theorem a999_426 (h : i + 1 < X.1) (h2 : X.1 ≤ 3072) : TT X d 999 426 [.retAddr 20, a1, a2, .int (nI i)] st f n k Q = TT X d 999 431 [.retAddr 20, a1, a2, .int (nI i)] (.int (X.2 (i + 1)) :: st) f n k Q := by
  rw [tt_sl0 (by decide +kernel), s999_427, s999_428, s999_429, show (1 : Int32) = nI 1 from rfl, nI_add, tt_sld (by decide +kernel) h h2]
theorem a999_453 (h : i + 1 < X.1) (h2 : X.1 ≤ 3072) : TT X d 999 453 [.retAddr 20, a1, a2, .int (nI i)] st f n k Q = TT X d 999 458 [.retAddr 20, a1, a2, .int (nI i)] (.int (X.2 (i + 1)) :: st) f n k Q := by
  rw [tt_sl0 (by decide +kernel), s999_454, s999_455, s999_456, show (1 : Int32) = nI 1 from rfl, nI_add, tt_sld (by decide +kernel) h h2]
theorem a999_462 (h : i + 1 < X.1) (h2 : X.1 ≤ 3072) : TT X d 999 462 [.retAddr 20, a1, a2, .int (nI i)] st f n k Q = TT X d 999 467 [.retAddr 20, a1, a2, .int (nI i)] (.int (X.2 (i + 1)) :: st) f n k Q := by
  rw [tt_sl0 (by decide +kernel), s999_463, s999_464, s999_465, show (1 : Int32) = nI 1 from rfl, nI_add, tt_sld (by decide +kernel) h h2]
theorem a999_476 (h : i + 1 < X.1) (h2 : X.1 ≤ 3072) : TT X d 999 476 [.retAddr 20, a1, a2, .int (nI i)] st f n k Q = TT X d 999 481 [.retAddr 20, a1, a2, .int (nI i)] (.int (X.2 (i + 1)) :: st) f n k Q := by
  rw [tt_sl0 (by decide +kernel), s999_477, s999_478, s999_479, show (1 : Int32) = nI 1 from rfl, nI_add, tt_sld (by decide +kernel) h h2]
theorem a999_481 (h : i + 2 < X.1) (h2 : X.1 ≤ 3072) : TT X d 999 481 [.retAddr 20, a1, a2, .int (nI i)] st f n k Q = TT X d 999 486 [.retAddr 20, a1, a2, .int (nI i)] (.int (X.2 (i + 2)) :: st) f n k Q := by
  rw [tt_sl0 (by decide +kernel), s999_482, s999_483, s999_484, show (2 : Int32) = nI 2 from rfl, nI_add, tt_sld (by decide +kernel) h h2]
theorem a999_490 (h : i + 1 < X.1) (h2 : X.1 ≤ 3072) : TT X d 999 490 [.retAddr 20, a1, a2, .int (nI i)] st f n k Q = TT X d 999 495 [.retAddr 20, a1, a2, .int (nI i)] (.int (X.2 (i + 1)) :: st) f n k Q := by
  rw [tt_sl0 (by decide +kernel), s999_491, s999_492, s999_493, show (1 : Int32) = nI 1 from rfl, nI_add, tt_sld (by decide +kernel) h h2]
theorem a999_495 (h : i + 2 < X.1) (h2 : X.1 ≤ 3072) : TT X d 999 495 [.retAddr 20, a1, a2, .int (nI i)] st f n k Q = TT X d 999 500 [.retAddr 20, a1, a2, .int (nI i)] (.int (X.2 (i + 2)) :: st) f n k Q := by
  rw [tt_sl0 (by decide +kernel), s999_496, s999_497, s999_498, show (2 : Int32) = nI 2 from rfl, nI_add, tt_sld (by decide +kernel) h h2]
theorem a999_509 (h : i + 1 < X.1) (h2 : X.1 ≤ 3072) : TT X d 999 509 [.retAddr 20, a1, a2, .int (nI i)] st f n k Q = TT X d 999 514 [.retAddr 20, a1, a2, .int (nI i)] (.int (X.2 (i + 1)) :: st) f n k Q := by
  rw [tt_sl0 (by decide +kernel), s999_510, s999_511, s999_512, show (1 : Int32) = nI 1 from rfl, nI_add, tt_sld (by decide +kernel) h h2]
theorem a999_514 (h : i + 2 < X.1) (h2 : X.1 ≤ 3072) : TT X d 999 514 [.retAddr 20, a1, a2, .int (nI i)] st f n k Q = TT X d 999 519 [.retAddr 20, a1, a2, .int (nI i)] (.int (X.2 (i + 2)) :: st) f n k Q := by
  rw [tt_sl0 (by decide +kernel), s999_515, s999_516, s999_517, show (2 : Int32) = nI 2 from rfl, nI_add, tt_sld (by decide +kernel) h h2]
theorem a999_523 (h : i + 1 < X.1) (h2 : X.1 ≤ 3072) : TT X d 999 523 [.retAddr 20, a1, a2, .int (nI i)] st f n k Q = TT X d 999 528 [.retAddr 20, a1, a2, .int (nI i)] (.int (X.2 (i + 1)) :: st) f n k Q := by
  rw [tt_sl0 (by decide +kernel), s999_524, s999_525, s999_526, show (1 : Int32) = nI 1 from rfl, nI_add, tt_sld (by decide +kernel) h h2]
theorem a999_528 (h : i + 2 < X.1) (h2 : X.1 ≤ 3072) : TT X d 999 528 [.retAddr 20, a1, a2, .int (nI i)] st f n k Q = TT X d 999 533 [.retAddr 20, a1, a2, .int (nI i)] (.int (X.2 (i + 2)) :: st) f n k Q := by
  rw [tt_sl0 (by decide +kernel), s999_529, s999_530, s999_531, show (2 : Int32) = nI 2 from rfl, nI_add, tt_sld (by decide +kernel) h h2]
theorem a999_542 (h : i + 1 < X.1) (h2 : X.1 ≤ 3072) : TT X d 999 542 [.retAddr 20, a1, a2, .int (nI i)] st f n k Q = TT X d 999 547 [.retAddr 20, a1, a2, .int (nI i)] (.int (X.2 (i + 1)) :: st) f n k Q := by
  rw [tt_sl0 (by decide +kernel), s999_543, s999_544, s999_545, show (1 : Int32) = nI 1 from rfl, nI_add, tt_sld (by decide +kernel) h h2]
theorem a999_551 (h : i + 1 < X.1) (h2 : X.1 ≤ 3072) : TT X d 999 551 [.retAddr 20, a1, a2, .int (nI i)] st f n k Q = TT X d 999 556 [.retAddr 20, a1, a2, .int (nI i)] (.int (X.2 (i + 1)) :: st) f n k Q := by
  rw [tt_sl0 (by decide +kernel), s999_552, s999_553, s999_554, show (1 : Int32) = nI 1 from rfl, nI_add, tt_sld (by decide +kernel) h h2]
theorem a999_565 (h : i + 1 < X.1) (h2 : X.1 ≤ 3072) : TT X d 999 565 [.retAddr 20, a1, a2, .int (nI i)] st f n k Q = TT X d 999 570 [.retAddr 20, a1, a2, .int (nI i)] (.int (X.2 (i + 1)) :: st) f n k Q := by
  rw [tt_sl0 (by decide +kernel), s999_566, s999_567, s999_568, show (1 : Int32) = nI 1 from rfl, nI_add, tt_sld (by decide +kernel) h h2]
theorem a999_574 (h : i + 1 < X.1) (h2 : X.1 ≤ 3072) : TT X d 999 574 [.retAddr 20, a1, a2, .int (nI i)] st f n k Q = TT X d 999 579 [.retAddr 20, a1, a2, .int (nI i)] (.int (X.2 (i + 1)) :: st) f n k Q := by
  rw [tt_sl0 (by decide +kernel), s999_575, s999_576, s999_577, show (1 : Int32) = nI 1 from rfl, nI_add, tt_sld (by decide +kernel) h h2]
theorem a999_588 (h : i + 1 < X.1) (h2 : X.1 ≤ 3072) : TT X d 999 588 [.retAddr 20, a1, a2, .int (nI i)] st f n k Q = TT X d 999 593 [.retAddr 20, a1, a2, .int (nI i)] (.int (X.2 (i + 1)) :: st) f n k Q := by
  rw [tt_sl0 (by decide +kernel), s999_589, s999_590, s999_591, show (1 : Int32) = nI 1 from rfl, nI_add, tt_sld (by decide +kernel) h h2]
theorem a999_597 (h : i + 1 < X.1) (h2 : X.1 ≤ 3072) : TT X d 999 597 [.retAddr 20, a1, a2, .int (nI i)] st f n k Q = TT X d 999 602 [.retAddr 20, a1, a2, .int (nI i)] (.int (X.2 (i + 1)) :: st) f n k Q := by
  rw [tt_sl0 (by decide +kernel), s999_598, s999_599, s999_600, show (1 : Int32) = nI 1 from rfl, nI_add, tt_sld (by decide +kernel) h h2]
theorem a999_611 (h : i + 1 < X.1) (h2 : X.1 ≤ 3072) : TT X d 999 611 [.retAddr 20, a1, a2, .int (nI i)] st f n k Q = TT X d 999 616 [.retAddr 20, a1, a2, .int (nI i)] (.int (X.2 (i + 1)) :: st) f n k Q := by
  rw [tt_sl0 (by decide +kernel), s999_612, s999_613, s999_614, show (1 : Int32) = nI 1 from rfl, nI_add, tt_sld (by decide +kernel) h h2]
theorem a999_616 (h : i + 2 < X.1) (h2 : X.1 ≤ 3072) : TT X d 999 616 [.retAddr 20, a1, a2, .int (nI i)] st f n k Q = TT X d 999 621 [.retAddr 20, a1, a2, .int (nI i)] (.int (X.2 (i + 2)) :: st) f n k Q := by
  rw [tt_sl0 (by decide +kernel), s999_617, s999_618, s999_619, show (2 : Int32) = nI 2 from rfl, nI_add, tt_sld (by decide +kernel) h h2]
theorem a999_625 (h : i + 1 < X.1) (h2 : X.1 ≤ 3072) : TT X d 999 625 [.retAddr 20, a1, a2, .int (nI i)] st f n k Q = TT X d 999 630 [.retAddr 20, a1, a2, .int (nI i)] (.int (X.2 (i + 1)) :: st) f n k Q := by
  rw [tt_sl0 (by decide +kernel), s999_626, s999_627, s999_628, show (1 : Int32) = nI 1 from rfl, nI_add, tt_sld (by decide +kernel) h h2]
theorem a999_630 (h : i + 2 < X.1) (h2 : X.1 ≤ 3072) : TT X d 999 630 [.retAddr 20, a1, a2, .int (nI i)] st f n k Q = TT X d 999 635 [.retAddr 20, a1, a2, .int (nI i)] (.int (X.2 (i + 2)) :: st) f n k Q := by
  rw [tt_sl0 (by decide +kernel), s999_631, s999_632, s999_633, show (2 : Int32) = nI 2 from rfl, nI_add, tt_sld (by decide +kernel) h h2]
theorem a999_644 (h : i + 1 < X.1) (h2 : X.1 ≤ 3072) : TT X d 999 644 [.retAddr 20, a1, a2, .int (nI i)] st f n k Q = TT X d 999 649 [.retAddr 20, a1, a2, .int (nI i)] (.int (X.2 (i + 1)) :: st) f n k Q := by
  rw [tt_sl0 (by decide +kernel), s999_645, s999_646, s999_647, show (1 : Int32) = nI 1 from rfl, nI_add, tt_sld (by decide +kernel) h h2]
theorem a999_653 (h : i + 1 < X.1) (h2 : X.1 ≤ 3072) : TT X d 999 653 [.retAddr 20, a1, a2, .int (nI i)] st f n k Q = TT X d 999 658 [.retAddr 20, a1, a2, .int (nI i)] (.int (X.2 (i + 1)) :: st) f n k Q := by
  rw [tt_sl0 (by decide +kernel), s999_654, s999_655, s999_656, show (1 : Int32) = nI 1 from rfl, nI_add, tt_sld (by decide +kernel) h h2]
theorem a999_667 (h : i + 1 < X.1) (h2 : X.1 ≤ 3072) : TT X d 999 667 [.retAddr 20, a1, a2, .int (nI i)] st f n k Q = TT X d 999 672 [.retAddr 20, a1, a2, .int (nI i)] (.int (X.2 (i + 1)) :: st) f n k Q := by
  rw [tt_sl0 (by decide +kernel), s999_668, s999_669, s999_670, show (1 : Int32) = nI 1 from rfl, nI_add, tt_sld (by decide +kernel) h h2]
theorem a999_672 (h : i + 2 < X.1) (h2 : X.1 ≤ 3072) : TT X d 999 672 [.retAddr 20, a1, a2, .int (nI i)] st f n k Q = TT X d 999 677 [.retAddr 20, a1, a2, .int (nI i)] (.int (X.2 (i + 2)) :: st) f n k Q := by
  rw [tt_sl0 (by decide +kernel), s999_673, s999_674, s999_675, show (2 : Int32) = nI 2 from rfl, nI_add, tt_sld (by decide +kernel) h h2]
theorem a999_681 (h : i + 1 < X.1) (h2 : X.1 ≤ 3072) : TT X d 999 681 [.retAddr 20, a1, a2, .int (nI i)] st f n k Q = TT X d 999 686 [.retAddr 20, a1, a2, .int (nI i)] (.int (X.2 (i + 1)) :: st) f n k Q := by
  rw [tt_sl0 (by decide +kernel), s999_682, s999_683, s999_684, show (1 : Int32) = nI 1 from rfl, nI_add, tt_sld (by decide +kernel) h h2]
theorem a999_686 (h : i + 2 < X.1) (h2 : X.1 ≤ 3072) : TT X d 999 686 [.retAddr 20, a1, a2, .int (nI i)] st f n k Q = TT X d 999 691 [.retAddr 20, a1, a2, .int (nI i)] (.int (X.2 (i + 2)) :: st) f n k Q := by
  rw [tt_sl0 (by decide +kernel), s999_687, s999_688, s999_689, show (2 : Int32) = nI 2 from rfl, nI_add, tt_sld (by decide +kernel) h h2]
theorem a999_700 (h : i + 1 < X.1) (h2 : X.1 ≤ 3072) : TT X d 999 700 [.retAddr 20, a1, a2, .int (nI i)] st f n k Q = TT X d 999 705 [.retAddr 20, a1, a2, .int (nI i)] (.int (X.2 (i + 1)) :: st) f n k Q := by
  rw [tt_sl0 (by decide +kernel), s999_701, s999_702, s999_703, show (1 : Int32) = nI 1 from rfl, nI_add, tt_sld (by decide +kernel) h h2]
theorem a999_709 (h : i + 1 < X.1) (h2 : X.1 ≤ 3072) : TT X d 999 709 [.retAddr 20, a1, a2, .int (nI i)] st f n k Q = TT X d 999 714 [.retAddr 20, a1, a2, .int (nI i)] (.int (X.2 (i + 1)) :: st) f n k Q := by
  rw [tt_sl0 (by decide +kernel), s999_710, s999_711, s999_712, show (1 : Int32) = nI 1 from rfl, nI_add, tt_sld (by decide +kernel) h h2]
theorem a999_723 (h : i + 1 < X.1) (h2 : X.1 ≤ 3072) : TT X d 999 723 [.retAddr 20, a1, a2, .int (nI i)] st f n k Q = TT X d 999 728 [.retAddr 20, a1, a2, .int (nI i)] (.int (X.2 (i + 1)) :: st) f n k Q := by
  rw [tt_sl0 (by decide +kernel), s999_724, s999_725, s999_726, show (1 : Int32) = nI 1 from rfl, nI_add, tt_sld (by decide +kernel) h h2]
theorem a999_732 (h : i + 1 < X.1) (h2 : X.1 ≤ 3072) : TT X d 999 732 [.retAddr 20, a1, a2, .int (nI i)] st f n k Q = TT X d 999 737 [.retAddr 20, a1, a2, .int (nI i)] (.int (X.2 (i + 1)) :: st) f n k Q := by
  rw [tt_sl0 (by decide +kernel), s999_733, s999_734, s999_735, show (1 : Int32) = nI 1 from rfl, nI_add, tt_sld (by decide +kernel) h h2]
theorem a999_772 (h : i + 1 < X.1) (h2 : X.1 ≤ 3072) : TT X d 999 772 [.retAddr 20, a1, a2, .int (nI i)] st f n k Q = TT X d 999 777 [.retAddr 20, a1, a2, .int (nI i)] (.int (X.2 (i + 1)) :: st) f n k Q := by
  rw [tt_sl0 (by decide +kernel), s999_773, s999_774, s999_775, show (1 : Int32) = nI 1 from rfl, nI_add, tt_sld (by decide +kernel) h h2]
theorem a999_781 (h : i + 1 < X.1) (h2 : X.1 ≤ 3072) : TT X d 999 781 [.retAddr 20, a1, a2, .int (nI i)] st f n k Q = TT X d 999 786 [.retAddr 20, a1, a2, .int (nI i)] (.int (X.2 (i + 1)) :: st) f n k Q := by
  rw [tt_sl0 (by decide +kernel), s999_782, s999_783, s999_784, show (1 : Int32) = nI 1 from rfl, nI_add, tt_sld (by decide +kernel) h h2]
theorem a999_795 (h : i + 1 < X.1) (h2 : X.1 ≤ 3072) : TT X d 999 795 [.retAddr 20, a1, a2, .int (nI i)] st f n k Q = TT X d 999 800 [.retAddr 20, a1, a2, .int (nI i)] (.int (X.2 (i + 1)) :: st) f n k Q := by
  rw [tt_sl0 (by decide +kernel), s999_796, s999_797, s999_798, show (1 : Int32) = nI 1 from rfl, nI_add, tt_sld (by decide +kernel) h h2]
theorem a999_804 (h : i + 1 < X.1) (h2 : X.1 ≤ 3072) : TT X d 999 804 [.retAddr 20, a1, a2, .int (nI i)] st f n k Q = TT X d 999 809 [.retAddr 20, a1, a2, .int (nI i)] (.int (X.2 (i + 1)) :: st) f n k Q := by
  rw [tt_sl0 (by decide +kernel), s999_805, s999_806, s999_807, show (1 : Int32) = nI 1 from rfl, nI_add, tt_sld (by decide +kernel) h h2]
theorem a999_818 (h : i + 1 < X.1) (h2 : X.1 ≤ 3072) : TT X d 999 818 [.retAddr 20, a1, a2, .int (nI i)] st f n k Q = TT X d 999 823 [.retAddr 20, a1, a2, .int (nI i)] (.int (X.2 (i + 1)) :: st) f n k Q := by
  rw [tt_sl0 (by decide +kernel), s999_819, s999_820, s999_821, show (1 : Int32) = nI 1 from rfl, nI_add, tt_sld (by decide +kernel) h h2]
theorem a999_827 (h : i + 1 < X.1) (h2 : X.1 ≤ 3072) : TT X d 999 827 [.retAddr 20, a1, a2, .int (nI i)] st f n k Q = TT X d 999 832 [.retAddr 20, a1, a2, .int (nI i)] (.int (X.2 (i + 1)) :: st) f n k Q := by
  rw [tt_sl0 (by decide +kernel), s999_828, s999_829, s999_830, show (1 : Int32) = nI 1 from rfl, nI_add, tt_sld (by decide +kernel) h h2]
theorem a999_841 (h : i + 1 < X.1) (h2 : X.1 ≤ 3072) : TT X d 999 841 [.retAddr 20, a1, a2, .int (nI i)] st f n k Q = TT X d 999 846 [.retAddr 20, a1, a2, .int (nI i)] (.int (X.2 (i + 1)) :: st) f n k Q := by
  rw [tt_sl0 (by decide +kernel), s999_842, s999_843, s999_844, show (1 : Int32) = nI 1 from rfl, nI_add, tt_sld (by decide +kernel) h h2]
theorem a999_850 (h : i + 1 < X.1) (h2 : X.1 ≤ 3072) : TT X d 999 850 [.retAddr 20, a1, a2, .int (nI i)] st f n k Q = TT X d 999 855 [.retAddr 20, a1, a2, .int (nI i)] (.int (X.2 (i + 1)) :: st) f n k Q := by
  rw [tt_sl0 (by decide +kernel), s999_851, s999_852, s999_853, show (1 : Int32) = nI 1 from rfl, nI_add, tt_sld (by decide +kernel) h h2]
theorem a999_864 (h : i + 1 < X.1) (h2 : X.1 ≤ 3072) : TT X d 999 864 [.retAddr 20, a1, a2, .int (nI i)] st f n k Q = TT X d 999 869 [.retAddr 20, a1, a2, .int (nI i)] (.int (X.2 (i + 1)) :: st) f n k Q := by
  rw [tt_sl0 (by decide +kernel), s999_865, s999_866, s999_867, show (1 : Int32) = nI 1 from rfl, nI_add, tt_sld (by decide +kernel) h h2]
theorem a999_873 (h : i + 1 < X.1) (h2 : X.1 ≤ 3072) : TT X d 999 873 [.retAddr 20, a1, a2, .int (nI i)] st f n k Q = TT X d 999 878 [.retAddr 20, a1, a2, .int (nI i)] (.int (X.2 (i + 1)) :: st) f n k Q := by
  rw [tt_sl0 (by decide +kernel), s999_874, s999_875, s999_876, show (1 : Int32) = nI 1 from rfl, nI_add, tt_sld (by decide +kernel) h h2]
theorem a999_887 (h : i + 1 < X.1) (h2 : X.1 ≤ 3072) : TT X d 999 887 [.retAddr 20, a1, a2, .int (nI i)] st f n k Q = TT X d 999 892 [.retAddr 20, a1, a2, .int (nI i)] (.int (X.2 (i + 1)) :: st) f n k Q := by
  rw [tt_sl0 (by decide +kernel), s999_888, s999_889, s999_890, show (1 : Int32) = nI 1 from rfl, nI_add, tt_sld (by decide +kernel) h h2]
theorem a999_896 (h : i + 1 < X.1) (h2 : X.1 ≤ 3072) : TT X d 999 896 [.retAddr 20, a1, a2, .int (nI i)] st f n k Q = TT X d 999 901 [.retAddr 20, a1, a2, .int (nI i)] (.int (X.2 (i + 1)) :: st) f n k Q := by
  rw [tt_sl0 (by decide +kernel), s999_897, s999_898, s999_899, show (1 : Int32) = nI 1 from rfl, nI_add, tt_sld (by decide +kernel) h h2]
theorem a999_923 (h : i + 1 < X.1) (h2 : X.1 ≤ 3072) : TT X d 999 923 [.retAddr 20, a1, a2, .int (nI i)] st f n k Q = TT X d 999 928 [.retAddr 20, a1, a2, .int (nI i)] (.int (X.2 (i + 1)) :: st) f n k Q := by
  rw [tt_sl0 (by decide +kernel), s999_924, s999_925, s999_926, show (1 : Int32) = nI 1 from rfl, nI_add, tt_sld (by decide +kernel) h h2]
theorem a999_932 (h : i + 1 < X.1) (h2 : X.1 ≤ 3072) : TT X d 999 932 [.retAddr 20, a1, a2, .int (nI i)] st f n k Q = TT X d 999 937 [.retAddr 20, a1, a2, .int (nI i)] (.int (X.2 (i + 1)) :: st) f n k Q := by
  rw [tt_sl0 (by decide +kernel), s999_933, s999_934, s999_935, show (1 : Int32) = nI 1 from rfl, nI_add, tt_sld (by decide +kernel) h h2]
theorem a999_946 (h : i + 1 < X.1) (h2 : X.1 ≤ 3072) : TT X d 999 946 [.retAddr 20, a1, a2, .int (nI i)] st f n k Q = TT X d 999 951 [.retAddr 20, a1, a2, .int (nI i)] (.int (X.2 (i + 1)) :: st) f n k Q := by
  rw [tt_sl0 (by decide +kernel), s999_947, s999_948, s999_949, show (1 : Int32) = nI 1 from rfl, nI_add, tt_sld (by decide +kernel) h h2]
theorem a999_951 (h : i + 2 < X.1) (h2 : X.1 ≤ 3072) : TT X d 999 951 [.retAddr 20, a1, a2, .int (nI i)] st f n k Q = TT X d 999 956 [.retAddr 20, a1, a2, .int (nI i)] (.int (X.2 (i + 2)) :: st) f n k Q := by
  rw [tt_sl0 (by decide +kernel), s999_952, s999_953, s999_954, show (2 : Int32) = nI 2 from rfl, nI_add, tt_sld (by decide +kernel) h h2]
theorem a999_960 (h : i + 1 < X.1) (h2 : X.1 ≤ 3072) : TT X d 999 960 [.retAddr 20, a1, a2, .int (nI i)] st f n k Q = TT X d 999 965 [.retAddr 20, a1, a2, .int (nI i)] (.int (X.2 (i + 1)) :: st) f n k Q := by
  rw [tt_sl0 (by decide +kernel), s999_961, s999_962, s999_963, show (1 : Int32) = nI 1 from rfl, nI_add, tt_sld (by decide +kernel) h h2]
theorem a999_965 (h : i + 2 < X.1) (h2 : X.1 ≤ 3072) : TT X d 999 965 [.retAddr 20, a1, a2, .int (nI i)] st f n k Q = TT X d 999 970 [.retAddr 20, a1, a2, .int (nI i)] (.int (X.2 (i + 2)) :: st) f n k Q := by
  rw [tt_sl0 (by decide +kernel), s999_966, s999_967, s999_968, show (2 : Int32) = nI 2 from rfl, nI_add, tt_sld (by decide +kernel) h h2]
theorem a999_979 (h : i + 1 < X.1) (h2 : X.1 ≤ 3072) : TT X d 999 979 [.retAddr 20, a1, a2, .int (nI i)] st f n k Q = TT X d 999 984 [.retAddr 20, a1, a2, .int (nI i)] (.int (X.2 (i + 1)) :: st) f n k Q := by
  rw [tt_sl0 (by decide +kernel), s999_980, s999_981, s999_982, show (1 : Int32) = nI 1 from rfl, nI_add, tt_sld (by decide +kernel) h h2]
theorem a999_984 (h : i + 2 < X.1) (h2 : X.1 ≤ 3072) : TT X d 999 984 [.retAddr 20, a1, a2, .int (nI i)] st f n k Q = TT X d 999 989 [.retAddr 20, a1, a2, .int (nI i)] (.int (X.2 (i + 2)) :: st) f n k Q := by
  rw [tt_sl0 (by decide +kernel), s999_985, s999_986, s999_987, show (2 : Int32) = nI 2 from rfl, nI_add, tt_sld (by decide +kernel) h h2]
theorem a999_989 (h : i + 3 < X.1) (h2 : X.1 ≤ 3072) : TT X d 999 989 [.retAddr 20, a1, a2, .int (nI i)] st f n k Q = TT X d 999 994 [.retAddr 20, a1, a2, .int (nI i)] (.int (X.2 (i + 3)) :: st) f n k Q := by
  rw [tt_sl0 (by decide +kernel), s999_990, s999_991, s999_992, show (3 : Int32) = nI 3 from rfl, nI_add, tt_sld (by decide +kernel) h h2]
theorem a999_998 (h : i + 1 < X.1) (h2 : X.1 ≤ 3072) : TT X d 999 998 [.retAddr 20, a1, a2, .int (nI i)] st f n k Q = TT X d 999 1003 [.retAddr 20, a1, a2, .int (nI i)] (.int (X.2 (i + 1)) :: st) f n k Q := by
  rw [tt_sl0 (by decide +kernel), s999_999, s999_1000, s999_1001, show (1 : Int32) = nI 1 from rfl, nI_add, tt_sld (by decide +kernel) h h2]
theorem a999_1003 (h : i + 2 < X.1) (h2 : X.1 ≤ 3072) : TT X d 999 1003 [.retAddr 20, a1, a2, .int (nI i)] st f n k Q = TT X d 999 1008 [.retAddr 20, a1, a2, .int (nI i)] (.int (X.2 (i + 2)) :: st) f n k Q := by
  rw [tt_sl0 (by decide +kernel), s999_1004, s999_1005, s999_1006, show (2 : Int32) = nI 2 from rfl, nI_add, tt_sld (by decide +kernel) h h2]
theorem a999_1008 (h : i + 3 < X.1) (h2 : X.1 ≤ 3072) : TT X d 999 1008 [.retAddr 20, a1, a2, .int (nI i)] st f n k Q = TT X d 999 1013 [.retAddr 20, a1, a2, .int (nI i)] (.int (X.2 (i + 3)) :: st) f n k Q := by
  rw [tt_sl0 (by decide +kernel), s999_1009, s999_1010, s999_1011, show (3 : Int32) = nI 3 from rfl, nI_add, tt_sld (by decide +kernel) h h2]
theorem a999_1022 (h : i + 1 < X.1) (h2 : X.1 ≤ 3072) : TT X d 999 1022 [.retAddr 20, a1, a2, .int (nI i)] st f n k Q = TT X d 999 1027 [.retAddr 20, a1, a2, .int (nI i)] (.int (X.2 (i + 1)) :: st) f n k Q := by
  rw [tt_sl0 (by decide +kernel), s999_1023, s999_1024, s999_1025, show (1 : Int32) = nI 1 from rfl, nI_add, tt_sld (by decide +kernel) h h2]
theorem a999_1027 (h : i + 2 < X.1) (h2 : X.1 ≤ 3072) : TT X d 999 1027 [.retAddr 20, a1, a2, .int (nI i)] st f n k Q = TT X d 999 1032 [.retAddr 20, a1, a2, .int (nI i)] (.int (X.2 (i + 2)) :: st) f n k Q := by
  rw [tt_sl0 (by decide +kernel), s999_1028, s999_1029, s999_1030, show (2 : Int32) = nI 2 from rfl, nI_add, tt_sld (by decide +kernel) h h2]
theorem a999_1036 (h : i + 1 < X.1) (h2 : X.1 ≤ 3072) : TT X d 999 1036 [.retAddr 20, a1, a2, .int (nI i)] st f n k Q = TT X d 999 1041 [.retAddr 20, a1, a2, .int (nI i)] (.int (X.2 (i + 1)) :: st) f n k Q := by
  rw [tt_sl0 (by decide +kernel), s999_1037, s999_1038, s999_1039, show (1 : Int32) = nI 1 from rfl, nI_add, tt_sld (by decide +kernel) h h2]
theorem a999_1041 (h : i + 2 < X.1) (h2 : X.1 ≤ 3072) : TT X d 999 1041 [.retAddr 20, a1, a2, .int (nI i)] st f n k Q = TT X d 999 1046 [.retAddr 20, a1, a2, .int (nI i)] (.int (X.2 (i + 2)) :: st) f n k Q := by
  rw [tt_sl0 (by decide +kernel), s999_1042, s999_1043, s999_1044, show (2 : Int32) = nI 2 from rfl, nI_add, tt_sld (by decide +kernel) h h2]
theorem a999_1094 (h : i + 1 < X.1) (h2 : X.1 ≤ 3072) : TT X d 999 1094 [.retAddr 20, a1, a2, .int (nI i)] st f n k Q = TT X d 999 1099 [.retAddr 20, a1, a2, .int (nI i)] (.int (X.2 (i + 1)) :: st) f n k Q := by
  rw [tt_sl0 (by decide +kernel), s999_1095, s999_1096, s999_1097, show (1 : Int32) = nI 1 from rfl, nI_add, tt_sld (by decide +kernel) h h2]
theorem a999_1099 (h : i + 2 < X.1) (h2 : X.1 ≤ 3072) : TT X d 999 1099 [.retAddr 20, a1, a2, .int (nI i)] st f n k Q = TT X d 999 1104 [.retAddr 20, a1, a2, .int (nI i)] (.int (X.2 (i + 2)) :: st) f n k Q := by
  rw [tt_sl0 (by decide +kernel), s999_1100, s999_1101, s999_1102, show (2 : Int32) = nI 2 from rfl, nI_add, tt_sld (by decide +kernel) h h2]
theorem a999_1108 (h : i + 1 < X.1) (h2 : X.1 ≤ 3072) : TT X d 999 1108 [.retAddr 20, a1, a2, .int (nI i)] st f n k Q = TT X d 999 1113 [.retAddr 20, a1, a2, .int (nI i)] (.int (X.2 (i + 1)) :: st) f n k Q := by
  rw [tt_sl0 (by decide +kernel), s999_1109, s999_1110, s999_1111, show (1 : Int32) = nI 1 from rfl, nI_add, tt_sld (by decide +kernel) h h2]
theorem a999_1113 (h : i + 2 < X.1) (h2 : X.1 ≤ 3072) : TT X d 999 1113 [.retAddr 20, a1, a2, .int (nI i)] st f n k Q = TT X d 999 1118 [.retAddr 20, a1, a2, .int (nI i)] (.int (X.2 (i + 2)) :: st) f n k Q := by
  rw [tt_sl0 (by decide +kernel), s999_1114, s999_1115, s999_1116, show (2 : Int32) = nI 2 from rfl, nI_add, tt_sld (by decide +kernel) h h2]
theorem a999_1140 (h : i + 1 < X.1) (h2 : X.1 ≤ 3072) : TT X d 999 1140 [.retAddr 20, a1, a2, .int (nI i)] st f n k Q = TT X d 999 1145 [.retAddr 20, a1, a2, .int (nI i)] (.int (X.2 (i + 1)) :: st) f n k Q := by
  rw [tt_sl0 (by decide +kernel), s999_1141, s999_1142, s999_1143, show (1 : Int32) = nI 1 from rfl, nI_add, tt_sld (by decide +kernel) h h2]
theorem a999_1149 (h : i + 1 < X.1) (h2 : X.1 ≤ 3072) : TT X d 999 1149 [.retAddr 20, a1, a2, .int (nI i)] st f n k Q = TT X d 999 1154 [.retAddr 20, a1, a2, .int (nI i)] (.int (X.2 (i + 1)) :: st) f n k Q := by
  rw [tt_sl0 (by decide +kernel), s999_1150, s999_1151, s999_1152, show (1 : Int32) = nI 1 from rfl, nI_add, tt_sld (by decide +kernel) h h2]
theorem a999_1164 (h : i + 1 < X.1) (h2 : X.1 ≤ 3072) : TT X d 999 1164 [.retAddr 20, a1, a2, .int (nI i)] st f n k Q = TT X d 999 1169 [.retAddr 20, a1, a2, .int (nI i)] (.int (X.2 (i + 1)) :: st) f n k Q := by
  rw [tt_sl0 (by decide +kernel), s999_1165, s999_1166, s999_1167, show (1 : Int32) = nI 1 from rfl, nI_add, tt_sld (by decide +kernel) h h2]
theorem a999_1173 (h : i + 1 < X.1) (h2 : X.1 ≤ 3072) : TT X d 999 1173 [.retAddr 20, a1, a2, .int (nI i)] st f n k Q = TT X d 999 1178 [.retAddr 20, a1, a2, .int (nI i)] (.int (X.2 (i + 1)) :: st) f n k Q := by
  rw [tt_sl0 (by decide +kernel), s999_1174, s999_1175, s999_1176, show (1 : Int32) = nI 1 from rfl, nI_add, tt_sld (by decide +kernel) h h2]
theorem a999_1187 (h : i + 1 < X.1) (h2 : X.1 ≤ 3072) : TT X d 999 1187 [.retAddr 20, a1, a2, .int (nI i)] st f n k Q = TT X d 999 1192 [.retAddr 20, a1, a2, .int (nI i)] (.int (X.2 (i + 1)) :: st) f n k Q := by
  rw [tt_sl0 (by decide +kernel), s999_1188, s999_1189, s999_1190, show (1 : Int32) = nI 1 from rfl, nI_add, tt_sld (by decide +kernel) h h2]
theorem a999_1192 (h : i + 2 < X.1) (h2 : X.1 ≤ 3072) : TT X d 999 1192 [.retAddr 20, a1, a2, .int (nI i)] st f n k Q = TT X d 999 1197 [.retAddr 20, a1, a2, .int (nI i)] (.int (X.2 (i + 2)) :: st) f n k Q := by
  rw [tt_sl0 (by decide +kernel), s999_1193, s999_1194, s999_1195, show (2 : Int32) = nI 2 from rfl, nI_add, tt_sld (by decide +kernel) h h2]
theorem a999_1197 (h : i + 3 < X.1) (h2 : X.1 ≤ 3072) : TT X d 999 1197 [.retAddr 20, a1, a2, .int (nI i)] st f n k Q = TT X d 999 1202 [.retAddr 20, a1, a2, .int (nI i)] (.int (X.2 (i + 3)) :: st) f n k Q := by
  rw [tt_sl0 (by decide +kernel), s999_1198, s999_1199, s999_1200, show (3 : Int32) = nI 3 from rfl, nI_add, tt_sld (by decide +kernel) h h2]
theorem a999_1206 (h : i + 1 < X.1) (h2 : X.1 ≤ 3072) : TT X d 999 1206 [.retAddr 20, a1, a2, .int (nI i)] st f n k Q = TT X d 999 1211 [.retAddr 20, a1, a2, .int (nI i)] (.int (X.2 (i + 1)) :: st) f n k Q := by
  rw [tt_sl0 (by decide +kernel), s999_1207, s999_1208, s999_1209, show (1 : Int32) = nI 1 from rfl, nI_add, tt_sld (by decide +kernel) h h2]
theorem a999_1211 (h : i + 2 < X.1) (h2 : X.1 ≤ 3072) : TT X d 999 1211 [.retAddr 20, a1, a2, .int (nI i)] st f n k Q = TT X d 999 1216 [.retAddr 20, a1, a2, .int (nI i)] (.int (X.2 (i + 2)) :: st) f n k Q := by
  rw [tt_sl0 (by decide +kernel), s999_1212, s999_1213, s999_1214, show (2 : Int32) = nI 2 from rfl, nI_add, tt_sld (by decide +kernel) h h2]
theorem a999_1216 (h : i + 3 < X.1) (h2 : X.1 ≤ 3072) : TT X d 999 1216 [.retAddr 20, a1, a2, .int (nI i)] st f n k Q = TT X d 999 1221 [.retAddr 20, a1, a2, .int (nI i)] (.int (X.2 (i + 3)) :: st) f n k Q := by
  rw [tt_sl0 (by decide +kernel), s999_1217, s999_1218, s999_1219, show (3 : Int32) = nI 3 from rfl, nI_add, tt_sld (by decide +kernel) h h2]
theorem a999_1230 (h : i + 1 < X.1) (h2 : X.1 ≤ 3072) : TT X d 999 1230 [.retAddr 20, a1, a2, .int (nI i)] st f n k Q = TT X d 999 1235 [.retAddr 20, a1, a2, .int (nI i)] (.int (X.2 (i + 1)) :: st) f n k Q := by
  rw [tt_sl0 (by decide +kernel), s999_1231, s999_1232, s999_1233, show (1 : Int32) = nI 1 from rfl, nI_add, tt_sld (by decide +kernel) h h2]
theorem a999_1235 (h : i + 2 < X.1) (h2 : X.1 ≤ 3072) : TT X d 999 1235 [.retAddr 20, a1, a2, .int (nI i)] st f n k Q = TT X d 999 1240 [.retAddr 20, a1, a2, .int (nI i)] (.int (X.2 (i + 2)) :: st) f n k Q := by
  rw [tt_sl0 (by decide +kernel), s999_1236, s999_1237, s999_1238, show (2 : Int32) = nI 2 from rfl, nI_add, tt_sld (by decide +kernel) h h2]
theorem a999_1240 (h : i + 3 < X.1) (h2 : X.1 ≤ 3072) : TT X d 999 1240 [.retAddr 20, a1, a2, .int (nI i)] st f n k Q = TT X d 999 1245 [.retAddr 20, a1, a2, .int (nI i)] (.int (X.2 (i + 3)) :: st) f n k Q := by
  rw [tt_sl0 (by decide +kernel), s999_1241, s999_1242, s999_1243, show (3 : Int32) = nI 3 from rfl, nI_add, tt_sld (by decide +kernel) h h2]
theorem a999_1249 (h : i + 4 < X.1) (h2 : X.1 ≤ 3072) : TT X d 999 1249 [.retAddr 20, a1, a2, .int (nI i)] st f n k Q = TT X d 999 1254 [.retAddr 20, a1, a2, .int (nI i)] (.int (X.2 (i + 4)) :: st) f n k Q := by
  rw [tt_sl0 (by decide +kernel), s999_1250, s999_1251, s999_1252, show (4 : Int32) = nI 4 from rfl, nI_add, tt_sld (by decide +kernel) h h2]
theorem a999_1264 (h : i + 1 < X.1) (h2 : X.1 ≤ 3072) : TT X d 999 1264 [.retAddr 20, a1, a2, .int (nI i)] st f n k Q = TT X d 999 1269 [.retAddr 20, a1, a2, .int (nI i)] (.int (X.2 (i + 1)) :: st) f n k Q := by
  rw [tt_sl0 (by decide +kernel), s999_1265, s999_1266, s999_1267, show (1 : Int32) = nI 1 from rfl, nI_add, tt_sld (by decide +kernel) h h2]
theorem a999_1269 (h : i + 2 < X.1) (h2 : X.1 ≤ 3072) : TT X d 999 1269 [.retAddr 20, a1, a2, .int (nI i)] st f n k Q = TT X d 999 1274 [.retAddr 20, a1, a2, .int (nI i)] (.int (X.2 (i + 2)) :: st) f n k Q := by
  rw [tt_sl0 (by decide +kernel), s999_1270, s999_1271, s999_1272, show (2 : Int32) = nI 2 from rfl, nI_add, tt_sld (by decide +kernel) h h2]
theorem a999_1274 (h : i + 3 < X.1) (h2 : X.1 ≤ 3072) : TT X d 999 1274 [.retAddr 20, a1, a2, .int (nI i)] st f n k Q = TT X d 999 1279 [.retAddr 20, a1, a2, .int (nI i)] (.int (X.2 (i + 3)) :: st) f n k Q := by
  rw [tt_sl0 (by decide +kernel), s999_1275, s999_1276, s999_1277, show (3 : Int32) = nI 3 from rfl, nI_add, tt_sld (by decide +kernel) h h2]
theorem a999_1283 (h : i + 4 < X.1) (h2 : X.1 ≤ 3072) : TT X d 999 1283 [.retAddr 20, a1, a2, .int (nI i)] st f n k Q = TT X d 999 1288 [.retAddr 20, a1, a2, .int (nI i)] (.int (X.2 (i + 4)) :: st) f n k Q := by
  rw [tt_sl0 (by decide +kernel), s999_1284, s999_1285, s999_1286, show (4 : Int32) = nI 4 from rfl, nI_add, tt_sld (by decide +kernel) h h2]
theorem a999_1304 (h : i + 1 < X.1) (h2 : X.1 ≤ 3072) : TT X d 999 1304 [.retAddr 20, a1, a2, .int (nI i)] st f n k Q = TT X d 999 1309 [.retAddr 20, a1, a2, .int (nI i)] (.int (X.2 (i + 1)) :: st) f n k Q := by
  rw [tt_sl0 (by decide +kernel), s999_1305, s999_1306, s999_1307, show (1 : Int32) = nI 1 from rfl, nI_add, tt_sld (by decide +kernel) h h2]
theorem a999_1313 (h : i + 1 < X.1) (h2 : X.1 ≤ 3072) : TT X d 999 1313 [.retAddr 20, a1, a2, .int (nI i)] st f n k Q = TT X d 999 1318 [.retAddr 20, a1, a2, .int (nI i)] (.int (X.2 (i + 1)) :: st) f n k Q := by
  rw [tt_sl0 (by decide +kernel), s999_1314, s999_1315, s999_1316, show (1 : Int32) = nI 1 from rfl, nI_add, tt_sld (by decide +kernel) h h2]
theorem a999_1327 (h : i + 1 < X.1) (h2 : X.1 ≤ 3072) : TT X d 999 1327 [.retAddr 20, a1, a2, .int (nI i)] st f n k Q = TT X d 999 1332 [.retAddr 20, a1, a2, .int (nI i)] (.int (X.2 (i + 1)) :: st) f n k Q := by
  rw [tt_sl0 (by decide +kernel), s999_1328, s999_1329, s999_1330, show (1 : Int32) = nI 1 from rfl, nI_add, tt_sld (by decide +kernel) h h2]
theorem a999_1336 (h : i + 1 < X.1) (h2 : X.1 ≤ 3072) : TT X d 999 1336 [.retAddr 20, a1, a2, .int (nI i)] st f n k Q = TT X d 999 1341 [.retAddr 20, a1, a2, .int (nI i)] (.int (X.2 (i + 1)) :: st) f n k Q := by
  rw [tt_sl0 (by decide +kernel), s999_1337, s999_1338, s999_1339, show (1 : Int32) = nI 1 from rfl, nI_add, tt_sld (by decide +kernel) h h2]
theorem a999_1350 (h : i + 1 < X.1) (h2 : X.1 ≤ 3072) : TT X d 999 1350 [.retAddr 20, a1, a2, .int (nI i)] st f n k Q = TT X d 999 1355 [.retAddr 20, a1, a2, .int (nI i)] (.int (X.2 (i + 1)) :: st) f n k Q := by
  rw [tt_sl0 (by decide +kernel), s999_1351, s999_1352, s999_1353, show (1 : Int32) = nI 1 from rfl, nI_add, tt_sld (by decide +kernel) h h2]
theorem a999_1359 (h : i + 1 < X.1) (h2 : X.1 ≤ 3072) : TT X d 999 1359 [.retAddr 20, a1, a2, .int (nI i)] st f n k Q = TT X d 999 1364 [.retAddr 20, a1, a2, .int (nI i)] (.int (X.2 (i + 1)) :: st) f n k Q := by
  rw [tt_sl0 (by decide +kernel), s999_1360, s999_1361, s999_1362, show (1 : Int32) = nI 1 from rfl, nI_add, tt_sld (by decide +kernel) h h2]
theorem a999_1373 (h : i + 1 < X.1) (h2 : X.1 ≤ 3072) : TT X d 999 1373 [.retAddr 20, a1, a2, .int (nI i)] st f n k Q = TT X d 999 1378 [.retAddr 20, a1, a2, .int (nI i)] (.int (X.2 (i + 1)) :: st) f n k Q := by
  rw [tt_sl0 (by decide +kernel), s999_1374, s999_1375, s999_1376, show (1 : Int32) = nI 1 from rfl, nI_add, tt_sld (by decide +kernel) h h2]
theorem a999_1382 (h : i + 1 < X.1) (h2 : X.1 ≤ 3072) : TT X d 999 1382 [.retAddr 20, a1, a2, .int (nI i)] st f n k Q = TT X d 999 1387 [.retAddr 20, a1, a2, .int (nI i)] (.int (X.2 (i + 1)) :: st) f n k Q := by
  rw [tt_sl0 (by decide +kernel), s999_1383, s999_1384, s999_1385, show (1 : Int32) = nI 1 from rfl, nI_add, tt_sld (by decide +kernel) h h2]
theorem c_feed (hL : X.1 ≤ 3072) (hi : i + 6 ≤ X.1) (h : PRI X d 113 172 [.ref 0, .int (X.2 (i + 1)), .int (X.2 (i + 2)), .int (X.2 (i + 3)), .int (X.2 (i + 4)), .int (X.2 (i + 5))] [.ref 171, .int (X.2 (i + 1)), .int (X.2 (i + 2)), .int (X.2 (i + 3)), .int (X.2 (i + 4)), .int (X.2 (i + 5)), .float 0, .float 0] f N K c) (hn : ∀ f2 n2 k2, REL f2 n2 k2 (c + 1) → TT X (d + 1) 999 1395 [.retAddr 20, .ref 0, .ref 171, .int (nI i)] [] f2 n2 k2 Q) : TT X (d + 1) 999 228 [.retAddr 20, .ref 0, .ref 171, .int (nI i)] [] f N K Q := by
  rw [s999_228, a999_229 (by omega) hL, a999_234 (by omega) hL, a999_239 (by omega) hL, a999_244 (by omega) hL, a999_249 (by omega) hL]
  refine k999_254 h.1 (Nat.le_of_ble_eq_true rfl) h.2 ?_
  rintro f1 n1 k1 v1 ⟨z, rfl, hm, h2⟩
  simp only [Option.toList, List.cons_append, List.nil_append]
  rw [s999_257, a999_258 (by omega) hL, a999_263 (by omega) hL, a999_268 (by omega) hL, a999_273 (by omega) hL, a999_278 (by omega) hL]
  refine k999_283 hm (Nat.le_of_ble_eq_true rfl) h2 ?_
  rintro f2 n2 k2 v2 ⟨rfl, hR⟩
  simp only [Option.toList, List.cons_append, List.nil_append]
  rw [s999_286, if_pos rfl]
  exact hn _ _ _ hR
theorem c_stair (hL : X.1 ≤ 3072) (hi : i + 6 ≤ X.1) (h : PRI X d 115 173 [.ref 0, .int (X.2 (i + 1)), .float 0] [.ref 171, .int (X.2 (i + 1)), .float 0] f N K c) (hn : ∀ f2 n2 k2, REL f2 n2 k2 (c + 1) → TT X (d + 1) 999 1395 [.retAddr 20, .ref 0, .ref 171, .int (nI i)] [] f2 n2 k2 Q) : TT X (d + 1) 999 291 [.retAddr 20, .ref 0, .ref 171, .int (nI i)] [] f N K Q := by
  rw [s999_291, a999_292 (by omega) hL]
  refine k999_297 h.1 (Nat.le_of_ble_eq_true rfl) h.2 ?_
  rintro f1 n1 k1 v1 ⟨z, rfl, hm, h2⟩
  simp only [Option.toList, List.cons_append, List.nil_append]
  rw [s999_300, a999_301 (by omega) hL]
  refine k999_306 hm (Nat.le_of_ble_eq_true rfl) h2 ?_
  rintro f2 n2 k2 v2 ⟨rfl, hR⟩
  simp only [Option.toList, List.cons_append, List.nil_append]
  rw [s999_309, if_pos rfl]
  exact hn _ _ _ hR
theorem c_fault (hL : X.1 ≤ 3072) (hi : i + 6 ≤ X.1) (h : PRI X d 116 212 [.ref 0, .int (X.2 (i + 1))] [.ref 171, .int (X.2 (i + 1))] f N K c) (hn : ∀ f2 n2 k2, REL f2 n2 k2 (c + 1) → TT X (d + 1) 999 1395 [.retAddr 20, .ref 0, .ref 171, .int (nI i)] [] f2 n2 k2 Q) : TT X (d + 1) 999 314 [.retAddr 20, .ref 0, .ref 171, .int (nI i)] [] f N K Q := by
  rw [s999_314, a999_315 (by omega) hL]
  refine k999_320 h.1 (Nat.le_of_ble_eq_true rfl) h.2 ?_
  rintro f1 n1 k1 v1 ⟨z, rfl, hm, h2⟩
  simp only [Option.toList, List.cons_append, List.nil_append]
  rw [s999_323, a999_324 (by omega) hL]
  refine k999_329 hm (Nat.le_of_ble_eq_true rfl) h2 ?_
  rintro f2 n2 k2 v2 ⟨rfl, hR⟩
  simp only [Option.toList, List.cons_append, List.nil_append]
  rw [s999_332, if_pos rfl]
  exact hn _ _ _ hR
theorem c_person (hL : X.1 ≤ 3072) (hi : i + 6 ≤ X.1) (h : PRI X d 117 213 [.ref 0, .int (X.2 (i + 1)), .int (X.2 (i + 2))] [.ref 171, .int (X.2 (i + 1)), .int (X.2 (i + 2))] f N K c) (hn : ∀ f2 n2 k2, REL f2 n2 k2 (c + 1) → TT X (d + 1) 999 1395 [.retAddr 20, .ref 0, .ref 171, .int (nI i)] [] f2 n2 k2 Q) : TT X (d + 1) 999 337 [.retAddr 20, .ref 0, .ref 171, .int (nI i)] [] f N K Q := by
  rw [s999_337, a999_338 (by omega) hL, a999_343 (by omega) hL]
  refine k999_348 h.1 (Nat.le_of_ble_eq_true rfl) h.2 ?_
  rintro f1 n1 k1 v1 ⟨z, rfl, hm, h2⟩
  simp only [Option.toList, List.cons_append, List.nil_append]
  rw [s999_351, a999_352 (by omega) hL, a999_357 (by omega) hL]
  refine k999_362 hm (Nat.le_of_ble_eq_true rfl) h2 ?_
  rintro f2 n2 k2 v2 ⟨rfl, hR⟩
  simp only [Option.toList, List.cons_append, List.nil_append]
  rw [s999_365, if_pos rfl]
  exact hn _ _ _ hR
theorem c_step (hL : X.1 ≤ 3072) (hi : i + 6 ≤ X.1) (h : PRI X d 118 216 [.ref 0, .int (X.2 (i + 1)), .int (X.2 (i + 2))] [.ref 171, .int (X.2 (i + 1)), .int (X.2 (i + 2))] f N K c) (hn : ∀ f2 n2 k2, REL f2 n2 k2 (c + 1) → TT X (d + 1) 999 1395 [.retAddr 20, .ref 0, .ref 171, .int (nI i)] [] f2 n2 k2 Q) : TT X (d + 1) 999 370 [.retAddr 20, .ref 0, .ref 171, .int (nI i)] [] f N K Q := by
  rw [s999_370, a999_371 (by omega) hL, a999_376 (by omega) hL]
  refine k999_381 h.1 (Nat.le_of_ble_eq_true rfl) h.2 ?_
  rintro f1 n1 k1 v1 ⟨z, rfl, hm, h2⟩
  simp only [Option.toList, List.cons_append, List.nil_append]
  rw [s999_384, a999_385 (by omega) hL, a999_390 (by omega) hL]
  refine k999_395 hm (Nat.le_of_ble_eq_true rfl) h2 ?_
  rintro f2 n2 k2 v2 ⟨rfl, hR⟩
  simp only [Option.toList, List.cons_append, List.nil_append]
  rw [s999_398, if_pos rfl]
  exact hn _ _ _ hR
theorem c_stands (hL : X.1 ≤ 3072) (hi : i + 6 ≤ X.1) (h : PRI X d 120 219 [.ref 0] [.ref 171] f N K c) (hn : ∀ f2 n2 k2, REL f2 n2 k2 (c + 1) → TT X (d + 1) 999 1395 [.retAddr 20, .ref 0, .ref 171, .int (nI i)] [] f2 n2 k2 Q) : TT X (d + 1) 999 403 [.retAddr 20, .ref 0, .ref 171, .int (nI i)] [] f N K Q := by
  rw [s999_403]
  refine k999_404 h.1 (Nat.le_of_ble_eq_true rfl) h.2 ?_
  rintro f1 n1 k1 v1 ⟨z, rfl, hm, h2⟩
  simp only [Option.toList, List.cons_append, List.nil_append]
  rw [s999_407]
  refine k999_408 hm (Nat.le_of_ble_eq_true rfl) h2 ?_
  rintro f2 n2 k2 v2 ⟨rfl, hR⟩
  simp only [Option.toList, List.cons_append, List.nil_append]
  rw [s999_411, if_pos rfl]
  exact hn _ _ _ hR
theorem c_crack (hL : X.1 ≤ 3072) (hi : i + 6 ≤ X.1) (h : PRI X d 121 220 [.ref 0, .int (X.2 (i + 1)), .float 0, .float 0] [.ref 171, .int (X.2 (i + 1)), .float 0, .float 0] f N K c) (hn : ∀ f2 n2 k2, REL f2 n2 k2 (c + 1) → TT X (d + 1) 999 1395 [.retAddr 20, .ref 0, .ref 171, .int (nI i)] [] f2 n2 k2 Q) : TT X (d + 1) 999 416 [.retAddr 20, .ref 0, .ref 171, .int (nI i)] [] f N K Q := by
  rw [s999_416, a999_417 (by omega) hL]
  refine k999_422 h.1 (Nat.le_of_ble_eq_true rfl) h.2 ?_
  rintro f1 n1 k1 v1 ⟨z, rfl, hm, h2⟩
  simp only [Option.toList, List.cons_append, List.nil_append]
  rw [s999_425, a999_426 (by omega) hL]
  refine k999_431 hm (Nat.le_of_ble_eq_true rfl) h2 ?_
  rintro f2 n2 k2 v2 ⟨rfl, hR⟩
  simp only [Option.toList, List.cons_append, List.nil_append]
  rw [s999_434, if_pos rfl]
  exact hn _ _ _ hR
theorem c_spare (hL : X.1 ≤ 3072) (hi : i + 6 ≤ X.1) (h : PRI X d 122 221 [.ref 0] [.ref 171] f N K c) (hn : ∀ f2 n2 k2, REL f2 n2 k2 (c + 1) → TT X (d + 1) 999 1395 [.retAddr 20, .ref 0, .ref 171, .int (nI i)] [] f2 n2 k2 Q) : TT X (d + 1) 999 439 [.retAddr 20, .ref 0, .ref 171, .int (nI i)] [] f N K Q := by
  rw [s999_439]
  refine k999_440 h.1 (Nat.le_of_ble_eq_true rfl) h.2 ?_
  rintro f1 n1 k1 v1 ⟨z, rfl, hm, h2⟩
  simp only [Option.toList, List.cons_append, List.nil_append]
  rw [s999_443]
  refine k999_444 hm (Nat.le_of_ble_eq_true rfl) h2 ?_
  rintro f2 n2 k2 v2 ⟨rfl, hR⟩
  simp only [Option.toList, List.cons_append, List.nil_append]
  rw [s999_447, if_pos rfl]
  exact hn _ _ _ hR
theorem c_see (hL : X.1 ≤ 3072) (hi : i + 6 ≤ X.1) (h : PRI X d 123 222 [.ref 0, .int (X.2 (i + 1)), .float 0] [.ref 171, .int (X.2 (i + 1)), .float 0] f N K c) (hn : ∀ f2 n2 k2, REL f2 n2 k2 (c + 1) → TT X (d + 1) 999 1395 [.retAddr 20, .ref 0, .ref 171, .int (nI i)] [] f2 n2 k2 Q) : TT X (d + 1) 999 452 [.retAddr 20, .ref 0, .ref 171, .int (nI i)] [] f N K Q := by
  rw [s999_452, a999_453 (by omega) hL]
  refine k999_458 h.1 (Nat.le_of_ble_eq_true rfl) h.2 ?_
  rintro f1 n1 k1 v1 ⟨z, rfl, hm, h2⟩
  simp only [Option.toList, List.cons_append, List.nil_append]
  rw [s999_461, a999_462 (by omega) hL]
  refine k999_467 hm (Nat.le_of_ble_eq_true rfl) h2 ?_
  rintro f2 n2 k2 v2 ⟨rfl, hR⟩
  simp only [Option.toList, List.cons_append, List.nil_append]
  rw [s999_470, if_pos rfl]
  exact hn _ _ _ hR
theorem c_bring (hL : X.1 ≤ 3072) (hi : i + 6 ≤ X.1) (h : PRI X d 126 228 [.ref 0, .int (X.2 (i + 1)), .int (X.2 (i + 2)), .float 0] [.ref 171, .int (X.2 (i + 1)), .int (X.2 (i + 2)), .float 0] f N K c) (hn : ∀ f2 n2 k2, REL f2 n2 k2 (c + 1) → TT X (d + 1) 999 1395 [.retAddr 20, .ref 0, .ref 171, .int (nI i)] [] f2 n2 k2 Q) : TT X (d + 1) 999 475 [.retAddr 20, .ref 0, .ref 171, .int (nI i)] [] f N K Q := by
  rw [s999_475, a999_476 (by omega) hL, a999_481 (by omega) hL]
  refine k999_486 h.1 (Nat.le_of_ble_eq_true rfl) h.2 ?_
  rintro f1 n1 k1 v1 ⟨z, rfl, hm, h2⟩
  simp only [Option.toList, List.cons_append, List.nil_append]
  rw [s999_489, a999_490 (by omega) hL, a999_495 (by omega) hL]
  refine k999_500 hm (Nat.le_of_ble_eq_true rfl) h2 ?_
  rintro f2 n2 k2 v2 ⟨rfl, hR⟩
  simp only [Option.toList, List.cons_append, List.nil_append]
  rw [s999_503, if_pos rfl]
  exact hn _ _ _ hR
theorem c_move (hL : X.1 ≤ 3072) (hi : i + 6 ≤ X.1) (h : PRI X d 127 232 [.ref 0, .int (X.2 (i + 1)), .int (X.2 (i + 2)), .float 0] [.ref 171, .int (X.2 (i + 1)), .int (X.2 (i + 2)), .float 0] f N K c) (hn : ∀ f2 n2 k2, REL f2 n2 k2 (c + 1) → TT X (d + 1) 999 1395 [.retAddr 20, .ref 0, .ref 171, .int (nI i)] [] f2 n2 k2 Q) : TT X (d + 1) 999 508 [.retAddr 20, .ref 0, .ref 171, .int (nI i)] [] f N K Q := by
  rw [s999_508, a999_509 (by omega) hL, a999_514 (by omega) hL]
  refine k999_519 h.1 (Nat.le_of_ble_eq_true rfl) h.2 ?_
  rintro f1 n1 k1 v1 ⟨z, rfl, hm, h2⟩
  simp only [Option.toList, List.cons_append, List.nil_append]
  rw [s999_522, a999_523 (by omega) hL, a999_528 (by omega) hL]
  refine k999_533 hm (Nat.le_of_ble_eq_true rfl) h2 ?_
  rintro f2 n2 k2 v2 ⟨rfl, hR⟩
  simp only [Option.toList, List.cons_append, List.nil_append]
  rw [s999_536, if_pos rfl]
  exact hn _ _ _ hR
theorem c_prop (hL : X.1 ≤ 3072) (hi : i + 6 ≤ X.1) (h : PRI X d 128 235 [.ref 0, .int (X.2 (i + 1)), .float 0] [.ref 171, .int (X.2 (i + 1)), .float 0] f N K c) (hn : ∀ f2 n2 k2, REL f2 n2 k2 (c + 1) → TT X (d + 1) 999 1395 [.retAddr 20, .ref 0, .ref 171, .int (nI i)] [] f2 n2 k2 Q) : TT X (d + 1) 999 541 [.retAddr 20, .ref 0, .ref 171, .int (nI i)] [] f N K Q := by
  rw [s999_541, a999_542 (by omega) hL]
  refine k999_547 h.1 (Nat.le_of_ble_eq_true rfl) h.2 ?_
  rintro f1 n1 k1 v1 ⟨z, rfl, hm, h2⟩
  simp only [Option.toList, List.cons_append, List.nil_append]
  rw [s999_550, a999_551 (by omega) hL]
  refine k999_556 hm (Nat.le_of_ble_eq_true rfl) h2 ?_
  rintro f2 n2 k2 v2 ⟨rfl, hR⟩
  simp only [Option.toList, List.cons_append, List.nil_append]
  rw [s999_559, if_pos rfl]
  exact hn _ _ _ hR
theorem c_days (hL : X.1 ≤ 3072) (hi : i + 6 ≤ X.1) (h : PRI X d 129 239 [.ref 0, .int (X.2 (i + 1)), .float 0, .float 0] [.ref 171, .int (X.2 (i + 1)), .float 0] f N K c) (hn : ∀ f2 n2 k2, REL f2 n2 k2 (c + 1) → TT X (d + 1) 999 1395 [.retAddr 20, .ref 0, .ref 171, .int (nI i)] [] f2 n2 k2 Q) : TT X (d + 1) 999 564 [.retAddr 20, .ref 0, .ref 171, .int (nI i)] [] f N K Q := by
  rw [s999_564, a999_565 (by omega) hL]
  refine k999_570 h.1 (Nat.le_of_ble_eq_true rfl) h.2 ?_
  rintro f1 n1 k1 v1 ⟨z, rfl, hm, h2⟩
  simp only [Option.toList, List.cons_append, List.nil_append]
  rw [s999_573, a999_574 (by omega) hL]
  refine k999_579 hm (Nat.le_of_ble_eq_true rfl) h2 ?_
  rintro f2 n2 k2 v2 ⟨rfl, hR⟩
  simp only [Option.toList, List.cons_append, List.nil_append]
  rw [s999_582, if_pos rfl]
  exact hn _ _ _ hR
theorem c_undo (hL : X.1 ≤ 3072) (hi : i + 6 ≤ X.1) (h : PRI X d 130 241 [.ref 0, .int (X.2 (i + 1))] [.ref 171, .int (X.2 (i + 1)), .float 0] f N K c) (hn : ∀ f2 n2 k2, REL f2 n2 k2 (c + 1) → TT X (d + 1) 999 1395 [.retAddr 20, .ref 0, .ref 171, .int (nI i)] [] f2 n2 k2 Q) : TT X (d + 1) 999 587 [.retAddr 20, .ref 0, .ref 171, .int (nI i)] [] f N K Q := by
  rw [s999_587, a999_588 (by omega) hL]
  refine k999_593 h.1 (Nat.le_of_ble_eq_true rfl) h.2 ?_
  rintro f1 n1 k1 v1 ⟨z, rfl, hm, h2⟩
  simp only [Option.toList, List.cons_append, List.nil_append]
  rw [s999_596, a999_597 (by omega) hL]
  refine k999_602 hm (Nat.le_of_ble_eq_true rfl) h2 ?_
  rintro f2 n2 k2 v2 ⟨rfl, hR⟩
  simp only [Option.toList, List.cons_append, List.nil_append]
  rw [s999_605, if_pos rfl]
  exact hn _ _ _ hR
theorem c_judge (hL : X.1 ≤ 3072) (hi : i + 6 ≤ X.1) (h : PRI X d 131 242 [.ref 0, .int (X.2 (i + 1)), .int (X.2 (i + 2)), .float 0] [.ref 171, .int (X.2 (i + 1)), .int (X.2 (i + 2)), .float 0, .float 0, .float 0, .float 0] f N K c) (hn : ∀ f2 n2 k2, REL f2 n2 k2 (c + 1) → TT X (d + 1) 999 1395 [.retAddr 20, .ref 0, .ref 171, .int (nI i)] [] f2 n2 k2 Q) : TT X (d + 1) 999 610 [.retAddr 20, .ref 0, .ref 171, .int (nI i)] [] f N K Q := by
  rw [s999_610, a999_611 (by omega) hL, a999_616 (by omega) hL]
  refine k999_621 h.1 (Nat.le_of_ble_eq_true rfl) h.2 ?_
  rintro f1 n1 k1 v1 ⟨z, rfl, hm, h2⟩
  simp only [Option.toList, List.cons_append, List.nil_append]
  rw [s999_624, a999_625 (by omega) hL, a999_630 (by omega) hL]
  refine k999_635 hm (Nat.le_of_ble_eq_true rfl) h2 ?_
  rintro f2 n2 k2 v2 ⟨rfl, hR⟩
  simp only [Option.toList, List.cons_append, List.nil_append]
  rw [s999_638, if_pos rfl]
  exact hn _ _ _ hR
theorem c_perform (hL : X.1 ≤ 3072) (hi : i + 6 ≤ X.1) (h : PRI X d 133 248 [.ref 0, .int (X.2 (i + 1)), .float 0] [.ref 171, .int (X.2 (i + 1)), .float 0, .float 0] f N K c) (hn : ∀ f2 n2 k2, REL f2 n2 k2 (c + 1) → TT X (d + 1) 999 1395 [.retAddr 20, .ref 0, .ref 171, .int (nI i)] [] f2 n2 k2 Q) : TT X (d + 1) 999 643 [.retAddr 20, .ref 0, .ref 171, .int (nI i)] [] f N K Q := by
  rw [s999_643, a999_644 (by omega) hL]
  refine k999_649 h.1 (Nat.le_of_ble_eq_true rfl) h.2 ?_
  rintro f1 n1 k1 v1 ⟨z, rfl, hm, h2⟩
  simp only [Option.toList, List.cons_append, List.nil_append]
  rw [s999_652, a999_653 (by omega) hL]
  refine k999_658 hm (Nat.le_of_ble_eq_true rfl) h2 ?_
  rintro f2 n2 k2 v2 ⟨rfl, hR⟩
  simp only [Option.toList, List.cons_append, List.nil_append]
  rw [s999_661, if_pos rfl]
  exact hn _ _ _ hR
theorem c_year (hL : X.1 ≤ 3072) (hi : i + 6 ≤ X.1) (h : PRI X d 134 249 [.ref 0, .int (X.2 (i + 1)), .int (X.2 (i + 2)), .float 0, .float 0] [.ref 171, .int (X.2 (i + 1)), .int (X.2 (i + 2)), .float 0, .float 0, .float 0] f N K c) (hn : ∀ f2 n2 k2, REL f2 n2 k2 (c + 1) → TT X (d + 1) 999 1395 [.retAddr 20, .ref 0, .ref 171, .int (nI i)] [] f2 n2 k2 Q) : TT X (d + 1) 999 666 [.retAddr 20, .ref 0, .ref 171, .int (nI i)] [] f N K Q := by
  rw [s999_666, a999_667 (by omega) hL, a999_672 (by omega) hL]
  refine k999_677 h.1 (Nat.le_of_ble_eq_true rfl) h.2 ?_
  rintro f1 n1 k1 v1 ⟨z, rfl, hm, h2⟩
  simp only [Option.toList, List.cons_append, List.nil_append]
  rw [s999_680, a999_681 (by omega) hL, a999_686 (by omega) hL]
  refine k999_691 hm (Nat.le_of_ble_eq_true rfl) h2 ?_
  rintro f2 n2 k2 v2 ⟨rfl, hR⟩
  simp only [Option.toList, List.cons_append, List.nil_append]
  rw [s999_694, if_pos rfl]
  exact hn _ _ _ hR
theorem c_holds (hL : X.1 ≤ 3072) (hi : i + 6 ≤ X.1) (h : PRI X d 135 252 [.ref 0, .int (X.2 (i + 1))] [.ref 171, .int (X.2 (i + 1))] f N K c) (hn : ∀ f2 n2 k2, REL f2 n2 k2 (c + 1) → TT X (d + 1) 999 1395 [.retAddr 20, .ref 0, .ref 171, .int (nI i)] [] f2 n2 k2 Q) : TT X (d + 1) 999 699 [.retAddr 20, .ref 0, .ref 171, .int (nI i)] [] f N K Q := by
  rw [s999_699, a999_700 (by omega) hL]
  refine k999_705 h.1 (Nat.le_of_ble_eq_true rfl) h.2 ?_
  rintro f1 n1 k1 v1 ⟨z, rfl, hm, h2⟩
  simp only [Option.toList, List.cons_append, List.nil_append]
  rw [s999_708, a999_709 (by omega) hL]
  refine k999_714 hm (Nat.le_of_ble_eq_true rfl) h2 ?_
  rintro f2 n2 k2 v2 ⟨rfl, hR⟩
  simp only [Option.toList, List.cons_append, List.nil_append]
  rw [s999_717, if_pos rfl]
  exact hn _ _ _ hR
theorem c_fewest (hL : X.1 ≤ 3072) (hi : i + 6 ≤ X.1) (h : PRI X d 136 254 [.ref 0, .int (X.2 (i + 1))] [.ref 171, .int (X.2 (i + 1)), .float 0, .float 0] f N K c) (hn : ∀ f2 n2 k2, REL f2 n2 k2 (c + 1) → TT X (d + 1) 999 1395 [.retAddr 20, .ref 0, .ref 171, .int (nI i)] [] f2 n2 k2 Q) : TT X (d + 1) 999 722 [.retAddr 20, .ref 0, .ref 171, .int (nI i)] [] f N K Q := by
  rw [s999_722, a999_723 (by omega) hL]
  refine k999_728 h.1 (Nat.le_of_ble_eq_true rfl) h.2 ?_
  rintro f1 n1 k1 v1 ⟨z, rfl, hm, h2⟩
  simp only [Option.toList, List.cons_append, List.nil_append]
  rw [s999_731, a999_732 (by omega) hL]
  refine k999_737 hm (Nat.le_of_ble_eq_true rfl) h2 ?_
  rintro f2 n2 k2 v2 ⟨rfl, hR⟩
  simp only [Option.toList, List.cons_append, List.nil_append]
  rw [s999_740, if_pos rfl]
  exact hn _ _ _ hR
theorem c_holdings (hL : X.1 ≤ 3072) (hi : i + 6 ≤ X.1) (h : PRI X d 138 258 [.ref 0] [.ref 171, .float 0, .float 0] f N K c) (hn : ∀ f2 n2 k2, REL f2 n2 k2 (c + 1) → TT X (d + 1) 999 1395 [.retAddr 20, .ref 0, .ref 171, .int (nI i)] [] f2 n2 k2 Q) : TT X (d + 1) 999 745 [.retAddr 20, .ref 0, .ref 171, .int (nI i)] [] f N K Q := by
  rw [s999_745]
  refine k999_746 h.1 (Nat.le_of_ble_eq_true rfl) h.2 ?_
  rintro f1 n1 k1 v1 ⟨z, rfl, hm, h2⟩
  simp only [Option.toList, List.cons_append, List.nil_append]
  rw [s999_749]
  refine k999_750 hm (Nat.le_of_ble_eq_true rfl) h2 ?_
  rintro f2 n2 k2 v2 ⟨rfl, hR⟩
  simp only [Option.toList, List.cons_append, List.nil_append]
  rw [s999_753, if_pos rfl]
  exact hn _ _ _ hR
theorem c_needed (hL : X.1 ≤ 3072) (hi : i + 6 ≤ X.1) (h : PRI X d 139 259 [.ref 0] [.ref 171, .float 0, .float 0] f N K c) (hn : ∀ f2 n2 k2, REL f2 n2 k2 (c + 1) → TT X (d + 1) 999 1395 [.retAddr 20, .ref 0, .ref 171, .int (nI i)] [] f2 n2 k2 Q) : TT X (d + 1) 999 758 [.retAddr 20, .ref 0, .ref 171, .int (nI i)] [] f N K Q := by
  rw [s999_758]
  refine k999_759 h.1 (Nat.le_of_ble_eq_true rfl) h.2 ?_
  rintro f1 n1 k1 v1 ⟨z, rfl, hm, h2⟩
  simp only [Option.toList, List.cons_append, List.nil_append]
  rw [s999_762]
  refine k999_763 hm (Nat.le_of_ble_eq_true rfl) h2 ?_
  rintro f2 n2 k2 v2 ⟨rfl, hR⟩
  simp only [Option.toList, List.cons_append, List.nil_append]
  rw [s999_766, if_pos rfl]
  exact hn _ _ _ hR
theorem c_most (hL : X.1 ≤ 3072) (hi : i + 6 ≤ X.1) (h : PRI X d 140 260 [.ref 0, .int (X.2 (i + 1))] [.ref 171, .int (X.2 (i + 1)), .float 0] f N K c) (hn : ∀ f2 n2 k2, REL f2 n2 k2 (c + 1) → TT X (d + 1) 999 1395 [.retAddr 20, .ref 0, .ref 171, .int (nI i)] [] f2 n2 k2 Q) : TT X (d + 1) 999 771 [.retAddr 20, .ref 0, .ref 171, .int (nI i)] [] f N K Q := by
  rw [s999_771, a999_772 (by omega) hL]
  refine k999_777 h.1 (Nat.le_of_ble_eq_true rfl) h.2 ?_
  rintro f1 n1 k1 v1 ⟨z, rfl, hm, h2⟩
  simp only [Option.toList, List.cons_append, List.nil_append]
  rw [s999_780, a999_781 (by omega) hL]
  refine k999_786 hm (Nat.le_of_ble_eq_true rfl) h2 ?_
  rintro f2 n2 k2 v2 ⟨rfl, hR⟩
  simp only [Option.toList, List.cons_append, List.nil_append]
  rw [s999_789, if_pos rfl]
  exact hn _ _ _ hR
theorem c_served (hL : X.1 ≤ 3072) (hi : i + 6 ≤ X.1) (h : PRI X d 141 262 [.ref 0, .int (X.2 (i + 1))] [.ref 171, .int (X.2 (i + 1))] f N K c) (hn : ∀ f2 n2 k2, REL f2 n2 k2 (c + 1) → TT X (d + 1) 999 1395 [.retAddr 20, .ref 0, .ref 171, .int (nI i)] [] f2 n2 k2 Q) : TT X (d + 1) 999 794 [.retAddr 20, .ref 0, .ref 171, .int (nI i)] [] f N K Q := by
  rw [s999_794, a999_795 (by omega) hL]
  refine k999_800 h.1 (Nat.le_of_ble_eq_true rfl) h.2 ?_
  rintro f1 n1 k1 v1 ⟨z, rfl, hm, h2⟩
  simp only [Option.toList, List.cons_append, List.nil_append]
  rw [s999_803, a999_804 (by omega) hL]
  refine k999_809 hm (Nat.le_of_ble_eq_true rfl) h2 ?_
  rintro f2 n2 k2 v2 ⟨rfl, hR⟩
  simp only [Option.toList, List.cons_append, List.nil_append]
  rw [s999_812, if_pos rfl]
  exact hn _ _ _ hR
theorem c_instead (hL : X.1 ≤ 3072) (hi : i + 6 ≤ X.1) (h : PRI X d 142 265 [.ref 0, .int (X.2 (i + 1))] [.ref 171, .int (X.2 (i + 1)), .float 0] f N K c) (hn : ∀ f2 n2 k2, REL f2 n2 k2 (c + 1) → TT X (d + 1) 999 1395 [.retAddr 20, .ref 0, .ref 171, .int (nI i)] [] f2 n2 k2 Q) : TT X (d + 1) 999 817 [.retAddr 20, .ref 0, .ref 171, .int (nI i)] [] f N K Q := by
  rw [s999_817, a999_818 (by omega) hL]
  refine k999_823 h.1 (Nat.le_of_ble_eq_true rfl) h.2 ?_
  rintro f1 n1 k1 v1 ⟨z, rfl, hm, h2⟩
  simp only [Option.toList, List.cons_append, List.nil_append]
  rw [s999_826, a999_827 (by omega) hL]
  refine k999_832 hm (Nat.le_of_ble_eq_true rfl) h2 ?_
  rintro f2 n2 k2 v2 ⟨rfl, hR⟩
  simp only [Option.toList, List.cons_append, List.nil_append]
  rw [s999_835, if_pos rfl]
  exact hn _ _ _ hR
theorem c_swap (hL : X.1 ≤ 3072) (hi : i + 6 ≤ X.1) (h : PRI X d 143 267 [.ref 0, .int (X.2 (i + 1)), .float 0] [.ref 171, .int (X.2 (i + 1)), .float 0, .float 0, .float 0, .float 0] f N K c) (hn : ∀ f2 n2 k2, REL f2 n2 k2 (c + 1) → TT X (d + 1) 999 1395 [.retAddr 20, .ref 0, .ref 171, .int (nI i)] [] f2 n2 k2 Q) : TT X (d + 1) 999 840 [.retAddr 20, .ref 0, .ref 171, .int (nI i)] [] f N K Q := by
  rw [s999_840, a999_841 (by omega) hL]
  refine k999_846 h.1 (Nat.le_of_ble_eq_true rfl) h.2 ?_
  rintro f1 n1 k1 v1 ⟨z, rfl, hm, h2⟩
  simp only [Option.toList, List.cons_append, List.nil_append]
  rw [s999_849, a999_850 (by omega) hL]
  refine k999_855 hm (Nat.le_of_ble_eq_true rfl) h2 ?_
  rintro f2 n2 k2 v2 ⟨rfl, hR⟩
  simp only [Option.toList, List.cons_append, List.nil_append]
  rw [s999_858, if_pos rfl]
  exact hn _ _ _ hR
theorem c_props (hL : X.1 ≤ 3072) (hi : i + 6 ≤ X.1) (h : PRI X d 145 268 [.ref 0, .int (X.2 (i + 1))] [.ref 171, .int (X.2 (i + 1))] f N K c) (hn : ∀ f2 n2 k2, REL f2 n2 k2 (c + 1) → TT X (d + 1) 999 1395 [.retAddr 20, .ref 0, .ref 171, .int (nI i)] [] f2 n2 k2 Q) : TT X (d + 1) 999 863 [.retAddr 20, .ref 0, .ref 171, .int (nI i)] [] f N K Q := by
  rw [s999_863, a999_864 (by omega) hL]
  refine k999_869 h.1 (Nat.le_of_ble_eq_true rfl) h.2 ?_
  rintro f1 n1 k1 v1 ⟨z, rfl, hm, h2⟩
  simp only [Option.toList, List.cons_append, List.nil_append]
  rw [s999_872, a999_873 (by omega) hL]
  refine k999_878 hm (Nat.le_of_ble_eq_true rfl) h2 ?_
  rintro f2 n2 k2 v2 ⟨rfl, hR⟩
  simp only [Option.toList, List.cons_append, List.nil_append]
  rw [s999_881, if_pos rfl]
  exact hn _ _ _ hR
theorem c_mends (hL : X.1 ≤ 3072) (hi : i + 6 ≤ X.1) (h : PRI X d 147 271 [.ref 0, .int (X.2 (i + 1))] [.ref 171, .int (X.2 (i + 1))] f N K c) (hn : ∀ f2 n2 k2, REL f2 n2 k2 (c + 1) → TT X (d + 1) 999 1395 [.retAddr 20, .ref 0, .ref 171, .int (nI i)] [] f2 n2 k2 Q) : TT X (d + 1) 999 886 [.retAddr 20, .ref 0, .ref 171, .int (nI i)] [] f N K Q := by
  rw [s999_886, a999_887 (by omega) hL]
  refine k999_892 h.1 (Nat.le_of_ble_eq_true rfl) h.2 ?_
  rintro f1 n1 k1 v1 ⟨z, rfl, hm, h2⟩
  simp only [Option.toList, List.cons_append, List.nil_append]
  rw [s999_895, a999_896 (by omega) hL]
  refine k999_901 hm (Nat.le_of_ble_eq_true rfl) h2 ?_
  rintro f2 n2 k2 v2 ⟨rfl, hR⟩
  simp only [Option.toList, List.cons_append, List.nil_append]
  rw [s999_904, if_pos rfl]
  exact hn _ _ _ hR
theorem c_sinks (hL : X.1 ≤ 3072) (hi : i + 6 ≤ X.1) (h : PRI X d 148 272 [.ref 0] [.ref 171, .float 0] f N K c) (hn : ∀ f2 n2 k2, REL f2 n2 k2 (c + 1) → TT X (d + 1) 999 1395 [.retAddr 20, .ref 0, .ref 171, .int (nI i)] [] f2 n2 k2 Q) : TT X (d + 1) 999 909 [.retAddr 20, .ref 0, .ref 171, .int (nI i)] [] f N K Q := by
  rw [s999_909]
  refine k999_910 h.1 (Nat.le_of_ble_eq_true rfl) h.2 ?_
  rintro f1 n1 k1 v1 ⟨z, rfl, hm, h2⟩
  simp only [Option.toList, List.cons_append, List.nil_append]
  rw [s999_913]
  refine k999_914 hm (Nat.le_of_ble_eq_true rfl) h2 ?_
  rintro f2 n2 k2 v2 ⟨rfl, hR⟩
  simp only [Option.toList, List.cons_append, List.nil_append]
  rw [s999_917, if_pos rfl]
  exact hn _ _ _ hR
theorem c_stay (hL : X.1 ≤ 3072) (hi : i + 6 ≤ X.1) (h : PRI X d 149 274 [.ref 0, .int (X.2 (i + 1)), .float 0] [.ref 171, .int (X.2 (i + 1)), .float 0, .float 0, .float 0, .float 0] f N K c) (hn : ∀ f2 n2 k2, REL f2 n2 k2 (c + 1) → TT X (d + 1) 999 1395 [.retAddr 20, .ref 0, .ref 171, .int (nI i)] [] f2 n2 k2 Q) : TT X (d + 1) 999 922 [.retAddr 20, .ref 0, .ref 171, .int (nI i)] [] f N K Q := by
  rw [s999_922, a999_923 (by omega) hL]
  refine k999_928 h.1 (Nat.le_of_ble_eq_true rfl) h.2 ?_
  rintro f1 n1 k1 v1 ⟨z, rfl, hm, h2⟩
  simp only [Option.toList, List.cons_append, List.nil_append]
  rw [s999_931, a999_932 (by omega) hL]
  refine k999_937 hm (Nat.le_of_ble_eq_true rfl) h2 ?_
  rintro f2 n2 k2 v2 ⟨rfl, hR⟩
  simp only [Option.toList, List.cons_append, List.nil_append]
  rw [s999_940, if_pos rfl]
  exact hn _ _ _ hR
theorem c_builds (hL : X.1 ≤ 3072) (hi : i + 6 ≤ X.1) (h : PRI X d 150 275 [.ref 0, .int (X.2 (i + 1)), .int (X.2 (i + 2)), .float 0] [.ref 171, .int (X.2 (i + 1)), .int (X.2 (i + 2)), .float 0] f N K c) (hn : ∀ f2 n2 k2, REL f2 n2 k2 (c + 1) → TT X (d + 1) 999 1395 [.retAddr 20, .ref 0, .ref 171, .int (nI i)] [] f2 n2 k2 Q) : TT X (d + 1) 999 945 [.retAddr 20, .ref 0, .ref 171, .int (nI i)] [] f N K Q := by
  rw [s999_945, a999_946 (by omega) hL, a999_951 (by omega) hL]
  refine k999_956 h.1 (Nat.le_of_ble_eq_true rfl) h.2 ?_
  rintro f1 n1 k1 v1 ⟨z, rfl, hm, h2⟩
  simp only [Option.toList, List.cons_append, List.nil_append]
  rw [s999_959, a999_960 (by omega) hL, a999_965 (by omega) hL]
  refine k999_970 hm (Nat.le_of_ble_eq_true rfl) h2 ?_
  rintro f2 n2 k2 v2 ⟨rfl, hR⟩
  simp only [Option.toList, List.cons_append, List.nil_append]
  rw [s999_973, if_pos rfl]
  exact hn _ _ _ hR
theorem c_bound (hL : X.1 ≤ 3072) (hi : i + 6 ≤ X.1) (h : PRI X d 152 278 [.ref 0, .int (X.2 (i + 1)), .int (X.2 (i + 2)), .int (X.2 (i + 3)), .float 0] [.ref 171, .int (X.2 (i + 1)), .int (X.2 (i + 2)), .int (X.2 (i + 3)), .float 0, .float 0, .float 0] f N K c) (hn : ∀ f2 n2 k2, REL f2 n2 k2 (c + 1) → TT X (d + 1) 999 1395 [.retAddr 20, .ref 0, .ref 171, .int (nI i)] [] f2 n2 k2 Q) : TT X (d + 1) 999 978 [.retAddr 20, .ref 0, .ref 171, .int (nI i)] [] f N K Q := by
  rw [s999_978, a999_979 (by omega) hL, a999_984 (by omega) hL, a999_989 (by omega) hL]
  refine k999_994 h.1 (Nat.le_of_ble_eq_true rfl) h.2 ?_
  rintro f1 n1 k1 v1 ⟨z, rfl, hm, h2⟩
  simp only [Option.toList, List.cons_append, List.nil_append]
  rw [s999_997, a999_998 (by omega) hL, a999_1003 (by omega) hL, a999_1008 (by omega) hL]
  refine k999_1013 hm (Nat.le_of_ble_eq_true rfl) h2 ?_
  rintro f2 n2 k2 v2 ⟨rfl, hR⟩
  simp only [Option.toList, List.cons_append, List.nil_append]
  rw [s999_1016, if_pos rfl]
  exact hn _ _ _ hR
theorem c_trial (hL : X.1 ≤ 3072) (hi : i + 6 ≤ X.1) (h : PRI X d 153 279 [.ref 0, .int (X.2 (i + 1)), .int (X.2 (i + 2)), .float 0] [.ref 171, .int (X.2 (i + 1)), .int (X.2 (i + 2)), .float 0, .float 0, .float 0, .float 0, .float 0, .float 0] f N K c) (hn : ∀ f2 n2 k2, REL f2 n2 k2 (c + 1) → TT X (d + 1) 999 1395 [.retAddr 20, .ref 0, .ref 171, .int (nI i)] [] f2 n2 k2 Q) : TT X (d + 1) 999 1021 [.retAddr 20, .ref 0, .ref 171, .int (nI i)] [] f N K Q := by
  rw [s999_1021, a999_1022 (by omega) hL, a999_1027 (by omega) hL]
  refine k999_1032 h.1 (Nat.le_of_ble_eq_true rfl) h.2 ?_
  rintro f1 n1 k1 v1 ⟨z, rfl, hm, h2⟩
  simp only [Option.toList, List.cons_append, List.nil_append]
  rw [s999_1035, a999_1036 (by omega) hL, a999_1041 (by omega) hL]
  refine k999_1046 hm (Nat.le_of_ble_eq_true rfl) h2 ?_
  rintro f2 n2 k2 v2 ⟨rfl, hR⟩
  simp only [Option.toList, List.cons_append, List.nil_append]
  rw [s999_1049, if_pos rfl]
  exact hn _ _ _ hR
theorem c_wins (hL : X.1 ≤ 3072) (hi : i + 6 ≤ X.1) (h : PRI X d 154 281 [.ref 0] [.ref 171] f N K c) (hn : ∀ f2 n2 k2, REL f2 n2 k2 (c + 1) → TT X (d + 1) 999 1395 [.retAddr 20, .ref 0, .ref 171, .int (nI i)] [] f2 n2 k2 Q) : TT X (d + 1) 999 1054 [.retAddr 20, .ref 0, .ref 171, .int (nI i)] [] f N K Q := by
  rw [s999_1054]
  refine k999_1055 h.1 (Nat.le_of_ble_eq_true rfl) h.2 ?_
  rintro f1 n1 k1 v1 ⟨z, rfl, hm, h2⟩
  simp only [Option.toList, List.cons_append, List.nil_append]
  rw [s999_1058]
  refine k999_1059 hm (Nat.le_of_ble_eq_true rfl) h2 ?_
  rintro f2 n2 k2 v2 ⟨rfl, hR⟩
  simp only [Option.toList, List.cons_append, List.nil_append]
  rw [s999_1062, if_pos rfl]
  exact hn _ _ _ hR
theorem c_best (hL : X.1 ≤ 3072) (hi : i + 6 ≤ X.1) (h : PRI X d 155 283 [.ref 0] [.ref 171, .float 0] f N K c) (hn : ∀ f2 n2 k2, REL f2 n2 k2 (c + 1) → TT X (d + 1) 999 1395 [.retAddr 20, .ref 0, .ref 171, .int (nI i)] [] f2 n2 k2 Q) : TT X (d + 1) 999 1067 [.retAddr 20, .ref 0, .ref 171, .int (nI i)] [] f N K Q := by
  rw [s999_1067]
  refine k999_1068 h.1 (Nat.le_of_ble_eq_true rfl) h.2 ?_
  rintro f1 n1 k1 v1 ⟨z, rfl, hm, h2⟩
  simp only [Option.toList, List.cons_append, List.nil_append]
  rw [s999_1071]
  refine k999_1072 hm (Nat.le_of_ble_eq_true rfl) h2 ?_
  rintro f2 n2 k2 v2 ⟨rfl, hR⟩
  simp only [Option.toList, List.cons_append, List.nil_append]
  rw [s999_1075, if_pos rfl]
  exact hn _ _ _ hR
theorem c_lasts (hL : X.1 ≤ 3072) (hi : i + 6 ≤ X.1) (h : PRI X d 156 284 [.ref 0, .float 0] [.ref 171, .float 0] f N K c) (hn : ∀ f2 n2 k2, REL f2 n2 k2 (c + 1) → TT X (d + 1) 999 1395 [.retAddr 20, .ref 0, .ref 171, .int (nI i)] [] f2 n2 k2 Q) : TT X (d + 1) 999 1080 [.retAddr 20, .ref 0, .ref 171, .int (nI i)] [] f N K Q := by
  rw [s999_1080]
  refine k999_1081 h.1 (Nat.le_of_ble_eq_true rfl) h.2 ?_
  rintro f1 n1 k1 v1 ⟨z, rfl, hm, h2⟩
  simp only [Option.toList, List.cons_append, List.nil_append]
  rw [s999_1084]
  refine k999_1085 hm (Nat.le_of_ble_eq_true rfl) h2 ?_
  rintro f2 n2 k2 v2 ⟨rfl, hR⟩
  simp only [Option.toList, List.cons_append, List.nil_append]
  rw [s999_1088, if_pos rfl]
  exact hn _ _ _ hR
theorem c_share (hL : X.1 ≤ 3072) (hi : i + 6 ≤ X.1) (h : PRI X d 157 285 [.ref 0, .int (X.2 (i + 1)), .int (X.2 (i + 2)), .float 0, .float 0, .float 0] [.ref 171, .int (X.2 (i + 1)), .int (X.2 (i + 2)), .float 0, .float 0, .float 0] f N K c) (hn : ∀ f2 n2 k2, REL f2 n2 k2 (c + 1) → TT X (d + 1) 999 1395 [.retAddr 20, .ref 0, .ref 171, .int (nI i)] [] f2 n2 k2 Q) : TT X (d + 1) 999 1093 [.retAddr 20, .ref 0, .ref 171, .int (nI i)] [] f N K Q := by
  rw [s999_1093, a999_1094 (by omega) hL, a999_1099 (by omega) hL]
  refine k999_1104 h.1 (Nat.le_of_ble_eq_true rfl) h.2 ?_
  rintro f1 n1 k1 v1 ⟨z, rfl, hm, h2⟩
  simp only [Option.toList, List.cons_append, List.nil_append]
  rw [s999_1107, a999_1108 (by omega) hL, a999_1113 (by omega) hL]
  refine k999_1118 hm (Nat.le_of_ble_eq_true rfl) h2 ?_
  rintro f2 n2 k2 v2 ⟨rfl, hR⟩
  simp only [Option.toList, List.cons_append, List.nil_append]
  rw [s999_1121, if_pos rfl]
  exact hn _ _ _ hR
theorem c_pillar (hL : X.1 ≤ 3072) (hi : i + 6 ≤ X.1) (h : PRI X d 159 288 [.ref 0] [.ref 171, .float 0, .float 0, .float 0, .float 0] f N K c) (hn : ∀ f2 n2 k2, REL f2 n2 k2 (c + 1) → TT X (d + 1) 999 1395 [.retAddr 20, .ref 0, .ref 171, .int (nI i)] [] f2 n2 k2 Q) : TT X (d + 1) 999 1126 [.retAddr 20, .ref 0, .ref 171, .int (nI i)] [] f N K Q := by
  rw [s999_1126]
  refine k999_1127 h.1 (Nat.le_of_ble_eq_true rfl) h.2 ?_
  rintro f1 n1 k1 v1 ⟨z, rfl, hm, h2⟩
  simp only [Option.toList, List.cons_append, List.nil_append]
  rw [s999_1130]
  refine k999_1131 hm (Nat.le_of_ble_eq_true rfl) h2 ?_
  rintro f2 n2 k2 v2 ⟨rfl, hR⟩
  simp only [Option.toList, List.cons_append, List.nil_append]
  rw [s999_1134, if_pos rfl]
  exact hn _ _ _ hR
theorem c_chance (hL : X.1 ≤ 3072) (hi : i + 6 ≤ X.1) (h : PRL X d 160 289 [.ref 0, .int (X.2 (i + 1)), .float 0, .float 0, .float 0, .float 0, .float 0] [.ref 171, .int (X.2 (i + 1)), .float 0, .float 0, .float 0, .float 0, .float 0, .float 0] f N K c) (hn : ∀ f2 n2 k2, REL f2 n2 k2 (c + 1) → TT X (d + 1) 999 1395 [.retAddr 20, .ref 0, .ref 171, .int (nI i)] [] f2 n2 k2 Q) : TT X (d + 1) 999 1139 [.retAddr 20, .ref 0, .ref 171, .int (nI i)] [] f N K Q := by
  rw [s999_1139, a999_1140 (by omega) hL]
  refine k999_1145 h.1 (Nat.le_of_ble_eq_true rfl) h.2 ?_
  rintro f1 n1 k1 v1 ⟨z, rfl, hm, h2⟩
  simp only [Option.toList, List.cons_append, List.nil_append]
  rw [s999_1148, a999_1149 (by omega) hL]
  refine k999_1154 hm (Nat.le_of_ble_eq_true rfl) h2 ?_
  rintro f2 n2 k2 v2 ⟨rfl, hR⟩
  simp only [Option.toList, List.cons_append, List.nil_append]
  rw [s999_1157, lg_rf, s999_1158, if_pos rfl]
  exact hn _ _ _ hR
theorem c_where (hL : X.1 ≤ 3072) (hi : i + 6 ≤ X.1) (h : PRI X d 161 292 [.ref 0, .int (X.2 (i + 1)), .float 0] [.ref 171, .int (X.2 (i + 1)), .float 0, .float 0, .float 0, .float 0, .float 0, .float 0] f N K c) (hn : ∀ f2 n2 k2, REL f2 n2 k2 (c + 1) → TT X (d + 1) 999 1395 [.retAddr 20, .ref 0, .ref 171, .int (nI i)] [] f2 n2 k2 Q) : TT X (d + 1) 999 1163 [.retAddr 20, .ref 0, .ref 171, .int (nI i)] [] f N K Q := by
  rw [s999_1163, a999_1164 (by omega) hL]
  refine k999_1169 h.1 (Nat.le_of_ble_eq_true rfl) h.2 ?_
  rintro f1 n1 k1 v1 ⟨z, rfl, hm, h2⟩
  simp only [Option.toList, List.cons_append, List.nil_append]
  rw [s999_1172, a999_1173 (by omega) hL]
  refine k999_1178 hm (Nat.le_of_ble_eq_true rfl) h2 ?_
  rintro f2 n2 k2 v2 ⟨rfl, hR⟩
  simp only [Option.toList, List.cons_append, List.nil_append]
  rw [s999_1181, if_pos rfl]
  exact hn _ _ _ hR
theorem c_numbers (hL : X.1 ≤ 3072) (hi : i + 6 ≤ X.1) (h : PRI X d 162 293 [.ref 0, .int (X.2 (i + 1)), .int (X.2 (i + 2)), .int (X.2 (i + 3))] [.ref 171, .int (X.2 (i + 1)), .int (X.2 (i + 2)), .int (X.2 (i + 3)), .float 0] f N K c) (hn : ∀ f2 n2 k2, REL f2 n2 k2 (c + 1) → TT X (d + 1) 999 1395 [.retAddr 20, .ref 0, .ref 171, .int (nI i)] [] f2 n2 k2 Q) : TT X (d + 1) 999 1186 [.retAddr 20, .ref 0, .ref 171, .int (nI i)] [] f N K Q := by
  rw [s999_1186, a999_1187 (by omega) hL, a999_1192 (by omega) hL, a999_1197 (by omega) hL]
  refine k999_1202 h.1 (Nat.le_of_ble_eq_true rfl) h.2 ?_
  rintro f1 n1 k1 v1 ⟨z, rfl, hm, h2⟩
  simp only [Option.toList, List.cons_append, List.nil_append]
  rw [s999_1205, a999_1206 (by omega) hL, a999_1211 (by omega) hL, a999_1216 (by omega) hL]
  refine k999_1221 hm (Nat.le_of_ble_eq_true rfl) h2 ?_
  rintro f2 n2 k2 v2 ⟨rfl, hR⟩
  simp only [Option.toList, List.cons_append, List.nil_append]
  rw [s999_1224, if_pos rfl]
  exact hn _ _ _ hR
theorem c_write (hL : X.1 ≤ 3072) (hi : i + 6 ≤ X.1) (h : PRL X d 163 294 [.ref 0, .int (X.2 (i + 1)), .int (X.2 (i + 2)), .long ((X.2 (i + 3)).toInt64 <<< ((32 : Int32).toInt64 &&& 63) ||| (X.2 (i + 4)).toInt64 &&& 4294967295), .double 0] [.ref 171, .int (X.2 (i + 1)), .int (X.2 (i + 2)), .long ((X.2 (i + 3)).toInt64 <<< ((32 : Int32).toInt64 &&& 63) ||| (X.2 (i + 4)).toInt64 &&& 4294967295), .double 0, .float 0] f N K c) (hn : ∀ f2 n2 k2, REL f2 n2 k2 (c + 1) → TT X (d + 1) 999 1395 [.retAddr 20, .ref 0, .ref 171, .int (nI i)] [] f2 n2 k2 Q) : TT X (d + 1) 999 1229 [.retAddr 20, .ref 0, .ref 171, .int (nI i)] [] f N K Q := by
  rw [s999_1229, a999_1230 (by omega) hL, a999_1235 (by omega) hL, a999_1240 (by omega) hL, s999_1245, s999_1246, s999_1248, a999_1249 (by omega) hL, s999_1254, s999_1255, s999_1258, s999_1259]
  refine k999_1260 h.1 (Nat.le_of_ble_eq_true rfl) h.2 ?_
  rintro f1 n1 k1 v1 ⟨z, rfl, hm, h2⟩
  simp only [Option.toList, List.cons_append, List.nil_append]
  rw [s999_1263, a999_1264 (by omega) hL, a999_1269 (by omega) hL, a999_1274 (by omega) hL, s999_1279, s999_1280, s999_1282, a999_1283 (by omega) hL, s999_1288, s999_1289, s999_1292, s999_1293]
  refine k999_1294 hm (Nat.le_of_ble_eq_true rfl) h2 ?_
  rintro f2 n2 k2 v2 ⟨rfl, hR⟩
  simp only [Option.toList, List.cons_append, List.nil_append]
  rw [s999_1297, lg_rf, s999_1298, if_pos rfl]
  exact hn _ _ _ hR
theorem c_lists (hL : X.1 ≤ 3072) (hi : i + 6 ≤ X.1) (h : PRI X d 164 296 [.ref 0, .int (X.2 (i + 1)), .float 0, .float 0] [.ref 171, .int (X.2 (i + 1)), .float 0, .float 0, .float 0] f N K c) (hn : ∀ f2 n2 k2, REL f2 n2 k2 (c + 1) → TT X (d + 1) 999 1395 [.retAddr 20, .ref 0, .ref 171, .int (nI i)] [] f2 n2 k2 Q) : TT X (d + 1) 999 1303 [.retAddr 20, .ref 0, .ref 171, .int (nI i)] [] f N K Q := by
  rw [s999_1303, a999_1304 (by omega) hL]
  refine k999_1309 h.1 (Nat.le_of_ble_eq_true rfl) h.2 ?_
  rintro f1 n1 k1 v1 ⟨z, rfl, hm, h2⟩
  simp only [Option.toList, List.cons_append, List.nil_append]
  rw [s999_1312, a999_1313 (by omega) hL]
  refine k999_1318 hm (Nat.le_of_ble_eq_true rfl) h2 ?_
  rintro f2 n2 k2 v2 ⟨rfl, hR⟩
  simp only [Option.toList, List.cons_append, List.nil_append]
  rw [s999_1321, if_pos rfl]
  exact hn _ _ _ hR
theorem c_image (hL : X.1 ≤ 3072) (hi : i + 6 ≤ X.1) (h : PRI X d 165 297 [.ref 0, .int (X.2 (i + 1))] [.ref 171, .int (X.2 (i + 1)), .float 0] f N K c) (hn : ∀ f2 n2 k2, REL f2 n2 k2 (c + 1) → TT X (d + 1) 999 1395 [.retAddr 20, .ref 0, .ref 171, .int (nI i)] [] f2 n2 k2 Q) : TT X (d + 1) 999 1326 [.retAddr 20, .ref 0, .ref 171, .int (nI i)] [] f N K Q := by
  rw [s999_1326, a999_1327 (by omega) hL]
  refine k999_1332 h.1 (Nat.le_of_ble_eq_true rfl) h.2 ?_
  rintro f1 n1 k1 v1 ⟨z, rfl, hm, h2⟩
  simp only [Option.toList, List.cons_append, List.nil_append]
  rw [s999_1335, a999_1336 (by omega) hL]
  refine k999_1341 hm (Nat.le_of_ble_eq_true rfl) h2 ?_
  rintro f2 n2 k2 v2 ⟨rfl, hR⟩
  simp only [Option.toList, List.cons_append, List.nil_append]
  rw [s999_1344, if_pos rfl]
  exact hn _ _ _ hR
theorem c_restore (hL : X.1 ≤ 3072) (hi : i + 6 ≤ X.1) (h : PRI X d 166 298 [.ref 0, .int (X.2 (i + 1))] [.ref 171, .int (X.2 (i + 1)), .float 0] f N K c) (hn : ∀ f2 n2 k2, REL f2 n2 k2 (c + 1) → TT X (d + 1) 999 1395 [.retAddr 20, .ref 0, .ref 171, .int (nI i)] [] f2 n2 k2 Q) : TT X (d + 1) 999 1349 [.retAddr 20, .ref 0, .ref 171, .int (nI i)] [] f N K Q := by
  rw [s999_1349, a999_1350 (by omega) hL]
  refine k999_1355 h.1 (Nat.le_of_ble_eq_true rfl) h.2 ?_
  rintro f1 n1 k1 v1 ⟨z, rfl, hm, h2⟩
  simp only [Option.toList, List.cons_append, List.nil_append]
  rw [s999_1358, a999_1359 (by omega) hL]
  refine k999_1364 hm (Nat.le_of_ble_eq_true rfl) h2 ?_
  rintro f2 n2 k2 v2 ⟨rfl, hR⟩
  simp only [Option.toList, List.cons_append, List.nil_append]
  rw [s999_1367, if_pos rfl]
  exact hn _ _ _ hR
theorem c_count (hL : X.1 ≤ 3072) (hi : i + 6 ≤ X.1) (h : PRI X d 167 299 [.ref 0, .int (X.2 (i + 1))] [.ref 171, .int (X.2 (i + 1))] f N K c) (hn : ∀ f2 n2 k2, REL f2 n2 k2 (c + 1) → TT X (d + 1) 999 1395 [.retAddr 20, .ref 0, .ref 171, .int (nI i)] [] f2 n2 k2 Q) : TT X (d + 1) 999 1372 [.retAddr 20, .ref 0, .ref 171, .int (nI i)] [] f N K Q := by
  rw [s999_1372, a999_1373 (by omega) hL]
  refine k999_1378 h.1 (Nat.le_of_ble_eq_true rfl) h.2 ?_
  rintro f1 n1 k1 v1 ⟨z, rfl, hm, h2⟩
  simp only [Option.toList, List.cons_append, List.nil_append]
  rw [s999_1381, a999_1382 (by omega) hL]
  refine k999_1387 hm (Nat.le_of_ble_eq_true rfl) h2 ?_
  rintro f2 n2 k2 v2 ⟨rfl, hR⟩
  simp only [Option.toList, List.cons_append, List.nil_append]
  rw [s999_1390, if_pos rfl]
  exact hn _ _ _ hR
end LAW

/-! equations of the triple, printed by wip/whole/gens.py 323 -/
theorem s999_0 {X : Nat × (Nat → Int32)} {d n k : Nat} {f : Nat → e_C} {Q : t_Q} {lv st : List Value} : TT X d 999 0 lv st f n k Q = TT X d 999 3 lv (.ref n :: st) (va_up f n (.inr (11, [.null, .int 0, .int 0, .int 0, .null, .null, .null, .int 0, .int 0, .null, .null, .null, .null, .null, .null, .null, .null, .null, .null]))) (n + 1) (k + 19) Q := tt_st (i := .new 7) (len := 3) (by decide +kernel) rfl rfl
theorem s999_3 {X : Nat × (Nat → Int32)} {d n k : Nat} {f : Nat → e_C} {Q : t_Q} {lv st : List Value} {x : Nat} : TT X d 999 3 lv (.ref x :: st) f n k Q = TT X d 999 4 lv (.ref x :: .ref x :: st) f n k Q := tt_st (i := .dup) (len := 1) (by decide +kernel) rfl rfl
theorem s999_3i {X : Nat × (Nat → Int32)} {d n k : Nat} {f : Nat → e_C} {Q : t_Q} {lv st : List Value} {x : Int32} : TT X d 999 3 lv (.int x :: st) f n k Q = TT X d 999 4 lv (.int x :: .int x :: st) f n k Q := tt_st (i := .dup) (len := 1) (by decide +kernel) rfl rfl
theorem k999_4 {X : Nat × (Nat → Int32)} {d n k : Nat} {f : Nat → e_C} {Q : t_Q} {lv rest : List Value} {a : Nat}  (hcl : cno (f a) = some 11) (hcat : e_cat rest ≤ 8) {Q1 : t_Q} (h1 : TT X d 112 0 [.ref a, .float 0, .float 0] [] f n k Q1) (h2 : ∀ f' n' k' v, Q1 f' n' k' v → TT X (d + 1) 999 7 lv (v.toList ++ rest) f' n' k' Q) : TT X (d + 1) 999 4 lv (.ref a :: rest) f n k Q := tt_cV (i := .invokespecial 9) (kind := 2) (idx := 9) (ci := 11) (as := []) (r := e_M112) (by decide +kernel) rfl rfl rfl (by decide +kernel) rc112 (by decide) rfl rfl (by decide) (Nat.le_of_ble_eq_true rfl) rfl hcl hcat h1 h2
theorem p999_4 {X : Nat × (Nat → Int32)} {d n k : Nat} {f : Nat → e_C} {Q : t_Q} {lv rest : List Value} {a : Nat}  (hcl : cno (f a) = some 11) (hcat : e_cat rest ≤ 8) {v : Option Value} (h1 : PU X d 112 [.ref a, .float 0, .float 0] f n k v) : TT X (d + 1) 999 4 lv (.ref a :: rest) f n k Q = TT X (d + 1) 999 7 lv (v.toList ++ rest) f n k Q := tt_pV (i := .invokespecial 9) (kind := 2) (idx := 9) (ci := 11) (as := []) (r := e_M112) (by decide +kernel) rfl rfl rfl (by decide +kernel) rc112 (by decide) rfl rfl (by decide) (Nat.le_of_ble_eq_true rfl) rfl hcl hcat h1
theorem s999_7 {X : Nat × (Nat → Int32)} {d n k : Nat} {f : Nat → e_C} {Q : t_Q} {a0 a1 a2 a3 : Value} {st : List Value} {x : Nat} : TT X d 999 7 [a0, a1, a2, a3] (.ref x :: st) f n k Q = TT X d 999 8 [a0, .ref x, a2, a3] st f n k Q := tt_st (i := .astore_n 1) (len := 1) (by decide +kernel) rfl rfl
theorem s999_8 {X : Nat × (Nat → Int32)} {d n k : Nat} {f : Nat → e_C} {Q : t_Q} {lv st : List Value} : TT X d 999 8 lv st f n k Q = TT X d 999 11 lv (.ref n :: st) (va_up f n (.inr (12, [.int 0, .null, .null, .null, .null, .int 0, .int 0, .int 0, .int 0, .int 0, .int 0, .int 0, .int 0, .int 0, .int 0, .int 0, .null, .null, .null, .null, .null, .int 0, .int 0, .null, .null, .null, .null, .null, .null, .null, .null]))) (n + 1) (k + 31) Q := tt_st (i := .new 10) (len := 3) (by decide +kernel) rfl rfl
theorem s999_11 {X : Nat × (Nat → Int32)} {d n k : Nat} {f : Nat → e_C} {Q : t_Q} {lv st : List Value} {x : Nat} : TT X d 999 11 lv (.ref x :: st) f n k Q = TT X d 999 12 lv (.ref x :: .ref x :: st) f n k Q := tt_st (i := .dup) (len := 1) (by decide +kernel) rfl rfl
theorem s999_11i {X : Nat × (Nat → Int32)} {d n k : Nat} {f : Nat → e_C} {Q : t_Q} {lv st : List Value} {x : Int32} : TT X d 999 11 lv (.int x :: st) f n k Q = TT X d 999 12 lv (.int x :: .int x :: st) f n k Q := tt_st (i := .dup) (len := 1) (by decide +kernel) rfl rfl
theorem k999_12 {X : Nat × (Nat → Int32)} {d n k : Nat} {f : Nat → e_C} {Q : t_Q} {lv rest : List Value} {a : Nat}  (hcl : cno (f a) = some 12) (hcat : e_cat rest ≤ 8) {Q1 : t_Q} (h1 : TT X d 170 0 [.ref a] [] f n k Q1) (h2 : ∀ f' n' k' v, Q1 f' n' k' v → TT X (d + 1) 999 15 lv (v.toList ++ rest) f' n' k' Q) : TT X (d + 1) 999 12 lv (.ref a :: rest) f n k Q := tt_cV (i := .invokespecial 12) (kind := 2) (idx := 12) (ci := 12) (as := []) (r := e_M170) (by decide +kernel) rfl rfl rfl (by decide +kernel) rc170 (by decide) rfl rfl (by decide) (Nat.le_of_ble_eq_true rfl) rfl hcl hcat h1 h2
theorem p999_12 {X : Nat × (Nat → Int32)} {d n k : Nat} {f : Nat → e_C} {Q : t_Q} {lv rest : List Value} {a : Nat}  (hcl : cno (f a) = some 12) (hcat : e_cat rest ≤ 8) {v : Option Value} (h1 : PU X d 170 [.ref a] f n k v) : TT X (d + 1) 999 12 lv (.ref a :: rest) f n k Q = TT X (d + 1) 999 15 lv (v.toList ++ rest) f n k Q := tt_pV (i := .invokespecial 12) (kind := 2) (idx := 12) (ci := 12) (as := []) (r := e_M170) (by decide +kernel) rfl rfl rfl (by decide +kernel) rc170 (by decide) rfl rfl (by decide) (Nat.le_of_ble_eq_true rfl) rfl hcl hcat h1
theorem s999_15 {X : Nat × (Nat → Int32)} {d n k : Nat} {f : Nat → e_C} {Q : t_Q} {a0 a1 a2 a3 : Value} {st : List Value} {x : Nat} : TT X d 999 15 [a0, a1, a2, a3] (.ref x :: st) f n k Q = TT X d 999 16 [a0, a1, .ref x, a3] st f n k Q := tt_st (i := .astore_n 2) (len := 1) (by decide +kernel) rfl rfl
theorem s999_16 {X : Nat × (Nat → Int32)} {d n k : Nat} {f : Nat → e_C} {Q : t_Q} {lv st : List Value} : TT X d 999 16 lv st f n k Q = TT X d 999 17 lv (.int 0 :: st) f n k Q := tt_st (i := .iconst 0) (len := 1) (by decide +kernel) rfl rfl
theorem s999_17 {X : Nat × (Nat → Int32)} {d n k : Nat} {f : Nat → e_C} {Q : t_Q} {a0 a1 a2 a3 : Value} {st : List Value} {x : Int32} : TT X d 999 17 [a0, a1, a2, a3] (.int x :: st) f n k Q = TT X d 999 18 [a0, a1, a2, .int x] st f n k Q := tt_st (i := .istore_n 3) (len := 1) (by decide +kernel) rfl rfl
theorem s999_18 {X : Nat × (Nat → Int32)} {d n k : Nat} {f : Nat → e_C} {Q : t_Q} {a0 a1 a2 : Value} {st : List Value} {x : Int32} : TT X d 999 18 [a0, a1, a2, .int x] st f n k Q = TT X d 999 19 [a0, a1, a2, .int x] (.int x :: st) f n k Q := tt_st (i := .iload_n 3) (len := 1) (by decide +kernel) rfl rfl
theorem s999_19 {X : Nat × (Nat → Int32)} {d n k : Nat} {f : Nat → e_C} {Q : t_Q} {a1 a2 a3 : Value} {st : List Value} {x : Nat} : TT X d 999 19 [.ref x, a1, a2, a3] st f n k Q = TT X d 999 20 [.ref x, a1, a2, a3] (.ref x :: st) f n k Q := tt_st (i := .aload_n 0) (len := 1) (by decide +kernel) rfl rfl
theorem s999_21 {X : Nat × (Nat → Int32)} {d n k : Nat} {f : Nat → e_C} {Q : t_Q} {lv st : List Value} : TT X d 999 21 lv st f n k Q = TT X d 999 23 lv (.int 6 :: st) f n k Q := tt_st (i := .bipush 6) (len := 2) (by decide +kernel) rfl rfl
theorem s999_23 {X : Nat × (Nat → Int32)} {d n k : Nat} {f : Nat → e_C} {Q : t_Q} {lv st : List Value} {x y : Int32} : TT X d 999 23 lv (.int y :: .int x :: st) f n k Q = TT X d 999 24 lv (.int (x - y) :: st) f n k Q := tt_st (i := .isub) (len := 1) (by decide +kernel) rfl rfl
theorem s999_24 {X : Nat × (Nat → Int32)} {d n k : Nat} {f : Nat → e_C} {Q : t_Q} {lv st : List Value} {x y : Int32} : TT X d 999 24 lv (.int y :: .int x :: st) f n k Q = if y < x then TT X d 999 1401 lv st f n k Q else TT X d 999 27 lv st f n k Q := tt_if2 (c := .gt) (off := 1377) (by decide +kernel) rfl rfl
theorem s999_27 {X : Nat × (Nat → Int32)} {d n k : Nat} {f : Nat → e_C} {Q : t_Q} {a1 a2 a3 : Value} {st : List Value} {x : Nat} : TT X d 999 27 [.ref x, a1, a2, a3] st f n k Q = TT X d 999 28 [.ref x, a1, a2, a3] (.ref x :: st) f n k Q := tt_st (i := .aload_n 0) (len := 1) (by decide +kernel) rfl rfl
theorem s999_28 {X : Nat × (Nat → Int32)} {d n k : Nat} {f : Nat → e_C} {Q : t_Q} {a0 a1 a2 : Value} {st : List Value} {x : Int32} : TT X d 999 28 [a0, a1, a2, .int x] st f n k Q = TT X d 999 29 [a0, a1, a2, .int x] (.int x :: st) f n k Q := tt_st (i := .iload_n 3) (len := 1) (by decide +kernel) rfl rfl
theorem s999_29 {X : Nat × (Nat → Int32)} {d n k : Nat} {f : Nat → e_C} {Q : t_Q} {lv st : List Value} {a : Nat} {i : Int32} : TT X d 999 29 lv (.int i :: .ref a :: st) f n k Q = ow (arI (f a)) (fun q => e_in i q.1 = true ∧ TT X d 999 30 lv (.int (q.2 i.toNatClampNeg) :: st) f n k Q) := tt_iald (by decide +kernel)
theorem s999_30 {X : Nat × (Nat → Int32)} {d n k : Nat} {f : Nat → e_C} {Q : t_Q} {lv st : List Value} : TT X d 999 30 lv st f n k Q = TT X d 999 32 lv (.int 63 :: st) f n k Q := tt_st (i := .bipush 63) (len := 2) (by decide +kernel) rfl rfl
theorem s999_32 {X : Nat × (Nat → Int32)} {d n k : Nat} {f : Nat → e_C} {Q : t_Q} {lv st : List Value} {x y : Int32} : TT X d 999 32 lv (.int y :: .int x :: st) f n k Q = TT X d 999 33 lv (.int (x &&& y) :: st) f n k Q := tt_st (i := .iand) (len := 1) (by decide +kernel) rfl rfl
theorem s999_33 {X : Nat × (Nat → Int32)} {d n k : Nat} {f : Nat → e_C} {Q : t_Q} {lv st : List Value} {x : Int32} : TT X d 999 33 lv (.int x :: st) f n k Q = tsw x 0 [228, 291, 314, 337, 370, 403, 416, 439, 452, 475, 508, 541, 564, 587, 610, 643, 666, 699, 722, 745, 758, 771, 794, 817, 840, 863, 886, 909, 922, 945, 978, 1021, 1054, 1067, 1080, 1093, 1126, 1139, 1163, 1186, 1229, 1303, 1326, 1349, 1372] 1395 (fun t => TT X d 999 t lv st f n k Q) := tt_tsw (dd := 1362) (lo := 0) (hi := 44) (offs := #[195, 258, 281, 304, 337, 370, 383, 406, 419, 442, 475, 508, 531, 554, 577, 610, 633, 666, 689, 712, 725, 738, 761, 784, 807, 830, 853, 876, 889, 912, 945, 988, 1021, 1034, 1047, 1060, 1093, 1106, 1130, 1153, 1196, 1270, 1293, 1316, 1339]) (ts := [228, 291, 314, 337, 370, 403, 416, 439, 452, 475, 508, 541, 564, 587, 610, 643, 666, 699, 722, 745, 758, 771, 794, 817, 840, 863, 886, 909, 922, 945, 978, 1021, 1054, 1067, 1080, 1093, 1126, 1139, 1163, 1186, 1229, 1303, 1326, 1349, 1372]) (len := 195) (by decide +kernel) rfl (by decide +kernel) (by decide)
set_option maxRecDepth 20000 in
theorem s999_228 {X : Nat × (Nat → Int32)} {d n k : Nat} {f : Nat → e_C} {Q : t_Q} {a0 a2 a3 : Value} {st : List Value} {x : Nat} : TT X d 999 228 [a0, .ref x, a2, a3] st f n k Q = TT X d 999 229 [a0, .ref x, a2, a3] (.ref x :: st) f n k Q := tt_st (i := .aload_n 1) (len := 1) (by decide +kernel) rfl rfl
set_option maxRecDepth 20000 in
theorem s999_229 {X : Nat × (Nat → Int32)} {d n k : Nat} {f : Nat → e_C} {Q : t_Q} {a1 a2 a3 : Value} {st : List Value} {x : Nat} : TT X d 999 229 [.ref x, a1, a2, a3] st f n k Q = TT X d 999 230 [.ref x, a1, a2, a3] (.ref x :: st) f n k Q := tt_st (i := .aload_n 0) (len := 1) (by decide +kernel) rfl rfl
set_option maxRecDepth 20000 in
theorem s999_230 {X : Nat × (Nat → Int32)} {d n k : Nat} {f : Nat → e_C} {Q : t_Q} {a0 a1 a2 : Value} {st : List Value} {x : Int32} : TT X d 999 230 [a0, a1, a2, .int x] st f n k Q = TT X d 999 231 [a0, a1, a2, .int x] (.int x :: st) f n k Q := tt_st (i := .iload_n 3) (len := 1) (by decide +kernel) rfl rfl
set_option maxRecDepth 20000 in
theorem s999_231 {X : Nat × (Nat → Int32)} {d n k : Nat} {f : Nat → e_C} {Q : t_Q} {lv st : List Value} : TT X d 999 231 lv st f n k Q = TT X d 999 232 lv (.int 1 :: st) f n k Q := tt_st (i := .iconst 1) (len := 1) (by decide +kernel) rfl rfl
set_option maxRecDepth 20000 in
theorem s999_232 {X : Nat × (Nat → Int32)} {d n k : Nat} {f : Nat → e_C} {Q : t_Q} {lv st : List Value} {x y : Int32} : TT X d 999 232 lv (.int y :: .int x :: st) f n k Q = TT X d 999 233 lv (.int (x + y) :: st) f n k Q := tt_st (i := .iadd) (len := 1) (by decide +kernel) rfl rfl
set_option maxRecDepth 20000 in
theorem s999_233 {X : Nat × (Nat → Int32)} {d n k : Nat} {f : Nat → e_C} {Q : t_Q} {lv st : List Value} {a : Nat} {i : Int32} : TT X d 999 233 lv (.int i :: .ref a :: st) f n k Q = ow (arI (f a)) (fun q => e_in i q.1 = true ∧ TT X d 999 234 lv (.int (q.2 i.toNatClampNeg) :: st) f n k Q) := tt_iald (by decide +kernel)
set_option maxRecDepth 20000 in
theorem s999_234 {X : Nat × (Nat → Int32)} {d n k : Nat} {f : Nat → e_C} {Q : t_Q} {a1 a2 a3 : Value} {st : List Value} {x : Nat} : TT X d 999 234 [.ref x, a1, a2, a3] st f n k Q = TT X d 999 235 [.ref x, a1, a2, a3] (.ref x :: st) f n k Q := tt_st (i := .aload_n 0) (len := 1) (by decide +kernel) rfl rfl
set_option maxRecDepth 20000 in
theorem s999_235 {X : Nat × (Nat → Int32)} {d n k : Nat} {f : Nat → e_C} {Q : t_Q} {a0 a1 a2 : Value} {st : List Value} {x : Int32} : TT X d 999 235 [a0, a1, a2, .int x] st f n k Q = TT X d 999 236 [a0, a1, a2, .int x] (.int x :: st) f n k Q := tt_st (i := .iload_n 3) (len := 1) (by decide +kernel) rfl rfl
set_option maxRecDepth 20000 in
theorem s999_236 {X : Nat × (Nat → Int32)} {d n k : Nat} {f : Nat → e_C} {Q : t_Q} {lv st : List Value} : TT X d 999 236 lv st f n k Q = TT X d 999 237 lv (.int 2 :: st) f n k Q := tt_st (i := .iconst 2) (len := 1) (by decide +kernel) rfl rfl
set_option maxRecDepth 20000 in
theorem s999_237 {X : Nat × (Nat → Int32)} {d n k : Nat} {f : Nat → e_C} {Q : t_Q} {lv st : List Value} {x y : Int32} : TT X d 999 237 lv (.int y :: .int x :: st) f n k Q = TT X d 999 238 lv (.int (x + y) :: st) f n k Q := tt_st (i := .iadd) (len := 1) (by decide +kernel) rfl rfl
set_option maxRecDepth 20000 in
theorem s999_238 {X : Nat × (Nat → Int32)} {d n k : Nat} {f : Nat → e_C} {Q : t_Q} {lv st : List Value} {a : Nat} {i : Int32} : TT X d 999 238 lv (.int i :: .ref a :: st) f n k Q = ow (arI (f a)) (fun q => e_in i q.1 = true ∧ TT X d 999 239 lv (.int (q.2 i.toNatClampNeg) :: st) f n k Q) := tt_iald (by decide +kernel)
set_option maxRecDepth 20000 in
theorem s999_239 {X : Nat × (Nat → Int32)} {d n k : Nat} {f : Nat → e_C} {Q : t_Q} {a1 a2 a3 : Value} {st : List Value} {x : Nat} : TT X d 999 239 [.ref x, a1, a2, a3] st f n k Q = TT X d 999 240 [.ref x, a1, a2, a3] (.ref x :: st) f n k Q := tt_st (i := .aload_n 0) (len := 1) (by decide +kernel) rfl rfl
set_option maxRecDepth 20000 in
theorem s999_240 {X : Nat × (Nat → Int32)} {d n k : Nat} {f : Nat → e_C} {Q : t_Q} {a0 a1 a2 : Value} {st : List Value} {x : Int32} : TT X d 999 240 [a0, a1, a2, .int x] st f n k Q = TT X d 999 241 [a0, a1, a2, .int x] (.int x :: st) f n k Q := tt_st (i := .iload_n 3) (len := 1) (by decide +kernel) rfl rfl
set_option maxRecDepth 20000 in
theorem s999_241 {X : Nat × (Nat → Int32)} {d n k : Nat} {f : Nat → e_C} {Q : t_Q} {lv st : List Value} : TT X d 999 241 lv st f n k Q = TT X d 999 242 lv (.int 3 :: st) f n k Q := tt_st (i := .iconst 3) (len := 1) (by decide +kernel) rfl rfl
set_option maxRecDepth 20000 in
theorem s999_242 {X : Nat × (Nat → Int32)} {d n k : Nat} {f : Nat → e_C} {Q : t_Q} {lv st : List Value} {x y : Int32} : TT X d 999 242 lv (.int y :: .int x :: st) f n k Q = TT X d 999 243 lv (.int (x + y) :: st) f n k Q := tt_st (i := .iadd) (len := 1) (by decide +kernel) rfl rfl
set_option maxRecDepth 20000 in
theorem s999_243 {X : Nat × (Nat → Int32)} {d n k : Nat} {f : Nat → e_C} {Q : t_Q} {lv st : List Value} {a : Nat} {i : Int32} : TT X d 999 243 lv (.int i :: .ref a :: st) f n k Q = ow (arI (f a)) (fun q => e_in i q.1 = true ∧ TT X d 999 244 lv (.int (q.2 i.toNatClampNeg) :: st) f n k Q) := tt_iald (by decide +kernel)
set_option maxRecDepth 20000 in
theorem s999_244 {X : Nat × (Nat → Int32)} {d n k : Nat} {f : Nat → e_C} {Q : t_Q} {a1 a2 a3 : Value} {st : List Value} {x : Nat} : TT X d 999 244 [.ref x, a1, a2, a3] st f n k Q = TT X d 999 245 [.ref x, a1, a2, a3] (.ref x :: st) f n k Q := tt_st (i := .aload_n 0) (len := 1) (by decide +kernel) rfl rfl
set_option maxRecDepth 20000 in
theorem s999_245 {X : Nat × (Nat → Int32)} {d n k : Nat} {f : Nat → e_C} {Q : t_Q} {a0 a1 a2 : Value} {st : List Value} {x : Int32} : TT X d 999 245 [a0, a1, a2, .int x] st f n k Q = TT X d 999 246 [a0, a1, a2, .int x] (.int x :: st) f n k Q := tt_st (i := .iload_n 3) (len := 1) (by decide +kernel) rfl rfl
set_option maxRecDepth 20000 in
theorem s999_246 {X : Nat × (Nat → Int32)} {d n k : Nat} {f : Nat → e_C} {Q : t_Q} {lv st : List Value} : TT X d 999 246 lv st f n k Q = TT X d 999 247 lv (.int 4 :: st) f n k Q := tt_st (i := .iconst 4) (len := 1) (by decide +kernel) rfl rfl
set_option maxRecDepth 20000 in
theorem s999_247 {X : Nat × (Nat → Int32)} {d n k : Nat} {f : Nat → e_C} {Q : t_Q} {lv st : List Value} {x y : Int32} : TT X d 999 247 lv (.int y :: .int x :: st) f n k Q = TT X d 999 248 lv (.int (x + y) :: st) f n k Q := tt_st (i := .iadd) (len := 1) (by decide +kernel) rfl rfl
set_option maxRecDepth 20000 in
theorem s999_248 {X : Nat × (Nat → Int32)} {d n k : Nat} {f : Nat → e_C} {Q : t_Q} {lv st : List Value} {a : Nat} {i : Int32} : TT X d 999 248 lv (.int i :: .ref a :: st) f n k Q = ow (arI (f a)) (fun q => e_in i q.1 = true ∧ TT X d 999 249 lv (.int (q.2 i.toNatClampNeg) :: st) f n k Q) := tt_iald (by decide +kernel)
set_option maxRecDepth 20000 in
theorem s999_249 {X : Nat × (Nat → Int32)} {d n k : Nat} {f : Nat → e_C} {Q : t_Q} {a1 a2 a3 : Value} {st : List Value} {x : Nat} : TT X d 999 249 [.ref x, a1, a2, a3] st f n k Q = TT X d 999 250 [.ref x, a1, a2, a3] (.ref x :: st) f n k Q := tt_st (i := .aload_n 0) (len := 1) (by decide +kernel) rfl rfl
set_option maxRecDepth 20000 in
theorem s999_250 {X : Nat × (Nat → Int32)} {d n k : Nat} {f : Nat → e_C} {Q : t_Q} {a0 a1 a2 : Value} {st : List Value} {x : Int32} : TT X d 999 250 [a0, a1, a2, .int x] st f n k Q = TT X d 999 251 [a0, a1, a2, .int x] (.int x :: st) f n k Q := tt_st (i := .iload_n 3) (len := 1) (by decide +kernel) rfl rfl
set_option maxRecDepth 20000 in
theorem s999_251 {X : Nat × (Nat → Int32)} {d n k : Nat} {f : Nat → e_C} {Q : t_Q} {lv st : List Value} : TT X d 999 251 lv st f n k Q = TT X d 999 252 lv (.int 5 :: st) f n k Q := tt_st (i := .iconst 5) (len := 1) (by decide +kernel) rfl rfl
set_option maxRecDepth 20000 in
theorem s999_252 {X : Nat × (Nat → Int32)} {d n k : Nat} {f : Nat → e_C} {Q : t_Q} {lv st : List Value} {x y : Int32} : TT X d 999 252 lv (.int y :: .int x :: st) f n k Q = TT X d 999 253 lv (.int (x + y) :: st) f n k Q := tt_st (i := .iadd) (len := 1) (by decide +kernel) rfl rfl
set_option maxRecDepth 20000 in
theorem s999_253 {X : Nat × (Nat → Int32)} {d n k : Nat} {f : Nat → e_C} {Q : t_Q} {lv st : List Value} {a : Nat} {i : Int32} : TT X d 999 253 lv (.int i :: .ref a :: st) f n k Q = ow (arI (f a)) (fun q => e_in i q.1 = true ∧ TT X d 999 254 lv (.int (q.2 i.toNatClampNeg) :: st) f n k Q) := tt_iald (by decide +kernel)
set_option maxRecDepth 20000 in
theorem k999_254 {X : Nat × (Nat → Int32)} {d n k : Nat} {f : Nat → e_C} {Q : t_Q} {lv rest : List Value} {a : Nat} {x0 : Int32} {x1 : Int32} {x2 : Int32} {x3 : Int32} {x4 : Int32} (hcl : cno (f a) = some 11) (hcat : e_cat rest ≤ 8) {Q1 : t_Q} (h1 : TT X d 113 0 [.ref a, .int x0, .int x1, .int x2, .int x3, .int x4] [] f n k Q1) (h2 : ∀ f' n' k' v, Q1 f' n' k' v → TT X (d + 1) 999 257 lv (v.toList ++ rest) f' n' k' Q) : TT X (d + 1) 999 254 lv (.int x4 :: .int x3 :: .int x2 :: .int x1 :: .int x0 :: .ref a :: rest) f n k Q := tt_cV (i := .invokevirtual 13) (kind := 1) (idx := 13) (ci := 11) (as := [.int x0, .int x1, .int x2, .int x3, .int x4]) (r := e_M113) (by decide +kernel) rfl rfl rfl (by decide +kernel) rc113 (by decide) rfl rfl (by decide) (Nat.le_of_ble_eq_true rfl) rfl hcl hcat h1 h2
set_option maxRecDepth 20000 in
theorem p999_254 {X : Nat × (Nat → Int32)} {d n k : Nat} {f : Nat → e_C} {Q : t_Q} {lv rest : List Value} {a : Nat} {x0 : Int32} {x1 : Int32} {x2 : Int32} {x3 : Int32} {x4 : Int32} (hcl : cno (f a) = some 11) (hcat : e_cat rest ≤ 8) {v : Option Value} (h1 : PU X d 113 [.ref a, .int x0, .int x1, .int x2, .int x3, .int x4] f n k v) : TT X (d + 1) 999 254 lv (.int x4 :: .int x3 :: .int x2 :: .int x1 :: .int x0 :: .ref a :: rest) f n k Q = TT X (d + 1) 999 257 lv (v.toList ++ rest) f n k Q := tt_pV (i := .invokevirtual 13) (kind := 1) (idx := 13) (ci := 11) (as := [.int x0, .int x1, .int x2, .int x3, .int x4]) (r := e_M113) (by decide +kernel) rfl rfl rfl (by decide +kernel) rc113 (by decide) rfl rfl (by decide) (Nat.le_of_ble_eq_true rfl) rfl hcl hcat h1
set_option maxRecDepth 20000 in
theorem s999_257 {X : Nat × (Nat → Int32)} {d n k : Nat} {f : Nat → e_C} {Q : t_Q} {a0 a1 a3 : Value} {st : List Value} {x : Nat} : TT X d 999 257 [a0, a1, .ref x, a3] st f n k Q = TT X d 999 258 [a0, a1, .ref x, a3] (.ref x :: st) f n k Q := tt_st (i := .aload_n 2) (len := 1) (by decide +kernel) rfl rfl
set_option maxRecDepth 20000 in
theorem s999_258 {X : Nat × (Nat → Int32)} {d n k : Nat} {f : Nat → e_C} {Q : t_Q} {a1 a2 a3 : Value} {st : List Value} {x : Nat} : TT X d 999 258 [.ref x, a1, a2, a3] st f n k Q = TT X d 999 259 [.ref x, a1, a2, a3] (.ref x :: st) f n k Q := tt_st (i := .aload_n 0) (len := 1) (by decide +kernel) rfl rfl
set_option maxRecDepth 20000 in
theorem s999_259 {X : Nat × (Nat → Int32)} {d n k : Nat} {f : Nat → e_C} {Q : t_Q} {a0 a1 a2 : Value} {st : List Value} {x : Int32} : TT X d 999 259 [a0, a1, a2, .int x] st f n k Q = TT X d 999 260 [a0, a1, a2, .int x] (.int x :: st) f n k Q := tt_st (i := .iload_n 3) (len := 1) (by decide +kernel) rfl rfl
set_option maxRecDepth 20000 in
theorem s999_260 {X : Nat × (Nat → Int32)} {d n k : Nat} {f : Nat → e_C} {Q : t_Q} {lv st : List Value} : TT X d 999 260 lv st f n k Q = TT X d 999 261 lv (.int 1 :: st) f n k Q := tt_st (i := .iconst 1) (len := 1) (by decide +kernel) rfl rfl
set_option maxRecDepth 20000 in
theorem s999_261 {X : Nat × (Nat → Int32)} {d n k : Nat} {f : Nat → e_C} {Q : t_Q} {lv st : List Value} {x y : Int32} : TT X d 999 261 lv (.int y :: .int x :: st) f n k Q = TT X d 999 262 lv (.int (x + y) :: st) f n k Q := tt_st (i := .iadd) (len := 1) (by decide +kernel) rfl rfl
set_option maxRecDepth 20000 in
theorem s999_262 {X : Nat × (Nat → Int32)} {d n k : Nat} {f : Nat → e_C} {Q : t_Q} {lv st : List Value} {a : Nat} {i : Int32} : TT X d 999 262 lv (.int i :: .ref a :: st) f n k Q = ow (arI (f a)) (fun q => e_in i q.1 = true ∧ TT X d 999 263 lv (.int (q.2 i.toNatClampNeg) :: st) f n k Q) := tt_iald (by decide +kernel)
set_option maxRecDepth 20000 in
theorem s999_263 {X : Nat × (Nat → Int32)} {d n k : Nat} {f : Nat → e_C} {Q : t_Q} {a1 a2 a3 : Value} {st : List Value} {x : Nat} : TT X d 999 263 [.ref x, a1, a2, a3] st f n k Q = TT X d 999 264 [.ref x, a1, a2, a3] (.ref x :: st) f n k Q := tt_st (i := .aload_n 0) (len := 1) (by decide +kernel) rfl rfl
set_option maxRecDepth 20000 in
theorem s999_264 {X : Nat × (Nat → Int32)} {d n k : Nat} {f : Nat → e_C} {Q : t_Q} {a0 a1 a2 : Value} {st : List Value} {x : Int32} : TT X d 999 264 [a0, a1, a2, .int x] st f n k Q = TT X d 999 265 [a0, a1, a2, .int x] (.int x :: st) f n k Q := tt_st (i := .iload_n 3) (len := 1) (by decide +kernel) rfl rfl
set_option maxRecDepth 20000 in
theorem s999_265 {X : Nat × (Nat → Int32)} {d n k : Nat} {f : Nat → e_C} {Q : t_Q} {lv st : List Value} : TT X d 999 265 lv st f n k Q = TT X d 999 266 lv (.int 2 :: st) f n k Q := tt_st (i := .iconst 2) (len := 1) (by decide +kernel) rfl rfl
set_option maxRecDepth 20000 in
theorem s999_266 {X : Nat × (Nat → Int32)} {d n k : Nat} {f : Nat → e_C} {Q : t_Q} {lv st : List Value} {x y : Int32} : TT X d 999 266 lv (.int y :: .int x :: st) f n k Q = TT X d 999 267 lv (.int (x + y) :: st) f n k Q := tt_st (i := .iadd) (len := 1) (by decide +kernel) rfl rfl
set_option maxRecDepth 20000 in
theorem s999_267 {X : Nat × (Nat → Int32)} {d n k : Nat} {f : Nat → e_C} {Q : t_Q} {lv st : List Value} {a : Nat} {i : Int32} : TT X d 999 267 lv (.int i :: .ref a :: st) f n k Q = ow (arI (f a)) (fun q => e_in i q.1 = true ∧ TT X d 999 268 lv (.int (q.2 i.toNatClampNeg) :: st) f n k Q) := tt_iald (by decide +kernel)
set_option maxRecDepth 20000 in
theorem s999_268 {X : Nat × (Nat → Int32)} {d n k : Nat} {f : Nat → e_C} {Q : t_Q} {a1 a2 a3 : Value} {st : List Value} {x : Nat} : TT X d 999 268 [.ref x, a1, a2, a3] st f n k Q = TT X d 999 269 [.ref x, a1, a2, a3] (.ref x :: st) f n k Q := tt_st (i := .aload_n 0) (len := 1) (by decide +kernel) rfl rfl
set_option maxRecDepth 20000 in
theorem s999_269 {X : Nat × (Nat → Int32)} {d n k : Nat} {f : Nat → e_C} {Q : t_Q} {a0 a1 a2 : Value} {st : List Value} {x : Int32} : TT X d 999 269 [a0, a1, a2, .int x] st f n k Q = TT X d 999 270 [a0, a1, a2, .int x] (.int x :: st) f n k Q := tt_st (i := .iload_n 3) (len := 1) (by decide +kernel) rfl rfl
set_option maxRecDepth 20000 in
theorem s999_270 {X : Nat × (Nat → Int32)} {d n k : Nat} {f : Nat → e_C} {Q : t_Q} {lv st : List Value} : TT X d 999 270 lv st f n k Q = TT X d 999 271 lv (.int 3 :: st) f n k Q := tt_st (i := .iconst 3) (len := 1) (by decide +kernel) rfl rfl
set_option maxRecDepth 20000 in
theorem s999_271 {X : Nat × (Nat → Int32)} {d n k : Nat} {f : Nat → e_C} {Q : t_Q} {lv st : List Value} {x y : Int32} : TT X d 999 271 lv (.int y :: .int x :: st) f n k Q = TT X d 999 272 lv (.int (x + y) :: st) f n k Q := tt_st (i := .iadd) (len := 1) (by decide +kernel) rfl rfl
set_option maxRecDepth 20000 in
theorem s999_272 {X : Nat × (Nat → Int32)} {d n k : Nat} {f : Nat → e_C} {Q : t_Q} {lv st : List Value} {a : Nat} {i : Int32} : TT X d 999 272 lv (.int i :: .ref a :: st) f n k Q = ow (arI (f a)) (fun q => e_in i q.1 = true ∧ TT X d 999 273 lv (.int (q.2 i.toNatClampNeg) :: st) f n k Q) := tt_iald (by decide +kernel)
set_option maxRecDepth 20000 in
theorem s999_273 {X : Nat × (Nat → Int32)} {d n k : Nat} {f : Nat → e_C} {Q : t_Q} {a1 a2 a3 : Value} {st : List Value} {x : Nat} : TT X d 999 273 [.ref x, a1, a2, a3] st f n k Q = TT X d 999 274 [.ref x, a1, a2, a3] (.ref x :: st) f n k Q := tt_st (i := .aload_n 0) (len := 1) (by decide +kernel) rfl rfl
set_option maxRecDepth 20000 in
theorem s999_274 {X : Nat × (Nat → Int32)} {d n k : Nat} {f : Nat → e_C} {Q : t_Q} {a0 a1 a2 : Value} {st : List Value} {x : Int32} : TT X d 999 274 [a0, a1, a2, .int x] st f n k Q = TT X d 999 275 [a0, a1, a2, .int x] (.int x :: st) f n k Q := tt_st (i := .iload_n 3) (len := 1) (by decide +kernel) rfl rfl
set_option maxRecDepth 20000 in
theorem s999_275 {X : Nat × (Nat → Int32)} {d n k : Nat} {f : Nat → e_C} {Q : t_Q} {lv st : List Value} : TT X d 999 275 lv st f n k Q = TT X d 999 276 lv (.int 4 :: st) f n k Q := tt_st (i := .iconst 4) (len := 1) (by decide +kernel) rfl rfl
set_option maxRecDepth 20000 in
theorem s999_276 {X : Nat × (Nat → Int32)} {d n k : Nat} {f : Nat → e_C} {Q : t_Q} {lv st : List Value} {x y : Int32} : TT X d 999 276 lv (.int y :: .int x :: st) f n k Q = TT X d 999 277 lv (.int (x + y) :: st) f n k Q := tt_st (i := .iadd) (len := 1) (by decide +kernel) rfl rfl
set_option maxRecDepth 20000 in
theorem s999_277 {X : Nat × (Nat → Int32)} {d n k : Nat} {f : Nat → e_C} {Q : t_Q} {lv st : List Value} {a : Nat} {i : Int32} : TT X d 999 277 lv (.int i :: .ref a :: st) f n k Q = ow (arI (f a)) (fun q => e_in i q.1 = true ∧ TT X d 999 278 lv (.int (q.2 i.toNatClampNeg) :: st) f n k Q) := tt_iald (by decide +kernel)
set_option maxRecDepth 20000 in
theorem s999_278 {X : Nat × (Nat → Int32)} {d n k : Nat} {f : Nat → e_C} {Q : t_Q} {a1 a2 a3 : Value} {st : List Value} {x : Nat} : TT X d 999 278 [.ref x, a1, a2, a3] st f n k Q = TT X d 999 279 [.ref x, a1, a2, a3] (.ref x :: st) f n k Q := tt_st (i := .aload_n 0) (len := 1) (by decide +kernel) rfl rfl
set_option maxRecDepth 20000 in
theorem s999_279 {X : Nat × (Nat → Int32)} {d n k : Nat} {f : Nat → e_C} {Q : t_Q} {a0 a1 a2 : Value} {st : List Value} {x : Int32} : TT X d 999 279 [a0, a1, a2, .int x] st f n k Q = TT X d 999 280 [a0, a1, a2, .int x] (.int x :: st) f n k Q := tt_st (i := .iload_n 3) (len := 1) (by decide +kernel) rfl rfl
set_option maxRecDepth 20000 in
theorem s999_280 {X : Nat × (Nat → Int32)} {d n k : Nat} {f : Nat → e_C} {Q : t_Q} {lv st : List Value} : TT X d 999 280 lv st f n k Q = TT X d 999 281 lv (.int 5 :: st) f n k Q := tt_st (i := .iconst 5) (len := 1) (by decide +kernel) rfl rfl
set_option maxRecDepth 20000 in
theorem s999_281 {X : Nat × (Nat → Int32)} {d n k : Nat} {f : Nat → e_C} {Q : t_Q} {lv st : List Value} {x y : Int32} : TT X d 999 281 lv (.int y :: .int x :: st) f n k Q = TT X d 999 282 lv (.int (x + y) :: st) f n k Q := tt_st (i := .iadd) (len := 1) (by decide +kernel) rfl rfl
set_option maxRecDepth 20000 in
theorem s999_282 {X : Nat × (Nat → Int32)} {d n k : Nat} {f : Nat → e_C} {Q : t_Q} {lv st : List Value} {a : Nat} {i : Int32} : TT X d 999 282 lv (.int i :: .ref a :: st) f n k Q = ow (arI (f a)) (fun q => e_in i q.1 = true ∧ TT X d 999 283 lv (.int (q.2 i.toNatClampNeg) :: st) f n k Q) := tt_iald (by decide +kernel)
set_option maxRecDepth 20000 in
theorem k999_283 {X : Nat × (Nat → Int32)} {d n k : Nat} {f : Nat → e_C} {Q : t_Q} {lv rest : List Value} {a : Nat} {x0 : Int32} {x1 : Int32} {x2 : Int32} {x3 : Int32} {x4 : Int32} (hcl : cno (f a) = some 12) (hcat : e_cat rest ≤ 8) {Q1 : t_Q} (h1 : TT X d 172 0 [.ref a, .int x0, .int x1, .int x2, .int x3, .int x4, .float 0, .float 0] [] f n k Q1) (h2 : ∀ f' n' k' v, Q1 f' n' k' v → TT X (d + 1) 999 286 lv (v.toList ++ rest) f' n' k' Q) : TT X (d + 1) 999 283 lv (.int x4 :: .int x3 :: .int x2 :: .int x1 :: .int x0 :: .ref a :: rest) f n k Q := tt_cV (i := .invokevirtual 17) (kind := 1) (idx := 17) (ci := 12) (as := [.int x0, .int x1, .int x2, .int x3, .int x4]) (r := e_M172) (by decide +kernel) rfl rfl rfl (by decide +kernel) rc172 (by decide) rfl rfl (by decide) (Nat.le_of_ble_eq_true rfl) rfl hcl hcat h1 h2
set_option maxRecDepth 20000 in
theorem p999_283 {X : Nat × (Nat → Int32)} {d n k : Nat} {f : Nat → e_C} {Q : t_Q} {lv rest : List Value} {a : Nat} {x0 : Int32} {x1 : Int32} {x2 : Int32} {x3 : Int32} {x4 : Int32} (hcl : cno (f a) = some 12) (hcat : e_cat rest ≤ 8) {v : Option Value} (h1 : PU X d 172 [.ref a, .int x0, .int x1, .int x2, .int x3, .int x4, .float 0, .float 0] f n k v) : TT X (d + 1) 999 283 lv (.int x4 :: .int x3 :: .int x2 :: .int x1 :: .int x0 :: .ref a :: rest) f n k Q = TT X (d + 1) 999 286 lv (v.toList ++ rest) f n k Q := tt_pV (i := .invokevirtual 17) (kind := 1) (idx := 17) (ci := 12) (as := [.int x0, .int x1, .int x2, .int x3, .int x4]) (r := e_M172) (by decide +kernel) rfl rfl rfl (by decide +kernel) rc172 (by decide) rfl rfl (by decide) (Nat.le_of_ble_eq_true rfl) rfl hcl hcat h1
set_option maxRecDepth 20000 in
theorem s999_286 {X : Nat × (Nat → Int32)} {d n k : Nat} {f : Nat → e_C} {Q : t_Q} {lv st : List Value} {x y : Int32} : TT X d 999 286 lv (.int y :: .int x :: st) f n k Q = if x = y then TT X d 999 1395 lv st f n k Q else TT X d 999 289 lv st f n k Q := tt_if2 (c := .eq) (off := 1109) (by decide +kernel) rfl rfl
set_option maxRecDepth 20000 in
theorem s999_289 {X : Nat × (Nat → Int32)} {d n k : Nat} {f : Nat → e_C} {Q : t_Q} {lv st : List Value} : TT X d 999 289 lv st f n k Q = TT X d 999 290 lv (.int 0 :: st) f n k Q := tt_st (i := .iconst 0) (len := 1) (by decide +kernel) rfl rfl
set_option maxRecDepth 20000 in
theorem s999_290 {X : Nat × (Nat → Int32)} {d n k : Nat} {f : Nat → e_C} {Q : t_Q} {lv : List Value} {v : Int32} : TT X d 999 290 lv [.int v] f n k Q = ((v = 0 ∨ v = 1) ∧ Q f n k (some (.int v))) := tt_reB (by decide +kernel) (by decide +kernel)
set_option maxRecDepth 20000 in
theorem s999_291 {X : Nat × (Nat → Int32)} {d n k : Nat} {f : Nat → e_C} {Q : t_Q} {a0 a2 a3 : Value} {st : List Value} {x : Nat} : TT X d 999 291 [a0, .ref x, a2, a3] st f n k Q = TT X d 999 292 [a0, .ref x, a2, a3] (.ref x :: st) f n k Q := tt_st (i := .aload_n 1) (len := 1) (by decide +kernel) rfl rfl
set_option maxRecDepth 20000 in
theorem s999_292 {X : Nat × (Nat → Int32)} {d n k : Nat} {f : Nat → e_C} {Q : t_Q} {a1 a2 a3 : Value} {st : List Value} {x : Nat} : TT X d 999 292 [.ref x, a1, a2, a3] st f n k Q = TT X d 999 293 [.ref x, a1, a2, a3] (.ref x :: st) f n k Q := tt_st (i := .aload_n 0) (len := 1) (by decide +kernel) rfl rfl
set_option maxRecDepth 20000 in
theorem s999_293 {X : Nat × (Nat → Int32)} {d n k : Nat} {f : Nat → e_C} {Q : t_Q} {a0 a1 a2 : Value} {st : List Value} {x : Int32} : TT X d 999 293 [a0, a1, a2, .int x] st f n k Q = TT X d 999 294 [a0, a1, a2, .int x] (.int x :: st) f n k Q := tt_st (i := .iload_n 3) (len := 1) (by decide +kernel) rfl rfl
set_option maxRecDepth 20000 in
theorem s999_294 {X : Nat × (Nat → Int32)} {d n k : Nat} {f : Nat → e_C} {Q : t_Q} {lv st : List Value} : TT X d 999 294 lv st f n k Q = TT X d 999 295 lv (.int 1 :: st) f n k Q := tt_st (i := .iconst 1) (len := 1) (by decide +kernel) rfl rfl
set_option maxRecDepth 20000 in
theorem s999_295 {X : Nat × (Nat → Int32)} {d n k : Nat} {f : Nat → e_C} {Q : t_Q} {lv st : List Value} {x y : Int32} : TT X d 999 295 lv (.int y :: .int x :: st) f n k Q = TT X d 999 296 lv (.int (x + y) :: st) f n k Q := tt_st (i := .iadd) (len := 1) (by decide +kernel) rfl rfl
set_option maxRecDepth 20000 in
theorem s999_296 {X : Nat × (Nat → Int32)} {d n k : Nat} {f : Nat → e_C} {Q : t_Q} {lv st : List Value} {a : Nat} {i : Int32} : TT X d 999 296 lv (.int i :: .ref a :: st) f n k Q = ow (arI (f a)) (fun q => e_in i q.1 = true ∧ TT X d 999 297 lv (.int (q.2 i.toNatClampNeg) :: st) f n k Q) := tt_iald (by decide +kernel)
set_option maxRecDepth 20000 in
theorem k999_297 {X : Nat × (Nat → Int32)} {d n k : Nat} {f : Nat → e_C} {Q : t_Q} {lv rest : List Value} {a : Nat} {x0 : Int32} (hcl : cno (f a) = some 11) (hcat : e_cat rest ≤ 8) {Q1 : t_Q} (h1 : TT X d 115 0 [.ref a, .int x0, .float 0] [] f n k Q1) (h2 : ∀ f' n' k' v, Q1 f' n' k' v → TT X (d + 1) 999 300 lv (v.toList ++ rest) f' n' k' Q) : TT X (d + 1) 999 297 lv (.int x0 :: .ref a :: rest) f n k Q := tt_cV (i := .invokevirtual 18) (kind := 1) (idx := 18) (ci := 11) (as := [.int x0]) (r := e_M115) (by decide +kernel) rfl rfl rfl (by decide +kernel) rc115 (by decide) rfl rfl (by decide) (Nat.le_of_ble_eq_true rfl) rfl hcl hcat h1 h2
set_option maxRecDepth 20000 in
theorem p999_297 {X : Nat × (Nat → Int32)} {d n k : Nat} {f : Nat → e_C} {Q : t_Q} {lv rest : List Value} {a : Nat} {x0 : Int32} (hcl : cno (f a) = some 11) (hcat : e_cat rest ≤ 8) {v : Option Value} (h1 : PU X d 115 [.ref a, .int x0, .float 0] f n k v) : TT X (d + 1) 999 297 lv (.int x0 :: .ref a :: rest) f n k Q = TT X (d + 1) 999 300 lv (v.toList ++ rest) f n k Q := tt_pV (i := .invokevirtual 18) (kind := 1) (idx := 18) (ci := 11) (as := [.int x0]) (r := e_M115) (by decide +kernel) rfl rfl rfl (by decide +kernel) rc115 (by decide) rfl rfl (by decide) (Nat.le_of_ble_eq_true rfl) rfl hcl hcat h1
set_option maxRecDepth 20000 in
theorem s999_300 {X : Nat × (Nat → Int32)} {d n k : Nat} {f : Nat → e_C} {Q : t_Q} {a0 a1 a3 : Value} {st : List Value} {x : Nat} : TT X d 999 300 [a0, a1, .ref x, a3] st f n k Q = TT X d 999 301 [a0, a1, .ref x, a3] (.ref x :: st) f n k Q := tt_st (i := .aload_n 2) (len := 1) (by decide +kernel) rfl rfl
set_option maxRecDepth 20000 in
theorem s999_301 {X : Nat × (Nat → Int32)} {d n k : Nat} {f : Nat → e_C} {Q : t_Q} {a1 a2 a3 : Value} {st : List Value} {x : Nat} : TT X d 999 301 [.ref x, a1, a2, a3] st f n k Q = TT X d 999 302 [.ref x, a1, a2, a3] (.ref x :: st) f n k Q := tt_st (i := .aload_n 0) (len := 1) (by decide +kernel) rfl rfl
set_option maxRecDepth 20000 in
theorem s999_302 {X : Nat × (Nat → Int32)} {d n k : Nat} {f : Nat → e_C} {Q : t_Q} {a0 a1 a2 : Value} {st : List Value} {x : Int32} : TT X d 999 302 [a0, a1, a2, .int x] st f n k Q = TT X d 999 303 [a0, a1, a2, .int x] (.int x :: st) f n k Q := tt_st (i := .iload_n 3) (len := 1) (by decide +kernel) rfl rfl
set_option maxRecDepth 20000 in
theorem s999_303 {X : Nat × (Nat → Int32)} {d n k : Nat} {f : Nat → e_C} {Q : t_Q} {lv st : List Value} : TT X d 999 303 lv st f n k Q = TT X d 999 304 lv (.int 1 :: st) f n k Q := tt_st (i := .iconst 1) (len := 1) (by decide +kernel) rfl rfl
set_option maxRecDepth 20000 in
theorem s999_304 {X : Nat × (Nat → Int32)} {d n k : Nat} {f : Nat → e_C} {Q : t_Q} {lv st : List Value} {x y : Int32} : TT X d 999 304 lv (.int y :: .int x :: st) f n k Q = TT X d 999 305 lv (.int (x + y) :: st) f n k Q := tt_st (i := .iadd) (len := 1) (by decide +kernel) rfl rfl
set_option maxRecDepth 20000 in
theorem s999_305 {X : Nat × (Nat → Int32)} {d n k : Nat} {f : Nat → e_C} {Q : t_Q} {lv st : List Value} {a : Nat} {i : Int32} : TT X d 999 305 lv (.int i :: .ref a :: st) f n k Q = ow (arI (f a)) (fun q => e_in i q.1 = true ∧ TT X d 999 306 lv (.int (q.2 i.toNatClampNeg) :: st) f n k Q) := tt_iald (by decide +kernel)
set_option maxRecDepth 20000 in
theorem k999_306 {X : Nat × (Nat → Int32)} {d n k : Nat} {f : Nat → e_C} {Q : t_Q} {lv rest : List Value} {a : Nat} {x0 : Int32} (hcl : cno (f a) = some 12) (hcat : e_cat rest ≤ 8) {Q1 : t_Q} (h1 : TT X d 173 0 [.ref a, .int x0, .float 0] [] f n k Q1) (h2 : ∀ f' n' k' v, Q1 f' n' k' v → TT X (d + 1) 999 309 lv (v.toList ++ rest) f' n' k' Q) : TT X (d + 1) 999 306 lv (.int x0 :: .ref a :: rest) f n k Q := tt_cV (i := .invokevirtual 22) (kind := 1) (idx := 22) (ci := 12) (as := [.int x0]) (r := e_M173) (by decide +kernel) rfl rfl rfl (by decide +kernel) rc173 (by decide) rfl rfl (by decide) (Nat.le_of_ble_eq_true rfl) rfl hcl hcat h1 h2
set_option maxRecDepth 20000 in
theorem p999_306 {X : Nat × (Nat → Int32)} {d n k : Nat} {f : Nat → e_C} {Q : t_Q} {lv rest : List Value} {a : Nat} {x0 : Int32} (hcl : cno (f a) = some 12) (hcat : e_cat rest ≤ 8) {v : Option Value} (h1 : PU X d 173 [.ref a, .int x0, .float 0] f n k v) : TT X (d + 1) 999 306 lv (.int x0 :: .ref a :: rest) f n k Q = TT X (d + 1) 999 309 lv (v.toList ++ rest) f n k Q := tt_pV (i := .invokevirtual 22) (kind := 1) (idx := 22) (ci := 12) (as := [.int x0]) (r := e_M173) (by decide +kernel) rfl rfl rfl (by decide +kernel) rc173 (by decide) rfl rfl (by decide) (Nat.le_of_ble_eq_true rfl) rfl hcl hcat h1
set_option maxRecDepth 20000 in
theorem s999_309 {X : Nat × (Nat → Int32)} {d n k : Nat} {f : Nat → e_C} {Q : t_Q} {lv st : List Value} {x y : Int32} : TT X d 999 309 lv (.int y :: .int x :: st) f n k Q = if x = y then TT X d 999 1395 lv st f n k Q else TT X d 999 312 lv st f n k Q := tt_if2 (c := .eq) (off := 1086) (by decide +kernel) rfl rfl
set_option maxRecDepth 20000 in
theorem s999_312 {X : Nat × (Nat → Int32)} {d n k : Nat} {f : Nat → e_C} {Q : t_Q} {lv st : List Value} : TT X d 999 312 lv st f n k Q = TT X d 999 313 lv (.int 0 :: st) f n k Q := tt_st (i := .iconst 0) (len := 1) (by decide +kernel) rfl rfl
set_option maxRecDepth 20000 in
theorem s999_313 {X : Nat × (Nat → Int32)} {d n k : Nat} {f : Nat → e_C} {Q : t_Q} {lv : List Value} {v : Int32} : TT X d 999 313 lv [.int v] f n k Q = ((v = 0 ∨ v = 1) ∧ Q f n k (some (.int v))) := tt_reB (by decide +kernel) (by decide +kernel)
set_option maxRecDepth 20000 in
theorem s999_314 {X : Nat × (Nat → Int32)} {d n k : Nat} {f : Nat → e_C} {Q : t_Q} {a0 a2 a3 : Value} {st : List Value} {x : Nat} : TT X d 999 314 [a0, .ref x, a2, a3] st f n k Q = TT X d 999 315 [a0, .ref x, a2, a3] (.ref x :: st) f n k Q := tt_st (i := .aload_n 1) (len := 1) (by decide +kernel) rfl rfl
set_option maxRecDepth 20000 in
theorem s999_315 {X : Nat × (Nat → Int32)} {d n k : Nat} {f : Nat → e_C} {Q : t_Q} {a1 a2 a3 : Value} {st : List Value} {x : Nat} : TT X d 999 315 [.ref x, a1, a2, a3] st f n k Q = TT X d 999 316 [.ref x, a1, a2, a3] (.ref x :: st) f n k Q := tt_st (i := .aload_n 0) (len := 1) (by decide +kernel) rfl rfl
set_option maxRecDepth 20000 in
theorem s999_316 {X : Nat × (Nat → Int32)} {d n k : Nat} {f : Nat → e_C} {Q : t_Q} {a0 a1 a2 : Value} {st : List Value} {x : Int32} : TT X d 999 316 [a0, a1, a2, .int x] st f n k Q = TT X d 999 317 [a0, a1, a2, .int x] (.int x :: st) f n k Q := tt_st (i := .iload_n 3) (len := 1) (by decide +kernel) rfl rfl
set_option maxRecDepth 20000 in
theorem s999_317 {X : Nat × (Nat → Int32)} {d n k : Nat} {f : Nat → e_C} {Q : t_Q} {lv st : List Value} : TT X d 999 317 lv st f n k Q = TT X d 999 318 lv (.int 1 :: st) f n k Q := tt_st (i := .iconst 1) (len := 1) (by decide +kernel) rfl rfl
set_option maxRecDepth 20000 in
theorem s999_318 {X : Nat × (Nat → Int32)} {d n k : Nat} {f : Nat → e_C} {Q : t_Q} {lv st : List Value} {x y : Int32} : TT X d 999 318 lv (.int y :: .int x :: st) f n k Q = TT X d 999 319 lv (.int (x + y) :: st) f n k Q := tt_st (i := .iadd) (len := 1) (by decide +kernel) rfl rfl
set_option maxRecDepth 20000 in
theorem s999_319 {X : Nat × (Nat → Int32)} {d n k : Nat} {f : Nat → e_C} {Q : t_Q} {lv st : List Value} {a : Nat} {i : Int32} : TT X d 999 319 lv (.int i :: .ref a :: st) f n k Q = ow (arI (f a)) (fun q => e_in i q.1 = true ∧ TT X d 999 320 lv (.int (q.2 i.toNatClampNeg) :: st) f n k Q) := tt_iald (by decide +kernel)
set_option maxRecDepth 20000 in
theorem k999_320 {X : Nat × (Nat → Int32)} {d n k : Nat} {f : Nat → e_C} {Q : t_Q} {lv rest : List Value} {a : Nat} {x0 : Int32} (hcl : cno (f a) = some 11) (hcat : e_cat rest ≤ 8) {Q1 : t_Q} (h1 : TT X d 116 0 [.ref a, .int x0] [] f n k Q1) (h2 : ∀ f' n' k' v, Q1 f' n' k' v → TT X (d + 1) 999 323 lv (v.toList ++ rest) f' n' k' Q) : TT X (d + 1) 999 320 lv (.int x0 :: .ref a :: rest) f n k Q := tt_cV (i := .invokevirtual 23) (kind := 1) (idx := 23) (ci := 11) (as := [.int x0]) (r := e_M116) (by decide +kernel) rfl rfl rfl (by decide +kernel) rc116 (by decide) rfl rfl (by decide) (Nat.le_of_ble_eq_true rfl) rfl hcl hcat h1 h2
set_option maxRecDepth 20000 in
theorem p999_320 {X : Nat × (Nat → Int32)} {d n k : Nat} {f : Nat → e_C} {Q : t_Q} {lv rest : List Value} {a : Nat} {x0 : Int32} (hcl : cno (f a) = some 11) (hcat : e_cat rest ≤ 8) {v : Option Value} (h1 : PU X d 116 [.ref a, .int x0] f n k v) : TT X (d + 1) 999 320 lv (.int x0 :: .ref a :: rest) f n k Q = TT X (d + 1) 999 323 lv (v.toList ++ rest) f n k Q := tt_pV (i := .invokevirtual 23) (kind := 1) (idx := 23) (ci := 11) (as := [.int x0]) (r := e_M116) (by decide +kernel) rfl rfl rfl (by decide +kernel) rc116 (by decide) rfl rfl (by decide) (Nat.le_of_ble_eq_true rfl) rfl hcl hcat h1
set_option maxRecDepth 20000 in
theorem s999_323 {X : Nat × (Nat → Int32)} {d n k : Nat} {f : Nat → e_C} {Q : t_Q} {a0 a1 a3 : Value} {st : List Value} {x : Nat} : TT X d 999 323 [a0, a1, .ref x, a3] st f n k Q = TT X d 999 324 [a0, a1, .ref x, a3] (.ref x :: st) f n k Q := tt_st (i := .aload_n 2) (len := 1) (by decide +kernel) rfl rfl
set_option maxRecDepth 20000 in
theorem s999_324 {X : Nat × (Nat → Int32)} {d n k : Nat} {f : Nat → e_C} {Q : t_Q} {a1 a2 a3 : Value} {st : List Value} {x : Nat} : TT X d 999 324 [.ref x, a1, a2, a3] st f n k Q = TT X d 999 325 [.ref x, a1, a2, a3] (.ref x :: st) f n k Q := tt_st (i := .aload_n 0) (len := 1) (by decide +kernel) rfl rfl
set_option maxRecDepth 20000 in
theorem s999_325 {X : Nat × (Nat → Int32)} {d n k : Nat} {f : Nat → e_C} {Q : t_Q} {a0 a1 a2 : Value} {st : List Value} {x : Int32} : TT X d 999 325 [a0, a1, a2, .int x] st f n k Q = TT X d 999 326 [a0, a1, a2, .int x] (.int x :: st) f n k Q := tt_st (i := .iload_n 3) (len := 1) (by decide +kernel) rfl rfl
set_option maxRecDepth 20000 in
theorem s999_326 {X : Nat × (Nat → Int32)} {d n k : Nat} {f : Nat → e_C} {Q : t_Q} {lv st : List Value} : TT X d 999 326 lv st f n k Q = TT X d 999 327 lv (.int 1 :: st) f n k Q := tt_st (i := .iconst 1) (len := 1) (by decide +kernel) rfl rfl
set_option maxRecDepth 20000 in
theorem s999_327 {X : Nat × (Nat → Int32)} {d n k : Nat} {f : Nat → e_C} {Q : t_Q} {lv st : List Value} {x y : Int32} : TT X d 999 327 lv (.int y :: .int x :: st) f n k Q = TT X d 999 328 lv (.int (x + y) :: st) f n k Q := tt_st (i := .iadd) (len := 1) (by decide +kernel) rfl rfl
set_option maxRecDepth 20000 in
theorem s999_328 {X : Nat × (Nat → Int32)} {d n k : Nat} {f : Nat → e_C} {Q : t_Q} {lv st : List Value} {a : Nat} {i : Int32} : TT X d 999 328 lv (.int i :: .ref a :: st) f n k Q = ow (arI (f a)) (fun q => e_in i q.1 = true ∧ TT X d 999 329 lv (.int (q.2 i.toNatClampNeg) :: st) f n k Q) := tt_iald (by decide +kernel)
set_option maxRecDepth 20000 in
theorem k999_329 {X : Nat × (Nat → Int32)} {d n k : Nat} {f : Nat → e_C} {Q : t_Q} {lv rest : List Value} {a : Nat} {x0 : Int32} (hcl : cno (f a) = some 12) (hcat : e_cat rest ≤ 8) {Q1 : t_Q} (h1 : TT X d 212 0 [.ref a, .int x0] [] f n k Q1) (h2 : ∀ f' n' k' v, Q1 f' n' k' v → TT X (d + 1) 999 332 lv (v.toList ++ rest) f' n' k' Q) : TT X (d + 1) 999 329 lv (.int x0 :: .ref a :: rest) f n k Q := tt_cV (i := .invokevirtual 26) (kind := 1) (idx := 26) (ci := 12) (as := [.int x0]) (r := e_M212) (by decide +kernel) rfl rfl rfl (by decide +kernel) rc212 (by decide) rfl rfl (by decide) (Nat.le_of_ble_eq_true rfl) rfl hcl hcat h1 h2
set_option maxRecDepth 20000 in
theorem p999_329 {X : Nat × (Nat → Int32)} {d n k : Nat} {f : Nat → e_C} {Q : t_Q} {lv rest : List Value} {a : Nat} {x0 : Int32} (hcl : cno (f a) = some 12) (hcat : e_cat rest ≤ 8) {v : Option Value} (h1 : PU X d 212 [.ref a, .int x0] f n k v) : TT X (d + 1) 999 329 lv (.int x0 :: .ref a :: rest) f n k Q = TT X (d + 1) 999 332 lv (v.toList ++ rest) f n k Q := tt_pV (i := .invokevirtual 26) (kind := 1) (idx := 26) (ci := 12) (as := [.int x0]) (r := e_M212) (by decide +kernel) rfl rfl rfl (by decide +kernel) rc212 (by decide) rfl rfl (by decide) (Nat.le_of_ble_eq_true rfl) rfl hcl hcat h1
set_option maxRecDepth 20000 in
theorem s999_332 {X : Nat × (Nat → Int32)} {d n k : Nat} {f : Nat → e_C} {Q : t_Q} {lv st : List Value} {x y : Int32} : TT X d 999 332 lv (.int y :: .int x :: st) f n k Q = if x = y then TT X d 999 1395 lv st f n k Q else TT X d 999 335 lv st f n k Q := tt_if2 (c := .eq) (off := 1063) (by decide +kernel) rfl rfl
set_option maxRecDepth 20000 in
theorem s999_335 {X : Nat × (Nat → Int32)} {d n k : Nat} {f : Nat → e_C} {Q : t_Q} {lv st : List Value} : TT X d 999 335 lv st f n k Q = TT X d 999 336 lv (.int 0 :: st) f n k Q := tt_st (i := .iconst 0) (len := 1) (by decide +kernel) rfl rfl
set_option maxRecDepth 20000 in
theorem s999_336 {X : Nat × (Nat → Int32)} {d n k : Nat} {f : Nat → e_C} {Q : t_Q} {lv : List Value} {v : Int32} : TT X d 999 336 lv [.int v] f n k Q = ((v = 0 ∨ v = 1) ∧ Q f n k (some (.int v))) := tt_reB (by decide +kernel) (by decide +kernel)
set_option maxRecDepth 20000 in
theorem s999_337 {X : Nat × (Nat → Int32)} {d n k : Nat} {f : Nat → e_C} {Q : t_Q} {a0 a2 a3 : Value} {st : List Value} {x : Nat} : TT X d 999 337 [a0, .ref x, a2, a3] st f n k Q = TT X d 999 338 [a0, .ref x, a2, a3] (.ref x :: st) f n k Q := tt_st (i := .aload_n 1) (len := 1) (by decide +kernel) rfl rfl
set_option maxRecDepth 20000 in
theorem s999_338 {X : Nat × (Nat → Int32)} {d n k : Nat} {f : Nat → e_C} {Q : t_Q} {a1 a2 a3 : Value} {st : List Value} {x : Nat} : TT X d 999 338 [.ref x, a1, a2, a3] st f n k Q = TT X d 999 339 [.ref x, a1, a2, a3] (.ref x :: st) f n k Q := tt_st (i := .aload_n 0) (len := 1) (by decide +kernel) rfl rfl
set_option maxRecDepth 20000 in
theorem s999_339 {X : Nat × (Nat → Int32)} {d n k : Nat} {f : Nat → e_C} {Q : t_Q} {a0 a1 a2 : Value} {st : List Value} {x : Int32} : TT X d 999 339 [a0, a1, a2, .int x] st f n k Q = TT X d 999 340 [a0, a1, a2, .int x] (.int x :: st) f n k Q := tt_st (i := .iload_n 3) (len := 1) (by decide +kernel) rfl rfl
set_option maxRecDepth 20000 in
theorem s999_340 {X : Nat × (Nat → Int32)} {d n k : Nat} {f : Nat → e_C} {Q : t_Q} {lv st : List Value} : TT X d 999 340 lv st f n k Q = TT X d 999 341 lv (.int 1 :: st) f n k Q := tt_st (i := .iconst 1) (len := 1) (by decide +kernel) rfl rfl
set_option maxRecDepth 20000 in
theorem s999_341 {X : Nat × (Nat → Int32)} {d n k : Nat} {f : Nat → e_C} {Q : t_Q} {lv st : List Value} {x y : Int32} : TT X d 999 341 lv (.int y :: .int x :: st) f n k Q = TT X d 999 342 lv (.int (x + y) :: st) f n k Q := tt_st (i := .iadd) (len := 1) (by decide +kernel) rfl rfl
set_option maxRecDepth 20000 in
theorem s999_342 {X : Nat × (Nat → Int32)} {d n k : Nat} {f : Nat → e_C} {Q : t_Q} {lv st : List Value} {a : Nat} {i : Int32} : TT X d 999 342 lv (.int i :: .ref a :: st) f n k Q = ow (arI (f a)) (fun q => e_in i q.1 = true ∧ TT X d 999 343 lv (.int (q.2 i.toNatClampNeg) :: st) f n k Q) := tt_iald (by decide +kernel)
set_option maxRecDepth 20000 in
theorem s999_343 {X : Nat × (Nat → Int32)} {d n k : Nat} {f : Nat → e_C} {Q : t_Q} {a1 a2 a3 : Value} {st : List Value} {x : Nat} : TT X d 999 343 [.ref x, a1, a2, a3] st f n k Q = TT X d 999 344 [.ref x, a1, a2, a3] (.ref x :: st) f n k Q := tt_st (i := .aload_n 0) (len := 1) (by decide +kernel) rfl rfl
set_option maxRecDepth 20000 in
theorem s999_344 {X : Nat × (Nat → Int32)} {d n k : Nat} {f : Nat → e_C} {Q : t_Q} {a0 a1 a2 : Value} {st : List Value} {x : Int32} : TT X d 999 344 [a0, a1, a2, .int x] st f n k Q = TT X d 999 345 [a0, a1, a2, .int x] (.int x :: st) f n k Q := tt_st (i := .iload_n 3) (len := 1) (by decide +kernel) rfl rfl
set_option maxRecDepth 20000 in
theorem s999_345 {X : Nat × (Nat → Int32)} {d n k : Nat} {f : Nat → e_C} {Q : t_Q} {lv st : List Value} : TT X d 999 345 lv st f n k Q = TT X d 999 346 lv (.int 2 :: st) f n k Q := tt_st (i := .iconst 2) (len := 1) (by decide +kernel) rfl rfl
set_option maxRecDepth 20000 in
theorem s999_346 {X : Nat × (Nat → Int32)} {d n k : Nat} {f : Nat → e_C} {Q : t_Q} {lv st : List Value} {x y : Int32} : TT X d 999 346 lv (.int y :: .int x :: st) f n k Q = TT X d 999 347 lv (.int (x + y) :: st) f n k Q := tt_st (i := .iadd) (len := 1) (by decide +kernel) rfl rfl
set_option maxRecDepth 20000 in
theorem s999_347 {X : Nat × (Nat → Int32)} {d n k : Nat} {f : Nat → e_C} {Q : t_Q} {lv st : List Value} {a : Nat} {i : Int32} : TT X d 999 347 lv (.int i :: .ref a :: st) f n k Q = ow (arI (f a)) (fun q => e_in i q.1 = true ∧ TT X d 999 348 lv (.int (q.2 i.toNatClampNeg) :: st) f n k Q) := tt_iald (by decide +kernel)
set_option maxRecDepth 20000 in
theorem k999_348 {X : Nat × (Nat → Int32)} {d n k : Nat} {f : Nat → e_C} {Q : t_Q} {lv rest : List Value} {a : Nat} {x0 : Int32} {x1 : Int32} (hcl : cno (f a) = some 11) (hcat : e_cat rest ≤ 8) {Q1 : t_Q} (h1 : TT X d 117 0 [.ref a, .int x0, .int x1] [] f n k Q1) (h2 : ∀ f' n' k' v, Q1 f' n' k' v → TT X (d + 1) 999 351 lv (v.toList ++ rest) f' n' k' Q) : TT X (d + 1) 999 348 lv (.int x1 :: .int x0 :: .ref a :: rest) f n k Q := tt_cV (i := .invokevirtual 27) (kind := 1) (idx := 27) (ci := 11) (as := [.int x0, .int x1]) (r := e_M117) (by decide +kernel) rfl rfl rfl (by decide +kernel) rc117 (by decide) rfl rfl (by decide) (Nat.le_of_ble_eq_true rfl) rfl hcl hcat h1 h2
set_option maxRecDepth 20000 in
theorem p999_348 {X : Nat × (Nat → Int32)} {d n k : Nat} {f : Nat → e_C} {Q : t_Q} {lv rest : List Value} {a : Nat} {x0 : Int32} {x1 : Int32} (hcl : cno (f a) = some 11) (hcat : e_cat rest ≤ 8) {v : Option Value} (h1 : PU X d 117 [.ref a, .int x0, .int x1] f n k v) : TT X (d + 1) 999 348 lv (.int x1 :: .int x0 :: .ref a :: rest) f n k Q = TT X (d + 1) 999 351 lv (v.toList ++ rest) f n k Q := tt_pV (i := .invokevirtual 27) (kind := 1) (idx := 27) (ci := 11) (as := [.int x0, .int x1]) (r := e_M117) (by decide +kernel) rfl rfl rfl (by decide +kernel) rc117 (by decide) rfl rfl (by decide) (Nat.le_of_ble_eq_true rfl) rfl hcl hcat h1
set_option maxRecDepth 20000 in
theorem s999_351 {X : Nat × (Nat → Int32)} {d n k : Nat} {f : Nat → e_C} {Q : t_Q} {a0 a1 a3 : Value} {st : List Value} {x : Nat} : TT X d 999 351 [a0, a1, .ref x, a3] st f n k Q = TT X d 999 352 [a0, a1, .ref x, a3] (.ref x :: st) f n k Q := tt_st (i := .aload_n 2) (len := 1) (by decide +kernel) rfl rfl
set_option maxRecDepth 20000 in
theorem s999_352 {X : Nat × (Nat → Int32)} {d n k : Nat} {f : Nat → e_C} {Q : t_Q} {a1 a2 a3 : Value} {st : List Value} {x : Nat} : TT X d 999 352 [.ref x, a1, a2, a3] st f n k Q = TT X d 999 353 [.ref x, a1, a2, a3] (.ref x :: st) f n k Q := tt_st (i := .aload_n 0) (len := 1) (by decide +kernel) rfl rfl
set_option maxRecDepth 20000 in
theorem s999_353 {X : Nat × (Nat → Int32)} {d n k : Nat} {f : Nat → e_C} {Q : t_Q} {a0 a1 a2 : Value} {st : List Value} {x : Int32} : TT X d 999 353 [a0, a1, a2, .int x] st f n k Q = TT X d 999 354 [a0, a1, a2, .int x] (.int x :: st) f n k Q := tt_st (i := .iload_n 3) (len := 1) (by decide +kernel) rfl rfl
set_option maxRecDepth 20000 in
theorem s999_354 {X : Nat × (Nat → Int32)} {d n k : Nat} {f : Nat → e_C} {Q : t_Q} {lv st : List Value} : TT X d 999 354 lv st f n k Q = TT X d 999 355 lv (.int 1 :: st) f n k Q := tt_st (i := .iconst 1) (len := 1) (by decide +kernel) rfl rfl
set_option maxRecDepth 20000 in
theorem s999_355 {X : Nat × (Nat → Int32)} {d n k : Nat} {f : Nat → e_C} {Q : t_Q} {lv st : List Value} {x y : Int32} : TT X d 999 355 lv (.int y :: .int x :: st) f n k Q = TT X d 999 356 lv (.int (x + y) :: st) f n k Q := tt_st (i := .iadd) (len := 1) (by decide +kernel) rfl rfl
set_option maxRecDepth 20000 in
theorem s999_356 {X : Nat × (Nat → Int32)} {d n k : Nat} {f : Nat → e_C} {Q : t_Q} {lv st : List Value} {a : Nat} {i : Int32} : TT X d 999 356 lv (.int i :: .ref a :: st) f n k Q = ow (arI (f a)) (fun q => e_in i q.1 = true ∧ TT X d 999 357 lv (.int (q.2 i.toNatClampNeg) :: st) f n k Q) := tt_iald (by decide +kernel)
set_option maxRecDepth 20000 in
theorem s999_357 {X : Nat × (Nat → Int32)} {d n k : Nat} {f : Nat → e_C} {Q : t_Q} {a1 a2 a3 : Value} {st : List Value} {x : Nat} : TT X d 999 357 [.ref x, a1, a2, a3] st f n k Q = TT X d 999 358 [.ref x, a1, a2, a3] (.ref x :: st) f n k Q := tt_st (i := .aload_n 0) (len := 1) (by decide +kernel) rfl rfl
set_option maxRecDepth 20000 in
theorem s999_358 {X : Nat × (Nat → Int32)} {d n k : Nat} {f : Nat → e_C} {Q : t_Q} {a0 a1 a2 : Value} {st : List Value} {x : Int32} : TT X d 999 358 [a0, a1, a2, .int x] st f n k Q = TT X d 999 359 [a0, a1, a2, .int x] (.int x :: st) f n k Q := tt_st (i := .iload_n 3) (len := 1) (by decide +kernel) rfl rfl
set_option maxRecDepth 20000 in
theorem s999_359 {X : Nat × (Nat → Int32)} {d n k : Nat} {f : Nat → e_C} {Q : t_Q} {lv st : List Value} : TT X d 999 359 lv st f n k Q = TT X d 999 360 lv (.int 2 :: st) f n k Q := tt_st (i := .iconst 2) (len := 1) (by decide +kernel) rfl rfl
set_option maxRecDepth 20000 in
theorem s999_360 {X : Nat × (Nat → Int32)} {d n k : Nat} {f : Nat → e_C} {Q : t_Q} {lv st : List Value} {x y : Int32} : TT X d 999 360 lv (.int y :: .int x :: st) f n k Q = TT X d 999 361 lv (.int (x + y) :: st) f n k Q := tt_st (i := .iadd) (len := 1) (by decide +kernel) rfl rfl
set_option maxRecDepth 20000 in
theorem s999_361 {X : Nat × (Nat → Int32)} {d n k : Nat} {f : Nat → e_C} {Q : t_Q} {lv st : List Value} {a : Nat} {i : Int32} : TT X d 999 361 lv (.int i :: .ref a :: st) f n k Q = ow (arI (f a)) (fun q => e_in i q.1 = true ∧ TT X d 999 362 lv (.int (q.2 i.toNatClampNeg) :: st) f n k Q) := tt_iald (by decide +kernel)
set_option maxRecDepth 20000 in
theorem k999_362 {X : Nat × (Nat → Int32)} {d n k : Nat} {f : Nat → e_C} {Q : t_Q} {lv rest : List Value} {a : Nat} {x0 : Int32} {x1 : Int32} (hcl : cno (f a) = some 12) (hcat : e_cat rest ≤ 8) {Q1 : t_Q} (h1 : TT X d 213 0 [.ref a, .int x0, .int x1] [] f n k Q1) (h2 : ∀ f' n' k' v, Q1 f' n' k' v → TT X (d + 1) 999 365 lv (v.toList ++ rest) f' n' k' Q) : TT X (d + 1) 999 362 lv (.int x1 :: .int x0 :: .ref a :: rest) f n k Q := tt_cV (i := .invokevirtual 31) (kind := 1) (idx := 31) (ci := 12) (as := [.int x0, .int x1]) (r := e_M213) (by decide +kernel) rfl rfl rfl (by decide +kernel) rc213 (by decide) rfl rfl (by decide) (Nat.le_of_ble_eq_true rfl) rfl hcl hcat h1 h2
set_option maxRecDepth 20000 in
theorem p999_362 {X : Nat × (Nat → Int32)} {d n k : Nat} {f : Nat → e_C} {Q : t_Q} {lv rest : List Value} {a : Nat} {x0 : Int32} {x1 : Int32} (hcl : cno (f a) = some 12) (hcat : e_cat rest ≤ 8) {v : Option Value} (h1 : PU X d 213 [.ref a, .int x0, .int x1] f n k v) : TT X (d + 1) 999 362 lv (.int x1 :: .int x0 :: .ref a :: rest) f n k Q = TT X (d + 1) 999 365 lv (v.toList ++ rest) f n k Q := tt_pV (i := .invokevirtual 31) (kind := 1) (idx := 31) (ci := 12) (as := [.int x0, .int x1]) (r := e_M213) (by decide +kernel) rfl rfl rfl (by decide +kernel) rc213 (by decide) rfl rfl (by decide) (Nat.le_of_ble_eq_true rfl) rfl hcl hcat h1
set_option maxRecDepth 20000 in
theorem s999_365 {X : Nat × (Nat → Int32)} {d n k : Nat} {f : Nat → e_C} {Q : t_Q} {lv st : List Value} {x y : Int32} : TT X d 999 365 lv (.int y :: .int x :: st) f n k Q = if x = y then TT X d 999 1395 lv st f n k Q else TT X d 999 368 lv st f n k Q := tt_if2 (c := .eq) (off := 1030) (by decide +kernel) rfl rfl
set_option maxRecDepth 20000 in
theorem s999_368 {X : Nat × (Nat → Int32)} {d n k : Nat} {f : Nat → e_C} {Q : t_Q} {lv st : List Value} : TT X d 999 368 lv st f n k Q = TT X d 999 369 lv (.int 0 :: st) f n k Q := tt_st (i := .iconst 0) (len := 1) (by decide +kernel) rfl rfl
set_option maxRecDepth 20000 in
theorem s999_369 {X : Nat × (Nat → Int32)} {d n k : Nat} {f : Nat → e_C} {Q : t_Q} {lv : List Value} {v : Int32} : TT X d 999 369 lv [.int v] f n k Q = ((v = 0 ∨ v = 1) ∧ Q f n k (some (.int v))) := tt_reB (by decide +kernel) (by decide +kernel)
set_option maxRecDepth 20000 in
theorem s999_370 {X : Nat × (Nat → Int32)} {d n k : Nat} {f : Nat → e_C} {Q : t_Q} {a0 a2 a3 : Value} {st : List Value} {x : Nat} : TT X d 999 370 [a0, .ref x, a2, a3] st f n k Q = TT X d 999 371 [a0, .ref x, a2, a3] (.ref x :: st) f n k Q := tt_st (i := .aload_n 1) (len := 1) (by decide +kernel) rfl rfl
set_option maxRecDepth 20000 in
theorem s999_371 {X : Nat × (Nat → Int32)} {d n k : Nat} {f : Nat → e_C} {Q : t_Q} {a1 a2 a3 : Value} {st : List Value} {x : Nat} : TT X d 999 371 [.ref x, a1, a2, a3] st f n k Q = TT X d 999 372 [.ref x, a1, a2, a3] (.ref x :: st) f n k Q := tt_st (i := .aload_n 0) (len := 1) (by decide +kernel) rfl rfl
set_option maxRecDepth 20000 in
theorem s999_372 {X : Nat × (Nat → Int32)} {d n k : Nat} {f : Nat → e_C} {Q : t_Q} {a0 a1 a2 : Value} {st : List Value} {x : Int32} : TT X d 999 372 [a0, a1, a2, .int x] st f n k Q = TT X d 999 373 [a0, a1, a2, .int x] (.int x :: st) f n k Q := tt_st (i := .iload_n 3) (len := 1) (by decide +kernel) rfl rfl
set_option maxRecDepth 20000 in
theorem s999_373 {X : Nat × (Nat → Int32)} {d n k : Nat} {f : Nat → e_C} {Q : t_Q} {lv st : List Value} : TT X d 999 373 lv st f n k Q = TT X d 999 374 lv (.int 1 :: st) f n k Q := tt_st (i := .iconst 1) (len := 1) (by decide +kernel) rfl rfl
set_option maxRecDepth 20000 in
theorem s999_374 {X : Nat × (Nat → Int32)} {d n k : Nat} {f : Nat → e_C} {Q : t_Q} {lv st : List Value} {x y : Int32} : TT X d 999 374 lv (.int y :: .int x :: st) f n k Q = TT X d 999 375 lv (.int (x + y) :: st) f n k Q := tt_st (i := .iadd) (len := 1) (by decide +kernel) rfl rfl
set_option maxRecDepth 20000 in
theorem s999_375 {X : Nat × (Nat → Int32)} {d n k : Nat} {f : Nat → e_C} {Q : t_Q} {lv st : List Value} {a : Nat} {i : Int32} : TT X d 999 375 lv (.int i :: .ref a :: st) f n k Q = ow (arI (f a)) (fun q => e_in i q.1 = true ∧ TT X d 999 376 lv (.int (q.2 i.toNatClampNeg) :: st) f n k Q) := tt_iald (by decide +kernel)
set_option maxRecDepth 20000 in
theorem s999_376 {X : Nat × (Nat → Int32)} {d n k : Nat} {f : Nat → e_C} {Q : t_Q} {a1 a2 a3 : Value} {st : List Value} {x : Nat} : TT X d 999 376 [.ref x, a1, a2, a3] st f n k Q = TT X d 999 377 [.ref x, a1, a2, a3] (.ref x :: st) f n k Q := tt_st (i := .aload_n 0) (len := 1) (by decide +kernel) rfl rfl
set_option maxRecDepth 20000 in
theorem s999_377 {X : Nat × (Nat → Int32)} {d n k : Nat} {f : Nat → e_C} {Q : t_Q} {a0 a1 a2 : Value} {st : List Value} {x : Int32} : TT X d 999 377 [a0, a1, a2, .int x] st f n k Q = TT X d 999 378 [a0, a1, a2, .int x] (.int x :: st) f n k Q := tt_st (i := .iload_n 3) (len := 1) (by decide +kernel) rfl rfl
set_option maxRecDepth 20000 in
theorem s999_378 {X : Nat × (Nat → Int32)} {d n k : Nat} {f : Nat → e_C} {Q : t_Q} {lv st : List Value} : TT X d 999 378 lv st f n k Q = TT X d 999 379 lv (.int 2 :: st) f n k Q := tt_st (i := .iconst 2) (len := 1) (by decide +kernel) rfl rfl
set_option maxRecDepth 20000 in
theorem s999_379 {X : Nat × (Nat → Int32)} {d n k : Nat} {f : Nat → e_C} {Q : t_Q} {lv st : List Value} {x y : Int32} : TT X d 999 379 lv (.int y :: .int x :: st) f n k Q = TT X d 999 380 lv (.int (x + y) :: st) f n k Q := tt_st (i := .iadd) (len := 1) (by decide +kernel) rfl rfl
set_option maxRecDepth 20000 in
theorem s999_380 {X : Nat × (Nat → Int32)} {d n k : Nat} {f : Nat → e_C} {Q : t_Q} {lv st : List Value} {a : Nat} {i : Int32} : TT X d 999 380 lv (.int i :: .ref a :: st) f n k Q = ow (arI (f a)) (fun q => e_in i q.1 = true ∧ TT X d 999 381 lv (.int (q.2 i.toNatClampNeg) :: st) f n k Q) := tt_iald (by decide +kernel)
set_option maxRecDepth 20000 in
theorem k999_381 {X : Nat × (Nat → Int32)} {d n k : Nat} {f : Nat → e_C} {Q : t_Q} {lv rest : List Value} {a : Nat} {x0 : Int32} {x1 : Int32} (hcl : cno (f a) = some 11) (hcat : e_cat rest ≤ 8) {Q1 : t_Q} (h1 : TT X d 118 0 [.ref a, .int x0, .int x1] [] f n k Q1) (h2 : ∀ f' n' k' v, Q1 f' n' k' v → TT X (d + 1) 999 384 lv (v.toList ++ rest) f' n' k' Q) : TT X (d + 1) 999 381 lv (.int x1 :: .int x0 :: .ref a :: rest) f n k Q := tt_cV (i := .invokevirtual 32) (kind := 1) (idx := 32) (ci := 11) (as := [.int x0, .int x1]) (r := e_M118) (by decide +kernel) rfl rfl rfl (by decide +kernel) rc118 (by decide) rfl rfl (by decide) (Nat.le_of_ble_eq_true rfl) rfl hcl hcat h1 h2
set_option maxRecDepth 20000 in
theorem p999_381 {X : Nat × (Nat → Int32)} {d n k : Nat} {f : Nat → e_C} {Q : t_Q} {lv rest : List Value} {a : Nat} {x0 : Int32} {x1 : Int32} (hcl : cno (f a) = some 11) (hcat : e_cat rest ≤ 8) {v : Option Value} (h1 : PU X d 118 [.ref a, .int x0, .int x1] f n k v) : TT X (d + 1) 999 381 lv (.int x1 :: .int x0 :: .ref a :: rest) f n k Q = TT X (d + 1) 999 384 lv (v.toList ++ rest) f n k Q := tt_pV (i := .invokevirtual 32) (kind := 1) (idx := 32) (ci := 11) (as := [.int x0, .int x1]) (r := e_M118) (by decide +kernel) rfl rfl rfl (by decide +kernel) rc118 (by decide) rfl rfl (by decide) (Nat.le_of_ble_eq_true rfl) rfl hcl hcat h1
set_option maxRecDepth 20000 in
theorem s999_384 {X : Nat × (Nat → Int32)} {d n k : Nat} {f : Nat → e_C} {Q : t_Q} {a0 a1 a3 : Value} {st : List Value} {x : Nat} : TT X d 999 384 [a0, a1, .ref x, a3] st f n k Q = TT X d 999 385 [a0, a1, .ref x, a3] (.ref x :: st) f n k Q := tt_st (i := .aload_n 2) (len := 1) (by decide +kernel) rfl rfl
set_option maxRecDepth 20000 in
theorem s999_385 {X : Nat × (Nat → Int32)} {d n k : Nat} {f : Nat → e_C} {Q : t_Q} {a1 a2 a3 : Value} {st : List Value} {x : Nat} : TT X d 999 385 [.ref x, a1, a2, a3] st f n k Q = TT X d 999 386 [.ref x, a1, a2, a3] (.ref x :: st) f n k Q := tt_st (i := .aload_n 0) (len := 1) (by decide +kernel) rfl rfl
set_option maxRecDepth 20000 in
theorem s999_386 {X : Nat × (Nat → Int32)} {d n k : Nat} {f : Nat → e_C} {Q : t_Q} {a0 a1 a2 : Value} {st : List Value} {x : Int32} : TT X d 999 386 [a0, a1, a2, .int x] st f n k Q = TT X d 999 387 [a0, a1, a2, .int x] (.int x :: st) f n k Q := tt_st (i := .iload_n 3) (len := 1) (by decide +kernel) rfl rfl
set_option maxRecDepth 20000 in
theorem s999_387 {X : Nat × (Nat → Int32)} {d n k : Nat} {f : Nat → e_C} {Q : t_Q} {lv st : List Value} : TT X d 999 387 lv st f n k Q = TT X d 999 388 lv (.int 1 :: st) f n k Q := tt_st (i := .iconst 1) (len := 1) (by decide +kernel) rfl rfl
set_option maxRecDepth 20000 in
theorem s999_388 {X : Nat × (Nat → Int32)} {d n k : Nat} {f : Nat → e_C} {Q : t_Q} {lv st : List Value} {x y : Int32} : TT X d 999 388 lv (.int y :: .int x :: st) f n k Q = TT X d 999 389 lv (.int (x + y) :: st) f n k Q := tt_st (i := .iadd) (len := 1) (by decide +kernel) rfl rfl
set_option maxRecDepth 20000 in
theorem s999_389 {X : Nat × (Nat → Int32)} {d n k : Nat} {f : Nat → e_C} {Q : t_Q} {lv st : List Value} {a : Nat} {i : Int32} : TT X d 999 389 lv (.int i :: .ref a :: st) f n k Q = ow (arI (f a)) (fun q => e_in i q.1 = true ∧ TT X d 999 390 lv (.int (q.2 i.toNatClampNeg) :: st) f n k Q) := tt_iald (by decide +kernel)
set_option maxRecDepth 20000 in
theorem s999_390 {X : Nat × (Nat → Int32)} {d n k : Nat} {f : Nat → e_C} {Q : t_Q} {a1 a2 a3 : Value} {st : List Value} {x : Nat} : TT X d 999 390 [.ref x, a1, a2, a3] st f n k Q = TT X d 999 391 [.ref x, a1, a2, a3] (.ref x :: st) f n k Q := tt_st (i := .aload_n 0) (len := 1) (by decide +kernel) rfl rfl
set_option maxRecDepth 20000 in
theorem s999_391 {X : Nat × (Nat → Int32)} {d n k : Nat} {f : Nat → e_C} {Q : t_Q} {a0 a1 a2 : Value} {st : List Value} {x : Int32} : TT X d 999 391 [a0, a1, a2, .int x] st f n k Q = TT X d 999 392 [a0, a1, a2, .int x] (.int x :: st) f n k Q := tt_st (i := .iload_n 3) (len := 1) (by decide +kernel) rfl rfl
set_option maxRecDepth 20000 in
theorem s999_392 {X : Nat × (Nat → Int32)} {d n k : Nat} {f : Nat → e_C} {Q : t_Q} {lv st : List Value} : TT X d 999 392 lv st f n k Q = TT X d 999 393 lv (.int 2 :: st) f n k Q := tt_st (i := .iconst 2) (len := 1) (by decide +kernel) rfl rfl
set_option maxRecDepth 20000 in
theorem s999_393 {X : Nat × (Nat → Int32)} {d n k : Nat} {f : Nat → e_C} {Q : t_Q} {lv st : List Value} {x y : Int32} : TT X d 999 393 lv (.int y :: .int x :: st) f n k Q = TT X d 999 394 lv (.int (x + y) :: st) f n k Q := tt_st (i := .iadd) (len := 1) (by decide +kernel) rfl rfl
set_option maxRecDepth 20000 in
theorem s999_394 {X : Nat × (Nat → Int32)} {d n k : Nat} {f : Nat → e_C} {Q : t_Q} {lv st : List Value} {a : Nat} {i : Int32} : TT X d 999 394 lv (.int i :: .ref a :: st) f n k Q = ow (arI (f a)) (fun q => e_in i q.1 = true ∧ TT X d 999 395 lv (.int (q.2 i.toNatClampNeg) :: st) f n k Q) := tt_iald (by decide +kernel)
set_option maxRecDepth 20000 in
theorem k999_395 {X : Nat × (Nat → Int32)} {d n k : Nat} {f : Nat → e_C} {Q : t_Q} {lv rest : List Value} {a : Nat} {x0 : Int32} {x1 : Int32} (hcl : cno (f a) = some 12) (hcat : e_cat rest ≤ 8) {Q1 : t_Q} (h1 : TT X d 216 0 [.ref a, .int x0, .int x1] [] f n k Q1) (h2 : ∀ f' n' k' v, Q1 f' n' k' v → TT X (d + 1) 999 398 lv (v.toList ++ rest) f' n' k' Q) : TT X (d + 1) 999 395 lv (.int x1 :: .int x0 :: .ref a :: rest) f n k Q := tt_cV (i := .invokevirtual 35) (kind := 1) (idx := 35) (ci := 12) (as := [.int x0, .int x1]) (r := e_M216) (by decide +kernel) rfl rfl rfl (by decide +kernel) rc216 (by decide) rfl rfl (by decide) (Nat.le_of_ble_eq_true rfl) rfl hcl hcat h1 h2
set_option maxRecDepth 20000 in
theorem p999_395 {X : Nat × (Nat → Int32)} {d n k : Nat} {f : Nat → e_C} {Q : t_Q} {lv rest : List Value} {a : Nat} {x0 : Int32} {x1 : Int32} (hcl : cno (f a) = some 12) (hcat : e_cat rest ≤ 8) {v : Option Value} (h1 : PU X d 216 [.ref a, .int x0, .int x1] f n k v) : TT X (d + 1) 999 395 lv (.int x1 :: .int x0 :: .ref a :: rest) f n k Q = TT X (d + 1) 999 398 lv (v.toList ++ rest) f n k Q := tt_pV (i := .invokevirtual 35) (kind := 1) (idx := 35) (ci := 12) (as := [.int x0, .int x1]) (r := e_M216) (by decide +kernel) rfl rfl rfl (by decide +kernel) rc216 (by decide) rfl rfl (by decide) (Nat.le_of_ble_eq_true rfl) rfl hcl hcat h1
set_option maxRecDepth 20000 in
theorem s999_398 {X : Nat × (Nat → Int32)} {d n k : Nat} {f : Nat → e_C} {Q : t_Q} {lv st : List Value} {x y : Int32} : TT X d 999 398 lv (.int y :: .int x :: st) f n k Q = if x = y then TT X d 999 1395 lv st f n k Q else TT X d 999 401 lv st f n k Q := tt_if2 (c := .eq) (off := 997) (by decide +kernel) rfl rfl
set_option maxRecDepth 20000 in
theorem s999_401 {X : Nat × (Nat → Int32)} {d n k : Nat} {f : Nat → e_C} {Q : t_Q} {lv st : List Value} : TT X d 999 401 lv st f n k Q = TT X d 999 402 lv (.int 0 :: st) f n k Q := tt_st (i := .iconst 0) (len := 1) (by decide +kernel) rfl rfl
set_option maxRecDepth 20000 in
theorem s999_402 {X : Nat × (Nat → Int32)} {d n k : Nat} {f : Nat → e_C} {Q : t_Q} {lv : List Value} {v : Int32} : TT X d 999 402 lv [.int v] f n k Q = ((v = 0 ∨ v = 1) ∧ Q f n k (some (.int v))) := tt_reB (by decide +kernel) (by decide +kernel)
set_option maxRecDepth 20000 in
theorem s999_403 {X : Nat × (Nat → Int32)} {d n k : Nat} {f : Nat → e_C} {Q : t_Q} {a0 a2 a3 : Value} {st : List Value} {x : Nat} : TT X d 999 403 [a0, .ref x, a2, a3] st f n k Q = TT X d 999 404 [a0, .ref x, a2, a3] (.ref x :: st) f n k Q := tt_st (i := .aload_n 1) (len := 1) (by decide +kernel) rfl rfl
set_option maxRecDepth 20000 in
theorem k999_404 {X : Nat × (Nat → Int32)} {d n k : Nat} {f : Nat → e_C} {Q : t_Q} {lv rest : List Value} {a : Nat}  (hcl : cno (f a) = some 11) (hcat : e_cat rest ≤ 8) {Q1 : t_Q} (h1 : TT X d 120 0 [.ref a] [] f n k Q1) (h2 : ∀ f' n' k' v, Q1 f' n' k' v → TT X (d + 1) 999 407 lv (v.toList ++ rest) f' n' k' Q) : TT X (d + 1) 999 404 lv (.ref a :: rest) f n k Q := tt_cV (i := .invokevirtual 36) (kind := 1) (idx := 36) (ci := 11) (as := []) (r := e_M120) (by decide +kernel) rfl rfl rfl (by decide +kernel) rc120 (by decide) rfl rfl (by decide) (Nat.le_of_ble_eq_true rfl) rfl hcl hcat h1 h2
set_option maxRecDepth 20000 in
theorem p999_404 {X : Nat × (Nat → Int32)} {d n k : Nat} {f : Nat → e_C} {Q : t_Q} {lv rest : List Value} {a : Nat}  (hcl : cno (f a) = some 11) (hcat : e_cat rest ≤ 8) {v : Option Value} (h1 : PU X d 120 [.ref a] f n k v) : TT X (d + 1) 999 404 lv (.ref a :: rest) f n k Q = TT X (d + 1) 999 407 lv (v.toList ++ rest) f n k Q := tt_pV (i := .invokevirtual 36) (kind := 1) (idx := 36) (ci := 11) (as := []) (r := e_M120) (by decide +kernel) rfl rfl rfl (by decide +kernel) rc120 (by decide) rfl rfl (by decide) (Nat.le_of_ble_eq_true rfl) rfl hcl hcat h1
set_option maxRecDepth 20000 in
theorem s999_407 {X : Nat × (Nat → Int32)} {d n k : Nat} {f : Nat → e_C} {Q : t_Q} {a0 a1 a3 : Value} {st : List Value} {x : Nat} : TT X d 999 407 [a0, a1, .ref x, a3] st f n k Q = TT X d 999 408 [a0, a1, .ref x, a3] (.ref x :: st) f n k Q := tt_st (i := .aload_n 2) (len := 1) (by decide +kernel) rfl rfl
set_option maxRecDepth 20000 in
theorem k999_408 {X : Nat × (Nat → Int32)} {d n k : Nat} {f : Nat → e_C} {Q : t_Q} {lv rest : List Value} {a : Nat}  (hcl : cno (f a) = some 12) (hcat : e_cat rest ≤ 8) {Q1 : t_Q} (h1 : TT X d 219 0 [.ref a] [] f n k Q1) (h2 : ∀ f' n' k' v, Q1 f' n' k' v → TT X (d + 1) 999 411 lv (v.toList ++ rest) f' n' k' Q) : TT X (d + 1) 999 408 lv (.ref a :: rest) f n k Q := tt_cV (i := .invokevirtual 40) (kind := 1) (idx := 40) (ci := 12) (as := []) (r := e_M219) (by decide +kernel) rfl rfl rfl (by decide +kernel) rc219 (by decide) rfl rfl (by decide) (Nat.le_of_ble_eq_true rfl) rfl hcl hcat h1 h2
set_option maxRecDepth 20000 in
theorem p999_408 {X : Nat × (Nat → Int32)} {d n k : Nat} {f : Nat → e_C} {Q : t_Q} {lv rest : List Value} {a : Nat}  (hcl : cno (f a) = some 12) (hcat : e_cat rest ≤ 8) {v : Option Value} (h1 : PU X d 219 [.ref a] f n k v) : TT X (d + 1) 999 408 lv (.ref a :: rest) f n k Q = TT X (d + 1) 999 411 lv (v.toList ++ rest) f n k Q := tt_pV (i := .invokevirtual 40) (kind := 1) (idx := 40) (ci := 12) (as := []) (r := e_M219) (by decide +kernel) rfl rfl rfl (by decide +kernel) rc219 (by decide) rfl rfl (by decide) (Nat.le_of_ble_eq_true rfl) rfl hcl hcat h1
set_option maxRecDepth 20000 in
theorem s999_411 {X : Nat × (Nat → Int32)} {d n k : Nat} {f : Nat → e_C} {Q : t_Q} {lv st : List Value} {x y : Int32} : TT X d 999 411 lv (.int y :: .int x :: st) f n k Q = if x = y then TT X d 999 1395 lv st f n k Q else TT X d 999 414 lv st f n k Q := tt_if2 (c := .eq) (off := 984) (by decide +kernel) rfl rfl
set_option maxRecDepth 20000 in
theorem s999_414 {X : Nat × (Nat → Int32)} {d n k : Nat} {f : Nat → e_C} {Q : t_Q} {lv st : List Value} : TT X d 999 414 lv st f n k Q = TT X d 999 415 lv (.int 0 :: st) f n k Q := tt_st (i := .iconst 0) (len := 1) (by decide +kernel) rfl rfl
set_option maxRecDepth 20000 in
theorem s999_415 {X : Nat × (Nat → Int32)} {d n k : Nat} {f : Nat → e_C} {Q : t_Q} {lv : List Value} {v : Int32} : TT X d 999 415 lv [.int v] f n k Q = ((v = 0 ∨ v = 1) ∧ Q f n k (some (.int v))) := tt_reB (by decide +kernel) (by decide +kernel)
set_option maxRecDepth 20000 in
theorem s999_416 {X : Nat × (Nat → Int32)} {d n k : Nat} {f : Nat → e_C} {Q : t_Q} {a0 a2 a3 : Value} {st : List Value} {x : Nat} : TT X d 999 416 [a0, .ref x, a2, a3] st f n k Q = TT X d 999 417 [a0, .ref x, a2, a3] (.ref x :: st) f n k Q := tt_st (i := .aload_n 1) (len := 1) (by decide +kernel) rfl rfl
set_option maxRecDepth 20000 in
theorem s999_417 {X : Nat × (Nat → Int32)} {d n k : Nat} {f : Nat → e_C} {Q : t_Q} {a1 a2 a3 : Value} {st : List Value} {x : Nat} : TT X d 999 417 [.ref x, a1, a2, a3] st f n k Q = TT X d 999 418 [.ref x, a1, a2, a3] (.ref x :: st) f n k Q := tt_st (i := .aload_n 0) (len := 1) (by decide +kernel) rfl rfl
set_option maxRecDepth 20000 in
theorem s999_418 {X : Nat × (Nat → Int32)} {d n k : Nat} {f : Nat → e_C} {Q : t_Q} {a0 a1 a2 : Value} {st : List Value} {x : Int32} : TT X d 999 418 [a0, a1, a2, .int x] st f n k Q = TT X d 999 419 [a0, a1, a2, .int x] (.int x :: st) f n k Q := tt_st (i := .iload_n 3) (len := 1) (by decide +kernel) rfl rfl
set_option maxRecDepth 20000 in
theorem s999_419 {X : Nat × (Nat → Int32)} {d n k : Nat} {f : Nat → e_C} {Q : t_Q} {lv st : List Value} : TT X d 999 419 lv st f n k Q = TT X d 999 420 lv (.int 1 :: st) f n k Q := tt_st (i := .iconst 1) (len := 1) (by decide +kernel) rfl rfl
set_option maxRecDepth 20000 in
theorem s999_420 {X : Nat × (Nat → Int32)} {d n k : Nat} {f : Nat → e_C} {Q : t_Q} {lv st : List Value} {x y : Int32} : TT X d 999 420 lv (.int y :: .int x :: st) f n k Q = TT X d 999 421 lv (.int (x + y) :: st) f n k Q := tt_st (i := .iadd) (len := 1) (by decide +kernel) rfl rfl
set_option maxRecDepth 20000 in
theorem s999_421 {X : Nat × (Nat → Int32)} {d n k : Nat} {f : Nat → e_C} {Q : t_Q} {lv st : List Value} {a : Nat} {i : Int32} : TT X d 999 421 lv (.int i :: .ref a :: st) f n k Q = ow (arI (f a)) (fun q => e_in i q.1 = true ∧ TT X d 999 422 lv (.int (q.2 i.toNatClampNeg) :: st) f n k Q) := tt_iald (by decide +kernel)
set_option maxRecDepth 20000 in
theorem k999_422 {X : Nat × (Nat → Int32)} {d n k : Nat} {f : Nat → e_C} {Q : t_Q} {lv rest : List Value} {a : Nat} {x0 : Int32} (hcl : cno (f a) = some 11) (hcat : e_cat rest ≤ 8) {Q1 : t_Q} (h1 : TT X d 121 0 [.ref a, .int x0, .float 0, .float 0] [] f n k Q1) (h2 : ∀ f' n' k' v, Q1 f' n' k' v → TT X (d + 1) 999 425 lv (v.toList ++ rest) f' n' k' Q) : TT X (d + 1) 999 422 lv (.int x0 :: .ref a :: rest) f n k Q := tt_cV (i := .invokevirtual 41) (kind := 1) (idx := 41) (ci := 11) (as := [.int x0]) (r := e_M121) (by decide +kernel) rfl rfl rfl (by decide +kernel) rc121 (by decide) rfl rfl (by decide) (Nat.le_of_ble_eq_true rfl) rfl hcl hcat h1 h2
set_option maxRecDepth 20000 in
theorem p999_422 {X : Nat × (Nat → Int32)} {d n k : Nat} {f : Nat → e_C} {Q : t_Q} {lv rest : List Value} {a : Nat} {x0 : Int32} (hcl : cno (f a) = some 11) (hcat : e_cat rest ≤ 8) {v : Option Value} (h1 : PU X d 121 [.ref a, .int x0, .float 0, .float 0] f n k v) : TT X (d + 1) 999 422 lv (.int x0 :: .ref a :: rest) f n k Q = TT X (d + 1) 999 425 lv (v.toList ++ rest) f n k Q := tt_pV (i := .invokevirtual 41) (kind := 1) (idx := 41) (ci := 11) (as := [.int x0]) (r := e_M121) (by decide +kernel) rfl rfl rfl (by decide +kernel) rc121 (by decide) rfl rfl (by decide) (Nat.le_of_ble_eq_true rfl) rfl hcl hcat h1
set_option maxRecDepth 20000 in
theorem s999_425 {X : Nat × (Nat → Int32)} {d n k : Nat} {f : Nat → e_C} {Q : t_Q} {a0 a1 a3 : Value} {st : List Value} {x : Nat} : TT X d 999 425 [a0, a1, .ref x, a3] st f n k Q = TT X d 999 426 [a0, a1, .ref x, a3] (.ref x :: st) f n k Q := tt_st (i := .aload_n 2) (len := 1) (by decide +kernel) rfl rfl
set_option maxRecDepth 20000 in
theorem s999_426 {X : Nat × (Nat → Int32)} {d n k : Nat} {f : Nat → e_C} {Q : t_Q} {a1 a2 a3 : Value} {st : List Value} {x : Nat} : TT X d 999 426 [.ref x, a1, a2, a3] st f n k Q = TT X d 999 427 [.ref x, a1, a2, a3] (.ref x :: st) f n k Q := tt_st (i := .aload_n 0) (len := 1) (by decide +kernel) rfl rfl
set_option maxRecDepth 20000 in
theorem s999_427 {X : Nat × (Nat → Int32)} {d n k : Nat} {f : Nat → e_C} {Q : t_Q} {a0 a1 a2 : Value} {st : List Value} {x : Int32} : TT X d 999 427 [a0, a1, a2, .int x] st f n k Q = TT X d 999 428 [a0, a1, a2, .int x] (.int x :: st) f n k Q := tt_st (i := .iload_n 3) (len := 1) (by decide +kernel) rfl rfl
set_option maxRecDepth 20000 in
theorem s999_428 {X : Nat × (Nat → Int32)} {d n k : Nat} {f : Nat → e_C} {Q : t_Q} {lv st : List Value} : TT X d 999 428 lv st f n k Q = TT X d 999 429 lv (.int 1 :: st) f n k Q := tt_st (i := .iconst 1) (len := 1) (by decide +kernel) rfl rfl
set_option maxRecDepth 20000 in
theorem s999_429 {X : Nat × (Nat → Int32)} {d n k : Nat} {f : Nat → e_C} {Q : t_Q} {lv st : List Value} {x y : Int32} : TT X d 999 429 lv (.int y :: .int x :: st) f n k Q = TT X d 999 430 lv (.int (x + y) :: st) f n k Q := tt_st (i := .iadd) (len := 1) (by decide +kernel) rfl rfl
set_option maxRecDepth 20000 in
theorem s999_430 {X : Nat × (Nat → Int32)} {d n k : Nat} {f : Nat → e_C} {Q : t_Q} {lv st : List Value} {a : Nat} {i : Int32} : TT X d 999 430 lv (.int i :: .ref a :: st) f n k Q = ow (arI (f a)) (fun q => e_in i q.1 = true ∧ TT X d 999 431 lv (.int (q.2 i.toNatClampNeg) :: st) f n k Q) := tt_iald (by decide +kernel)
set_option maxRecDepth 20000 in
theorem k999_431 {X : Nat × (Nat → Int32)} {d n k : Nat} {f : Nat → e_C} {Q : t_Q} {lv rest : List Value} {a : Nat} {x0 : Int32} (hcl : cno (f a) = some 12) (hcat : e_cat rest ≤ 8) {Q1 : t_Q} (h1 : TT X d 220 0 [.ref a, .int x0, .float 0, .float 0] [] f n k Q1) (h2 : ∀ f' n' k' v, Q1 f' n' k' v → TT X (d + 1) 999 434 lv (v.toList ++ rest) f' n' k' Q) : TT X (d + 1) 999 431 lv (.int x0 :: .ref a :: rest) f n k Q := tt_cV (i := .invokevirtual 44) (kind := 1) (idx := 44) (ci := 12) (as := [.int x0]) (r := e_M220) (by decide +kernel) rfl rfl rfl (by decide +kernel) rc220 (by decide) rfl rfl (by decide) (Nat.le_of_ble_eq_true rfl) rfl hcl hcat h1 h2
set_option maxRecDepth 20000 in
theorem p999_431 {X : Nat × (Nat → Int32)} {d n k : Nat} {f : Nat → e_C} {Q : t_Q} {lv rest : List Value} {a : Nat} {x0 : Int32} (hcl : cno (f a) = some 12) (hcat : e_cat rest ≤ 8) {v : Option Value} (h1 : PU X d 220 [.ref a, .int x0, .float 0, .float 0] f n k v) : TT X (d + 1) 999 431 lv (.int x0 :: .ref a :: rest) f n k Q = TT X (d + 1) 999 434 lv (v.toList ++ rest) f n k Q := tt_pV (i := .invokevirtual 44) (kind := 1) (idx := 44) (ci := 12) (as := [.int x0]) (r := e_M220) (by decide +kernel) rfl rfl rfl (by decide +kernel) rc220 (by decide) rfl rfl (by decide) (Nat.le_of_ble_eq_true rfl) rfl hcl hcat h1
set_option maxRecDepth 20000 in
theorem s999_434 {X : Nat × (Nat → Int32)} {d n k : Nat} {f : Nat → e_C} {Q : t_Q} {lv st : List Value} {x y : Int32} : TT X d 999 434 lv (.int y :: .int x :: st) f n k Q = if x = y then TT X d 999 1395 lv st f n k Q else TT X d 999 437 lv st f n k Q := tt_if2 (c := .eq) (off := 961) (by decide +kernel) rfl rfl
set_option maxRecDepth 20000 in
theorem s999_437 {X : Nat × (Nat → Int32)} {d n k : Nat} {f : Nat → e_C} {Q : t_Q} {lv st : List Value} : TT X d 999 437 lv st f n k Q = TT X d 999 438 lv (.int 0 :: st) f n k Q := tt_st (i := .iconst 0) (len := 1) (by decide +kernel) rfl rfl
set_option maxRecDepth 20000 in
theorem s999_438 {X : Nat × (Nat → Int32)} {d n k : Nat} {f : Nat → e_C} {Q : t_Q} {lv : List Value} {v : Int32} : TT X d 999 438 lv [.int v] f n k Q = ((v = 0 ∨ v = 1) ∧ Q f n k (some (.int v))) := tt_reB (by decide +kernel) (by decide +kernel)
set_option maxRecDepth 20000 in
theorem s999_439 {X : Nat × (Nat → Int32)} {d n k : Nat} {f : Nat → e_C} {Q : t_Q} {a0 a2 a3 : Value} {st : List Value} {x : Nat} : TT X d 999 439 [a0, .ref x, a2, a3] st f n k Q = TT X d 999 440 [a0, .ref x, a2, a3] (.ref x :: st) f n k Q := tt_st (i := .aload_n 1) (len := 1) (by decide +kernel) rfl rfl
set_option maxRecDepth 20000 in
theorem k999_440 {X : Nat × (Nat → Int32)} {d n k : Nat} {f : Nat → e_C} {Q : t_Q} {lv rest : List Value} {a : Nat}  (hcl : cno (f a) = some 11) (hcat : e_cat rest ≤ 8) {Q1 : t_Q} (h1 : TT X d 122 0 [.ref a] [] f n k Q1) (h2 : ∀ f' n' k' v, Q1 f' n' k' v → TT X (d + 1) 999 443 lv (v.toList ++ rest) f' n' k' Q) : TT X (d + 1) 999 440 lv (.ref a :: rest) f n k Q := tt_cV (i := .invokevirtual 45) (kind := 1) (idx := 45) (ci := 11) (as := []) (r := e_M122) (by decide +kernel) rfl rfl rfl (by decide +kernel) rc122 (by decide) rfl rfl (by decide) (Nat.le_of_ble_eq_true rfl) rfl hcl hcat h1 h2
set_option maxRecDepth 20000 in
theorem p999_440 {X : Nat × (Nat → Int32)} {d n k : Nat} {f : Nat → e_C} {Q : t_Q} {lv rest : List Value} {a : Nat}  (hcl : cno (f a) = some 11) (hcat : e_cat rest ≤ 8) {v : Option Value} (h1 : PU X d 122 [.ref a] f n k v) : TT X (d + 1) 999 440 lv (.ref a :: rest) f n k Q = TT X (d + 1) 999 443 lv (v.toList ++ rest) f n k Q := tt_pV (i := .invokevirtual 45) (kind := 1) (idx := 45) (ci := 11) (as := []) (r := e_M122) (by decide +kernel) rfl rfl rfl (by decide +kernel) rc122 (by decide) rfl rfl (by decide) (Nat.le_of_ble_eq_true rfl) rfl hcl hcat h1
set_option maxRecDepth 20000 in
theorem s999_443 {X : Nat × (Nat → Int32)} {d n k : Nat} {f : Nat → e_C} {Q : t_Q} {a0 a1 a3 : Value} {st : List Value} {x : Nat} : TT X d 999 443 [a0, a1, .ref x, a3] st f n k Q = TT X d 999 444 [a0, a1, .ref x, a3] (.ref x :: st) f n k Q := tt_st (i := .aload_n 2) (len := 1) (by decide +kernel) rfl rfl
set_option maxRecDepth 20000 in
theorem k999_444 {X : Nat × (Nat → Int32)} {d n k : Nat} {f : Nat → e_C} {Q : t_Q} {lv rest : List Value} {a : Nat}  (hcl : cno (f a) = some 12) (hcat : e_cat rest ≤ 8) {Q1 : t_Q} (h1 : TT X d 221 0 [.ref a] [] f n k Q1) (h2 : ∀ f' n' k' v, Q1 f' n' k' v → TT X (d + 1) 999 447 lv (v.toList ++ rest) f' n' k' Q) : TT X (d + 1) 999 444 lv (.ref a :: rest) f n k Q := tt_cV (i := .invokevirtual 48) (kind := 1) (idx := 48) (ci := 12) (as := []) (r := e_M221) (by decide +kernel) rfl rfl rfl (by decide +kernel) rc221 (by decide) rfl rfl (by decide) (Nat.le_of_ble_eq_true rfl) rfl hcl hcat h1 h2
set_option maxRecDepth 20000 in
theorem p999_444 {X : Nat × (Nat → Int32)} {d n k : Nat} {f : Nat → e_C} {Q : t_Q} {lv rest : List Value} {a : Nat}  (hcl : cno (f a) = some 12) (hcat : e_cat rest ≤ 8) {v : Option Value} (h1 : PU X d 221 [.ref a] f n k v) : TT X (d + 1) 999 444 lv (.ref a :: rest) f n k Q = TT X (d + 1) 999 447 lv (v.toList ++ rest) f n k Q := tt_pV (i := .invokevirtual 48) (kind := 1) (idx := 48) (ci := 12) (as := []) (r := e_M221) (by decide +kernel) rfl rfl rfl (by decide +kernel) rc221 (by decide) rfl rfl (by decide) (Nat.le_of_ble_eq_true rfl) rfl hcl hcat h1
set_option maxRecDepth 20000 in
theorem s999_447 {X : Nat × (Nat → Int32)} {d n k : Nat} {f : Nat → e_C} {Q : t_Q} {lv st : List Value} {x y : Int32} : TT X d 999 447 lv (.int y :: .int x :: st) f n k Q = if x = y then TT X d 999 1395 lv st f n k Q else TT X d 999 450 lv st f n k Q := tt_if2 (c := .eq) (off := 948) (by decide +kernel) rfl rfl
set_option maxRecDepth 20000 in
theorem s999_450 {X : Nat × (Nat → Int32)} {d n k : Nat} {f : Nat → e_C} {Q : t_Q} {lv st : List Value} : TT X d 999 450 lv st f n k Q = TT X d 999 451 lv (.int 0 :: st) f n k Q := tt_st (i := .iconst 0) (len := 1) (by decide +kernel) rfl rfl
set_option maxRecDepth 20000 in
theorem s999_451 {X : Nat × (Nat → Int32)} {d n k : Nat} {f : Nat → e_C} {Q : t_Q} {lv : List Value} {v : Int32} : TT X d 999 451 lv [.int v] f n k Q = ((v = 0 ∨ v = 1) ∧ Q f n k (some (.int v))) := tt_reB (by decide +kernel) (by decide +kernel)
set_option maxRecDepth 20000 in
theorem s999_452 {X : Nat × (Nat → Int32)} {d n k : Nat} {f : Nat → e_C} {Q : t_Q} {a0 a2 a3 : Value} {st : List Value} {x : Nat} : TT X d 999 452 [a0, .ref x, a2, a3] st f n k Q = TT X d 999 453 [a0, .ref x, a2, a3] (.ref x :: st) f n k Q := tt_st (i := .aload_n 1) (len := 1) (by decide +kernel) rfl rfl
set_option maxRecDepth 20000 in
theorem s999_453 {X : Nat × (Nat → Int32)} {d n k : Nat} {f : Nat → e_C} {Q : t_Q} {a1 a2 a3 : Value} {st : List Value} {x : Nat} : TT X d 999 453 [.ref x, a1, a2, a3] st f n k Q = TT X d 999 454 [.ref x, a1, a2, a3] (.ref x :: st) f n k Q := tt_st (i := .aload_n 0) (len := 1) (by decide +kernel) rfl rfl
set_option maxRecDepth 20000 in
theorem s999_454 {X : Nat × (Nat → Int32)} {d n k : Nat} {f : Nat → e_C} {Q : t_Q} {a0 a1 a2 : Value} {st : List Value} {x : Int32} : TT X d 999 454 [a0, a1, a2, .int x] st f n k Q = TT X d 999 455 [a0, a1, a2, .int x] (.int x :: st) f n k Q := tt_st (i := .iload_n 3) (len := 1) (by decide +kernel) rfl rfl
set_option maxRecDepth 20000 in
theorem s999_455 {X : Nat × (Nat → Int32)} {d n k : Nat} {f : Nat → e_C} {Q : t_Q} {lv st : List Value} : TT X d 999 455 lv st f n k Q = TT X d 999 456 lv (.int 1 :: st) f n k Q := tt_st (i := .iconst 1) (len := 1) (by decide +kernel) rfl rfl
set_option maxRecDepth 20000 in
theorem s999_456 {X : Nat × (Nat → Int32)} {d n k : Nat} {f : Nat → e_C} {Q : t_Q} {lv st : List Value} {x y : Int32} : TT X d 999 456 lv (.int y :: .int x :: st) f n k Q = TT X d 999 457 lv (.int (x + y) :: st) f n k Q := tt_st (i := .iadd) (len := 1) (by decide +kernel) rfl rfl
set_option maxRecDepth 20000 in
theorem s999_457 {X : Nat × (Nat → Int32)} {d n k : Nat} {f : Nat → e_C} {Q : t_Q} {lv st : List Value} {a : Nat} {i : Int32} : TT X d 999 457 lv (.int i :: .ref a :: st) f n k Q = ow (arI (f a)) (fun q => e_in i q.1 = true ∧ TT X d 999 458 lv (.int (q.2 i.toNatClampNeg) :: st) f n k Q) := tt_iald (by decide +kernel)
set_option maxRecDepth 20000 in
theorem k999_458 {X : Nat × (Nat → Int32)} {d n k : Nat} {f : Nat → e_C} {Q : t_Q} {lv rest : List Value} {a : Nat} {x0 : Int32} (hcl : cno (f a) = some 11) (hcat : e_cat rest ≤ 8) {Q1 : t_Q} (h1 : TT X d 123 0 [.ref a, .int x0, .float 0] [] f n k Q1) (h2 : ∀ f' n' k' v, Q1 f' n' k' v → TT X (d + 1) 999 461 lv (v.toList ++ rest) f' n' k' Q) : TT X (d + 1) 999 458 lv (.int x0 :: .ref a :: rest) f n k Q := tt_cV (i := .invokevirtual 49) (kind := 1) (idx := 49) (ci := 11) (as := [.int x0]) (r := e_M123) (by decide +kernel) rfl rfl rfl (by decide +kernel) rc123 (by decide) rfl rfl (by decide) (Nat.le_of_ble_eq_true rfl) rfl hcl hcat h1 h2
set_option maxRecDepth 20000 in
theorem p999_458 {X : Nat × (Nat → Int32)} {d n k : Nat} {f : Nat → e_C} {Q : t_Q} {lv rest : List Value} {a : Nat} {x0 : Int32} (hcl : cno (f a) = some 11) (hcat : e_cat rest ≤ 8) {v : Option Value} (h1 : PU X d 123 [.ref a, .int x0, .float 0] f n k v) : TT X (d + 1) 999 458 lv (.int x0 :: .ref a :: rest) f n k Q = TT X (d + 1) 999 461 lv (v.toList ++ rest) f n k Q := tt_pV (i := .invokevirtual 49) (kind := 1) (idx := 49) (ci := 11) (as := [.int x0]) (r := e_M123) (by decide +kernel) rfl rfl rfl (by decide +kernel) rc123 (by decide) rfl rfl (by decide) (Nat.le_of_ble_eq_true rfl) rfl hcl hcat h1
set_option maxRecDepth 20000 in
theorem s999_461 {X : Nat × (Nat → Int32)} {d n k : Nat} {f : Nat → e_C} {Q : t_Q} {a0 a1 a3 : Value} {st : List Value} {x : Nat} : TT X d 999 461 [a0, a1, .ref x, a3] st f n k Q = TT X d 999 462 [a0, a1, .ref x, a3] (.ref x :: st) f n k Q := tt_st (i := .aload_n 2) (len := 1) (by decide +kernel) rfl rfl
set_option maxRecDepth 20000 in
theorem s999_462 {X : Nat × (Nat → Int32)} {d n k : Nat} {f : Nat → e_C} {Q : t_Q} {a1 a2 a3 : Value} {st : List Value} {x : Nat} : TT X d 999 462 [.ref x, a1, a2, a3] st f n k Q = TT X d 999 463 [.ref x, a1, a2, a3] (.ref x :: st) f n k Q := tt_st (i := .aload_n 0) (len := 1) (by decide +kernel) rfl rfl
set_option maxRecDepth 20000 in
theorem s999_463 {X : Nat × (Nat → Int32)} {d n k : Nat} {f : Nat → e_C} {Q : t_Q} {a0 a1 a2 : Value} {st : List Value} {x : Int32} : TT X d 999 463 [a0, a1, a2, .int x] st f n k Q = TT X d 999 464 [a0, a1, a2, .int x] (.int x :: st) f n k Q := tt_st (i := .iload_n 3) (len := 1) (by decide +kernel) rfl rfl
set_option maxRecDepth 20000 in
theorem s999_464 {X : Nat × (Nat → Int32)} {d n k : Nat} {f : Nat → e_C} {Q : t_Q} {lv st : List Value} : TT X d 999 464 lv st f n k Q = TT X d 999 465 lv (.int 1 :: st) f n k Q := tt_st (i := .iconst 1) (len := 1) (by decide +kernel) rfl rfl
set_option maxRecDepth 20000 in
theorem s999_465 {X : Nat × (Nat → Int32)} {d n k : Nat} {f : Nat → e_C} {Q : t_Q} {lv st : List Value} {x y : Int32} : TT X d 999 465 lv (.int y :: .int x :: st) f n k Q = TT X d 999 466 lv (.int (x + y) :: st) f n k Q := tt_st (i := .iadd) (len := 1) (by decide +kernel) rfl rfl
set_option maxRecDepth 20000 in
theorem s999_466 {X : Nat × (Nat → Int32)} {d n k : Nat} {f : Nat → e_C} {Q : t_Q} {lv st : List Value} {a : Nat} {i : Int32} : TT X d 999 466 lv (.int i :: .ref a :: st) f n k Q = ow (arI (f a)) (fun q => e_in i q.1 = true ∧ TT X d 999 467 lv (.int (q.2 i.toNatClampNeg) :: st) f n k Q) := tt_iald (by decide +kernel)
set_option maxRecDepth 20000 in
theorem k999_467 {X : Nat × (Nat → Int32)} {d n k : Nat} {f : Nat → e_C} {Q : t_Q} {lv rest : List Value} {a : Nat} {x0 : Int32} (hcl : cno (f a) = some 12) (hcat : e_cat rest ≤ 8) {Q1 : t_Q} (h1 : TT X d 222 0 [.ref a, .int x0, .float 0] [] f n k Q1) (h2 : ∀ f' n' k' v, Q1 f' n' k' v → TT X (d + 1) 999 470 lv (v.toList ++ rest) f' n' k' Q) : TT X (d + 1) 999 467 lv (.int x0 :: .ref a :: rest) f n k Q := tt_cV (i := .invokevirtual 52) (kind := 1) (idx := 52) (ci := 12) (as := [.int x0]) (r := e_M222) (by decide +kernel) rfl rfl rfl (by decide +kernel) rc222 (by decide) rfl rfl (by decide) (Nat.le_of_ble_eq_true rfl) rfl hcl hcat h1 h2
set_option maxRecDepth 20000 in
theorem p999_467 {X : Nat × (Nat → Int32)} {d n k : Nat} {f : Nat → e_C} {Q : t_Q} {lv rest : List Value} {a : Nat} {x0 : Int32} (hcl : cno (f a) = some 12) (hcat : e_cat rest ≤ 8) {v : Option Value} (h1 : PU X d 222 [.ref a, .int x0, .float 0] f n k v) : TT X (d + 1) 999 467 lv (.int x0 :: .ref a :: rest) f n k Q = TT X (d + 1) 999 470 lv (v.toList ++ rest) f n k Q := tt_pV (i := .invokevirtual 52) (kind := 1) (idx := 52) (ci := 12) (as := [.int x0]) (r := e_M222) (by decide +kernel) rfl rfl rfl (by decide +kernel) rc222 (by decide) rfl rfl (by decide) (Nat.le_of_ble_eq_true rfl) rfl hcl hcat h1
set_option maxRecDepth 20000 in
theorem s999_470 {X : Nat × (Nat → Int32)} {d n k : Nat} {f : Nat → e_C} {Q : t_Q} {lv st : List Value} {x y : Int32} : TT X d 999 470 lv (.int y :: .int x :: st) f n k Q = if x = y then TT X d 999 1395 lv st f n k Q else TT X d 999 473 lv st f n k Q := tt_if2 (c := .eq) (off := 925) (by decide +kernel) rfl rfl
set_option maxRecDepth 20000 in
theorem s999_473 {X : Nat × (Nat → Int32)} {d n k : Nat} {f : Nat → e_C} {Q : t_Q} {lv st : List Value} : TT X d 999 473 lv st f n k Q = TT X d 999 474 lv (.int 0 :: st) f n k Q := tt_st (i := .iconst 0) (len := 1) (by decide +kernel) rfl rfl
set_option maxRecDepth 20000 in
theorem s999_474 {X : Nat × (Nat → Int32)} {d n k : Nat} {f : Nat → e_C} {Q : t_Q} {lv : List Value} {v : Int32} : TT X d 999 474 lv [.int v] f n k Q = ((v = 0 ∨ v = 1) ∧ Q f n k (some (.int v))) := tt_reB (by decide +kernel) (by decide +kernel)
set_option maxRecDepth 20000 in
theorem s999_475 {X : Nat × (Nat → Int32)} {d n k : Nat} {f : Nat → e_C} {Q : t_Q} {a0 a2 a3 : Value} {st : List Value} {x : Nat} : TT X d 999 475 [a0, .ref x, a2, a3] st f n k Q = TT X d 999 476 [a0, .ref x, a2, a3] (.ref x :: st) f n k Q := tt_st (i := .aload_n 1) (len := 1) (by decide +kernel) rfl rfl
set_option maxRecDepth 20000 in
theorem s999_476 {X : Nat × (Nat → Int32)} {d n k : Nat} {f : Nat → e_C} {Q : t_Q} {a1 a2 a3 : Value} {st : List Value} {x : Nat} : TT X d 999 476 [.ref x, a1, a2, a3] st f n k Q = TT X d 999 477 [.ref x, a1, a2, a3] (.ref x :: st) f n k Q := tt_st (i := .aload_n 0) (len := 1) (by decide +kernel) rfl rfl
set_option maxRecDepth 20000 in
theorem s999_477 {X : Nat × (Nat → Int32)} {d n k : Nat} {f : Nat → e_C} {Q : t_Q} {a0 a1 a2 : Value} {st : List Value} {x : Int32} : TT X d 999 477 [a0, a1, a2, .int x] st f n k Q = TT X d 999 478 [a0, a1, a2, .int x] (.int x :: st) f n k Q := tt_st (i := .iload_n 3) (len := 1) (by decide +kernel) rfl rfl
set_option maxRecDepth 20000 in
theorem s999_478 {X : Nat × (Nat → Int32)} {d n k : Nat} {f : Nat → e_C} {Q : t_Q} {lv st : List Value} : TT X d 999 478 lv st f n k Q = TT X d 999 479 lv (.int 1 :: st) f n k Q := tt_st (i := .iconst 1) (len := 1) (by decide +kernel) rfl rfl
set_option maxRecDepth 20000 in
theorem s999_479 {X : Nat × (Nat → Int32)} {d n k : Nat} {f : Nat → e_C} {Q : t_Q} {lv st : List Value} {x y : Int32} : TT X d 999 479 lv (.int y :: .int x :: st) f n k Q = TT X d 999 480 lv (.int (x + y) :: st) f n k Q := tt_st (i := .iadd) (len := 1) (by decide +kernel) rfl rfl
set_option maxRecDepth 20000 in
theorem s999_480 {X : Nat × (Nat → Int32)} {d n k : Nat} {f : Nat → e_C} {Q : t_Q} {lv st : List Value} {a : Nat} {i : Int32} : TT X d 999 480 lv (.int i :: .ref a :: st) f n k Q = ow (arI (f a)) (fun q => e_in i q.1 = true ∧ TT X d 999 481 lv (.int (q.2 i.toNatClampNeg) :: st) f n k Q) := tt_iald (by decide +kernel)
set_option maxRecDepth 20000 in
theorem s999_481 {X : Nat × (Nat → Int32)} {d n k : Nat} {f : Nat → e_C} {Q : t_Q} {a1 a2 a3 : Value} {st : List Value} {x : Nat} : TT X d 999 481 [.ref x, a1, a2, a3] st f n k Q = TT X d 999 482 [.ref x, a1, a2, a3] (.ref x :: st) f n k Q := tt_st (i := .aload_n 0) (len := 1) (by decide +kernel) rfl rfl
set_option maxRecDepth 20000 in
theorem s999_482 {X : Nat × (Nat → Int32)} {d n k : Nat} {f : Nat → e_C} {Q : t_Q} {a0 a1 a2 : Value} {st : List Value} {x : Int32} : TT X d 999 482 [a0, a1, a2, .int x] st f n k Q = TT X d 999 483 [a0, a1, a2, .int x] (.int x :: st) f n k Q := tt_st (i := .iload_n 3) (len := 1) (by decide +kernel) rfl rfl
set_option maxRecDepth 20000 in
theorem s999_483 {X : Nat × (Nat → Int32)} {d n k : Nat} {f : Nat → e_C} {Q : t_Q} {lv st : List Value} : TT X d 999 483 lv st f n k Q = TT X d 999 484 lv (.int 2 :: st) f n k Q := tt_st (i := .iconst 2) (len := 1) (by decide +kernel) rfl rfl
set_option maxRecDepth 20000 in
theorem s999_484 {X : Nat × (Nat → Int32)} {d n k : Nat} {f : Nat → e_C} {Q : t_Q} {lv st : List Value} {x y : Int32} : TT X d 999 484 lv (.int y :: .int x :: st) f n k Q = TT X d 999 485 lv (.int (x + y) :: st) f n k Q := tt_st (i := .iadd) (len := 1) (by decide +kernel) rfl rfl
set_option maxRecDepth 20000 in
theorem s999_485 {X : Nat × (Nat → Int32)} {d n k : Nat} {f : Nat → e_C} {Q : t_Q} {lv st : List Value} {a : Nat} {i : Int32} : TT X d 999 485 lv (.int i :: .ref a :: st) f n k Q = ow (arI (f a)) (fun q => e_in i q.1 = true ∧ TT X d 999 486 lv (.int (q.2 i.toNatClampNeg) :: st) f n k Q) := tt_iald (by decide +kernel)
set_option maxRecDepth 20000 in
theorem k999_486 {X : Nat × (Nat → Int32)} {d n k : Nat} {f : Nat → e_C} {Q : t_Q} {lv rest : List Value} {a : Nat} {x0 : Int32} {x1 : Int32} (hcl : cno (f a) = some 11) (hcat : e_cat rest ≤ 8) {Q1 : t_Q} (h1 : TT X d 126 0 [.ref a, .int x0, .int x1, .float 0] [] f n k Q1) (h2 : ∀ f' n' k' v, Q1 f' n' k' v → TT X (d + 1) 999 489 lv (v.toList ++ rest) f' n' k' Q) : TT X (d + 1) 999 486 lv (.int x1 :: .int x0 :: .ref a :: rest) f n k Q := tt_cV (i := .invokevirtual 53) (kind := 1) (idx := 53) (ci := 11) (as := [.int x0, .int x1]) (r := e_M126) (by decide +kernel) rfl rfl rfl (by decide +kernel) rc126 (by decide) rfl rfl (by decide) (Nat.le_of_ble_eq_true rfl) rfl hcl hcat h1 h2
set_option maxRecDepth 20000 in
theorem p999_486 {X : Nat × (Nat → Int32)} {d n k : Nat} {f : Nat → e_C} {Q : t_Q} {lv rest : List Value} {a : Nat} {x0 : Int32} {x1 : Int32} (hcl : cno (f a) = some 11) (hcat : e_cat rest ≤ 8) {v : Option Value} (h1 : PU X d 126 [.ref a, .int x0, .int x1, .float 0] f n k v) : TT X (d + 1) 999 486 lv (.int x1 :: .int x0 :: .ref a :: rest) f n k Q = TT X (d + 1) 999 489 lv (v.toList ++ rest) f n k Q := tt_pV (i := .invokevirtual 53) (kind := 1) (idx := 53) (ci := 11) (as := [.int x0, .int x1]) (r := e_M126) (by decide +kernel) rfl rfl rfl (by decide +kernel) rc126 (by decide) rfl rfl (by decide) (Nat.le_of_ble_eq_true rfl) rfl hcl hcat h1
set_option maxRecDepth 20000 in
theorem s999_489 {X : Nat × (Nat → Int32)} {d n k : Nat} {f : Nat → e_C} {Q : t_Q} {a0 a1 a3 : Value} {st : List Value} {x : Nat} : TT X d 999 489 [a0, a1, .ref x, a3] st f n k Q = TT X d 999 490 [a0, a1, .ref x, a3] (.ref x :: st) f n k Q := tt_st (i := .aload_n 2) (len := 1) (by decide +kernel) rfl rfl
set_option maxRecDepth 20000 in
theorem s999_490 {X : Nat × (Nat → Int32)} {d n k : Nat} {f : Nat → e_C} {Q : t_Q} {a1 a2 a3 : Value} {st : List Value} {x : Nat} : TT X d 999 490 [.ref x, a1, a2, a3] st f n k Q = TT X d 999 491 [.ref x, a1, a2, a3] (.ref x :: st) f n k Q := tt_st (i := .aload_n 0) (len := 1) (by decide +kernel) rfl rfl
set_option maxRecDepth 20000 in
theorem s999_491 {X : Nat × (Nat → Int32)} {d n k : Nat} {f : Nat → e_C} {Q : t_Q} {a0 a1 a2 : Value} {st : List Value} {x : Int32} : TT X d 999 491 [a0, a1, a2, .int x] st f n k Q = TT X d 999 492 [a0, a1, a2, .int x] (.int x :: st) f n k Q := tt_st (i := .iload_n 3) (len := 1) (by decide +kernel) rfl rfl
set_option maxRecDepth 20000 in
theorem s999_492 {X : Nat × (Nat → Int32)} {d n k : Nat} {f : Nat → e_C} {Q : t_Q} {lv st : List Value} : TT X d 999 492 lv st f n k Q = TT X d 999 493 lv (.int 1 :: st) f n k Q := tt_st (i := .iconst 1) (len := 1) (by decide +kernel) rfl rfl
set_option maxRecDepth 20000 in
theorem s999_493 {X : Nat × (Nat → Int32)} {d n k : Nat} {f : Nat → e_C} {Q : t_Q} {lv st : List Value} {x y : Int32} : TT X d 999 493 lv (.int y :: .int x :: st) f n k Q = TT X d 999 494 lv (.int (x + y) :: st) f n k Q := tt_st (i := .iadd) (len := 1) (by decide +kernel) rfl rfl
set_option maxRecDepth 20000 in
theorem s999_494 {X : Nat × (Nat → Int32)} {d n k : Nat} {f : Nat → e_C} {Q : t_Q} {lv st : List Value} {a : Nat} {i : Int32} : TT X d 999 494 lv (.int i :: .ref a :: st) f n k Q = ow (arI (f a)) (fun q => e_in i q.1 = true ∧ TT X d 999 495 lv (.int (q.2 i.toNatClampNeg) :: st) f n k Q) := tt_iald (by decide +kernel)
set_option maxRecDepth 20000 in
theorem s999_495 {X : Nat × (Nat → Int32)} {d n k : Nat} {f : Nat → e_C} {Q : t_Q} {a1 a2 a3 : Value} {st : List Value} {x : Nat} : TT X d 999 495 [.ref x, a1, a2, a3] st f n k Q = TT X d 999 496 [.ref x, a1, a2, a3] (.ref x :: st) f n k Q := tt_st (i := .aload_n 0) (len := 1) (by decide +kernel) rfl rfl
set_option maxRecDepth 20000 in
theorem s999_496 {X : Nat × (Nat → Int32)} {d n k : Nat} {f : Nat → e_C} {Q : t_Q} {a0 a1 a2 : Value} {st : List Value} {x : Int32} : TT X d 999 496 [a0, a1, a2, .int x] st f n k Q = TT X d 999 497 [a0, a1, a2, .int x] (.int x :: st) f n k Q := tt_st (i := .iload_n 3) (len := 1) (by decide +kernel) rfl rfl
set_option maxRecDepth 20000 in
theorem s999_497 {X : Nat × (Nat → Int32)} {d n k : Nat} {f : Nat → e_C} {Q : t_Q} {lv st : List Value} : TT X d 999 497 lv st f n k Q = TT X d 999 498 lv (.int 2 :: st) f n k Q := tt_st (i := .iconst 2) (len := 1) (by decide +kernel) rfl rfl
set_option maxRecDepth 20000 in
theorem s999_498 {X : Nat × (Nat → Int32)} {d n k : Nat} {f : Nat → e_C} {Q : t_Q} {lv st : List Value} {x y : Int32} : TT X d 999 498 lv (.int y :: .int x :: st) f n k Q = TT X d 999 499 lv (.int (x + y) :: st) f n k Q := tt_st (i := .iadd) (len := 1) (by decide +kernel) rfl rfl
set_option maxRecDepth 20000 in
theorem s999_499 {X : Nat × (Nat → Int32)} {d n k : Nat} {f : Nat → e_C} {Q : t_Q} {lv st : List Value} {a : Nat} {i : Int32} : TT X d 999 499 lv (.int i :: .ref a :: st) f n k Q = ow (arI (f a)) (fun q => e_in i q.1 = true ∧ TT X d 999 500 lv (.int (q.2 i.toNatClampNeg) :: st) f n k Q) := tt_iald (by decide +kernel)
set_option maxRecDepth 20000 in
theorem k999_500 {X : Nat × (Nat → Int32)} {d n k : Nat} {f : Nat → e_C} {Q : t_Q} {lv rest : List Value} {a : Nat} {x0 : Int32} {x1 : Int32} (hcl : cno (f a) = some 12) (hcat : e_cat rest ≤ 8) {Q1 : t_Q} (h1 : TT X d 228 0 [.ref a, .int x0, .int x1, .float 0] [] f n k Q1) (h2 : ∀ f' n' k' v, Q1 f' n' k' v → TT X (d + 1) 999 503 lv (v.toList ++ rest) f' n' k' Q) : TT X (d + 1) 999 500 lv (.int x1 :: .int x0 :: .ref a :: rest) f n k Q := tt_cV (i := .invokevirtual 56) (kind := 1) (idx := 56) (ci := 12) (as := [.int x0, .int x1]) (r := e_M228) (by decide +kernel) rfl rfl rfl (by decide +kernel) rc228 (by decide) rfl rfl (by decide) (Nat.le_of_ble_eq_true rfl) rfl hcl hcat h1 h2
set_option maxRecDepth 20000 in
theorem p999_500 {X : Nat × (Nat → Int32)} {d n k : Nat} {f : Nat → e_C} {Q : t_Q} {lv rest : List Value} {a : Nat} {x0 : Int32} {x1 : Int32} (hcl : cno (f a) = some 12) (hcat : e_cat rest ≤ 8) {v : Option Value} (h1 : PU X d 228 [.ref a, .int x0, .int x1, .float 0] f n k v) : TT X (d + 1) 999 500 lv (.int x1 :: .int x0 :: .ref a :: rest) f n k Q = TT X (d + 1) 999 503 lv (v.toList ++ rest) f n k Q := tt_pV (i := .invokevirtual 56) (kind := 1) (idx := 56) (ci := 12) (as := [.int x0, .int x1]) (r := e_M228) (by decide +kernel) rfl rfl rfl (by decide +kernel) rc228 (by decide) rfl rfl (by decide) (Nat.le_of_ble_eq_true rfl) rfl hcl hcat h1
set_option maxRecDepth 20000 in
theorem s999_503 {X : Nat × (Nat → Int32)} {d n k : Nat} {f : Nat → e_C} {Q : t_Q} {lv st : List Value} {x y : Int32} : TT X d 999 503 lv (.int y :: .int x :: st) f n k Q = if x = y then TT X d 999 1395 lv st f n k Q else TT X d 999 506 lv st f n k Q := tt_if2 (c := .eq) (off := 892) (by decide +kernel) rfl rfl
set_option maxRecDepth 20000 in
theorem s999_506 {X : Nat × (Nat → Int32)} {d n k : Nat} {f : Nat → e_C} {Q : t_Q} {lv st : List Value} : TT X d 999 506 lv st f n k Q = TT X d 999 507 lv (.int 0 :: st) f n k Q := tt_st (i := .iconst 0) (len := 1) (by decide +kernel) rfl rfl
set_option maxRecDepth 20000 in
theorem s999_507 {X : Nat × (Nat → Int32)} {d n k : Nat} {f : Nat → e_C} {Q : t_Q} {lv : List Value} {v : Int32} : TT X d 999 507 lv [.int v] f n k Q = ((v = 0 ∨ v = 1) ∧ Q f n k (some (.int v))) := tt_reB (by decide +kernel) (by decide +kernel)
set_option maxRecDepth 20000 in
theorem s999_508 {X : Nat × (Nat → Int32)} {d n k : Nat} {f : Nat → e_C} {Q : t_Q} {a0 a2 a3 : Value} {st : List Value} {x : Nat} : TT X d 999 508 [a0, .ref x, a2, a3] st f n k Q = TT X d 999 509 [a0, .ref x, a2, a3] (.ref x :: st) f n k Q := tt_st (i := .aload_n 1) (len := 1) (by decide +kernel) rfl rfl
set_option maxRecDepth 20000 in
theorem s999_509 {X : Nat × (Nat → Int32)} {d n k : Nat} {f : Nat → e_C} {Q : t_Q} {a1 a2 a3 : Value} {st : List Value} {x : Nat} : TT X d 999 509 [.ref x, a1, a2, a3] st f n k Q = TT X d 999 510 [.ref x, a1, a2, a3] (.ref x :: st) f n k Q := tt_st (i := .aload_n 0) (len := 1) (by decide +kernel) rfl rfl
set_option maxRecDepth 20000 in
theorem s999_510 {X : Nat × (Nat → Int32)} {d n k : Nat} {f : Nat → e_C} {Q : t_Q} {a0 a1 a2 : Value} {st : List Value} {x : Int32} : TT X d 999 510 [a0, a1, a2, .int x] st f n k Q = TT X d 999 511 [a0, a1, a2, .int x] (.int x :: st) f n k Q := tt_st (i := .iload_n 3) (len := 1) (by decide +kernel) rfl rfl
set_option maxRecDepth 20000 in
theorem s999_511 {X : Nat × (Nat → Int32)} {d n k : Nat} {f : Nat → e_C} {Q : t_Q} {lv st : List Value} : TT X d 999 511 lv st f n k Q = TT X d 999 512 lv (.int 1 :: st) f n k Q := tt_st (i := .iconst 1) (len := 1) (by decide +kernel) rfl rfl
set_option maxRecDepth 20000 in
theorem s999_512 {X : Nat × (Nat → Int32)} {d n k : Nat} {f : Nat → e_C} {Q : t_Q} {lv st : List Value} {x y : Int32} : TT X d 999 512 lv (.int y :: .int x :: st) f n k Q = TT X d 999 513 lv (.int (x + y) :: st) f n k Q := tt_st (i := .iadd) (len := 1) (by decide +kernel) rfl rfl
set_option maxRecDepth 20000 in
theorem s999_513 {X : Nat × (Nat → Int32)} {d n k : Nat} {f : Nat → e_C} {Q : t_Q} {lv st : List Value} {a : Nat} {i : Int32} : TT X d 999 513 lv (.int i :: .ref a :: st) f n k Q = ow (arI (f a)) (fun q => e_in i q.1 = true ∧ TT X d 999 514 lv (.int (q.2 i.toNatClampNeg) :: st) f n k Q) := tt_iald (by decide +kernel)
set_option maxRecDepth 20000 in
theorem s999_514 {X : Nat × (Nat → Int32)} {d n k : Nat} {f : Nat → e_C} {Q : t_Q} {a1 a2 a3 : Value} {st : List Value} {x : Nat} : TT X d 999 514 [.ref x, a1, a2, a3] st f n k Q = TT X d 999 515 [.ref x, a1, a2, a3] (.ref x :: st) f n k Q := tt_st (i := .aload_n 0) (len := 1) (by decide +kernel) rfl rfl
set_option maxRecDepth 20000 in
theorem s999_515 {X : Nat × (Nat → Int32)} {d n k : Nat} {f : Nat → e_C} {Q : t_Q} {a0 a1 a2 : Value} {st : List Value} {x : Int32} : TT X d 999 515 [a0, a1, a2, .int x] st f n k Q = TT X d 999 516 [a0, a1, a2, .int x] (.int x :: st) f n k Q := tt_st (i := .iload_n 3) (len := 1) (by decide +kernel) rfl rfl
set_option maxRecDepth 20000 in
theorem s999_516 {X : Nat × (Nat → Int32)} {d n k : Nat} {f : Nat → e_C} {Q : t_Q} {lv st : List Value} : TT X d 999 516 lv st f n k Q = TT X d 999 517 lv (.int 2 :: st) f n k Q := tt_st (i := .iconst 2) (len := 1) (by decide +kernel) rfl rfl
set_option maxRecDepth 20000 in
theorem s999_517 {X : Nat × (Nat → Int32)} {d n k : Nat} {f : Nat → e_C} {Q : t_Q} {lv st : List Value} {x y : Int32} : TT X d 999 517 lv (.int y :: .int x :: st) f n k Q = TT X d 999 518 lv (.int (x + y) :: st) f n k Q := tt_st (i := .iadd) (len := 1) (by decide +kernel) rfl rfl
set_option maxRecDepth 20000 in
theorem s999_518 {X : Nat × (Nat → Int32)} {d n k : Nat} {f : Nat → e_C} {Q : t_Q} {lv st : List Value} {a : Nat} {i : Int32} : TT X d 999 518 lv (.int i :: .ref a :: st) f n k Q = ow (arI (f a)) (fun q => e_in i q.1 = true ∧ TT X d 999 519 lv (.int (q.2 i.toNatClampNeg) :: st) f n k Q) := tt_iald (by decide +kernel)
set_option maxRecDepth 20000 in
theorem k999_519 {X : Nat × (Nat → Int32)} {d n k : Nat} {f : Nat → e_C} {Q : t_Q} {lv rest : List Value} {a : Nat} {x0 : Int32} {x1 : Int32} (hcl : cno (f a) = some 11) (hcat : e_cat rest ≤ 8) {Q1 : t_Q} (h1 : TT X d 127 0 [.ref a, .int x0, .int x1, .float 0] [] f n k Q1) (h2 : ∀ f' n' k' v, Q1 f' n' k' v → TT X (d + 1) 999 522 lv (v.toList ++ rest) f' n' k' Q) : TT X (d + 1) 999 519 lv (.int x1 :: .int x0 :: .ref a :: rest) f n k Q := tt_cV (i := .invokevirtual 57) (kind := 1) (idx := 57) (ci := 11) (as := [.int x0, .int x1]) (r := e_M127) (by decide +kernel) rfl rfl rfl (by decide +kernel) rc127 (by decide) rfl rfl (by decide) (Nat.le_of_ble_eq_true rfl) rfl hcl hcat h1 h2
set_option maxRecDepth 20000 in
theorem p999_519 {X : Nat × (Nat → Int32)} {d n k : Nat} {f : Nat → e_C} {Q : t_Q} {lv rest : List Value} {a : Nat} {x0 : Int32} {x1 : Int32} (hcl : cno (f a) = some 11) (hcat : e_cat rest ≤ 8) {v : Option Value} (h1 : PU X d 127 [.ref a, .int x0, .int x1, .float 0] f n k v) : TT X (d + 1) 999 519 lv (.int x1 :: .int x0 :: .ref a :: rest) f n k Q = TT X (d + 1) 999 522 lv (v.toList ++ rest) f n k Q := tt_pV (i := .invokevirtual 57) (kind := 1) (idx := 57) (ci := 11) (as := [.int x0, .int x1]) (r := e_M127) (by decide +kernel) rfl rfl rfl (by decide +kernel) rc127 (by decide) rfl rfl (by decide) (Nat.le_of_ble_eq_true rfl) rfl hcl hcat h1
set_option maxRecDepth 20000 in
theorem s999_522 {X : Nat × (Nat → Int32)} {d n k : Nat} {f : Nat → e_C} {Q : t_Q} {a0 a1 a3 : Value} {st : List Value} {x : Nat} : TT X d 999 522 [a0, a1, .ref x, a3] st f n k Q = TT X d 999 523 [a0, a1, .ref x, a3] (.ref x :: st) f n k Q := tt_st (i := .aload_n 2) (len := 1) (by decide +kernel) rfl rfl
set_option maxRecDepth 20000 in
theorem s999_523 {X : Nat × (Nat → Int32)} {d n k : Nat} {f : Nat → e_C} {Q : t_Q} {a1 a2 a3 : Value} {st : List Value} {x : Nat} : TT X d 999 523 [.ref x, a1, a2, a3] st f n k Q = TT X d 999 524 [.ref x, a1, a2, a3] (.ref x :: st) f n k Q := tt_st (i := .aload_n 0) (len := 1) (by decide +kernel) rfl rfl
set_option maxRecDepth 20000 in
theorem s999_524 {X : Nat × (Nat → Int32)} {d n k : Nat} {f : Nat → e_C} {Q : t_Q} {a0 a1 a2 : Value} {st : List Value} {x : Int32} : TT X d 999 524 [a0, a1, a2, .int x] st f n k Q = TT X d 999 525 [a0, a1, a2, .int x] (.int x :: st) f n k Q := tt_st (i := .iload_n 3) (len := 1) (by decide +kernel) rfl rfl
set_option maxRecDepth 20000 in
theorem s999_525 {X : Nat × (Nat → Int32)} {d n k : Nat} {f : Nat → e_C} {Q : t_Q} {lv st : List Value} : TT X d 999 525 lv st f n k Q = TT X d 999 526 lv (.int 1 :: st) f n k Q := tt_st (i := .iconst 1) (len := 1) (by decide +kernel) rfl rfl
set_option maxRecDepth 20000 in
theorem s999_526 {X : Nat × (Nat → Int32)} {d n k : Nat} {f : Nat → e_C} {Q : t_Q} {lv st : List Value} {x y : Int32} : TT X d 999 526 lv (.int y :: .int x :: st) f n k Q = TT X d 999 527 lv (.int (x + y) :: st) f n k Q := tt_st (i := .iadd) (len := 1) (by decide +kernel) rfl rfl
set_option maxRecDepth 20000 in
theorem s999_527 {X : Nat × (Nat → Int32)} {d n k : Nat} {f : Nat → e_C} {Q : t_Q} {lv st : List Value} {a : Nat} {i : Int32} : TT X d 999 527 lv (.int i :: .ref a :: st) f n k Q = ow (arI (f a)) (fun q => e_in i q.1 = true ∧ TT X d 999 528 lv (.int (q.2 i.toNatClampNeg) :: st) f n k Q) := tt_iald (by decide +kernel)
set_option maxRecDepth 20000 in
theorem s999_528 {X : Nat × (Nat → Int32)} {d n k : Nat} {f : Nat → e_C} {Q : t_Q} {a1 a2 a3 : Value} {st : List Value} {x : Nat} : TT X d 999 528 [.ref x, a1, a2, a3] st f n k Q = TT X d 999 529 [.ref x, a1, a2, a3] (.ref x :: st) f n k Q := tt_st (i := .aload_n 0) (len := 1) (by decide +kernel) rfl rfl
set_option maxRecDepth 20000 in
theorem s999_529 {X : Nat × (Nat → Int32)} {d n k : Nat} {f : Nat → e_C} {Q : t_Q} {a0 a1 a2 : Value} {st : List Value} {x : Int32} : TT X d 999 529 [a0, a1, a2, .int x] st f n k Q = TT X d 999 530 [a0, a1, a2, .int x] (.int x :: st) f n k Q := tt_st (i := .iload_n 3) (len := 1) (by decide +kernel) rfl rfl
set_option maxRecDepth 20000 in
theorem s999_530 {X : Nat × (Nat → Int32)} {d n k : Nat} {f : Nat → e_C} {Q : t_Q} {lv st : List Value} : TT X d 999 530 lv st f n k Q = TT X d 999 531 lv (.int 2 :: st) f n k Q := tt_st (i := .iconst 2) (len := 1) (by decide +kernel) rfl rfl
set_option maxRecDepth 20000 in
theorem s999_531 {X : Nat × (Nat → Int32)} {d n k : Nat} {f : Nat → e_C} {Q : t_Q} {lv st : List Value} {x y : Int32} : TT X d 999 531 lv (.int y :: .int x :: st) f n k Q = TT X d 999 532 lv (.int (x + y) :: st) f n k Q := tt_st (i := .iadd) (len := 1) (by decide +kernel) rfl rfl
set_option maxRecDepth 20000 in
theorem s999_532 {X : Nat × (Nat → Int32)} {d n k : Nat} {f : Nat → e_C} {Q : t_Q} {lv st : List Value} {a : Nat} {i : Int32} : TT X d 999 532 lv (.int i :: .ref a :: st) f n k Q = ow (arI (f a)) (fun q => e_in i q.1 = true ∧ TT X d 999 533 lv (.int (q.2 i.toNatClampNeg) :: st) f n k Q) := tt_iald (by decide +kernel)
set_option maxRecDepth 20000 in
theorem k999_533 {X : Nat × (Nat → Int32)} {d n k : Nat} {f : Nat → e_C} {Q : t_Q} {lv rest : List Value} {a : Nat} {x0 : Int32} {x1 : Int32} (hcl : cno (f a) = some 12) (hcat : e_cat rest ≤ 8) {Q1 : t_Q} (h1 : TT X d 232 0 [.ref a, .int x0, .int x1, .float 0] [] f n k Q1) (h2 : ∀ f' n' k' v, Q1 f' n' k' v → TT X (d + 1) 999 536 lv (v.toList ++ rest) f' n' k' Q) : TT X (d + 1) 999 533 lv (.int x1 :: .int x0 :: .ref a :: rest) f n k Q := tt_cV (i := .invokevirtual 60) (kind := 1) (idx := 60) (ci := 12) (as := [.int x0, .int x1]) (r := e_M232) (by decide +kernel) rfl rfl rfl (by decide +kernel) rc232 (by decide) rfl rfl (by decide) (Nat.le_of_ble_eq_true rfl) rfl hcl hcat h1 h2
set_option maxRecDepth 20000 in
theorem p999_533 {X : Nat × (Nat → Int32)} {d n k : Nat} {f : Nat → e_C} {Q : t_Q} {lv rest : List Value} {a : Nat} {x0 : Int32} {x1 : Int32} (hcl : cno (f a) = some 12) (hcat : e_cat rest ≤ 8) {v : Option Value} (h1 : PU X d 232 [.ref a, .int x0, .int x1, .float 0] f n k v) : TT X (d + 1) 999 533 lv (.int x1 :: .int x0 :: .ref a :: rest) f n k Q = TT X (d + 1) 999 536 lv (v.toList ++ rest) f n k Q := tt_pV (i := .invokevirtual 60) (kind := 1) (idx := 60) (ci := 12) (as := [.int x0, .int x1]) (r := e_M232) (by decide +kernel) rfl rfl rfl (by decide +kernel) rc232 (by decide) rfl rfl (by decide) (Nat.le_of_ble_eq_true rfl) rfl hcl hcat h1
set_option maxRecDepth 20000 in
theorem s999_536 {X : Nat × (Nat → Int32)} {d n k : Nat} {f : Nat → e_C} {Q : t_Q} {lv st : List Value} {x y : Int32} : TT X d 999 536 lv (.int y :: .int x :: st) f n k Q = if x = y then TT X d 999 1395 lv st f n k Q else TT X d 999 539 lv st f n k Q := tt_if2 (c := .eq) (off := 859) (by decide +kernel) rfl rfl
set_option maxRecDepth 20000 in
theorem s999_539 {X : Nat × (Nat → Int32)} {d n k : Nat} {f : Nat → e_C} {Q : t_Q} {lv st : List Value} : TT X d 999 539 lv st f n k Q = TT X d 999 540 lv (.int 0 :: st) f n k Q := tt_st (i := .iconst 0) (len := 1) (by decide +kernel) rfl rfl
set_option maxRecDepth 20000 in
theorem s999_540 {X : Nat × (Nat → Int32)} {d n k : Nat} {f : Nat → e_C} {Q : t_Q} {lv : List Value} {v : Int32} : TT X d 999 540 lv [.int v] f n k Q = ((v = 0 ∨ v = 1) ∧ Q f n k (some (.int v))) := tt_reB (by decide +kernel) (by decide +kernel)
set_option maxRecDepth 20000 in
theorem s999_541 {X : Nat × (Nat → Int32)} {d n k : Nat} {f : Nat → e_C} {Q : t_Q} {a0 a2 a3 : Value} {st : List Value} {x : Nat} : TT X d 999 541 [a0, .ref x, a2, a3] st f n k Q = TT X d 999 542 [a0, .ref x, a2, a3] (.ref x :: st) f n k Q := tt_st (i := .aload_n 1) (len := 1) (by decide +kernel) rfl rfl
set_option maxRecDepth 20000 in
theorem s999_542 {X : Nat × (Nat → Int32)} {d n k : Nat} {f : Nat → e_C} {Q : t_Q} {a1 a2 a3 : Value} {st : List Value} {x : Nat} : TT X d 999 542 [.ref x, a1, a2, a3] st f n k Q = TT X d 999 543 [.ref x, a1, a2, a3] (.ref x :: st) f n k Q := tt_st (i := .aload_n 0) (len := 1) (by decide +kernel) rfl rfl
set_option maxRecDepth 20000 in
theorem s999_543 {X : Nat × (Nat → Int32)} {d n k : Nat} {f : Nat → e_C} {Q : t_Q} {a0 a1 a2 : Value} {st : List Value} {x : Int32} : TT X d 999 543 [a0, a1, a2, .int x] st f n k Q = TT X d 999 544 [a0, a1, a2, .int x] (.int x :: st) f n k Q := tt_st (i := .iload_n 3) (len := 1) (by decide +kernel) rfl rfl
set_option maxRecDepth 20000 in
theorem s999_544 {X : Nat × (Nat → Int32)} {d n k : Nat} {f : Nat → e_C} {Q : t_Q} {lv st : List Value} : TT X d 999 544 lv st f n k Q = TT X d 999 545 lv (.int 1 :: st) f n k Q := tt_st (i := .iconst 1) (len := 1) (by decide +kernel) rfl rfl
set_option maxRecDepth 20000 in
theorem s999_545 {X : Nat × (Nat → Int32)} {d n k : Nat} {f : Nat → e_C} {Q : t_Q} {lv st : List Value} {x y : Int32} : TT X d 999 545 lv (.int y :: .int x :: st) f n k Q = TT X d 999 546 lv (.int (x + y) :: st) f n k Q := tt_st (i := .iadd) (len := 1) (by decide +kernel) rfl rfl
set_option maxRecDepth 20000 in
theorem s999_546 {X : Nat × (Nat → Int32)} {d n k : Nat} {f : Nat → e_C} {Q : t_Q} {lv st : List Value} {a : Nat} {i : Int32} : TT X d 999 546 lv (.int i :: .ref a :: st) f n k Q = ow (arI (f a)) (fun q => e_in i q.1 = true ∧ TT X d 999 547 lv (.int (q.2 i.toNatClampNeg) :: st) f n k Q) := tt_iald (by decide +kernel)
set_option maxRecDepth 20000 in
theorem k999_547 {X : Nat × (Nat → Int32)} {d n k : Nat} {f : Nat → e_C} {Q : t_Q} {lv rest : List Value} {a : Nat} {x0 : Int32} (hcl : cno (f a) = some 11) (hcat : e_cat rest ≤ 8) {Q1 : t_Q} (h1 : TT X d 128 0 [.ref a, .int x0, .float 0] [] f n k Q1) (h2 : ∀ f' n' k' v, Q1 f' n' k' v → TT X (d + 1) 999 550 lv (v.toList ++ rest) f' n' k' Q) : TT X (d + 1) 999 547 lv (.int x0 :: .ref a :: rest) f n k Q := tt_cV (i := .invokevirtual 61) (kind := 1) (idx := 61) (ci := 11) (as := [.int x0]) (r := e_M128) (by decide +kernel) rfl rfl rfl (by decide +kernel) rc128 (by decide) rfl rfl (by decide) (Nat.le_of_ble_eq_true rfl) rfl hcl hcat h1 h2
set_option maxRecDepth 20000 in
theorem p999_547 {X : Nat × (Nat → Int32)} {d n k : Nat} {f : Nat → e_C} {Q : t_Q} {lv rest : List Value} {a : Nat} {x0 : Int32} (hcl : cno (f a) = some 11) (hcat : e_cat rest ≤ 8) {v : Option Value} (h1 : PU X d 128 [.ref a, .int x0, .float 0] f n k v) : TT X (d + 1) 999 547 lv (.int x0 :: .ref a :: rest) f n k Q = TT X (d + 1) 999 550 lv (v.toList ++ rest) f n k Q := tt_pV (i := .invokevirtual 61) (kind := 1) (idx := 61) (ci := 11) (as := [.int x0]) (r := e_M128) (by decide +kernel) rfl rfl rfl (by decide +kernel) rc128 (by decide) rfl rfl (by decide) (Nat.le_of_ble_eq_true rfl) rfl hcl hcat h1
set_option maxRecDepth 20000 in
theorem s999_550 {X : Nat × (Nat → Int32)} {d n k : Nat} {f : Nat → e_C} {Q : t_Q} {a0 a1 a3 : Value} {st : List Value} {x : Nat} : TT X d 999 550 [a0, a1, .ref x, a3] st f n k Q = TT X d 999 551 [a0, a1, .ref x, a3] (.ref x :: st) f n k Q := tt_st (i := .aload_n 2) (len := 1) (by decide +kernel) rfl rfl
set_option maxRecDepth 20000 in
theorem s999_551 {X : Nat × (Nat → Int32)} {d n k : Nat} {f : Nat → e_C} {Q : t_Q} {a1 a2 a3 : Value} {st : List Value} {x : Nat} : TT X d 999 551 [.ref x, a1, a2, a3] st f n k Q = TT X d 999 552 [.ref x, a1, a2, a3] (.ref x :: st) f n k Q := tt_st (i := .aload_n 0) (len := 1) (by decide +kernel) rfl rfl
set_option maxRecDepth 20000 in
theorem s999_552 {X : Nat × (Nat → Int32)} {d n k : Nat} {f : Nat → e_C} {Q : t_Q} {a0 a1 a2 : Value} {st : List Value} {x : Int32} : TT X d 999 552 [a0, a1, a2, .int x] st f n k Q = TT X d 999 553 [a0, a1, a2, .int x] (.int x :: st) f n k Q := tt_st (i := .iload_n 3) (len := 1) (by decide +kernel) rfl rfl
set_option maxRecDepth 20000 in
theorem s999_553 {X : Nat × (Nat → Int32)} {d n k : Nat} {f : Nat → e_C} {Q : t_Q} {lv st : List Value} : TT X d 999 553 lv st f n k Q = TT X d 999 554 lv (.int 1 :: st) f n k Q := tt_st (i := .iconst 1) (len := 1) (by decide +kernel) rfl rfl
set_option maxRecDepth 20000 in
theorem s999_554 {X : Nat × (Nat → Int32)} {d n k : Nat} {f : Nat → e_C} {Q : t_Q} {lv st : List Value} {x y : Int32} : TT X d 999 554 lv (.int y :: .int x :: st) f n k Q = TT X d 999 555 lv (.int (x + y) :: st) f n k Q := tt_st (i := .iadd) (len := 1) (by decide +kernel) rfl rfl
set_option maxRecDepth 20000 in
theorem s999_555 {X : Nat × (Nat → Int32)} {d n k : Nat} {f : Nat → e_C} {Q : t_Q} {lv st : List Value} {a : Nat} {i : Int32} : TT X d 999 555 lv (.int i :: .ref a :: st) f n k Q = ow (arI (f a)) (fun q => e_in i q.1 = true ∧ TT X d 999 556 lv (.int (q.2 i.toNatClampNeg) :: st) f n k Q) := tt_iald (by decide +kernel)
set_option maxRecDepth 20000 in
theorem k999_556 {X : Nat × (Nat → Int32)} {d n k : Nat} {f : Nat → e_C} {Q : t_Q} {lv rest : List Value} {a : Nat} {x0 : Int32} (hcl : cno (f a) = some 12) (hcat : e_cat rest ≤ 8) {Q1 : t_Q} (h1 : TT X d 235 0 [.ref a, .int x0, .float 0] [] f n k Q1) (h2 : ∀ f' n' k' v, Q1 f' n' k' v → TT X (d + 1) 999 559 lv (v.toList ++ rest) f' n' k' Q) : TT X (d + 1) 999 556 lv (.int x0 :: .ref a :: rest) f n k Q := tt_cV (i := .invokevirtual 64) (kind := 1) (idx := 64) (ci := 12) (as := [.int x0]) (r := e_M235) (by decide +kernel) rfl rfl rfl (by decide +kernel) rc235 (by decide) rfl rfl (by decide) (Nat.le_of_ble_eq_true rfl) rfl hcl hcat h1 h2
set_option maxRecDepth 20000 in
theorem p999_556 {X : Nat × (Nat → Int32)} {d n k : Nat} {f : Nat → e_C} {Q : t_Q} {lv rest : List Value} {a : Nat} {x0 : Int32} (hcl : cno (f a) = some 12) (hcat : e_cat rest ≤ 8) {v : Option Value} (h1 : PU X d 235 [.ref a, .int x0, .float 0] f n k v) : TT X (d + 1) 999 556 lv (.int x0 :: .ref a :: rest) f n k Q = TT X (d + 1) 999 559 lv (v.toList ++ rest) f n k Q := tt_pV (i := .invokevirtual 64) (kind := 1) (idx := 64) (ci := 12) (as := [.int x0]) (r := e_M235) (by decide +kernel) rfl rfl rfl (by decide +kernel) rc235 (by decide) rfl rfl (by decide) (Nat.le_of_ble_eq_true rfl) rfl hcl hcat h1
set_option maxRecDepth 20000 in
theorem s999_559 {X : Nat × (Nat → Int32)} {d n k : Nat} {f : Nat → e_C} {Q : t_Q} {lv st : List Value} {x y : Int32} : TT X d 999 559 lv (.int y :: .int x :: st) f n k Q = if x = y then TT X d 999 1395 lv st f n k Q else TT X d 999 562 lv st f n k Q := tt_if2 (c := .eq) (off := 836) (by decide +kernel) rfl rfl
set_option maxRecDepth 20000 in
theorem s999_562 {X : Nat × (Nat → Int32)} {d n k : Nat} {f : Nat → e_C} {Q : t_Q} {lv st : List Value} : TT X d 999 562 lv st f n k Q = TT X d 999 563 lv (.int 0 :: st) f n k Q := tt_st (i := .iconst 0) (len := 1) (by decide +kernel) rfl rfl
set_option maxRecDepth 20000 in
theorem s999_563 {X : Nat × (Nat → Int32)} {d n k : Nat} {f : Nat → e_C} {Q : t_Q} {lv : List Value} {v : Int32} : TT X d 999 563 lv [.int v] f n k Q = ((v = 0 ∨ v = 1) ∧ Q f n k (some (.int v))) := tt_reB (by decide +kernel) (by decide +kernel)
set_option maxRecDepth 20000 in
theorem s999_564 {X : Nat × (Nat → Int32)} {d n k : Nat} {f : Nat → e_C} {Q : t_Q} {a0 a2 a3 : Value} {st : List Value} {x : Nat} : TT X d 999 564 [a0, .ref x, a2, a3] st f n k Q = TT X d 999 565 [a0, .ref x, a2, a3] (.ref x :: st) f n k Q := tt_st (i := .aload_n 1) (len := 1) (by decide +kernel) rfl rfl
set_option maxRecDepth 20000 in
theorem s999_565 {X : Nat × (Nat → Int32)} {d n k : Nat} {f : Nat → e_C} {Q : t_Q} {a1 a2 a3 : Value} {st : List Value} {x : Nat} : TT X d 999 565 [.ref x, a1, a2, a3] st f n k Q = TT X d 999 566 [.ref x, a1, a2, a3] (.ref x :: st) f n k Q := tt_st (i := .aload_n 0) (len := 1) (by decide +kernel) rfl rfl
set_option maxRecDepth 20000 in
theorem s999_566 {X : Nat × (Nat → Int32)} {d n k : Nat} {f : Nat → e_C} {Q : t_Q} {a0 a1 a2 : Value} {st : List Value} {x : Int32} : TT X d 999 566 [a0, a1, a2, .int x] st f n k Q = TT X d 999 567 [a0, a1, a2, .int x] (.int x :: st) f n k Q := tt_st (i := .iload_n 3) (len := 1) (by decide +kernel) rfl rfl
set_option maxRecDepth 20000 in
theorem s999_567 {X : Nat × (Nat → Int32)} {d n k : Nat} {f : Nat → e_C} {Q : t_Q} {lv st : List Value} : TT X d 999 567 lv st f n k Q = TT X d 999 568 lv (.int 1 :: st) f n k Q := tt_st (i := .iconst 1) (len := 1) (by decide +kernel) rfl rfl
set_option maxRecDepth 20000 in
theorem s999_568 {X : Nat × (Nat → Int32)} {d n k : Nat} {f : Nat → e_C} {Q : t_Q} {lv st : List Value} {x y : Int32} : TT X d 999 568 lv (.int y :: .int x :: st) f n k Q = TT X d 999 569 lv (.int (x + y) :: st) f n k Q := tt_st (i := .iadd) (len := 1) (by decide +kernel) rfl rfl
set_option maxRecDepth 20000 in
theorem s999_569 {X : Nat × (Nat → Int32)} {d n k : Nat} {f : Nat → e_C} {Q : t_Q} {lv st : List Value} {a : Nat} {i : Int32} : TT X d 999 569 lv (.int i :: .ref a :: st) f n k Q = ow (arI (f a)) (fun q => e_in i q.1 = true ∧ TT X d 999 570 lv (.int (q.2 i.toNatClampNeg) :: st) f n k Q) := tt_iald (by decide +kernel)
set_option maxRecDepth 20000 in
theorem k999_570 {X : Nat × (Nat → Int32)} {d n k : Nat} {f : Nat → e_C} {Q : t_Q} {lv rest : List Value} {a : Nat} {x0 : Int32} (hcl : cno (f a) = some 11) (hcat : e_cat rest ≤ 8) {Q1 : t_Q} (h1 : TT X d 129 0 [.ref a, .int x0, .float 0, .float 0] [] f n k Q1) (h2 : ∀ f' n' k' v, Q1 f' n' k' v → TT X (d + 1) 999 573 lv (v.toList ++ rest) f' n' k' Q) : TT X (d + 1) 999 570 lv (.int x0 :: .ref a :: rest) f n k Q := tt_cV (i := .invokevirtual 65) (kind := 1) (idx := 65) (ci := 11) (as := [.int x0]) (r := e_M129) (by decide +kernel) rfl rfl rfl (by decide +kernel) rc129 (by decide) rfl rfl (by decide) (Nat.le_of_ble_eq_true rfl) rfl hcl hcat h1 h2
set_option maxRecDepth 20000 in
theorem p999_570 {X : Nat × (Nat → Int32)} {d n k : Nat} {f : Nat → e_C} {Q : t_Q} {lv rest : List Value} {a : Nat} {x0 : Int32} (hcl : cno (f a) = some 11) (hcat : e_cat rest ≤ 8) {v : Option Value} (h1 : PU X d 129 [.ref a, .int x0, .float 0, .float 0] f n k v) : TT X (d + 1) 999 570 lv (.int x0 :: .ref a :: rest) f n k Q = TT X (d + 1) 999 573 lv (v.toList ++ rest) f n k Q := tt_pV (i := .invokevirtual 65) (kind := 1) (idx := 65) (ci := 11) (as := [.int x0]) (r := e_M129) (by decide +kernel) rfl rfl rfl (by decide +kernel) rc129 (by decide) rfl rfl (by decide) (Nat.le_of_ble_eq_true rfl) rfl hcl hcat h1
set_option maxRecDepth 20000 in
theorem s999_573 {X : Nat × (Nat → Int32)} {d n k : Nat} {f : Nat → e_C} {Q : t_Q} {a0 a1 a3 : Value} {st : List Value} {x : Nat} : TT X d 999 573 [a0, a1, .ref x, a3] st f n k Q = TT X d 999 574 [a0, a1, .ref x, a3] (.ref x :: st) f n k Q := tt_st (i := .aload_n 2) (len := 1) (by decide +kernel) rfl rfl
set_option maxRecDepth 20000 in
theorem s999_574 {X : Nat × (Nat → Int32)} {d n k : Nat} {f : Nat → e_C} {Q : t_Q} {a1 a2 a3 : Value} {st : List Value} {x : Nat} : TT X d 999 574 [.ref x, a1, a2, a3] st f n k Q = TT X d 999 575 [.ref x, a1, a2, a3] (.ref x :: st) f n k Q := tt_st (i := .aload_n 0) (len := 1) (by decide +kernel) rfl rfl
set_option maxRecDepth 20000 in
theorem s999_575 {X : Nat × (Nat → Int32)} {d n k : Nat} {f : Nat → e_C} {Q : t_Q} {a0 a1 a2 : Value} {st : List Value} {x : Int32} : TT X d 999 575 [a0, a1, a2, .int x] st f n k Q = TT X d 999 576 [a0, a1, a2, .int x] (.int x :: st) f n k Q := tt_st (i := .iload_n 3) (len := 1) (by decide +kernel) rfl rfl
set_option maxRecDepth 20000 in
theorem s999_576 {X : Nat × (Nat → Int32)} {d n k : Nat} {f : Nat → e_C} {Q : t_Q} {lv st : List Value} : TT X d 999 576 lv st f n k Q = TT X d 999 577 lv (.int 1 :: st) f n k Q := tt_st (i := .iconst 1) (len := 1) (by decide +kernel) rfl rfl
set_option maxRecDepth 20000 in
theorem s999_577 {X : Nat × (Nat → Int32)} {d n k : Nat} {f : Nat → e_C} {Q : t_Q} {lv st : List Value} {x y : Int32} : TT X d 999 577 lv (.int y :: .int x :: st) f n k Q = TT X d 999 578 lv (.int (x + y) :: st) f n k Q := tt_st (i := .iadd) (len := 1) (by decide +kernel) rfl rfl
set_option maxRecDepth 20000 in
theorem s999_578 {X : Nat × (Nat → Int32)} {d n k : Nat} {f : Nat → e_C} {Q : t_Q} {lv st : List Value} {a : Nat} {i : Int32} : TT X d 999 578 lv (.int i :: .ref a :: st) f n k Q = ow (arI (f a)) (fun q => e_in i q.1 = true ∧ TT X d 999 579 lv (.int (q.2 i.toNatClampNeg) :: st) f n k Q) := tt_iald (by decide +kernel)
set_option maxRecDepth 20000 in
theorem k999_579 {X : Nat × (Nat → Int32)} {d n k : Nat} {f : Nat → e_C} {Q : t_Q} {lv rest : List Value} {a : Nat} {x0 : Int32} (hcl : cno (f a) = some 12) (hcat : e_cat rest ≤ 8) {Q1 : t_Q} (h1 : TT X d 239 0 [.ref a, .int x0, .float 0] [] f n k Q1) (h2 : ∀ f' n' k' v, Q1 f' n' k' v → TT X (d + 1) 999 582 lv (v.toList ++ rest) f' n' k' Q) : TT X (d + 1) 999 579 lv (.int x0 :: .ref a :: rest) f n k Q := tt_cV (i := .invokevirtual 68) (kind := 1) (idx := 68) (ci := 12) (as := [.int x0]) (r := e_M239) (by decide +kernel) rfl rfl rfl (by decide +kernel) rc239 (by decide) rfl rfl (by decide) (Nat.le_of_ble_eq_true rfl) rfl hcl hcat h1 h2
set_option maxRecDepth 20000 in
theorem p999_579 {X : Nat × (Nat → Int32)} {d n k : Nat} {f : Nat → e_C} {Q : t_Q} {lv rest : List Value} {a : Nat} {x0 : Int32} (hcl : cno (f a) = some 12) (hcat : e_cat rest ≤ 8) {v : Option Value} (h1 : PU X d 239 [.ref a, .int x0, .float 0] f n k v) : TT X (d + 1) 999 579 lv (.int x0 :: .ref a :: rest) f n k Q = TT X (d + 1) 999 582 lv (v.toList ++ rest) f n k Q := tt_pV (i := .invokevirtual 68) (kind := 1) (idx := 68) (ci := 12) (as := [.int x0]) (r := e_M239) (by decide +kernel) rfl rfl rfl (by decide +kernel) rc239 (by decide) rfl rfl (by decide) (Nat.le_of_ble_eq_true rfl) rfl hcl hcat h1
set_option maxRecDepth 20000 in
theorem s999_582 {X : Nat × (Nat → Int32)} {d n k : Nat} {f : Nat → e_C} {Q : t_Q} {lv st : List Value} {x y : Int32} : TT X d 999 582 lv (.int y :: .int x :: st) f n k Q = if x = y then TT X d 999 1395 lv st f n k Q else TT X d 999 585 lv st f n k Q := tt_if2 (c := .eq) (off := 813) (by decide +kernel) rfl rfl
set_option maxRecDepth 20000 in
theorem s999_585 {X : Nat × (Nat → Int32)} {d n k : Nat} {f : Nat → e_C} {Q : t_Q} {lv st : List Value} : TT X d 999 585 lv st f n k Q = TT X d 999 586 lv (.int 0 :: st) f n k Q := tt_st (i := .iconst 0) (len := 1) (by decide +kernel) rfl rfl
set_option maxRecDepth 20000 in
theorem s999_586 {X : Nat × (Nat → Int32)} {d n k : Nat} {f : Nat → e_C} {Q : t_Q} {lv : List Value} {v : Int32} : TT X d 999 586 lv [.int v] f n k Q = ((v = 0 ∨ v = 1) ∧ Q f n k (some (.int v))) := tt_reB (by decide +kernel) (by decide +kernel)
set_option maxRecDepth 20000 in
theorem s999_587 {X : Nat × (Nat → Int32)} {d n k : Nat} {f : Nat → e_C} {Q : t_Q} {a0 a2 a3 : Value} {st : List Value} {x : Nat} : TT X d 999 587 [a0, .ref x, a2, a3] st f n k Q = TT X d 999 588 [a0, .ref x, a2, a3] (.ref x :: st) f n k Q := tt_st (i := .aload_n 1) (len := 1) (by decide +kernel) rfl rfl
set_option maxRecDepth 20000 in
theorem s999_588 {X : Nat × (Nat → Int32)} {d n k : Nat} {f : Nat → e_C} {Q : t_Q} {a1 a2 a3 : Value} {st : List Value} {x : Nat} : TT X d 999 588 [.ref x, a1, a2, a3] st f n k Q = TT X d 999 589 [.ref x, a1, a2, a3] (.ref x :: st) f n k Q := tt_st (i := .aload_n 0) (len := 1) (by decide +kernel) rfl rfl
set_option maxRecDepth 20000 in
theorem s999_589 {X : Nat × (Nat → Int32)} {d n k : Nat} {f : Nat → e_C} {Q : t_Q} {a0 a1 a2 : Value} {st : List Value} {x : Int32} : TT X d 999 589 [a0, a1, a2, .int x] st f n k Q = TT X d 999 590 [a0, a1, a2, .int x] (.int x :: st) f n k Q := tt_st (i := .iload_n 3) (len := 1) (by decide +kernel) rfl rfl
set_option maxRecDepth 20000 in
theorem s999_590 {X : Nat × (Nat → Int32)} {d n k : Nat} {f : Nat → e_C} {Q : t_Q} {lv st : List Value} : TT X d 999 590 lv st f n k Q = TT X d 999 591 lv (.int 1 :: st) f n k Q := tt_st (i := .iconst 1) (len := 1) (by decide +kernel) rfl rfl
set_option maxRecDepth 20000 in
theorem s999_591 {X : Nat × (Nat → Int32)} {d n k : Nat} {f : Nat → e_C} {Q : t_Q} {lv st : List Value} {x y : Int32} : TT X d 999 591 lv (.int y :: .int x :: st) f n k Q = TT X d 999 592 lv (.int (x + y) :: st) f n k Q := tt_st (i := .iadd) (len := 1) (by decide +kernel) rfl rfl
set_option maxRecDepth 20000 in
theorem s999_592 {X : Nat × (Nat → Int32)} {d n k : Nat} {f : Nat → e_C} {Q : t_Q} {lv st : List Value} {a : Nat} {i : Int32} : TT X d 999 592 lv (.int i :: .ref a :: st) f n k Q = ow (arI (f a)) (fun q => e_in i q.1 = true ∧ TT X d 999 593 lv (.int (q.2 i.toNatClampNeg) :: st) f n k Q) := tt_iald (by decide +kernel)
set_option maxRecDepth 20000 in
theorem k999_593 {X : Nat × (Nat → Int32)} {d n k : Nat} {f : Nat → e_C} {Q : t_Q} {lv rest : List Value} {a : Nat} {x0 : Int32} (hcl : cno (f a) = some 11) (hcat : e_cat rest ≤ 8) {Q1 : t_Q} (h1 : TT X d 130 0 [.ref a, .int x0] [] f n k Q1) (h2 : ∀ f' n' k' v, Q1 f' n' k' v → TT X (d + 1) 999 596 lv (v.toList ++ rest) f' n' k' Q) : TT X (d + 1) 999 593 lv (.int x0 :: .ref a :: rest) f n k Q := tt_cV (i := .invokevirtual 69) (kind := 1) (idx := 69) (ci := 11) (as := [.int x0]) (r := e_M130) (by decide +kernel) rfl rfl rfl (by decide +kernel) rc130 (by decide) rfl rfl (by decide) (Nat.le_of_ble_eq_true rfl) rfl hcl hcat h1 h2
set_option maxRecDepth 20000 in
theorem p999_593 {X : Nat × (Nat → Int32)} {d n k : Nat} {f : Nat → e_C} {Q : t_Q} {lv rest : List Value} {a : Nat} {x0 : Int32} (hcl : cno (f a) = some 11) (hcat : e_cat rest ≤ 8) {v : Option Value} (h1 : PU X d 130 [.ref a, .int x0] f n k v) : TT X (d + 1) 999 593 lv (.int x0 :: .ref a :: rest) f n k Q = TT X (d + 1) 999 596 lv (v.toList ++ rest) f n k Q := tt_pV (i := .invokevirtual 69) (kind := 1) (idx := 69) (ci := 11) (as := [.int x0]) (r := e_M130) (by decide +kernel) rfl rfl rfl (by decide +kernel) rc130 (by decide) rfl rfl (by decide) (Nat.le_of_ble_eq_true rfl) rfl hcl hcat h1
set_option maxRecDepth 20000 in
theorem s999_596 {X : Nat × (Nat → Int32)} {d n k : Nat} {f : Nat → e_C} {Q : t_Q} {a0 a1 a3 : Value} {st : List Value} {x : Nat} : TT X d 999 596 [a0, a1, .ref x, a3] st f n k Q = TT X d 999 597 [a0, a1, .ref x, a3] (.ref x :: st) f n k Q := tt_st (i := .aload_n 2) (len := 1) (by decide +kernel) rfl rfl
set_option maxRecDepth 20000 in
theorem s999_597 {X : Nat × (Nat → Int32)} {d n k : Nat} {f : Nat → e_C} {Q : t_Q} {a1 a2 a3 : Value} {st : List Value} {x : Nat} : TT X d 999 597 [.ref x, a1, a2, a3] st f n k Q = TT X d 999 598 [.ref x, a1, a2, a3] (.ref x :: st) f n k Q := tt_st (i := .aload_n 0) (len := 1) (by decide +kernel) rfl rfl
set_option maxRecDepth 20000 in
theorem s999_598 {X : Nat × (Nat → Int32)} {d n k : Nat} {f : Nat → e_C} {Q : t_Q} {a0 a1 a2 : Value} {st : List Value} {x : Int32} : TT X d 999 598 [a0, a1, a2, .int x] st f n k Q = TT X d 999 599 [a0, a1, a2, .int x] (.int x :: st) f n k Q := tt_st (i := .iload_n 3) (len := 1) (by decide +kernel) rfl rfl
set_option maxRecDepth 20000 in
theorem s999_599 {X : Nat × (Nat → Int32)} {d n k : Nat} {f : Nat → e_C} {Q : t_Q} {lv st : List Value} : TT X d 999 599 lv st f n k Q = TT X d 999 600 lv (.int 1 :: st) f n k Q := tt_st (i := .iconst 1) (len := 1) (by decide +kernel) rfl rfl
set_option maxRecDepth 20000 in
theorem s999_600 {X : Nat × (Nat → Int32)} {d n k : Nat} {f : Nat → e_C} {Q : t_Q} {lv st : List Value} {x y : Int32} : TT X d 999 600 lv (.int y :: .int x :: st) f n k Q = TT X d 999 601 lv (.int (x + y) :: st) f n k Q := tt_st (i := .iadd) (len := 1) (by decide +kernel) rfl rfl
set_option maxRecDepth 20000 in
theorem s999_601 {X : Nat × (Nat → Int32)} {d n k : Nat} {f : Nat → e_C} {Q : t_Q} {lv st : List Value} {a : Nat} {i : Int32} : TT X d 999 601 lv (.int i :: .ref a :: st) f n k Q = ow (arI (f a)) (fun q => e_in i q.1 = true ∧ TT X d 999 602 lv (.int (q.2 i.toNatClampNeg) :: st) f n k Q) := tt_iald (by decide +kernel)
set_option maxRecDepth 20000 in
theorem k999_602 {X : Nat × (Nat → Int32)} {d n k : Nat} {f : Nat → e_C} {Q : t_Q} {lv rest : List Value} {a : Nat} {x0 : Int32} (hcl : cno (f a) = some 12) (hcat : e_cat rest ≤ 8) {Q1 : t_Q} (h1 : TT X d 241 0 [.ref a, .int x0, .float 0] [] f n k Q1) (h2 : ∀ f' n' k' v, Q1 f' n' k' v → TT X (d + 1) 999 605 lv (v.toList ++ rest) f' n' k' Q) : TT X (d + 1) 999 602 lv (.int x0 :: .ref a :: rest) f n k Q := tt_cV (i := .invokevirtual 72) (kind := 1) (idx := 72) (ci := 12) (as := [.int x0]) (r := e_M241) (by decide +kernel) rfl rfl rfl (by decide +kernel) rc241 (by decide) rfl rfl (by decide) (Nat.le_of_ble_eq_true rfl) rfl hcl hcat h1 h2
set_option maxRecDepth 20000 in
theorem p999_602 {X : Nat × (Nat → Int32)} {d n k : Nat} {f : Nat → e_C} {Q : t_Q} {lv rest : List Value} {a : Nat} {x0 : Int32} (hcl : cno (f a) = some 12) (hcat : e_cat rest ≤ 8) {v : Option Value} (h1 : PU X d 241 [.ref a, .int x0, .float 0] f n k v) : TT X (d + 1) 999 602 lv (.int x0 :: .ref a :: rest) f n k Q = TT X (d + 1) 999 605 lv (v.toList ++ rest) f n k Q := tt_pV (i := .invokevirtual 72) (kind := 1) (idx := 72) (ci := 12) (as := [.int x0]) (r := e_M241) (by decide +kernel) rfl rfl rfl (by decide +kernel) rc241 (by decide) rfl rfl (by decide) (Nat.le_of_ble_eq_true rfl) rfl hcl hcat h1
set_option maxRecDepth 20000 in
theorem s999_605 {X : Nat × (Nat → Int32)} {d n k : Nat} {f : Nat → e_C} {Q : t_Q} {lv st : List Value} {x y : Int32} : TT X d 999 605 lv (.int y :: .int x :: st) f n k Q = if x = y then TT X d 999 1395 lv st f n k Q else TT X d 999 608 lv st f n k Q := tt_if2 (c := .eq) (off := 790) (by decide +kernel) rfl rfl
set_option maxRecDepth 20000 in
theorem s999_608 {X : Nat × (Nat → Int32)} {d n k : Nat} {f : Nat → e_C} {Q : t_Q} {lv st : List Value} : TT X d 999 608 lv st f n k Q = TT X d 999 609 lv (.int 0 :: st) f n k Q := tt_st (i := .iconst 0) (len := 1) (by decide +kernel) rfl rfl
set_option maxRecDepth 20000 in
theorem s999_609 {X : Nat × (Nat → Int32)} {d n k : Nat} {f : Nat → e_C} {Q : t_Q} {lv : List Value} {v : Int32} : TT X d 999 609 lv [.int v] f n k Q = ((v = 0 ∨ v = 1) ∧ Q f n k (some (.int v))) := tt_reB (by decide +kernel) (by decide +kernel)
set_option maxRecDepth 20000 in
theorem s999_610 {X : Nat × (Nat → Int32)} {d n k : Nat} {f : Nat → e_C} {Q : t_Q} {a0 a2 a3 : Value} {st : List Value} {x : Nat} : TT X d 999 610 [a0, .ref x, a2, a3] st f n k Q = TT X d 999 611 [a0, .ref x, a2, a3] (.ref x :: st) f n k Q := tt_st (i := .aload_n 1) (len := 1) (by decide +kernel) rfl rfl
set_option maxRecDepth 20000 in
theorem s999_611 {X : Nat × (Nat → Int32)} {d n k : Nat} {f : Nat → e_C} {Q : t_Q} {a1 a2 a3 : Value} {st : List Value} {x : Nat} : TT X d 999 611 [.ref x, a1, a2, a3] st f n k Q = TT X d 999 612 [.ref x, a1, a2, a3] (.ref x :: st) f n k Q := tt_st (i := .aload_n 0) (len := 1) (by decide +kernel) rfl rfl
set_option maxRecDepth 20000 in
theorem s999_612 {X : Nat × (Nat → Int32)} {d n k : Nat} {f : Nat → e_C} {Q : t_Q} {a0 a1 a2 : Value} {st : List Value} {x : Int32} : TT X d 999 612 [a0, a1, a2, .int x] st f n k Q = TT X d 999 613 [a0, a1, a2, .int x] (.int x :: st) f n k Q := tt_st (i := .iload_n 3) (len := 1) (by decide +kernel) rfl rfl
set_option maxRecDepth 20000 in
theorem s999_613 {X : Nat × (Nat → Int32)} {d n k : Nat} {f : Nat → e_C} {Q : t_Q} {lv st : List Value} : TT X d 999 613 lv st f n k Q = TT X d 999 614 lv (.int 1 :: st) f n k Q := tt_st (i := .iconst 1) (len := 1) (by decide +kernel) rfl rfl
set_option maxRecDepth 20000 in
theorem s999_614 {X : Nat × (Nat → Int32)} {d n k : Nat} {f : Nat → e_C} {Q : t_Q} {lv st : List Value} {x y : Int32} : TT X d 999 614 lv (.int y :: .int x :: st) f n k Q = TT X d 999 615 lv (.int (x + y) :: st) f n k Q := tt_st (i := .iadd) (len := 1) (by decide +kernel) rfl rfl
set_option maxRecDepth 20000 in
theorem s999_615 {X : Nat × (Nat → Int32)} {d n k : Nat} {f : Nat → e_C} {Q : t_Q} {lv st : List Value} {a : Nat} {i : Int32} : TT X d 999 615 lv (.int i :: .ref a :: st) f n k Q = ow (arI (f a)) (fun q => e_in i q.1 = true ∧ TT X d 999 616 lv (.int (q.2 i.toNatClampNeg) :: st) f n k Q) := tt_iald (by decide +kernel)
set_option maxRecDepth 20000 in
theorem s999_616 {X : Nat × (Nat → Int32)} {d n k : Nat} {f : Nat → e_C} {Q : t_Q} {a1 a2 a3 : Value} {st : List Value} {x : Nat} : TT X d 999 616 [.ref x, a1, a2, a3] st f n k Q = TT X d 999 617 [.ref x, a1, a2, a3] (.ref x :: st) f n k Q := tt_st (i := .aload_n 0) (len := 1) (by decide +kernel) rfl rfl
set_option maxRecDepth 20000 in
theorem s999_617 {X : Nat × (Nat → Int32)} {d n k : Nat} {f : Nat → e_C} {Q : t_Q} {a0 a1 a2 : Value} {st : List Value} {x : Int32} : TT X d 999 617 [a0, a1, a2, .int x] st f n k Q = TT X d 999 618 [a0, a1, a2, .int x] (.int x :: st) f n k Q := tt_st (i := .iload_n 3) (len := 1) (by decide +kernel) rfl rfl
set_option maxRecDepth 20000 in
theorem s999_618 {X : Nat × (Nat → Int32)} {d n k : Nat} {f : Nat → e_C} {Q : t_Q} {lv st : List Value} : TT X d 999 618 lv st f n k Q = TT X d 999 619 lv (.int 2 :: st) f n k Q := tt_st (i := .iconst 2) (len := 1) (by decide +kernel) rfl rfl
set_option maxRecDepth 20000 in
theorem s999_619 {X : Nat × (Nat → Int32)} {d n k : Nat} {f : Nat → e_C} {Q : t_Q} {lv st : List Value} {x y : Int32} : TT X d 999 619 lv (.int y :: .int x :: st) f n k Q = TT X d 999 620 lv (.int (x + y) :: st) f n k Q := tt_st (i := .iadd) (len := 1) (by decide +kernel) rfl rfl
set_option maxRecDepth 20000 in
theorem s999_620 {X : Nat × (Nat → Int32)} {d n k : Nat} {f : Nat → e_C} {Q : t_Q} {lv st : List Value} {a : Nat} {i : Int32} : TT X d 999 620 lv (.int i :: .ref a :: st) f n k Q = ow (arI (f a)) (fun q => e_in i q.1 = true ∧ TT X d 999 621 lv (.int (q.2 i.toNatClampNeg) :: st) f n k Q) := tt_iald (by decide +kernel)
set_option maxRecDepth 20000 in
theorem k999_621 {X : Nat × (Nat → Int32)} {d n k : Nat} {f : Nat → e_C} {Q : t_Q} {lv rest : List Value} {a : Nat} {x0 : Int32} {x1 : Int32} (hcl : cno (f a) = some 11) (hcat : e_cat rest ≤ 8) {Q1 : t_Q} (h1 : TT X d 131 0 [.ref a, .int x0, .int x1, .float 0] [] f n k Q1) (h2 : ∀ f' n' k' v, Q1 f' n' k' v → TT X (d + 1) 999 624 lv (v.toList ++ rest) f' n' k' Q) : TT X (d + 1) 999 621 lv (.int x1 :: .int x0 :: .ref a :: rest) f n k Q := tt_cV (i := .invokevirtual 73) (kind := 1) (idx := 73) (ci := 11) (as := [.int x0, .int x1]) (r := e_M131) (by decide +kernel) rfl rfl rfl (by decide +kernel) rc131 (by decide) rfl rfl (by decide) (Nat.le_of_ble_eq_true rfl) rfl hcl hcat h1 h2
set_option maxRecDepth 20000 in
theorem p999_621 {X : Nat × (Nat → Int32)} {d n k : Nat} {f : Nat → e_C} {Q : t_Q} {lv rest : List Value} {a : Nat} {x0 : Int32} {x1 : Int32} (hcl : cno (f a) = some 11) (hcat : e_cat rest ≤ 8) {v : Option Value} (h1 : PU X d 131 [.ref a, .int x0, .int x1, .float 0] f n k v) : TT X (d + 1) 999 621 lv (.int x1 :: .int x0 :: .ref a :: rest) f n k Q = TT X (d + 1) 999 624 lv (v.toList ++ rest) f n k Q := tt_pV (i := .invokevirtual 73) (kind := 1) (idx := 73) (ci := 11) (as := [.int x0, .int x1]) (r := e_M131) (by decide +kernel) rfl rfl rfl (by decide +kernel) rc131 (by decide) rfl rfl (by decide) (Nat.le_of_ble_eq_true rfl) rfl hcl hcat h1
set_option maxRecDepth 20000 in
theorem s999_624 {X : Nat × (Nat → Int32)} {d n k : Nat} {f : Nat → e_C} {Q : t_Q} {a0 a1 a3 : Value} {st : List Value} {x : Nat} : TT X d 999 624 [a0, a1, .ref x, a3] st f n k Q = TT X d 999 625 [a0, a1, .ref x, a3] (.ref x :: st) f n k Q := tt_st (i := .aload_n 2) (len := 1) (by decide +kernel) rfl rfl
set_option maxRecDepth 20000 in
theorem s999_625 {X : Nat × (Nat → Int32)} {d n k : Nat} {f : Nat → e_C} {Q : t_Q} {a1 a2 a3 : Value} {st : List Value} {x : Nat} : TT X d 999 625 [.ref x, a1, a2, a3] st f n k Q = TT X d 999 626 [.ref x, a1, a2, a3] (.ref x :: st) f n k Q := tt_st (i := .aload_n 0) (len := 1) (by decide +kernel) rfl rfl
set_option maxRecDepth 20000 in
theorem s999_626 {X : Nat × (Nat → Int32)} {d n k : Nat} {f : Nat → e_C} {Q : t_Q} {a0 a1 a2 : Value} {st : List Value} {x : Int32} : TT X d 999 626 [a0, a1, a2, .int x] st f n k Q = TT X d 999 627 [a0, a1, a2, .int x] (.int x :: st) f n k Q := tt_st (i := .iload_n 3) (len := 1) (by decide +kernel) rfl rfl
set_option maxRecDepth 20000 in
theorem s999_627 {X : Nat × (Nat → Int32)} {d n k : Nat} {f : Nat → e_C} {Q : t_Q} {lv st : List Value} : TT X d 999 627 lv st f n k Q = TT X d 999 628 lv (.int 1 :: st) f n k Q := tt_st (i := .iconst 1) (len := 1) (by decide +kernel) rfl rfl
set_option maxRecDepth 20000 in
theorem s999_628 {X : Nat × (Nat → Int32)} {d n k : Nat} {f : Nat → e_C} {Q : t_Q} {lv st : List Value} {x y : Int32} : TT X d 999 628 lv (.int y :: .int x :: st) f n k Q = TT X d 999 629 lv (.int (x + y) :: st) f n k Q := tt_st (i := .iadd) (len := 1) (by decide +kernel) rfl rfl
set_option maxRecDepth 20000 in
theorem s999_629 {X : Nat × (Nat → Int32)} {d n k : Nat} {f : Nat → e_C} {Q : t_Q} {lv st : List Value} {a : Nat} {i : Int32} : TT X d 999 629 lv (.int i :: .ref a :: st) f n k Q = ow (arI (f a)) (fun q => e_in i q.1 = true ∧ TT X d 999 630 lv (.int (q.2 i.toNatClampNeg) :: st) f n k Q) := tt_iald (by decide +kernel)
set_option maxRecDepth 20000 in
theorem s999_630 {X : Nat × (Nat → Int32)} {d n k : Nat} {f : Nat → e_C} {Q : t_Q} {a1 a2 a3 : Value} {st : List Value} {x : Nat} : TT X d 999 630 [.ref x, a1, a2, a3] st f n k Q = TT X d 999 631 [.ref x, a1, a2, a3] (.ref x :: st) f n k Q := tt_st (i := .aload_n 0) (len := 1) (by decide +kernel) rfl rfl
set_option maxRecDepth 20000 in
theorem s999_631 {X : Nat × (Nat → Int32)} {d n k : Nat} {f : Nat → e_C} {Q : t_Q} {a0 a1 a2 : Value} {st : List Value} {x : Int32} : TT X d 999 631 [a0, a1, a2, .int x] st f n k Q = TT X d 999 632 [a0, a1, a2, .int x] (.int x :: st) f n k Q := tt_st (i := .iload_n 3) (len := 1) (by decide +kernel) rfl rfl
set_option maxRecDepth 20000 in
theorem s999_632 {X : Nat × (Nat → Int32)} {d n k : Nat} {f : Nat → e_C} {Q : t_Q} {lv st : List Value} : TT X d 999 632 lv st f n k Q = TT X d 999 633 lv (.int 2 :: st) f n k Q := tt_st (i := .iconst 2) (len := 1) (by decide +kernel) rfl rfl
set_option maxRecDepth 20000 in
theorem s999_633 {X : Nat × (Nat → Int32)} {d n k : Nat} {f : Nat → e_C} {Q : t_Q} {lv st : List Value} {x y : Int32} : TT X d 999 633 lv (.int y :: .int x :: st) f n k Q = TT X d 999 634 lv (.int (x + y) :: st) f n k Q := tt_st (i := .iadd) (len := 1) (by decide +kernel) rfl rfl
set_option maxRecDepth 20000 in
theorem s999_634 {X : Nat × (Nat → Int32)} {d n k : Nat} {f : Nat → e_C} {Q : t_Q} {lv st : List Value} {a : Nat} {i : Int32} : TT X d 999 634 lv (.int i :: .ref a :: st) f n k Q = ow (arI (f a)) (fun q => e_in i q.1 = true ∧ TT X d 999 635 lv (.int (q.2 i.toNatClampNeg) :: st) f n k Q) := tt_iald (by decide +kernel)
set_option maxRecDepth 20000 in
theorem k999_635 {X : Nat × (Nat → Int32)} {d n k : Nat} {f : Nat → e_C} {Q : t_Q} {lv rest : List Value} {a : Nat} {x0 : Int32} {x1 : Int32} (hcl : cno (f a) = some 12) (hcat : e_cat rest ≤ 8) {Q1 : t_Q} (h1 : TT X d 242 0 [.ref a, .int x0, .int x1, .float 0, .float 0, .float 0, .float 0] [] f n k Q1) (h2 : ∀ f' n' k' v, Q1 f' n' k' v → TT X (d + 1) 999 638 lv (v.toList ++ rest) f' n' k' Q) : TT X (d + 1) 999 635 lv (.int x1 :: .int x0 :: .ref a :: rest) f n k Q := tt_cV (i := .invokevirtual 76) (kind := 1) (idx := 76) (ci := 12) (as := [.int x0, .int x1]) (r := e_M242) (by decide +kernel) rfl rfl rfl (by decide +kernel) rc242 (by decide) rfl rfl (by decide) (Nat.le_of_ble_eq_true rfl) rfl hcl hcat h1 h2
set_option maxRecDepth 20000 in
theorem p999_635 {X : Nat × (Nat → Int32)} {d n k : Nat} {f : Nat → e_C} {Q : t_Q} {lv rest : List Value} {a : Nat} {x0 : Int32} {x1 : Int32} (hcl : cno (f a) = some 12) (hcat : e_cat rest ≤ 8) {v : Option Value} (h1 : PU X d 242 [.ref a, .int x0, .int x1, .float 0, .float 0, .float 0, .float 0] f n k v) : TT X (d + 1) 999 635 lv (.int x1 :: .int x0 :: .ref a :: rest) f n k Q = TT X (d + 1) 999 638 lv (v.toList ++ rest) f n k Q := tt_pV (i := .invokevirtual 76) (kind := 1) (idx := 76) (ci := 12) (as := [.int x0, .int x1]) (r := e_M242) (by decide +kernel) rfl rfl rfl (by decide +kernel) rc242 (by decide) rfl rfl (by decide) (Nat.le_of_ble_eq_true rfl) rfl hcl hcat h1
set_option maxRecDepth 20000 in
theorem s999_638 {X : Nat × (Nat → Int32)} {d n k : Nat} {f : Nat → e_C} {Q : t_Q} {lv st : List Value} {x y : Int32} : TT X d 999 638 lv (.int y :: .int x :: st) f n k Q = if x = y then TT X d 999 1395 lv st f n k Q else TT X d 999 641 lv st f n k Q := tt_if2 (c := .eq) (off := 757) (by decide +kernel) rfl rfl
set_option maxRecDepth 20000 in
theorem s999_641 {X : Nat × (Nat → Int32)} {d n k : Nat} {f : Nat → e_C} {Q : t_Q} {lv st : List Value} : TT X d 999 641 lv st f n k Q = TT X d 999 642 lv (.int 0 :: st) f n k Q := tt_st (i := .iconst 0) (len := 1) (by decide +kernel) rfl rfl
set_option maxRecDepth 20000 in
theorem s999_642 {X : Nat × (Nat → Int32)} {d n k : Nat} {f : Nat → e_C} {Q : t_Q} {lv : List Value} {v : Int32} : TT X d 999 642 lv [.int v] f n k Q = ((v = 0 ∨ v = 1) ∧ Q f n k (some (.int v))) := tt_reB (by decide +kernel) (by decide +kernel)
set_option maxRecDepth 20000 in
theorem s999_643 {X : Nat × (Nat → Int32)} {d n k : Nat} {f : Nat → e_C} {Q : t_Q} {a0 a2 a3 : Value} {st : List Value} {x : Nat} : TT X d 999 643 [a0, .ref x, a2, a3] st f n k Q = TT X d 999 644 [a0, .ref x, a2, a3] (.ref x :: st) f n k Q := tt_st (i := .aload_n 1) (len := 1) (by decide +kernel) rfl rfl
set_option maxRecDepth 20000 in
theorem s999_644 {X : Nat × (Nat → Int32)} {d n k : Nat} {f : Nat → e_C} {Q : t_Q} {a1 a2 a3 : Value} {st : List Value} {x : Nat} : TT X d 999 644 [.ref x, a1, a2, a3] st f n k Q = TT X d 999 645 [.ref x, a1, a2, a3] (.ref x :: st) f n k Q := tt_st (i := .aload_n 0) (len := 1) (by decide +kernel) rfl rfl
set_option maxRecDepth 20000 in
theorem s999_645 {X : Nat × (Nat → Int32)} {d n k : Nat} {f : Nat → e_C} {Q : t_Q} {a0 a1 a2 : Value} {st : List Value} {x : Int32} : TT X d 999 645 [a0, a1, a2, .int x] st f n k Q = TT X d 999 646 [a0, a1, a2, .int x] (.int x :: st) f n k Q := tt_st (i := .iload_n 3) (len := 1) (by decide +kernel) rfl rfl
set_option maxRecDepth 20000 in
theorem s999_646 {X : Nat × (Nat → Int32)} {d n k : Nat} {f : Nat → e_C} {Q : t_Q} {lv st : List Value} : TT X d 999 646 lv st f n k Q = TT X d 999 647 lv (.int 1 :: st) f n k Q := tt_st (i := .iconst 1) (len := 1) (by decide +kernel) rfl rfl
set_option maxRecDepth 20000 in
theorem s999_647 {X : Nat × (Nat → Int32)} {d n k : Nat} {f : Nat → e_C} {Q : t_Q} {lv st : List Value} {x y : Int32} : TT X d 999 647 lv (.int y :: .int x :: st) f n k Q = TT X d 999 648 lv (.int (x + y) :: st) f n k Q := tt_st (i := .iadd) (len := 1) (by decide +kernel) rfl rfl
set_option maxRecDepth 20000 in
theorem s999_648 {X : Nat × (Nat → Int32)} {d n k : Nat} {f : Nat → e_C} {Q : t_Q} {lv st : List Value} {a : Nat} {i : Int32} : TT X d 999 648 lv (.int i :: .ref a :: st) f n k Q = ow (arI (f a)) (fun q => e_in i q.1 = true ∧ TT X d 999 649 lv (.int (q.2 i.toNatClampNeg) :: st) f n k Q) := tt_iald (by decide +kernel)
set_option maxRecDepth 20000 in
theorem k999_649 {X : Nat × (Nat → Int32)} {d n k : Nat} {f : Nat → e_C} {Q : t_Q} {lv rest : List Value} {a : Nat} {x0 : Int32} (hcl : cno (f a) = some 11) (hcat : e_cat rest ≤ 8) {Q1 : t_Q} (h1 : TT X d 133 0 [.ref a, .int x0, .float 0] [] f n k Q1) (h2 : ∀ f' n' k' v, Q1 f' n' k' v → TT X (d + 1) 999 652 lv (v.toList ++ rest) f' n' k' Q) : TT X (d + 1) 999 649 lv (.int x0 :: .ref a :: rest) f n k Q := tt_cV (i := .invokevirtual 77) (kind := 1) (idx := 77) (ci := 11) (as := [.int x0]) (r := e_M133) (by decide +kernel) rfl rfl rfl (by decide +kernel) rc133 (by decide) rfl rfl (by decide) (Nat.le_of_ble_eq_true rfl) rfl hcl hcat h1 h2
set_option maxRecDepth 20000 in
theorem p999_649 {X : Nat × (Nat → Int32)} {d n k : Nat} {f : Nat → e_C} {Q : t_Q} {lv rest : List Value} {a : Nat} {x0 : Int32} (hcl : cno (f a) = some 11) (hcat : e_cat rest ≤ 8) {v : Option Value} (h1 : PU X d 133 [.ref a, .int x0, .float 0] f n k v) : TT X (d + 1) 999 649 lv (.int x0 :: .ref a :: rest) f n k Q = TT X (d + 1) 999 652 lv (v.toList ++ rest) f n k Q := tt_pV (i := .invokevirtual 77) (kind := 1) (idx := 77) (ci := 11) (as := [.int x0]) (r := e_M133) (by decide +kernel) rfl rfl rfl (by decide +kernel) rc133 (by decide) rfl rfl (by decide) (Nat.le_of_ble_eq_true rfl) rfl hcl hcat h1
set_option maxRecDepth 20000 in
theorem s999_652 {X : Nat × (Nat → Int32)} {d n k : Nat} {f : Nat → e_C} {Q : t_Q} {a0 a1 a3 : Value} {st : List Value} {x : Nat} : TT X d 999 652 [a0, a1, .ref x, a3] st f n k Q = TT X d 999 653 [a0, a1, .ref x, a3] (.ref x :: st) f n k Q := tt_st (i := .aload_n 2) (len := 1) (by decide +kernel) rfl rfl
set_option maxRecDepth 20000 in
theorem s999_653 {X : Nat × (Nat → Int32)} {d n k : Nat} {f : Nat → e_C} {Q : t_Q} {a1 a2 a3 : Value} {st : List Value} {x : Nat} : TT X d 999 653 [.ref x, a1, a2, a3] st f n k Q = TT X d 999 654 [.ref x, a1, a2, a3] (.ref x :: st) f n k Q := tt_st (i := .aload_n 0) (len := 1) (by decide +kernel) rfl rfl
set_option maxRecDepth 20000 in
theorem s999_654 {X : Nat × (Nat → Int32)} {d n k : Nat} {f : Nat → e_C} {Q : t_Q} {a0 a1 a2 : Value} {st : List Value} {x : Int32} : TT X d 999 654 [a0, a1, a2, .int x] st f n k Q = TT X d 999 655 [a0, a1, a2, .int x] (.int x :: st) f n k Q := tt_st (i := .iload_n 3) (len := 1) (by decide +kernel) rfl rfl
set_option maxRecDepth 20000 in
theorem s999_655 {X : Nat × (Nat → Int32)} {d n k : Nat} {f : Nat → e_C} {Q : t_Q} {lv st : List Value} : TT X d 999 655 lv st f n k Q = TT X d 999 656 lv (.int 1 :: st) f n k Q := tt_st (i := .iconst 1) (len := 1) (by decide +kernel) rfl rfl
set_option maxRecDepth 20000 in
theorem s999_656 {X : Nat × (Nat → Int32)} {d n k : Nat} {f : Nat → e_C} {Q : t_Q} {lv st : List Value} {x y : Int32} : TT X d 999 656 lv (.int y :: .int x :: st) f n k Q = TT X d 999 657 lv (.int (x + y) :: st) f n k Q := tt_st (i := .iadd) (len := 1) (by decide +kernel) rfl rfl
set_option maxRecDepth 20000 in
theorem s999_657 {X : Nat × (Nat → Int32)} {d n k : Nat} {f : Nat → e_C} {Q : t_Q} {lv st : List Value} {a : Nat} {i : Int32} : TT X d 999 657 lv (.int i :: .ref a :: st) f n k Q = ow (arI (f a)) (fun q => e_in i q.1 = true ∧ TT X d 999 658 lv (.int (q.2 i.toNatClampNeg) :: st) f n k Q) := tt_iald (by decide +kernel)
set_option maxRecDepth 20000 in
theorem k999_658 {X : Nat × (Nat → Int32)} {d n k : Nat} {f : Nat → e_C} {Q : t_Q} {lv rest : List Value} {a : Nat} {x0 : Int32} (hcl : cno (f a) = some 12) (hcat : e_cat rest ≤ 8) {Q1 : t_Q} (h1 : TT X d 248 0 [.ref a, .int x0, .float 0, .float 0] [] f n k Q1) (h2 : ∀ f' n' k' v, Q1 f' n' k' v → TT X (d + 1) 999 661 lv (v.toList ++ rest) f' n' k' Q) : TT X (d + 1) 999 658 lv (.int x0 :: .ref a :: rest) f n k Q := tt_cV (i := .invokevirtual 80) (kind := 1) (idx := 80) (ci := 12) (as := [.int x0]) (r := e_M248) (by decide +kernel) rfl rfl rfl (by decide +kernel) rc248 (by decide) rfl rfl (by decide) (Nat.le_of_ble_eq_true rfl) rfl hcl hcat h1 h2
set_option maxRecDepth 20000 in
theorem p999_658 {X : Nat × (Nat → Int32)} {d n k : Nat} {f : Nat → e_C} {Q : t_Q} {lv rest : List Value} {a : Nat} {x0 : Int32} (hcl : cno (f a) = some 12) (hcat : e_cat rest ≤ 8) {v : Option Value} (h1 : PU X d 248 [.ref a, .int x0, .float 0, .float 0] f n k v) : TT X (d + 1) 999 658 lv (.int x0 :: .ref a :: rest) f n k Q = TT X (d + 1) 999 661 lv (v.toList ++ rest) f n k Q := tt_pV (i := .invokevirtual 80) (kind := 1) (idx := 80) (ci := 12) (as := [.int x0]) (r := e_M248) (by decide +kernel) rfl rfl rfl (by decide +kernel) rc248 (by decide) rfl rfl (by decide) (Nat.le_of_ble_eq_true rfl) rfl hcl hcat h1
set_option maxRecDepth 20000 in
theorem s999_661 {X : Nat × (Nat → Int32)} {d n k : Nat} {f : Nat → e_C} {Q : t_Q} {lv st : List Value} {x y : Int32} : TT X d 999 661 lv (.int y :: .int x :: st) f n k Q = if x = y then TT X d 999 1395 lv st f n k Q else TT X d 999 664 lv st f n k Q := tt_if2 (c := .eq) (off := 734) (by decide +kernel) rfl rfl
set_option maxRecDepth 20000 in
theorem s999_664 {X : Nat × (Nat → Int32)} {d n k : Nat} {f : Nat → e_C} {Q : t_Q} {lv st : List Value} : TT X d 999 664 lv st f n k Q = TT X d 999 665 lv (.int 0 :: st) f n k Q := tt_st (i := .iconst 0) (len := 1) (by decide +kernel) rfl rfl
set_option maxRecDepth 20000 in
theorem s999_665 {X : Nat × (Nat → Int32)} {d n k : Nat} {f : Nat → e_C} {Q : t_Q} {lv : List Value} {v : Int32} : TT X d 999 665 lv [.int v] f n k Q = ((v = 0 ∨ v = 1) ∧ Q f n k (some (.int v))) := tt_reB (by decide +kernel) (by decide +kernel)
set_option maxRecDepth 20000 in
theorem s999_666 {X : Nat × (Nat → Int32)} {d n k : Nat} {f : Nat → e_C} {Q : t_Q} {a0 a2 a3 : Value} {st : List Value} {x : Nat} : TT X d 999 666 [a0, .ref x, a2, a3] st f n k Q = TT X d 999 667 [a0, .ref x, a2, a3] (.ref x :: st) f n k Q := tt_st (i := .aload_n 1) (len := 1) (by decide +kernel) rfl rfl
set_option maxRecDepth 20000 in
theorem s999_667 {X : Nat × (Nat → Int32)} {d n k : Nat} {f : Nat → e_C} {Q : t_Q} {a1 a2 a3 : Value} {st : List Value} {x : Nat} : TT X d 999 667 [.ref x, a1, a2, a3] st f n k Q = TT X d 999 668 [.ref x, a1, a2, a3] (.ref x :: st) f n k Q := tt_st (i := .aload_n 0) (len := 1) (by decide +kernel) rfl rfl
set_option maxRecDepth 20000 in
theorem s999_668 {X : Nat × (Nat → Int32)} {d n k : Nat} {f : Nat → e_C} {Q : t_Q} {a0 a1 a2 : Value} {st : List Value} {x : Int32} : TT X d 999 668 [a0, a1, a2, .int x] st f n k Q = TT X d 999 669 [a0, a1, a2, .int x] (.int x :: st) f n k Q := tt_st (i := .iload_n 3) (len := 1) (by decide +kernel) rfl rfl
set_option maxRecDepth 20000 in
theorem s999_669 {X : Nat × (Nat → Int32)} {d n k : Nat} {f : Nat → e_C} {Q : t_Q} {lv st : List Value} : TT X d 999 669 lv st f n k Q = TT X d 999 670 lv (.int 1 :: st) f n k Q := tt_st (i := .iconst 1) (len := 1) (by decide +kernel) rfl rfl
set_option maxRecDepth 20000 in
theorem s999_670 {X : Nat × (Nat → Int32)} {d n k : Nat} {f : Nat → e_C} {Q : t_Q} {lv st : List Value} {x y : Int32} : TT X d 999 670 lv (.int y :: .int x :: st) f n k Q = TT X d 999 671 lv (.int (x + y) :: st) f n k Q := tt_st (i := .iadd) (len := 1) (by decide +kernel) rfl rfl
set_option maxRecDepth 20000 in
theorem s999_671 {X : Nat × (Nat → Int32)} {d n k : Nat} {f : Nat → e_C} {Q : t_Q} {lv st : List Value} {a : Nat} {i : Int32} : TT X d 999 671 lv (.int i :: .ref a :: st) f n k Q = ow (arI (f a)) (fun q => e_in i q.1 = true ∧ TT X d 999 672 lv (.int (q.2 i.toNatClampNeg) :: st) f n k Q) := tt_iald (by decide +kernel)
set_option maxRecDepth 20000 in
theorem s999_672 {X : Nat × (Nat → Int32)} {d n k : Nat} {f : Nat → e_C} {Q : t_Q} {a1 a2 a3 : Value} {st : List Value} {x : Nat} : TT X d 999 672 [.ref x, a1, a2, a3] st f n k Q = TT X d 999 673 [.ref x, a1, a2, a3] (.ref x :: st) f n k Q := tt_st (i := .aload_n 0) (len := 1) (by decide +kernel) rfl rfl
set_option maxRecDepth 20000 in
theorem s999_673 {X : Nat × (Nat → Int32)} {d n k : Nat} {f : Nat → e_C} {Q : t_Q} {a0 a1 a2 : Value} {st : List Value} {x : Int32} : TT X d 999 673 [a0, a1, a2, .int x] st f n k Q = TT X d 999 674 [a0, a1, a2, .int x] (.int x :: st) f n k Q := tt_st (i := .iload_n 3) (len := 1) (by decide +kernel) rfl rfl
set_option maxRecDepth 20000 in
theorem s999_674 {X : Nat × (Nat → Int32)} {d n k : Nat} {f : Nat → e_C} {Q : t_Q} {lv st : List Value} : TT X d 999 674 lv st f n k Q = TT X d 999 675 lv (.int 2 :: st) f n k Q := tt_st (i := .iconst 2) (len := 1) (by decide +kernel) rfl rfl
set_option maxRecDepth 20000 in
theorem s999_675 {X : Nat × (Nat → Int32)} {d n k : Nat} {f : Nat → e_C} {Q : t_Q} {lv st : List Value} {x y : Int32} : TT X d 999 675 lv (.int y :: .int x :: st) f n k Q = TT X d 999 676 lv (.int (x + y) :: st) f n k Q := tt_st (i := .iadd) (len := 1) (by decide +kernel) rfl rfl
set_option maxRecDepth 20000 in
theorem s999_676 {X : Nat × (Nat → Int32)} {d n k : Nat} {f : Nat → e_C} {Q : t_Q} {lv st : List Value} {a : Nat} {i : Int32} : TT X d 999 676 lv (.int i :: .ref a :: st) f n k Q = ow (arI (f a)) (fun q => e_in i q.1 = true ∧ TT X d 999 677 lv (.int (q.2 i.toNatClampNeg) :: st) f n k Q) := tt_iald (by decide +kernel)
set_option maxRecDepth 20000 in
theorem k999_677 {X : Nat × (Nat → Int32)} {d n k : Nat} {f : Nat → e_C} {Q : t_Q} {lv rest : List Value} {a : Nat} {x0 : Int32} {x1 : Int32} (hcl : cno (f a) = some 11) (hcat : e_cat rest ≤ 8) {Q1 : t_Q} (h1 : TT X d 134 0 [.ref a, .int x0, .int x1, .float 0, .float 0] [] f n k Q1) (h2 : ∀ f' n' k' v, Q1 f' n' k' v → TT X (d + 1) 999 680 lv (v.toList ++ rest) f' n' k' Q) : TT X (d + 1) 999 677 lv (.int x1 :: .int x0 :: .ref a :: rest) f n k Q := tt_cV (i := .invokevirtual 81) (kind := 1) (idx := 81) (ci := 11) (as := [.int x0, .int x1]) (r := e_M134) (by decide +kernel) rfl rfl rfl (by decide +kernel) rc134 (by decide) rfl rfl (by decide) (Nat.le_of_ble_eq_true rfl) rfl hcl hcat h1 h2
set_option maxRecDepth 20000 in
theorem p999_677 {X : Nat × (Nat → Int32)} {d n k : Nat} {f : Nat → e_C} {Q : t_Q} {lv rest : List Value} {a : Nat} {x0 : Int32} {x1 : Int32} (hcl : cno (f a) = some 11) (hcat : e_cat rest ≤ 8) {v : Option Value} (h1 : PU X d 134 [.ref a, .int x0, .int x1, .float 0, .float 0] f n k v) : TT X (d + 1) 999 677 lv (.int x1 :: .int x0 :: .ref a :: rest) f n k Q = TT X (d + 1) 999 680 lv (v.toList ++ rest) f n k Q := tt_pV (i := .invokevirtual 81) (kind := 1) (idx := 81) (ci := 11) (as := [.int x0, .int x1]) (r := e_M134) (by decide +kernel) rfl rfl rfl (by decide +kernel) rc134 (by decide) rfl rfl (by decide) (Nat.le_of_ble_eq_true rfl) rfl hcl hcat h1
set_option maxRecDepth 20000 in
theorem s999_680 {X : Nat × (Nat → Int32)} {d n k : Nat} {f : Nat → e_C} {Q : t_Q} {a0 a1 a3 : Value} {st : List Value} {x : Nat} : TT X d 999 680 [a0, a1, .ref x, a3] st f n k Q = TT X d 999 681 [a0, a1, .ref x, a3] (.ref x :: st) f n k Q := tt_st (i := .aload_n 2) (len := 1) (by decide +kernel) rfl rfl
set_option maxRecDepth 20000 in
theorem s999_681 {X : Nat × (Nat → Int32)} {d n k : Nat} {f : Nat → e_C} {Q : t_Q} {a1 a2 a3 : Value} {st : List Value} {x : Nat} : TT X d 999 681 [.ref x, a1, a2, a3] st f n k Q = TT X d 999 682 [.ref x, a1, a2, a3] (.ref x :: st) f n k Q := tt_st (i := .aload_n 0) (len := 1) (by decide +kernel) rfl rfl
set_option maxRecDepth 20000 in
theorem s999_682 {X : Nat × (Nat → Int32)} {d n k : Nat} {f : Nat → e_C} {Q : t_Q} {a0 a1 a2 : Value} {st : List Value} {x : Int32} : TT X d 999 682 [a0, a1, a2, .int x] st f n k Q = TT X d 999 683 [a0, a1, a2, .int x] (.int x :: st) f n k Q := tt_st (i := .iload_n 3) (len := 1) (by decide +kernel) rfl rfl
set_option maxRecDepth 20000 in
theorem s999_683 {X : Nat × (Nat → Int32)} {d n k : Nat} {f : Nat → e_C} {Q : t_Q} {lv st : List Value} : TT X d 999 683 lv st f n k Q = TT X d 999 684 lv (.int 1 :: st) f n k Q := tt_st (i := .iconst 1) (len := 1) (by decide +kernel) rfl rfl
set_option maxRecDepth 20000 in
theorem s999_684 {X : Nat × (Nat → Int32)} {d n k : Nat} {f : Nat → e_C} {Q : t_Q} {lv st : List Value} {x y : Int32} : TT X d 999 684 lv (.int y :: .int x :: st) f n k Q = TT X d 999 685 lv (.int (x + y) :: st) f n k Q := tt_st (i := .iadd) (len := 1) (by decide +kernel) rfl rfl
set_option maxRecDepth 20000 in
theorem s999_685 {X : Nat × (Nat → Int32)} {d n k : Nat} {f : Nat → e_C} {Q : t_Q} {lv st : List Value} {a : Nat} {i : Int32} : TT X d 999 685 lv (.int i :: .ref a :: st) f n k Q = ow (arI (f a)) (fun q => e_in i q.1 = true ∧ TT X d 999 686 lv (.int (q.2 i.toNatClampNeg) :: st) f n k Q) := tt_iald (by decide +kernel)
set_option maxRecDepth 20000 in
theorem s999_686 {X : Nat × (Nat → Int32)} {d n k : Nat} {f : Nat → e_C} {Q : t_Q} {a1 a2 a3 : Value} {st : List Value} {x : Nat} : TT X d 999 686 [.ref x, a1, a2, a3] st f n k Q = TT X d 999 687 [.ref x, a1, a2, a3] (.ref x :: st) f n k Q := tt_st (i := .aload_n 0) (len := 1) (by decide +kernel) rfl rfl
set_option maxRecDepth 20000 in
theorem s999_687 {X : Nat × (Nat → Int32)} {d n k : Nat} {f : Nat → e_C} {Q : t_Q} {a0 a1 a2 : Value} {st : List Value} {x : Int32} : TT X d 999 687 [a0, a1, a2, .int x] st f n k Q = TT X d 999 688 [a0, a1, a2, .int x] (.int x :: st) f n k Q := tt_st (i := .iload_n 3) (len := 1) (by decide +kernel) rfl rfl
set_option maxRecDepth 20000 in
theorem s999_688 {X : Nat × (Nat → Int32)} {d n k : Nat} {f : Nat → e_C} {Q : t_Q} {lv st : List Value} : TT X d 999 688 lv st f n k Q = TT X d 999 689 lv (.int 2 :: st) f n k Q := tt_st (i := .iconst 2) (len := 1) (by decide +kernel) rfl rfl
set_option maxRecDepth 20000 in
theorem s999_689 {X : Nat × (Nat → Int32)} {d n k : Nat} {f : Nat → e_C} {Q : t_Q} {lv st : List Value} {x y : Int32} : TT X d 999 689 lv (.int y :: .int x :: st) f n k Q = TT X d 999 690 lv (.int (x + y) :: st) f n k Q := tt_st (i := .iadd) (len := 1) (by decide +kernel) rfl rfl
set_option maxRecDepth 20000 in
theorem s999_690 {X : Nat × (Nat → Int32)} {d n k : Nat} {f : Nat → e_C} {Q : t_Q} {lv st : List Value} {a : Nat} {i : Int32} : TT X d 999 690 lv (.int i :: .ref a :: st) f n k Q = ow (arI (f a)) (fun q => e_in i q.1 = true ∧ TT X d 999 691 lv (.int (q.2 i.toNatClampNeg) :: st) f n k Q) := tt_iald (by decide +kernel)
set_option maxRecDepth 20000 in
theorem k999_691 {X : Nat × (Nat → Int32)} {d n k : Nat} {f : Nat → e_C} {Q : t_Q} {lv rest : List Value} {a : Nat} {x0 : Int32} {x1 : Int32} (hcl : cno (f a) = some 12) (hcat : e_cat rest ≤ 8) {Q1 : t_Q} (h1 : TT X d 249 0 [.ref a, .int x0, .int x1, .float 0, .float 0, .float 0] [] f n k Q1) (h2 : ∀ f' n' k' v, Q1 f' n' k' v → TT X (d + 1) 999 694 lv (v.toList ++ rest) f' n' k' Q) : TT X (d + 1) 999 691 lv (.int x1 :: .int x0 :: .ref a :: rest) f n k Q := tt_cV (i := .invokevirtual 84) (kind := 1) (idx := 84) (ci := 12) (as := [.int x0, .int x1]) (r := e_M249) (by decide +kernel) rfl rfl rfl (by decide +kernel) rc249 (by decide) rfl rfl (by decide) (Nat.le_of_ble_eq_true rfl) rfl hcl hcat h1 h2
set_option maxRecDepth 20000 in
theorem p999_691 {X : Nat × (Nat → Int32)} {d n k : Nat} {f : Nat → e_C} {Q : t_Q} {lv rest : List Value} {a : Nat} {x0 : Int32} {x1 : Int32} (hcl : cno (f a) = some 12) (hcat : e_cat rest ≤ 8) {v : Option Value} (h1 : PU X d 249 [.ref a, .int x0, .int x1, .float 0, .float 0, .float 0] f n k v) : TT X (d + 1) 999 691 lv (.int x1 :: .int x0 :: .ref a :: rest) f n k Q = TT X (d + 1) 999 694 lv (v.toList ++ rest) f n k Q := tt_pV (i := .invokevirtual 84) (kind := 1) (idx := 84) (ci := 12) (as := [.int x0, .int x1]) (r := e_M249) (by decide +kernel) rfl rfl rfl (by decide +kernel) rc249 (by decide) rfl rfl (by decide) (Nat.le_of_ble_eq_true rfl) rfl hcl hcat h1
set_option maxRecDepth 20000 in
theorem s999_694 {X : Nat × (Nat → Int32)} {d n k : Nat} {f : Nat → e_C} {Q : t_Q} {lv st : List Value} {x y : Int32} : TT X d 999 694 lv (.int y :: .int x :: st) f n k Q = if x = y then TT X d 999 1395 lv st f n k Q else TT X d 999 697 lv st f n k Q := tt_if2 (c := .eq) (off := 701) (by decide +kernel) rfl rfl
set_option maxRecDepth 20000 in
theorem s999_697 {X : Nat × (Nat → Int32)} {d n k : Nat} {f : Nat → e_C} {Q : t_Q} {lv st : List Value} : TT X d 999 697 lv st f n k Q = TT X d 999 698 lv (.int 0 :: st) f n k Q := tt_st (i := .iconst 0) (len := 1) (by decide +kernel) rfl rfl
set_option maxRecDepth 20000 in
theorem s999_698 {X : Nat × (Nat → Int32)} {d n k : Nat} {f : Nat → e_C} {Q : t_Q} {lv : List Value} {v : Int32} : TT X d 999 698 lv [.int v] f n k Q = ((v = 0 ∨ v = 1) ∧ Q f n k (some (.int v))) := tt_reB (by decide +kernel) (by decide +kernel)
set_option maxRecDepth 20000 in
theorem s999_699 {X : Nat × (Nat → Int32)} {d n k : Nat} {f : Nat → e_C} {Q : t_Q} {a0 a2 a3 : Value} {st : List Value} {x : Nat} : TT X d 999 699 [a0, .ref x, a2, a3] st f n k Q = TT X d 999 700 [a0, .ref x, a2, a3] (.ref x :: st) f n k Q := tt_st (i := .aload_n 1) (len := 1) (by decide +kernel) rfl rfl
set_option maxRecDepth 20000 in
theorem s999_700 {X : Nat × (Nat → Int32)} {d n k : Nat} {f : Nat → e_C} {Q : t_Q} {a1 a2 a3 : Value} {st : List Value} {x : Nat} : TT X d 999 700 [.ref x, a1, a2, a3] st f n k Q = TT X d 999 701 [.ref x, a1, a2, a3] (.ref x :: st) f n k Q := tt_st (i := .aload_n 0) (len := 1) (by decide +kernel) rfl rfl
set_option maxRecDepth 20000 in
theorem s999_701 {X : Nat × (Nat → Int32)} {d n k : Nat} {f : Nat → e_C} {Q : t_Q} {a0 a1 a2 : Value} {st : List Value} {x : Int32} : TT X d 999 701 [a0, a1, a2, .int x] st f n k Q = TT X d 999 702 [a0, a1, a2, .int x] (.int x :: st) f n k Q := tt_st (i := .iload_n 3) (len := 1) (by decide +kernel) rfl rfl
set_option maxRecDepth 20000 in
theorem s999_702 {X : Nat × (Nat → Int32)} {d n k : Nat} {f : Nat → e_C} {Q : t_Q} {lv st : List Value} : TT X d 999 702 lv st f n k Q = TT X d 999 703 lv (.int 1 :: st) f n k Q := tt_st (i := .iconst 1) (len := 1) (by decide +kernel) rfl rfl
set_option maxRecDepth 20000 in
theorem s999_703 {X : Nat × (Nat → Int32)} {d n k : Nat} {f : Nat → e_C} {Q : t_Q} {lv st : List Value} {x y : Int32} : TT X d 999 703 lv (.int y :: .int x :: st) f n k Q = TT X d 999 704 lv (.int (x + y) :: st) f n k Q := tt_st (i := .iadd) (len := 1) (by decide +kernel) rfl rfl
set_option maxRecDepth 20000 in
theorem s999_704 {X : Nat × (Nat → Int32)} {d n k : Nat} {f : Nat → e_C} {Q : t_Q} {lv st : List Value} {a : Nat} {i : Int32} : TT X d 999 704 lv (.int i :: .ref a :: st) f n k Q = ow (arI (f a)) (fun q => e_in i q.1 = true ∧ TT X d 999 705 lv (.int (q.2 i.toNatClampNeg) :: st) f n k Q) := tt_iald (by decide +kernel)
set_option maxRecDepth 20000 in
theorem k999_705 {X : Nat × (Nat → Int32)} {d n k : Nat} {f : Nat → e_C} {Q : t_Q} {lv rest : List Value} {a : Nat} {x0 : Int32} (hcl : cno (f a) = some 11) (hcat : e_cat rest ≤ 8) {Q1 : t_Q} (h1 : TT X d 135 0 [.ref a, .int x0] [] f n k Q1) (h2 : ∀ f' n' k' v, Q1 f' n' k' v → TT X (d + 1) 999 708 lv (v.toList ++ rest) f' n' k' Q) : TT X (d + 1) 999 705 lv (.int x0 :: .ref a :: rest) f n k Q := tt_cV (i := .invokevirtual 85) (kind := 1) (idx := 85) (ci := 11) (as := [.int x0]) (r := e_M135) (by decide +kernel) rfl rfl rfl (by decide +kernel) rc135 (by decide) rfl rfl (by decide) (Nat.le_of_ble_eq_true rfl) rfl hcl hcat h1 h2
set_option maxRecDepth 20000 in
theorem p999_705 {X : Nat × (Nat → Int32)} {d n k : Nat} {f : Nat → e_C} {Q : t_Q} {lv rest : List Value} {a : Nat} {x0 : Int32} (hcl : cno (f a) = some 11) (hcat : e_cat rest ≤ 8) {v : Option Value} (h1 : PU X d 135 [.ref a, .int x0] f n k v) : TT X (d + 1) 999 705 lv (.int x0 :: .ref a :: rest) f n k Q = TT X (d + 1) 999 708 lv (v.toList ++ rest) f n k Q := tt_pV (i := .invokevirtual 85) (kind := 1) (idx := 85) (ci := 11) (as := [.int x0]) (r := e_M135) (by decide +kernel) rfl rfl rfl (by decide +kernel) rc135 (by decide) rfl rfl (by decide) (Nat.le_of_ble_eq_true rfl) rfl hcl hcat h1
set_option maxRecDepth 20000 in
theorem s999_708 {X : Nat × (Nat → Int32)} {d n k : Nat} {f : Nat → e_C} {Q : t_Q} {a0 a1 a3 : Value} {st : List Value} {x : Nat} : TT X d 999 708 [a0, a1, .ref x, a3] st f n k Q = TT X d 999 709 [a0, a1, .ref x, a3] (.ref x :: st) f n k Q := tt_st (i := .aload_n 2) (len := 1) (by decide +kernel) rfl rfl
set_option maxRecDepth 20000 in
theorem s999_709 {X : Nat × (Nat → Int32)} {d n k : Nat} {f : Nat → e_C} {Q : t_Q} {a1 a2 a3 : Value} {st : List Value} {x : Nat} : TT X d 999 709 [.ref x, a1, a2, a3] st f n k Q = TT X d 999 710 [.ref x, a1, a2, a3] (.ref x :: st) f n k Q := tt_st (i := .aload_n 0) (len := 1) (by decide +kernel) rfl rfl
set_option maxRecDepth 20000 in
theorem s999_710 {X : Nat × (Nat → Int32)} {d n k : Nat} {f : Nat → e_C} {Q : t_Q} {a0 a1 a2 : Value} {st : List Value} {x : Int32} : TT X d 999 710 [a0, a1, a2, .int x] st f n k Q = TT X d 999 711 [a0, a1, a2, .int x] (.int x :: st) f n k Q := tt_st (i := .iload_n 3) (len := 1) (by decide +kernel) rfl rfl
set_option maxRecDepth 20000 in
theorem s999_711 {X : Nat × (Nat → Int32)} {d n k : Nat} {f : Nat → e_C} {Q : t_Q} {lv st : List Value} : TT X d 999 711 lv st f n k Q = TT X d 999 712 lv (.int 1 :: st) f n k Q := tt_st (i := .iconst 1) (len := 1) (by decide +kernel) rfl rfl
set_option maxRecDepth 20000 in
theorem s999_712 {X : Nat × (Nat → Int32)} {d n k : Nat} {f : Nat → e_C} {Q : t_Q} {lv st : List Value} {x y : Int32} : TT X d 999 712 lv (.int y :: .int x :: st) f n k Q = TT X d 999 713 lv (.int (x + y) :: st) f n k Q := tt_st (i := .iadd) (len := 1) (by decide +kernel) rfl rfl
set_option maxRecDepth 20000 in
theorem s999_713 {X : Nat × (Nat → Int32)} {d n k : Nat} {f : Nat → e_C} {Q : t_Q} {lv st : List Value} {a : Nat} {i : Int32} : TT X d 999 713 lv (.int i :: .ref a :: st) f n k Q = ow (arI (f a)) (fun q => e_in i q.1 = true ∧ TT X d 999 714 lv (.int (q.2 i.toNatClampNeg) :: st) f n k Q) := tt_iald (by decide +kernel)
set_option maxRecDepth 20000 in
theorem k999_714 {X : Nat × (Nat → Int32)} {d n k : Nat} {f : Nat → e_C} {Q : t_Q} {lv rest : List Value} {a : Nat} {x0 : Int32} (hcl : cno (f a) = some 12) (hcat : e_cat rest ≤ 8) {Q1 : t_Q} (h1 : TT X d 252 0 [.ref a, .int x0] [] f n k Q1) (h2 : ∀ f' n' k' v, Q1 f' n' k' v → TT X (d + 1) 999 717 lv (v.toList ++ rest) f' n' k' Q) : TT X (d + 1) 999 714 lv (.int x0 :: .ref a :: rest) f n k Q := tt_cV (i := .invokevirtual 88) (kind := 1) (idx := 88) (ci := 12) (as := [.int x0]) (r := e_M252) (by decide +kernel) rfl rfl rfl (by decide +kernel) rc252 (by decide) rfl rfl (by decide) (Nat.le_of_ble_eq_true rfl) rfl hcl hcat h1 h2
set_option maxRecDepth 20000 in
theorem p999_714 {X : Nat × (Nat → Int32)} {d n k : Nat} {f : Nat → e_C} {Q : t_Q} {lv rest : List Value} {a : Nat} {x0 : Int32} (hcl : cno (f a) = some 12) (hcat : e_cat rest ≤ 8) {v : Option Value} (h1 : PU X d 252 [.ref a, .int x0] f n k v) : TT X (d + 1) 999 714 lv (.int x0 :: .ref a :: rest) f n k Q = TT X (d + 1) 999 717 lv (v.toList ++ rest) f n k Q := tt_pV (i := .invokevirtual 88) (kind := 1) (idx := 88) (ci := 12) (as := [.int x0]) (r := e_M252) (by decide +kernel) rfl rfl rfl (by decide +kernel) rc252 (by decide) rfl rfl (by decide) (Nat.le_of_ble_eq_true rfl) rfl hcl hcat h1
set_option maxRecDepth 20000 in
theorem s999_717 {X : Nat × (Nat → Int32)} {d n k : Nat} {f : Nat → e_C} {Q : t_Q} {lv st : List Value} {x y : Int32} : TT X d 999 717 lv (.int y :: .int x :: st) f n k Q = if x = y then TT X d 999 1395 lv st f n k Q else TT X d 999 720 lv st f n k Q := tt_if2 (c := .eq) (off := 678) (by decide +kernel) rfl rfl
set_option maxRecDepth 20000 in
theorem s999_720 {X : Nat × (Nat → Int32)} {d n k : Nat} {f : Nat → e_C} {Q : t_Q} {lv st : List Value} : TT X d 999 720 lv st f n k Q = TT X d 999 721 lv (.int 0 :: st) f n k Q := tt_st (i := .iconst 0) (len := 1) (by decide +kernel) rfl rfl
set_option maxRecDepth 20000 in
theorem s999_721 {X : Nat × (Nat → Int32)} {d n k : Nat} {f : Nat → e_C} {Q : t_Q} {lv : List Value} {v : Int32} : TT X d 999 721 lv [.int v] f n k Q = ((v = 0 ∨ v = 1) ∧ Q f n k (some (.int v))) := tt_reB (by decide +kernel) (by decide +kernel)
set_option maxRecDepth 20000 in
theorem s999_722 {X : Nat × (Nat → Int32)} {d n k : Nat} {f : Nat → e_C} {Q : t_Q} {a0 a2 a3 : Value} {st : List Value} {x : Nat} : TT X d 999 722 [a0, .ref x, a2, a3] st f n k Q = TT X d 999 723 [a0, .ref x, a2, a3] (.ref x :: st) f n k Q := tt_st (i := .aload_n 1) (len := 1) (by decide +kernel) rfl rfl
set_option maxRecDepth 20000 in
theorem s999_723 {X : Nat × (Nat → Int32)} {d n k : Nat} {f : Nat → e_C} {Q : t_Q} {a1 a2 a3 : Value} {st : List Value} {x : Nat} : TT X d 999 723 [.ref x, a1, a2, a3] st f n k Q = TT X d 999 724 [.ref x, a1, a2, a3] (.ref x :: st) f n k Q := tt_st (i := .aload_n 0) (len := 1) (by decide +kernel) rfl rfl
set_option maxRecDepth 20000 in
theorem s999_724 {X : Nat × (Nat → Int32)} {d n k : Nat} {f : Nat → e_C} {Q : t_Q} {a0 a1 a2 : Value} {st : List Value} {x : Int32} : TT X d 999 724 [a0, a1, a2, .int x] st f n k Q = TT X d 999 725 [a0, a1, a2, .int x] (.int x :: st) f n k Q := tt_st (i := .iload_n 3) (len := 1) (by decide +kernel) rfl rfl
set_option maxRecDepth 20000 in
theorem s999_725 {X : Nat × (Nat → Int32)} {d n k : Nat} {f : Nat → e_C} {Q : t_Q} {lv st : List Value} : TT X d 999 725 lv st f n k Q = TT X d 999 726 lv (.int 1 :: st) f n k Q := tt_st (i := .iconst 1) (len := 1) (by decide +kernel) rfl rfl
set_option maxRecDepth 20000 in
theorem s999_726 {X : Nat × (Nat → Int32)} {d n k : Nat} {f : Nat → e_C} {Q : t_Q} {lv st : List Value} {x y : Int32} : TT X d 999 726 lv (.int y :: .int x :: st) f n k Q = TT X d 999 727 lv (.int (x + y) :: st) f n k Q := tt_st (i := .iadd) (len := 1) (by decide +kernel) rfl rfl
set_option maxRecDepth 20000 in
theorem s999_727 {X : Nat × (Nat → Int32)} {d n k : Nat} {f : Nat → e_C} {Q : t_Q} {lv st : List Value} {a : Nat} {i : Int32} : TT X d 999 727 lv (.int i :: .ref a :: st) f n k Q = ow (arI (f a)) (fun q => e_in i q.1 = true ∧ TT X d 999 728 lv (.int (q.2 i.toNatClampNeg) :: st) f n k Q) := tt_iald (by decide +kernel)
set_option maxRecDepth 20000 in
theorem k999_728 {X : Nat × (Nat → Int32)} {d n k : Nat} {f : Nat → e_C} {Q : t_Q} {lv rest : List Value} {a : Nat} {x0 : Int32} (hcl : cno (f a) = some 11) (hcat : e_cat rest ≤ 8) {Q1 : t_Q} (h1 : TT X d 136 0 [.ref a, .int x0] [] f n k Q1) (h2 : ∀ f' n' k' v, Q1 f' n' k' v → TT X (d + 1) 999 731 lv (v.toList ++ rest) f' n' k' Q) : TT X (d + 1) 999 728 lv (.int x0 :: .ref a :: rest) f n k Q := tt_cV (i := .invokevirtual 89) (kind := 1) (idx := 89) (ci := 11) (as := [.int x0]) (r := e_M136) (by decide +kernel) rfl rfl rfl (by decide +kernel) rc136 (by decide) rfl rfl (by decide) (Nat.le_of_ble_eq_true rfl) rfl hcl hcat h1 h2
set_option maxRecDepth 20000 in
theorem p999_728 {X : Nat × (Nat → Int32)} {d n k : Nat} {f : Nat → e_C} {Q : t_Q} {lv rest : List Value} {a : Nat} {x0 : Int32} (hcl : cno (f a) = some 11) (hcat : e_cat rest ≤ 8) {v : Option Value} (h1 : PU X d 136 [.ref a, .int x0] f n k v) : TT X (d + 1) 999 728 lv (.int x0 :: .ref a :: rest) f n k Q = TT X (d + 1) 999 731 lv (v.toList ++ rest) f n k Q := tt_pV (i := .invokevirtual 89) (kind := 1) (idx := 89) (ci := 11) (as := [.int x0]) (r := e_M136) (by decide +kernel) rfl rfl rfl (by decide +kernel) rc136 (by decide) rfl rfl (by decide) (Nat.le_of_ble_eq_true rfl) rfl hcl hcat h1
set_option maxRecDepth 20000 in
theorem s999_731 {X : Nat × (Nat → Int32)} {d n k : Nat} {f : Nat → e_C} {Q : t_Q} {a0 a1 a3 : Value} {st : List Value} {x : Nat} : TT X d 999 731 [a0, a1, .ref x, a3] st f n k Q = TT X d 999 732 [a0, a1, .ref x, a3] (.ref x :: st) f n k Q := tt_st (i := .aload_n 2) (len := 1) (by decide +kernel) rfl rfl
set_option maxRecDepth 20000 in
theorem s999_732 {X : Nat × (Nat → Int32)} {d n k : Nat} {f : Nat → e_C} {Q : t_Q} {a1 a2 a3 : Value} {st : List Value} {x : Nat} : TT X d 999 732 [.ref x, a1, a2, a3] st f n k Q = TT X d 999 733 [.ref x, a1, a2, a3] (.ref x :: st) f n k Q := tt_st (i := .aload_n 0) (len := 1) (by decide +kernel) rfl rfl
set_option maxRecDepth 20000 in
theorem s999_733 {X : Nat × (Nat → Int32)} {d n k : Nat} {f : Nat → e_C} {Q : t_Q} {a0 a1 a2 : Value} {st : List Value} {x : Int32} : TT X d 999 733 [a0, a1, a2, .int x] st f n k Q = TT X d 999 734 [a0, a1, a2, .int x] (.int x :: st) f n k Q := tt_st (i := .iload_n 3) (len := 1) (by decide +kernel) rfl rfl
set_option maxRecDepth 20000 in
theorem s999_734 {X : Nat × (Nat → Int32)} {d n k : Nat} {f : Nat → e_C} {Q : t_Q} {lv st : List Value} : TT X d 999 734 lv st f n k Q = TT X d 999 735 lv (.int 1 :: st) f n k Q := tt_st (i := .iconst 1) (len := 1) (by decide +kernel) rfl rfl
set_option maxRecDepth 20000 in
theorem s999_735 {X : Nat × (Nat → Int32)} {d n k : Nat} {f : Nat → e_C} {Q : t_Q} {lv st : List Value} {x y : Int32} : TT X d 999 735 lv (.int y :: .int x :: st) f n k Q = TT X d 999 736 lv (.int (x + y) :: st) f n k Q := tt_st (i := .iadd) (len := 1) (by decide +kernel) rfl rfl
set_option maxRecDepth 20000 in
theorem s999_736 {X : Nat × (Nat → Int32)} {d n k : Nat} {f : Nat → e_C} {Q : t_Q} {lv st : List Value} {a : Nat} {i : Int32} : TT X d 999 736 lv (.int i :: .ref a :: st) f n k Q = ow (arI (f a)) (fun q => e_in i q.1 = true ∧ TT X d 999 737 lv (.int (q.2 i.toNatClampNeg) :: st) f n k Q) := tt_iald (by decide +kernel)
set_option maxRecDepth 20000 in
theorem k999_737 {X : Nat × (Nat → Int32)} {d n k : Nat} {f : Nat → e_C} {Q : t_Q} {lv rest : List Value} {a : Nat} {x0 : Int32} (hcl : cno (f a) = some 12) (hcat : e_cat rest ≤ 8) {Q1 : t_Q} (h1 : TT X d 254 0 [.ref a, .int x0, .float 0, .float 0] [] f n k Q1) (h2 : ∀ f' n' k' v, Q1 f' n' k' v → TT X (d + 1) 999 740 lv (v.toList ++ rest) f' n' k' Q) : TT X (d + 1) 999 737 lv (.int x0 :: .ref a :: rest) f n k Q := tt_cV (i := .invokevirtual 92) (kind := 1) (idx := 92) (ci := 12) (as := [.int x0]) (r := e_M254) (by decide +kernel) rfl rfl rfl (by decide +kernel) rc254 (by decide) rfl rfl (by decide) (Nat.le_of_ble_eq_true rfl) rfl hcl hcat h1 h2
set_option maxRecDepth 20000 in
theorem p999_737 {X : Nat × (Nat → Int32)} {d n k : Nat} {f : Nat → e_C} {Q : t_Q} {lv rest : List Value} {a : Nat} {x0 : Int32} (hcl : cno (f a) = some 12) (hcat : e_cat rest ≤ 8) {v : Option Value} (h1 : PU X d 254 [.ref a, .int x0, .float 0, .float 0] f n k v) : TT X (d + 1) 999 737 lv (.int x0 :: .ref a :: rest) f n k Q = TT X (d + 1) 999 740 lv (v.toList ++ rest) f n k Q := tt_pV (i := .invokevirtual 92) (kind := 1) (idx := 92) (ci := 12) (as := [.int x0]) (r := e_M254) (by decide +kernel) rfl rfl rfl (by decide +kernel) rc254 (by decide) rfl rfl (by decide) (Nat.le_of_ble_eq_true rfl) rfl hcl hcat h1
set_option maxRecDepth 20000 in
theorem s999_740 {X : Nat × (Nat → Int32)} {d n k : Nat} {f : Nat → e_C} {Q : t_Q} {lv st : List Value} {x y : Int32} : TT X d 999 740 lv (.int y :: .int x :: st) f n k Q = if x = y then TT X d 999 1395 lv st f n k Q else TT X d 999 743 lv st f n k Q := tt_if2 (c := .eq) (off := 655) (by decide +kernel) rfl rfl
set_option maxRecDepth 20000 in
theorem s999_743 {X : Nat × (Nat → Int32)} {d n k : Nat} {f : Nat → e_C} {Q : t_Q} {lv st : List Value} : TT X d 999 743 lv st f n k Q = TT X d 999 744 lv (.int 0 :: st) f n k Q := tt_st (i := .iconst 0) (len := 1) (by decide +kernel) rfl rfl
set_option maxRecDepth 20000 in
theorem s999_744 {X : Nat × (Nat → Int32)} {d n k : Nat} {f : Nat → e_C} {Q : t_Q} {lv : List Value} {v : Int32} : TT X d 999 744 lv [.int v] f n k Q = ((v = 0 ∨ v = 1) ∧ Q f n k (some (.int v))) := tt_reB (by decide +kernel) (by decide +kernel)
set_option maxRecDepth 20000 in
theorem s999_745 {X : Nat × (Nat → Int32)} {d n k : Nat} {f : Nat → e_C} {Q : t_Q} {a0 a2 a3 : Value} {st : List Value} {x : Nat} : TT X d 999 745 [a0, .ref x, a2, a3] st f n k Q = TT X d 999 746 [a0, .ref x, a2, a3] (.ref x :: st) f n k Q := tt_st (i := .aload_n 1) (len := 1) (by decide +kernel) rfl rfl
set_option maxRecDepth 20000 in
theorem k999_746 {X : Nat × (Nat → Int32)} {d n k : Nat} {f : Nat → e_C} {Q : t_Q} {lv rest : List Value} {a : Nat}  (hcl : cno (f a) = some 11) (hcat : e_cat rest ≤ 8) {Q1 : t_Q} (h1 : TT X d 138 0 [.ref a] [] f n k Q1) (h2 : ∀ f' n' k' v, Q1 f' n' k' v → TT X (d + 1) 999 749 lv (v.toList ++ rest) f' n' k' Q) : TT X (d + 1) 999 746 lv (.ref a :: rest) f n k Q := tt_cV (i := .invokevirtual 93) (kind := 1) (idx := 93) (ci := 11) (as := []) (r := e_M138) (by decide +kernel) rfl rfl rfl (by decide +kernel) rc138 (by decide) rfl rfl (by decide) (Nat.le_of_ble_eq_true rfl) rfl hcl hcat h1 h2
set_option maxRecDepth 20000 in
theorem p999_746 {X : Nat × (Nat → Int32)} {d n k : Nat} {f : Nat → e_C} {Q : t_Q} {lv rest : List Value} {a : Nat}  (hcl : cno (f a) = some 11) (hcat : e_cat rest ≤ 8) {v : Option Value} (h1 : PU X d 138 [.ref a] f n k v) : TT X (d + 1) 999 746 lv (.ref a :: rest) f n k Q = TT X (d + 1) 999 749 lv (v.toList ++ rest) f n k Q := tt_pV (i := .invokevirtual 93) (kind := 1) (idx := 93) (ci := 11) (as := []) (r := e_M138) (by decide +kernel) rfl rfl rfl (by decide +kernel) rc138 (by decide) rfl rfl (by decide) (Nat.le_of_ble_eq_true rfl) rfl hcl hcat h1
set_option maxRecDepth 20000 in
theorem s999_749 {X : Nat × (Nat → Int32)} {d n k : Nat} {f : Nat → e_C} {Q : t_Q} {a0 a1 a3 : Value} {st : List Value} {x : Nat} : TT X d 999 749 [a0, a1, .ref x, a3] st f n k Q = TT X d 999 750 [a0, a1, .ref x, a3] (.ref x :: st) f n k Q := tt_st (i := .aload_n 2) (len := 1) (by decide +kernel) rfl rfl
set_option maxRecDepth 20000 in
theorem k999_750 {X : Nat × (Nat → Int32)} {d n k : Nat} {f : Nat → e_C} {Q : t_Q} {lv rest : List Value} {a : Nat}  (hcl : cno (f a) = some 12) (hcat : e_cat rest ≤ 8) {Q1 : t_Q} (h1 : TT X d 258 0 [.ref a, .float 0, .float 0] [] f n k Q1) (h2 : ∀ f' n' k' v, Q1 f' n' k' v → TT X (d + 1) 999 753 lv (v.toList ++ rest) f' n' k' Q) : TT X (d + 1) 999 750 lv (.ref a :: rest) f n k Q := tt_cV (i := .invokevirtual 96) (kind := 1) (idx := 96) (ci := 12) (as := []) (r := e_M258) (by decide +kernel) rfl rfl rfl (by decide +kernel) rc258 (by decide) rfl rfl (by decide) (Nat.le_of_ble_eq_true rfl) rfl hcl hcat h1 h2
set_option maxRecDepth 20000 in
theorem p999_750 {X : Nat × (Nat → Int32)} {d n k : Nat} {f : Nat → e_C} {Q : t_Q} {lv rest : List Value} {a : Nat}  (hcl : cno (f a) = some 12) (hcat : e_cat rest ≤ 8) {v : Option Value} (h1 : PU X d 258 [.ref a, .float 0, .float 0] f n k v) : TT X (d + 1) 999 750 lv (.ref a :: rest) f n k Q = TT X (d + 1) 999 753 lv (v.toList ++ rest) f n k Q := tt_pV (i := .invokevirtual 96) (kind := 1) (idx := 96) (ci := 12) (as := []) (r := e_M258) (by decide +kernel) rfl rfl rfl (by decide +kernel) rc258 (by decide) rfl rfl (by decide) (Nat.le_of_ble_eq_true rfl) rfl hcl hcat h1
set_option maxRecDepth 20000 in
theorem s999_753 {X : Nat × (Nat → Int32)} {d n k : Nat} {f : Nat → e_C} {Q : t_Q} {lv st : List Value} {x y : Int32} : TT X d 999 753 lv (.int y :: .int x :: st) f n k Q = if x = y then TT X d 999 1395 lv st f n k Q else TT X d 999 756 lv st f n k Q := tt_if2 (c := .eq) (off := 642) (by decide +kernel) rfl rfl
set_option maxRecDepth 20000 in
theorem s999_756 {X : Nat × (Nat → Int32)} {d n k : Nat} {f : Nat → e_C} {Q : t_Q} {lv st : List Value} : TT X d 999 756 lv st f n k Q = TT X d 999 757 lv (.int 0 :: st) f n k Q := tt_st (i := .iconst 0) (len := 1) (by decide +kernel) rfl rfl
set_option maxRecDepth 20000 in
theorem s999_757 {X : Nat × (Nat → Int32)} {d n k : Nat} {f : Nat → e_C} {Q : t_Q} {lv : List Value} {v : Int32} : TT X d 999 757 lv [.int v] f n k Q = ((v = 0 ∨ v = 1) ∧ Q f n k (some (.int v))) := tt_reB (by decide +kernel) (by decide +kernel)
set_option maxRecDepth 20000 in
theorem s999_758 {X : Nat × (Nat → Int32)} {d n k : Nat} {f : Nat → e_C} {Q : t_Q} {a0 a2 a3 : Value} {st : List Value} {x : Nat} : TT X d 999 758 [a0, .ref x, a2, a3] st f n k Q = TT X d 999 759 [a0, .ref x, a2, a3] (.ref x :: st) f n k Q := tt_st (i := .aload_n 1) (len := 1) (by decide +kernel) rfl rfl
set_option maxRecDepth 20000 in
theorem k999_759 {X : Nat × (Nat → Int32)} {d n k : Nat} {f : Nat → e_C} {Q : t_Q} {lv rest : List Value} {a : Nat}  (hcl : cno (f a) = some 11) (hcat : e_cat rest ≤ 8) {Q1 : t_Q} (h1 : TT X d 139 0 [.ref a] [] f n k Q1) (h2 : ∀ f' n' k' v, Q1 f' n' k' v → TT X (d + 1) 999 762 lv (v.toList ++ rest) f' n' k' Q) : TT X (d + 1) 999 759 lv (.ref a :: rest) f n k Q := tt_cV (i := .invokevirtual 97) (kind := 1) (idx := 97) (ci := 11) (as := []) (r := e_M139) (by decide +kernel) rfl rfl rfl (by decide +kernel) rc139 (by decide) rfl rfl (by decide) (Nat.le_of_ble_eq_true rfl) rfl hcl hcat h1 h2
set_option maxRecDepth 20000 in
theorem p999_759 {X : Nat × (Nat → Int32)} {d n k : Nat} {f : Nat → e_C} {Q : t_Q} {lv rest : List Value} {a : Nat}  (hcl : cno (f a) = some 11) (hcat : e_cat rest ≤ 8) {v : Option Value} (h1 : PU X d 139 [.ref a] f n k v) : TT X (d + 1) 999 759 lv (.ref a :: rest) f n k Q = TT X (d + 1) 999 762 lv (v.toList ++ rest) f n k Q := tt_pV (i := .invokevirtual 97) (kind := 1) (idx := 97) (ci := 11) (as := []) (r := e_M139) (by decide +kernel) rfl rfl rfl (by decide +kernel) rc139 (by decide) rfl rfl (by decide) (Nat.le_of_ble_eq_true rfl) rfl hcl hcat h1
set_option maxRecDepth 20000 in
theorem s999_762 {X : Nat × (Nat → Int32)} {d n k : Nat} {f : Nat → e_C} {Q : t_Q} {a0 a1 a3 : Value} {st : List Value} {x : Nat} : TT X d 999 762 [a0, a1, .ref x, a3] st f n k Q = TT X d 999 763 [a0, a1, .ref x, a3] (.ref x :: st) f n k Q := tt_st (i := .aload_n 2) (len := 1) (by decide +kernel) rfl rfl
set_option maxRecDepth 20000 in
theorem k999_763 {X : Nat × (Nat → Int32)} {d n k : Nat} {f : Nat → e_C} {Q : t_Q} {lv rest : List Value} {a : Nat}  (hcl : cno (f a) = some 12) (hcat : e_cat rest ≤ 8) {Q1 : t_Q} (h1 : TT X d 259 0 [.ref a, .float 0, .float 0] [] f n k Q1) (h2 : ∀ f' n' k' v, Q1 f' n' k' v → TT X (d + 1) 999 766 lv (v.toList ++ rest) f' n' k' Q) : TT X (d + 1) 999 763 lv (.ref a :: rest) f n k Q := tt_cV (i := .invokevirtual 100) (kind := 1) (idx := 100) (ci := 12) (as := []) (r := e_M259) (by decide +kernel) rfl rfl rfl (by decide +kernel) rc259 (by decide) rfl rfl (by decide) (Nat.le_of_ble_eq_true rfl) rfl hcl hcat h1 h2
set_option maxRecDepth 20000 in
theorem p999_763 {X : Nat × (Nat → Int32)} {d n k : Nat} {f : Nat → e_C} {Q : t_Q} {lv rest : List Value} {a : Nat}  (hcl : cno (f a) = some 12) (hcat : e_cat rest ≤ 8) {v : Option Value} (h1 : PU X d 259 [.ref a, .float 0, .float 0] f n k v) : TT X (d + 1) 999 763 lv (.ref a :: rest) f n k Q = TT X (d + 1) 999 766 lv (v.toList ++ rest) f n k Q := tt_pV (i := .invokevirtual 100) (kind := 1) (idx := 100) (ci := 12) (as := []) (r := e_M259) (by decide +kernel) rfl rfl rfl (by decide +kernel) rc259 (by decide) rfl rfl (by decide) (Nat.le_of_ble_eq_true rfl) rfl hcl hcat h1
set_option maxRecDepth 20000 in
theorem s999_766 {X : Nat × (Nat → Int32)} {d n k : Nat} {f : Nat → e_C} {Q : t_Q} {lv st : List Value} {x y : Int32} : TT X d 999 766 lv (.int y :: .int x :: st) f n k Q = if x = y then TT X d 999 1395 lv st f n k Q else TT X d 999 769 lv st f n k Q := tt_if2 (c := .eq) (off := 629) (by decide +kernel) rfl rfl
set_option maxRecDepth 20000 in
theorem s999_769 {X : Nat × (Nat → Int32)} {d n k : Nat} {f : Nat → e_C} {Q : t_Q} {lv st : List Value} : TT X d 999 769 lv st f n k Q = TT X d 999 770 lv (.int 0 :: st) f n k Q := tt_st (i := .iconst 0) (len := 1) (by decide +kernel) rfl rfl
set_option maxRecDepth 20000 in
theorem s999_770 {X : Nat × (Nat → Int32)} {d n k : Nat} {f : Nat → e_C} {Q : t_Q} {lv : List Value} {v : Int32} : TT X d 999 770 lv [.int v] f n k Q = ((v = 0 ∨ v = 1) ∧ Q f n k (some (.int v))) := tt_reB (by decide +kernel) (by decide +kernel)
set_option maxRecDepth 20000 in
theorem s999_771 {X : Nat × (Nat → Int32)} {d n k : Nat} {f : Nat → e_C} {Q : t_Q} {a0 a2 a3 : Value} {st : List Value} {x : Nat} : TT X d 999 771 [a0, .ref x, a2, a3] st f n k Q = TT X d 999 772 [a0, .ref x, a2, a3] (.ref x :: st) f n k Q := tt_st (i := .aload_n 1) (len := 1) (by decide +kernel) rfl rfl
set_option maxRecDepth 20000 in
theorem s999_772 {X : Nat × (Nat → Int32)} {d n k : Nat} {f : Nat → e_C} {Q : t_Q} {a1 a2 a3 : Value} {st : List Value} {x : Nat} : TT X d 999 772 [.ref x, a1, a2, a3] st f n k Q = TT X d 999 773 [.ref x, a1, a2, a3] (.ref x :: st) f n k Q := tt_st (i := .aload_n 0) (len := 1) (by decide +kernel) rfl rfl
set_option maxRecDepth 20000 in
theorem s999_773 {X : Nat × (Nat → Int32)} {d n k : Nat} {f : Nat → e_C} {Q : t_Q} {a0 a1 a2 : Value} {st : List Value} {x : Int32} : TT X d 999 773 [a0, a1, a2, .int x] st f n k Q = TT X d 999 774 [a0, a1, a2, .int x] (.int x :: st) f n k Q := tt_st (i := .iload_n 3) (len := 1) (by decide +kernel) rfl rfl
set_option maxRecDepth 20000 in
theorem s999_774 {X : Nat × (Nat → Int32)} {d n k : Nat} {f : Nat → e_C} {Q : t_Q} {lv st : List Value} : TT X d 999 774 lv st f n k Q = TT X d 999 775 lv (.int 1 :: st) f n k Q := tt_st (i := .iconst 1) (len := 1) (by decide +kernel) rfl rfl
set_option maxRecDepth 20000 in
theorem s999_775 {X : Nat × (Nat → Int32)} {d n k : Nat} {f : Nat → e_C} {Q : t_Q} {lv st : List Value} {x y : Int32} : TT X d 999 775 lv (.int y :: .int x :: st) f n k Q = TT X d 999 776 lv (.int (x + y) :: st) f n k Q := tt_st (i := .iadd) (len := 1) (by decide +kernel) rfl rfl
set_option maxRecDepth 20000 in
theorem s999_776 {X : Nat × (Nat → Int32)} {d n k : Nat} {f : Nat → e_C} {Q : t_Q} {lv st : List Value} {a : Nat} {i : Int32} : TT X d 999 776 lv (.int i :: .ref a :: st) f n k Q = ow (arI (f a)) (fun q => e_in i q.1 = true ∧ TT X d 999 777 lv (.int (q.2 i.toNatClampNeg) :: st) f n k Q) := tt_iald (by decide +kernel)
set_option maxRecDepth 20000 in
theorem k999_777 {X : Nat × (Nat → Int32)} {d n k : Nat} {f : Nat → e_C} {Q : t_Q} {lv rest : List Value} {a : Nat} {x0 : Int32} (hcl : cno (f a) = some 11) (hcat : e_cat rest ≤ 8) {Q1 : t_Q} (h1 : TT X d 140 0 [.ref a, .int x0] [] f n k Q1) (h2 : ∀ f' n' k' v, Q1 f' n' k' v → TT X (d + 1) 999 780 lv (v.toList ++ rest) f' n' k' Q) : TT X (d + 1) 999 777 lv (.int x0 :: .ref a :: rest) f n k Q := tt_cV (i := .invokevirtual 101) (kind := 1) (idx := 101) (ci := 11) (as := [.int x0]) (r := e_M140) (by decide +kernel) rfl rfl rfl (by decide +kernel) rc140 (by decide) rfl rfl (by decide) (Nat.le_of_ble_eq_true rfl) rfl hcl hcat h1 h2
set_option maxRecDepth 20000 in
theorem p999_777 {X : Nat × (Nat → Int32)} {d n k : Nat} {f : Nat → e_C} {Q : t_Q} {lv rest : List Value} {a : Nat} {x0 : Int32} (hcl : cno (f a) = some 11) (hcat : e_cat rest ≤ 8) {v : Option Value} (h1 : PU X d 140 [.ref a, .int x0] f n k v) : TT X (d + 1) 999 777 lv (.int x0 :: .ref a :: rest) f n k Q = TT X (d + 1) 999 780 lv (v.toList ++ rest) f n k Q := tt_pV (i := .invokevirtual 101) (kind := 1) (idx := 101) (ci := 11) (as := [.int x0]) (r := e_M140) (by decide +kernel) rfl rfl rfl (by decide +kernel) rc140 (by decide) rfl rfl (by decide) (Nat.le_of_ble_eq_true rfl) rfl hcl hcat h1
set_option maxRecDepth 20000 in
theorem s999_780 {X : Nat × (Nat → Int32)} {d n k : Nat} {f : Nat → e_C} {Q : t_Q} {a0 a1 a3 : Value} {st : List Value} {x : Nat} : TT X d 999 780 [a0, a1, .ref x, a3] st f n k Q = TT X d 999 781 [a0, a1, .ref x, a3] (.ref x :: st) f n k Q := tt_st (i := .aload_n 2) (len := 1) (by decide +kernel) rfl rfl
set_option maxRecDepth 20000 in
theorem s999_781 {X : Nat × (Nat → Int32)} {d n k : Nat} {f : Nat → e_C} {Q : t_Q} {a1 a2 a3 : Value} {st : List Value} {x : Nat} : TT X d 999 781 [.ref x, a1, a2, a3] st f n k Q = TT X d 999 782 [.ref x, a1, a2, a3] (.ref x :: st) f n k Q := tt_st (i := .aload_n 0) (len := 1) (by decide +kernel) rfl rfl
set_option maxRecDepth 20000 in
theorem s999_782 {X : Nat × (Nat → Int32)} {d n k : Nat} {f : Nat → e_C} {Q : t_Q} {a0 a1 a2 : Value} {st : List Value} {x : Int32} : TT X d 999 782 [a0, a1, a2, .int x] st f n k Q = TT X d 999 783 [a0, a1, a2, .int x] (.int x :: st) f n k Q := tt_st (i := .iload_n 3) (len := 1) (by decide +kernel) rfl rfl
set_option maxRecDepth 20000 in
theorem s999_783 {X : Nat × (Nat → Int32)} {d n k : Nat} {f : Nat → e_C} {Q : t_Q} {lv st : List Value} : TT X d 999 783 lv st f n k Q = TT X d 999 784 lv (.int 1 :: st) f n k Q := tt_st (i := .iconst 1) (len := 1) (by decide +kernel) rfl rfl
set_option maxRecDepth 20000 in
theorem s999_784 {X : Nat × (Nat → Int32)} {d n k : Nat} {f : Nat → e_C} {Q : t_Q} {lv st : List Value} {x y : Int32} : TT X d 999 784 lv (.int y :: .int x :: st) f n k Q = TT X d 999 785 lv (.int (x + y) :: st) f n k Q := tt_st (i := .iadd) (len := 1) (by decide +kernel) rfl rfl
set_option maxRecDepth 20000 in
theorem s999_785 {X : Nat × (Nat → Int32)} {d n k : Nat} {f : Nat → e_C} {Q : t_Q} {lv st : List Value} {a : Nat} {i : Int32} : TT X d 999 785 lv (.int i :: .ref a :: st) f n k Q = ow (arI (f a)) (fun q => e_in i q.1 = true ∧ TT X d 999 786 lv (.int (q.2 i.toNatClampNeg) :: st) f n k Q) := tt_iald (by decide +kernel)
set_option maxRecDepth 20000 in
theorem k999_786 {X : Nat × (Nat → Int32)} {d n k : Nat} {f : Nat → e_C} {Q : t_Q} {lv rest : List Value} {a : Nat} {x0 : Int32} (hcl : cno (f a) = some 12) (hcat : e_cat rest ≤ 8) {Q1 : t_Q} (h1 : TT X d 260 0 [.ref a, .int x0, .float 0] [] f n k Q1) (h2 : ∀ f' n' k' v, Q1 f' n' k' v → TT X (d + 1) 999 789 lv (v.toList ++ rest) f' n' k' Q) : TT X (d + 1) 999 786 lv (.int x0 :: .ref a :: rest) f n k Q := tt_cV (i := .invokevirtual 104) (kind := 1) (idx := 104) (ci := 12) (as := [.int x0]) (r := e_M260) (by decide +kernel) rfl rfl rfl (by decide +kernel) rc260 (by decide) rfl rfl (by decide) (Nat.le_of_ble_eq_true rfl) rfl hcl hcat h1 h2
set_option maxRecDepth 20000 in
theorem p999_786 {X : Nat × (Nat → Int32)} {d n k : Nat} {f : Nat → e_C} {Q : t_Q} {lv rest : List Value} {a : Nat} {x0 : Int32} (hcl : cno (f a) = some 12) (hcat : e_cat rest ≤ 8) {v : Option Value} (h1 : PU X d 260 [.ref a, .int x0, .float 0] f n k v) : TT X (d + 1) 999 786 lv (.int x0 :: .ref a :: rest) f n k Q = TT X (d + 1) 999 789 lv (v.toList ++ rest) f n k Q := tt_pV (i := .invokevirtual 104) (kind := 1) (idx := 104) (ci := 12) (as := [.int x0]) (r := e_M260) (by decide +kernel) rfl rfl rfl (by decide +kernel) rc260 (by decide) rfl rfl (by decide) (Nat.le_of_ble_eq_true rfl) rfl hcl hcat h1
set_option maxRecDepth 20000 in
theorem s999_789 {X : Nat × (Nat → Int32)} {d n k : Nat} {f : Nat → e_C} {Q : t_Q} {lv st : List Value} {x y : Int32} : TT X d 999 789 lv (.int y :: .int x :: st) f n k Q = if x = y then TT X d 999 1395 lv st f n k Q else TT X d 999 792 lv st f n k Q := tt_if2 (c := .eq) (off := 606) (by decide +kernel) rfl rfl
set_option maxRecDepth 20000 in
theorem s999_792 {X : Nat × (Nat → Int32)} {d n k : Nat} {f : Nat → e_C} {Q : t_Q} {lv st : List Value} : TT X d 999 792 lv st f n k Q = TT X d 999 793 lv (.int 0 :: st) f n k Q := tt_st (i := .iconst 0) (len := 1) (by decide +kernel) rfl rfl
set_option maxRecDepth 20000 in
theorem s999_793 {X : Nat × (Nat → Int32)} {d n k : Nat} {f : Nat → e_C} {Q : t_Q} {lv : List Value} {v : Int32} : TT X d 999 793 lv [.int v] f n k Q = ((v = 0 ∨ v = 1) ∧ Q f n k (some (.int v))) := tt_reB (by decide +kernel) (by decide +kernel)
set_option maxRecDepth 20000 in
theorem s999_794 {X : Nat × (Nat → Int32)} {d n k : Nat} {f : Nat → e_C} {Q : t_Q} {a0 a2 a3 : Value} {st : List Value} {x : Nat} : TT X d 999 794 [a0, .ref x, a2, a3] st f n k Q = TT X d 999 795 [a0, .ref x, a2, a3] (.ref x :: st) f n k Q := tt_st (i := .aload_n 1) (len := 1) (by decide +kernel) rfl rfl
set_option maxRecDepth 20000 in
theorem s999_795 {X : Nat × (Nat → Int32)} {d n k : Nat} {f : Nat → e_C} {Q : t_Q} {a1 a2 a3 : Value} {st : List Value} {x : Nat} : TT X d 999 795 [.ref x, a1, a2, a3] st f n k Q = TT X d 999 796 [.ref x, a1, a2, a3] (.ref x :: st) f n k Q := tt_st (i := .aload_n 0) (len := 1) (by decide +kernel) rfl rfl
set_option maxRecDepth 20000 in
theorem s999_796 {X : Nat × (Nat → Int32)} {d n k : Nat} {f : Nat → e_C} {Q : t_Q} {a0 a1 a2 : Value} {st : List Value} {x : Int32} : TT X d 999 796 [a0, a1, a2, .int x] st f n k Q = TT X d 999 797 [a0, a1, a2, .int x] (.int x :: st) f n k Q := tt_st (i := .iload_n 3) (len := 1) (by decide +kernel) rfl rfl
set_option maxRecDepth 20000 in
theorem s999_797 {X : Nat × (Nat → Int32)} {d n k : Nat} {f : Nat → e_C} {Q : t_Q} {lv st : List Value} : TT X d 999 797 lv st f n k Q = TT X d 999 798 lv (.int 1 :: st) f n k Q := tt_st (i := .iconst 1) (len := 1) (by decide +kernel) rfl rfl
set_option maxRecDepth 20000 in
theorem s999_798 {X : Nat × (Nat → Int32)} {d n k : Nat} {f : Nat → e_C} {Q : t_Q} {lv st : List Value} {x y : Int32} : TT X d 999 798 lv (.int y :: .int x :: st) f n k Q = TT X d 999 799 lv (.int (x + y) :: st) f n k Q := tt_st (i := .iadd) (len := 1) (by decide +kernel) rfl rfl
set_option maxRecDepth 20000 in
theorem s999_799 {X : Nat × (Nat → Int32)} {d n k : Nat} {f : Nat → e_C} {Q : t_Q} {lv st : List Value} {a : Nat} {i : Int32} : TT X d 999 799 lv (.int i :: .ref a :: st) f n k Q = ow (arI (f a)) (fun q => e_in i q.1 = true ∧ TT X d 999 800 lv (.int (q.2 i.toNatClampNeg) :: st) f n k Q) := tt_iald (by decide +kernel)
set_option maxRecDepth 20000 in
theorem k999_800 {X : Nat × (Nat → Int32)} {d n k : Nat} {f : Nat → e_C} {Q : t_Q} {lv rest : List Value} {a : Nat} {x0 : Int32} (hcl : cno (f a) = some 11) (hcat : e_cat rest ≤ 8) {Q1 : t_Q} (h1 : TT X d 141 0 [.ref a, .int x0] [] f n k Q1) (h2 : ∀ f' n' k' v, Q1 f' n' k' v → TT X (d + 1) 999 803 lv (v.toList ++ rest) f' n' k' Q) : TT X (d + 1) 999 800 lv (.int x0 :: .ref a :: rest) f n k Q := tt_cV (i := .invokevirtual 105) (kind := 1) (idx := 105) (ci := 11) (as := [.int x0]) (r := e_M141) (by decide +kernel) rfl rfl rfl (by decide +kernel) rc141 (by decide) rfl rfl (by decide) (Nat.le_of_ble_eq_true rfl) rfl hcl hcat h1 h2
set_option maxRecDepth 20000 in
theorem p999_800 {X : Nat × (Nat → Int32)} {d n k : Nat} {f : Nat → e_C} {Q : t_Q} {lv rest : List Value} {a : Nat} {x0 : Int32} (hcl : cno (f a) = some 11) (hcat : e_cat rest ≤ 8) {v : Option Value} (h1 : PU X d 141 [.ref a, .int x0] f n k v) : TT X (d + 1) 999 800 lv (.int x0 :: .ref a :: rest) f n k Q = TT X (d + 1) 999 803 lv (v.toList ++ rest) f n k Q := tt_pV (i := .invokevirtual 105) (kind := 1) (idx := 105) (ci := 11) (as := [.int x0]) (r := e_M141) (by decide +kernel) rfl rfl rfl (by decide +kernel) rc141 (by decide) rfl rfl (by decide) (Nat.le_of_ble_eq_true rfl) rfl hcl hcat h1
set_option maxRecDepth 20000 in
theorem s999_803 {X : Nat × (Nat → Int32)} {d n k : Nat} {f : Nat → e_C} {Q : t_Q} {a0 a1 a3 : Value} {st : List Value} {x : Nat} : TT X d 999 803 [a0, a1, .ref x, a3] st f n k Q = TT X d 999 804 [a0, a1, .ref x, a3] (.ref x :: st) f n k Q := tt_st (i := .aload_n 2) (len := 1) (by decide +kernel) rfl rfl
set_option maxRecDepth 20000 in
theorem s999_804 {X : Nat × (Nat → Int32)} {d n k : Nat} {f : Nat → e_C} {Q : t_Q} {a1 a2 a3 : Value} {st : List Value} {x : Nat} : TT X d 999 804 [.ref x, a1, a2, a3] st f n k Q = TT X d 999 805 [.ref x, a1, a2, a3] (.ref x :: st) f n k Q := tt_st (i := .aload_n 0) (len := 1) (by decide +kernel) rfl rfl
set_option maxRecDepth 20000 in
theorem s999_805 {X : Nat × (Nat → Int32)} {d n k : Nat} {f : Nat → e_C} {Q : t_Q} {a0 a1 a2 : Value} {st : List Value} {x : Int32} : TT X d 999 805 [a0, a1, a2, .int x] st f n k Q = TT X d 999 806 [a0, a1, a2, .int x] (.int x :: st) f n k Q := tt_st (i := .iload_n 3) (len := 1) (by decide +kernel) rfl rfl
set_option maxRecDepth 20000 in
theorem s999_806 {X : Nat × (Nat → Int32)} {d n k : Nat} {f : Nat → e_C} {Q : t_Q} {lv st : List Value} : TT X d 999 806 lv st f n k Q = TT X d 999 807 lv (.int 1 :: st) f n k Q := tt_st (i := .iconst 1) (len := 1) (by decide +kernel) rfl rfl
set_option maxRecDepth 20000 in
theorem s999_807 {X : Nat × (Nat → Int32)} {d n k : Nat} {f : Nat → e_C} {Q : t_Q} {lv st : List Value} {x y : Int32} : TT X d 999 807 lv (.int y :: .int x :: st) f n k Q = TT X d 999 808 lv (.int (x + y) :: st) f n k Q := tt_st (i := .iadd) (len := 1) (by decide +kernel) rfl rfl
set_option maxRecDepth 20000 in
theorem s999_808 {X : Nat × (Nat → Int32)} {d n k : Nat} {f : Nat → e_C} {Q : t_Q} {lv st : List Value} {a : Nat} {i : Int32} : TT X d 999 808 lv (.int i :: .ref a :: st) f n k Q = ow (arI (f a)) (fun q => e_in i q.1 = true ∧ TT X d 999 809 lv (.int (q.2 i.toNatClampNeg) :: st) f n k Q) := tt_iald (by decide +kernel)
set_option maxRecDepth 20000 in
theorem k999_809 {X : Nat × (Nat → Int32)} {d n k : Nat} {f : Nat → e_C} {Q : t_Q} {lv rest : List Value} {a : Nat} {x0 : Int32} (hcl : cno (f a) = some 12) (hcat : e_cat rest ≤ 8) {Q1 : t_Q} (h1 : TT X d 262 0 [.ref a, .int x0] [] f n k Q1) (h2 : ∀ f' n' k' v, Q1 f' n' k' v → TT X (d + 1) 999 812 lv (v.toList ++ rest) f' n' k' Q) : TT X (d + 1) 999 809 lv (.int x0 :: .ref a :: rest) f n k Q := tt_cV (i := .invokevirtual 108) (kind := 1) (idx := 108) (ci := 12) (as := [.int x0]) (r := e_M262) (by decide +kernel) rfl rfl rfl (by decide +kernel) rc262 (by decide) rfl rfl (by decide) (Nat.le_of_ble_eq_true rfl) rfl hcl hcat h1 h2
set_option maxRecDepth 20000 in
theorem p999_809 {X : Nat × (Nat → Int32)} {d n k : Nat} {f : Nat → e_C} {Q : t_Q} {lv rest : List Value} {a : Nat} {x0 : Int32} (hcl : cno (f a) = some 12) (hcat : e_cat rest ≤ 8) {v : Option Value} (h1 : PU X d 262 [.ref a, .int x0] f n k v) : TT X (d + 1) 999 809 lv (.int x0 :: .ref a :: rest) f n k Q = TT X (d + 1) 999 812 lv (v.toList ++ rest) f n k Q := tt_pV (i := .invokevirtual 108) (kind := 1) (idx := 108) (ci := 12) (as := [.int x0]) (r := e_M262) (by decide +kernel) rfl rfl rfl (by decide +kernel) rc262 (by decide) rfl rfl (by decide) (Nat.le_of_ble_eq_true rfl) rfl hcl hcat h1
set_option maxRecDepth 20000 in
theorem s999_812 {X : Nat × (Nat → Int32)} {d n k : Nat} {f : Nat → e_C} {Q : t_Q} {lv st : List Value} {x y : Int32} : TT X d 999 812 lv (.int y :: .int x :: st) f n k Q = if x = y then TT X d 999 1395 lv st f n k Q else TT X d 999 815 lv st f n k Q := tt_if2 (c := .eq) (off := 583) (by decide +kernel) rfl rfl
set_option maxRecDepth 20000 in
theorem s999_815 {X : Nat × (Nat → Int32)} {d n k : Nat} {f : Nat → e_C} {Q : t_Q} {lv st : List Value} : TT X d 999 815 lv st f n k Q = TT X d 999 816 lv (.int 0 :: st) f n k Q := tt_st (i := .iconst 0) (len := 1) (by decide +kernel) rfl rfl
set_option maxRecDepth 20000 in
theorem s999_816 {X : Nat × (Nat → Int32)} {d n k : Nat} {f : Nat → e_C} {Q : t_Q} {lv : List Value} {v : Int32} : TT X d 999 816 lv [.int v] f n k Q = ((v = 0 ∨ v = 1) ∧ Q f n k (some (.int v))) := tt_reB (by decide +kernel) (by decide +kernel)
set_option maxRecDepth 20000 in
theorem s999_817 {X : Nat × (Nat → Int32)} {d n k : Nat} {f : Nat → e_C} {Q : t_Q} {a0 a2 a3 : Value} {st : List Value} {x : Nat} : TT X d 999 817 [a0, .ref x, a2, a3] st f n k Q = TT X d 999 818 [a0, .ref x, a2, a3] (.ref x :: st) f n k Q := tt_st (i := .aload_n 1) (len := 1) (by decide +kernel) rfl rfl
set_option maxRecDepth 20000 in
theorem s999_818 {X : Nat × (Nat → Int32)} {d n k : Nat} {f : Nat → e_C} {Q : t_Q} {a1 a2 a3 : Value} {st : List Value} {x : Nat} : TT X d 999 818 [.ref x, a1, a2, a3] st f n k Q = TT X d 999 819 [.ref x, a1, a2, a3] (.ref x :: st) f n k Q := tt_st (i := .aload_n 0) (len := 1) (by decide +kernel) rfl rfl
set_option maxRecDepth 20000 in
theorem s999_819 {X : Nat × (Nat → Int32)} {d n k : Nat} {f : Nat → e_C} {Q : t_Q} {a0 a1 a2 : Value} {st : List Value} {x : Int32} : TT X d 999 819 [a0, a1, a2, .int x] st f n k Q = TT X d 999 820 [a0, a1, a2, .int x] (.int x :: st) f n k Q := tt_st (i := .iload_n 3) (len := 1) (by decide +kernel) rfl rfl
set_option maxRecDepth 20000 in
theorem s999_820 {X : Nat × (Nat → Int32)} {d n k : Nat} {f : Nat → e_C} {Q : t_Q} {lv st : List Value} : TT X d 999 820 lv st f n k Q = TT X d 999 821 lv (.int 1 :: st) f n k Q := tt_st (i := .iconst 1) (len := 1) (by decide +kernel) rfl rfl
set_option maxRecDepth 20000 in
theorem s999_821 {X : Nat × (Nat → Int32)} {d n k : Nat} {f : Nat → e_C} {Q : t_Q} {lv st : List Value} {x y : Int32} : TT X d 999 821 lv (.int y :: .int x :: st) f n k Q = TT X d 999 822 lv (.int (x + y) :: st) f n k Q := tt_st (i := .iadd) (len := 1) (by decide +kernel) rfl rfl
set_option maxRecDepth 20000 in
theorem s999_822 {X : Nat × (Nat → Int32)} {d n k : Nat} {f : Nat → e_C} {Q : t_Q} {lv st : List Value} {a : Nat} {i : Int32} : TT X d 999 822 lv (.int i :: .ref a :: st) f n k Q = ow (arI (f a)) (fun q => e_in i q.1 = true ∧ TT X d 999 823 lv (.int (q.2 i.toNatClampNeg) :: st) f n k Q) := tt_iald (by decide +kernel)
set_option maxRecDepth 20000 in
theorem k999_823 {X : Nat × (Nat → Int32)} {d n k : Nat} {f : Nat → e_C} {Q : t_Q} {lv rest : List Value} {a : Nat} {x0 : Int32} (hcl : cno (f a) = some 11) (hcat : e_cat rest ≤ 8) {Q1 : t_Q} (h1 : TT X d 142 0 [.ref a, .int x0] [] f n k Q1) (h2 : ∀ f' n' k' v, Q1 f' n' k' v → TT X (d + 1) 999 826 lv (v.toList ++ rest) f' n' k' Q) : TT X (d + 1) 999 823 lv (.int x0 :: .ref a :: rest) f n k Q := tt_cV (i := .invokevirtual 109) (kind := 1) (idx := 109) (ci := 11) (as := [.int x0]) (r := e_M142) (by decide +kernel) rfl rfl rfl (by decide +kernel) rc142 (by decide) rfl rfl (by decide) (Nat.le_of_ble_eq_true rfl) rfl hcl hcat h1 h2
set_option maxRecDepth 20000 in
theorem p999_823 {X : Nat × (Nat → Int32)} {d n k : Nat} {f : Nat → e_C} {Q : t_Q} {lv rest : List Value} {a : Nat} {x0 : Int32} (hcl : cno (f a) = some 11) (hcat : e_cat rest ≤ 8) {v : Option Value} (h1 : PU X d 142 [.ref a, .int x0] f n k v) : TT X (d + 1) 999 823 lv (.int x0 :: .ref a :: rest) f n k Q = TT X (d + 1) 999 826 lv (v.toList ++ rest) f n k Q := tt_pV (i := .invokevirtual 109) (kind := 1) (idx := 109) (ci := 11) (as := [.int x0]) (r := e_M142) (by decide +kernel) rfl rfl rfl (by decide +kernel) rc142 (by decide) rfl rfl (by decide) (Nat.le_of_ble_eq_true rfl) rfl hcl hcat h1
set_option maxRecDepth 20000 in
theorem s999_826 {X : Nat × (Nat → Int32)} {d n k : Nat} {f : Nat → e_C} {Q : t_Q} {a0 a1 a3 : Value} {st : List Value} {x : Nat} : TT X d 999 826 [a0, a1, .ref x, a3] st f n k Q = TT X d 999 827 [a0, a1, .ref x, a3] (.ref x :: st) f n k Q := tt_st (i := .aload_n 2) (len := 1) (by decide +kernel) rfl rfl
set_option maxRecDepth 20000 in
theorem s999_827 {X : Nat × (Nat → Int32)} {d n k : Nat} {f : Nat → e_C} {Q : t_Q} {a1 a2 a3 : Value} {st : List Value} {x : Nat} : TT X d 999 827 [.ref x, a1, a2, a3] st f n k Q = TT X d 999 828 [.ref x, a1, a2, a3] (.ref x :: st) f n k Q := tt_st (i := .aload_n 0) (len := 1) (by decide +kernel) rfl rfl
set_option maxRecDepth 20000 in
theorem s999_828 {X : Nat × (Nat → Int32)} {d n k : Nat} {f : Nat → e_C} {Q : t_Q} {a0 a1 a2 : Value} {st : List Value} {x : Int32} : TT X d 999 828 [a0, a1, a2, .int x] st f n k Q = TT X d 999 829 [a0, a1, a2, .int x] (.int x :: st) f n k Q := tt_st (i := .iload_n 3) (len := 1) (by decide +kernel) rfl rfl
set_option maxRecDepth 20000 in
theorem s999_829 {X : Nat × (Nat → Int32)} {d n k : Nat} {f : Nat → e_C} {Q : t_Q} {lv st : List Value} : TT X d 999 829 lv st f n k Q = TT X d 999 830 lv (.int 1 :: st) f n k Q := tt_st (i := .iconst 1) (len := 1) (by decide +kernel) rfl rfl
set_option maxRecDepth 20000 in
theorem s999_830 {X : Nat × (Nat → Int32)} {d n k : Nat} {f : Nat → e_C} {Q : t_Q} {lv st : List Value} {x y : Int32} : TT X d 999 830 lv (.int y :: .int x :: st) f n k Q = TT X d 999 831 lv (.int (x + y) :: st) f n k Q := tt_st (i := .iadd) (len := 1) (by decide +kernel) rfl rfl
set_option maxRecDepth 20000 in
theorem s999_831 {X : Nat × (Nat → Int32)} {d n k : Nat} {f : Nat → e_C} {Q : t_Q} {lv st : List Value} {a : Nat} {i : Int32} : TT X d 999 831 lv (.int i :: .ref a :: st) f n k Q = ow (arI (f a)) (fun q => e_in i q.1 = true ∧ TT X d 999 832 lv (.int (q.2 i.toNatClampNeg) :: st) f n k Q) := tt_iald (by decide +kernel)
set_option maxRecDepth 20000 in
theorem k999_832 {X : Nat × (Nat → Int32)} {d n k : Nat} {f : Nat → e_C} {Q : t_Q} {lv rest : List Value} {a : Nat} {x0 : Int32} (hcl : cno (f a) = some 12) (hcat : e_cat rest ≤ 8) {Q1 : t_Q} (h1 : TT X d 265 0 [.ref a, .int x0, .float 0] [] f n k Q1) (h2 : ∀ f' n' k' v, Q1 f' n' k' v → TT X (d + 1) 999 835 lv (v.toList ++ rest) f' n' k' Q) : TT X (d + 1) 999 832 lv (.int x0 :: .ref a :: rest) f n k Q := tt_cV (i := .invokevirtual 112) (kind := 1) (idx := 112) (ci := 12) (as := [.int x0]) (r := e_M265) (by decide +kernel) rfl rfl rfl (by decide +kernel) rc265 (by decide) rfl rfl (by decide) (Nat.le_of_ble_eq_true rfl) rfl hcl hcat h1 h2
set_option maxRecDepth 20000 in
theorem p999_832 {X : Nat × (Nat → Int32)} {d n k : Nat} {f : Nat → e_C} {Q : t_Q} {lv rest : List Value} {a : Nat} {x0 : Int32} (hcl : cno (f a) = some 12) (hcat : e_cat rest ≤ 8) {v : Option Value} (h1 : PU X d 265 [.ref a, .int x0, .float 0] f n k v) : TT X (d + 1) 999 832 lv (.int x0 :: .ref a :: rest) f n k Q = TT X (d + 1) 999 835 lv (v.toList ++ rest) f n k Q := tt_pV (i := .invokevirtual 112) (kind := 1) (idx := 112) (ci := 12) (as := [.int x0]) (r := e_M265) (by decide +kernel) rfl rfl rfl (by decide +kernel) rc265 (by decide) rfl rfl (by decide) (Nat.le_of_ble_eq_true rfl) rfl hcl hcat h1
set_option maxRecDepth 20000 in
theorem s999_835 {X : Nat × (Nat → Int32)} {d n k : Nat} {f : Nat → e_C} {Q : t_Q} {lv st : List Value} {x y : Int32} : TT X d 999 835 lv (.int y :: .int x :: st) f n k Q = if x = y then TT X d 999 1395 lv st f n k Q else TT X d 999 838 lv st f n k Q := tt_if2 (c := .eq) (off := 560) (by decide +kernel) rfl rfl
set_option maxRecDepth 20000 in
theorem s999_838 {X : Nat × (Nat → Int32)} {d n k : Nat} {f : Nat → e_C} {Q : t_Q} {lv st : List Value} : TT X d 999 838 lv st f n k Q = TT X d 999 839 lv (.int 0 :: st) f n k Q := tt_st (i := .iconst 0) (len := 1) (by decide +kernel) rfl rfl
set_option maxRecDepth 20000 in
theorem s999_839 {X : Nat × (Nat → Int32)} {d n k : Nat} {f : Nat → e_C} {Q : t_Q} {lv : List Value} {v : Int32} : TT X d 999 839 lv [.int v] f n k Q = ((v = 0 ∨ v = 1) ∧ Q f n k (some (.int v))) := tt_reB (by decide +kernel) (by decide +kernel)
set_option maxRecDepth 20000 in
theorem s999_840 {X : Nat × (Nat → Int32)} {d n k : Nat} {f : Nat → e_C} {Q : t_Q} {a0 a2 a3 : Value} {st : List Value} {x : Nat} : TT X d 999 840 [a0, .ref x, a2, a3] st f n k Q = TT X d 999 841 [a0, .ref x, a2, a3] (.ref x :: st) f n k Q := tt_st (i := .aload_n 1) (len := 1) (by decide +kernel) rfl rfl
set_option maxRecDepth 20000 in
theorem s999_841 {X : Nat × (Nat → Int32)} {d n k : Nat} {f : Nat → e_C} {Q : t_Q} {a1 a2 a3 : Value} {st : List Value} {x : Nat} : TT X d 999 841 [.ref x, a1, a2, a3] st f n k Q = TT X d 999 842 [.ref x, a1, a2, a3] (.ref x :: st) f n k Q := tt_st (i := .aload_n 0) (len := 1) (by decide +kernel) rfl rfl
set_option maxRecDepth 20000 in
theorem s999_842 {X : Nat × (Nat → Int32)} {d n k : Nat} {f : Nat → e_C} {Q : t_Q} {a0 a1 a2 : Value} {st : List Value} {x : Int32} : TT X d 999 842 [a0, a1, a2, .int x] st f n k Q = TT X d 999 843 [a0, a1, a2, .int x] (.int x :: st) f n k Q := tt_st (i := .iload_n 3) (len := 1) (by decide +kernel) rfl rfl
set_option maxRecDepth 20000 in
theorem s999_843 {X : Nat × (Nat → Int32)} {d n k : Nat} {f : Nat → e_C} {Q : t_Q} {lv st : List Value} : TT X d 999 843 lv st f n k Q = TT X d 999 844 lv (.int 1 :: st) f n k Q := tt_st (i := .iconst 1) (len := 1) (by decide +kernel) rfl rfl
set_option maxRecDepth 20000 in
theorem s999_844 {X : Nat × (Nat → Int32)} {d n k : Nat} {f : Nat → e_C} {Q : t_Q} {lv st : List Value} {x y : Int32} : TT X d 999 844 lv (.int y :: .int x :: st) f n k Q = TT X d 999 845 lv (.int (x + y) :: st) f n k Q := tt_st (i := .iadd) (len := 1) (by decide +kernel) rfl rfl
set_option maxRecDepth 20000 in
theorem s999_845 {X : Nat × (Nat → Int32)} {d n k : Nat} {f : Nat → e_C} {Q : t_Q} {lv st : List Value} {a : Nat} {i : Int32} : TT X d 999 845 lv (.int i :: .ref a :: st) f n k Q = ow (arI (f a)) (fun q => e_in i q.1 = true ∧ TT X d 999 846 lv (.int (q.2 i.toNatClampNeg) :: st) f n k Q) := tt_iald (by decide +kernel)
set_option maxRecDepth 20000 in
theorem k999_846 {X : Nat × (Nat → Int32)} {d n k : Nat} {f : Nat → e_C} {Q : t_Q} {lv rest : List Value} {a : Nat} {x0 : Int32} (hcl : cno (f a) = some 11) (hcat : e_cat rest ≤ 8) {Q1 : t_Q} (h1 : TT X d 143 0 [.ref a, .int x0, .float 0] [] f n k Q1) (h2 : ∀ f' n' k' v, Q1 f' n' k' v → TT X (d + 1) 999 849 lv (v.toList ++ rest) f' n' k' Q) : TT X (d + 1) 999 846 lv (.int x0 :: .ref a :: rest) f n k Q := tt_cV (i := .invokevirtual 113) (kind := 1) (idx := 113) (ci := 11) (as := [.int x0]) (r := e_M143) (by decide +kernel) rfl rfl rfl (by decide +kernel) rc143 (by decide) rfl rfl (by decide) (Nat.le_of_ble_eq_true rfl) rfl hcl hcat h1 h2
set_option maxRecDepth 20000 in
theorem p999_846 {X : Nat × (Nat → Int32)} {d n k : Nat} {f : Nat → e_C} {Q : t_Q} {lv rest : List Value} {a : Nat} {x0 : Int32} (hcl : cno (f a) = some 11) (hcat : e_cat rest ≤ 8) {v : Option Value} (h1 : PU X d 143 [.ref a, .int x0, .float 0] f n k v) : TT X (d + 1) 999 846 lv (.int x0 :: .ref a :: rest) f n k Q = TT X (d + 1) 999 849 lv (v.toList ++ rest) f n k Q := tt_pV (i := .invokevirtual 113) (kind := 1) (idx := 113) (ci := 11) (as := [.int x0]) (r := e_M143) (by decide +kernel) rfl rfl rfl (by decide +kernel) rc143 (by decide) rfl rfl (by decide) (Nat.le_of_ble_eq_true rfl) rfl hcl hcat h1
set_option maxRecDepth 20000 in
theorem s999_849 {X : Nat × (Nat → Int32)} {d n k : Nat} {f : Nat → e_C} {Q : t_Q} {a0 a1 a3 : Value} {st : List Value} {x : Nat} : TT X d 999 849 [a0, a1, .ref x, a3] st f n k Q = TT X d 999 850 [a0, a1, .ref x, a3] (.ref x :: st) f n k Q := tt_st (i := .aload_n 2) (len := 1) (by decide +kernel) rfl rfl
set_option maxRecDepth 20000 in
theorem s999_850 {X : Nat × (Nat → Int32)} {d n k : Nat} {f : Nat → e_C} {Q : t_Q} {a1 a2 a3 : Value} {st : List Value} {x : Nat} : TT X d 999 850 [.ref x, a1, a2, a3] st f n k Q = TT X d 999 851 [.ref x, a1, a2, a3] (.ref x :: st) f n k Q := tt_st (i := .aload_n 0) (len := 1) (by decide +kernel) rfl rfl
set_option maxRecDepth 20000 in
theorem s999_851 {X : Nat × (Nat → Int32)} {d n k : Nat} {f : Nat → e_C} {Q : t_Q} {a0 a1 a2 : Value} {st : List Value} {x : Int32} : TT X d 999 851 [a0, a1, a2, .int x] st f n k Q = TT X d 999 852 [a0, a1, a2, .int x] (.int x :: st) f n k Q := tt_st (i := .iload_n 3) (len := 1) (by decide +kernel) rfl rfl
set_option maxRecDepth 20000 in
theorem s999_852 {X : Nat × (Nat → Int32)} {d n k : Nat} {f : Nat → e_C} {Q : t_Q} {lv st : List Value} : TT X d 999 852 lv st f n k Q = TT X d 999 853 lv (.int 1 :: st) f n k Q := tt_st (i := .iconst 1) (len := 1) (by decide +kernel) rfl rfl
set_option maxRecDepth 20000 in
theorem s999_853 {X : Nat × (Nat → Int32)} {d n k : Nat} {f : Nat → e_C} {Q : t_Q} {lv st : List Value} {x y : Int32} : TT X d 999 853 lv (.int y :: .int x :: st) f n k Q = TT X d 999 854 lv (.int (x + y) :: st) f n k Q := tt_st (i := .iadd) (len := 1) (by decide +kernel) rfl rfl
set_option maxRecDepth 20000 in
theorem s999_854 {X : Nat × (Nat → Int32)} {d n k : Nat} {f : Nat → e_C} {Q : t_Q} {lv st : List Value} {a : Nat} {i : Int32} : TT X d 999 854 lv (.int i :: .ref a :: st) f n k Q = ow (arI (f a)) (fun q => e_in i q.1 = true ∧ TT X d 999 855 lv (.int (q.2 i.toNatClampNeg) :: st) f n k Q) := tt_iald (by decide +kernel)
set_option maxRecDepth 20000 in
theorem k999_855 {X : Nat × (Nat → Int32)} {d n k : Nat} {f : Nat → e_C} {Q : t_Q} {lv rest : List Value} {a : Nat} {x0 : Int32} (hcl : cno (f a) = some 12) (hcat : e_cat rest ≤ 8) {Q1 : t_Q} (h1 : TT X d 267 0 [.ref a, .int x0, .float 0, .float 0, .float 0, .float 0] [] f n k Q1) (h2 : ∀ f' n' k' v, Q1 f' n' k' v → TT X (d + 1) 999 858 lv (v.toList ++ rest) f' n' k' Q) : TT X (d + 1) 999 855 lv (.int x0 :: .ref a :: rest) f n k Q := tt_cV (i := .invokevirtual 116) (kind := 1) (idx := 116) (ci := 12) (as := [.int x0]) (r := e_M267) (by decide +kernel) rfl rfl rfl (by decide +kernel) rc267 (by decide) rfl rfl (by decide) (Nat.le_of_ble_eq_true rfl) rfl hcl hcat h1 h2
set_option maxRecDepth 20000 in
theorem p999_855 {X : Nat × (Nat → Int32)} {d n k : Nat} {f : Nat → e_C} {Q : t_Q} {lv rest : List Value} {a : Nat} {x0 : Int32} (hcl : cno (f a) = some 12) (hcat : e_cat rest ≤ 8) {v : Option Value} (h1 : PU X d 267 [.ref a, .int x0, .float 0, .float 0, .float 0, .float 0] f n k v) : TT X (d + 1) 999 855 lv (.int x0 :: .ref a :: rest) f n k Q = TT X (d + 1) 999 858 lv (v.toList ++ rest) f n k Q := tt_pV (i := .invokevirtual 116) (kind := 1) (idx := 116) (ci := 12) (as := [.int x0]) (r := e_M267) (by decide +kernel) rfl rfl rfl (by decide +kernel) rc267 (by decide) rfl rfl (by decide) (Nat.le_of_ble_eq_true rfl) rfl hcl hcat h1
set_option maxRecDepth 20000 in
theorem s999_858 {X : Nat × (Nat → Int32)} {d n k : Nat} {f : Nat → e_C} {Q : t_Q} {lv st : List Value} {x y : Int32} : TT X d 999 858 lv (.int y :: .int x :: st) f n k Q = if x = y then TT X d 999 1395 lv st f n k Q else TT X d 999 861 lv st f n k Q := tt_if2 (c := .eq) (off := 537) (by decide +kernel) rfl rfl
set_option maxRecDepth 20000 in
theorem s999_861 {X : Nat × (Nat → Int32)} {d n k : Nat} {f : Nat → e_C} {Q : t_Q} {lv st : List Value} : TT X d 999 861 lv st f n k Q = TT X d 999 862 lv (.int 0 :: st) f n k Q := tt_st (i := .iconst 0) (len := 1) (by decide +kernel) rfl rfl
set_option maxRecDepth 20000 in
theorem s999_862 {X : Nat × (Nat → Int32)} {d n k : Nat} {f : Nat → e_C} {Q : t_Q} {lv : List Value} {v : Int32} : TT X d 999 862 lv [.int v] f n k Q = ((v = 0 ∨ v = 1) ∧ Q f n k (some (.int v))) := tt_reB (by decide +kernel) (by decide +kernel)
set_option maxRecDepth 20000 in
theorem s999_863 {X : Nat × (Nat → Int32)} {d n k : Nat} {f : Nat → e_C} {Q : t_Q} {a0 a2 a3 : Value} {st : List Value} {x : Nat} : TT X d 999 863 [a0, .ref x, a2, a3] st f n k Q = TT X d 999 864 [a0, .ref x, a2, a3] (.ref x :: st) f n k Q := tt_st (i := .aload_n 1) (len := 1) (by decide +kernel) rfl rfl
set_option maxRecDepth 20000 in
theorem s999_864 {X : Nat × (Nat → Int32)} {d n k : Nat} {f : Nat → e_C} {Q : t_Q} {a1 a2 a3 : Value} {st : List Value} {x : Nat} : TT X d 999 864 [.ref x, a1, a2, a3] st f n k Q = TT X d 999 865 [.ref x, a1, a2, a3] (.ref x :: st) f n k Q := tt_st (i := .aload_n 0) (len := 1) (by decide +kernel) rfl rfl
set_option maxRecDepth 20000 in
theorem s999_865 {X : Nat × (Nat → Int32)} {d n k : Nat} {f : Nat → e_C} {Q : t_Q} {a0 a1 a2 : Value} {st : List Value} {x : Int32} : TT X d 999 865 [a0, a1, a2, .int x] st f n k Q = TT X d 999 866 [a0, a1, a2, .int x] (.int x :: st) f n k Q := tt_st (i := .iload_n 3) (len := 1) (by decide +kernel) rfl rfl
set_option maxRecDepth 20000 in
theorem s999_866 {X : Nat × (Nat → Int32)} {d n k : Nat} {f : Nat → e_C} {Q : t_Q} {lv st : List Value} : TT X d 999 866 lv st f n k Q = TT X d 999 867 lv (.int 1 :: st) f n k Q := tt_st (i := .iconst 1) (len := 1) (by decide +kernel) rfl rfl
set_option maxRecDepth 20000 in
theorem s999_867 {X : Nat × (Nat → Int32)} {d n k : Nat} {f : Nat → e_C} {Q : t_Q} {lv st : List Value} {x y : Int32} : TT X d 999 867 lv (.int y :: .int x :: st) f n k Q = TT X d 999 868 lv (.int (x + y) :: st) f n k Q := tt_st (i := .iadd) (len := 1) (by decide +kernel) rfl rfl
set_option maxRecDepth 20000 in
theorem s999_868 {X : Nat × (Nat → Int32)} {d n k : Nat} {f : Nat → e_C} {Q : t_Q} {lv st : List Value} {a : Nat} {i : Int32} : TT X d 999 868 lv (.int i :: .ref a :: st) f n k Q = ow (arI (f a)) (fun q => e_in i q.1 = true ∧ TT X d 999 869 lv (.int (q.2 i.toNatClampNeg) :: st) f n k Q) := tt_iald (by decide +kernel)
set_option maxRecDepth 20000 in
theorem k999_869 {X : Nat × (Nat → Int32)} {d n k : Nat} {f : Nat → e_C} {Q : t_Q} {lv rest : List Value} {a : Nat} {x0 : Int32} (hcl : cno (f a) = some 11) (hcat : e_cat rest ≤ 8) {Q1 : t_Q} (h1 : TT X d 145 0 [.ref a, .int x0] [] f n k Q1) (h2 : ∀ f' n' k' v, Q1 f' n' k' v → TT X (d + 1) 999 872 lv (v.toList ++ rest) f' n' k' Q) : TT X (d + 1) 999 869 lv (.int x0 :: .ref a :: rest) f n k Q := tt_cV (i := .invokevirtual 117) (kind := 1) (idx := 117) (ci := 11) (as := [.int x0]) (r := e_M145) (by decide +kernel) rfl rfl rfl (by decide +kernel) rc145 (by decide) rfl rfl (by decide) (Nat.le_of_ble_eq_true rfl) rfl hcl hcat h1 h2
set_option maxRecDepth 20000 in
theorem p999_869 {X : Nat × (Nat → Int32)} {d n k : Nat} {f : Nat → e_C} {Q : t_Q} {lv rest : List Value} {a : Nat} {x0 : Int32} (hcl : cno (f a) = some 11) (hcat : e_cat rest ≤ 8) {v : Option Value} (h1 : PU X d 145 [.ref a, .int x0] f n k v) : TT X (d + 1) 999 869 lv (.int x0 :: .ref a :: rest) f n k Q = TT X (d + 1) 999 872 lv (v.toList ++ rest) f n k Q := tt_pV (i := .invokevirtual 117) (kind := 1) (idx := 117) (ci := 11) (as := [.int x0]) (r := e_M145) (by decide +kernel) rfl rfl rfl (by decide +kernel) rc145 (by decide) rfl rfl (by decide) (Nat.le_of_ble_eq_true rfl) rfl hcl hcat h1
set_option maxRecDepth 20000 in
theorem s999_872 {X : Nat × (Nat → Int32)} {d n k : Nat} {f : Nat → e_C} {Q : t_Q} {a0 a1 a3 : Value} {st : List Value} {x : Nat} : TT X d 999 872 [a0, a1, .ref x, a3] st f n k Q = TT X d 999 873 [a0, a1, .ref x, a3] (.ref x :: st) f n k Q := tt_st (i := .aload_n 2) (len := 1) (by decide +kernel) rfl rfl
set_option maxRecDepth 20000 in
theorem s999_873 {X : Nat × (Nat → Int32)} {d n k : Nat} {f : Nat → e_C} {Q : t_Q} {a1 a2 a3 : Value} {st : List Value} {x : Nat} : TT X d 999 873 [.ref x, a1, a2, a3] st f n k Q = TT X d 999 874 [.ref x, a1, a2, a3] (.ref x :: st) f n k Q := tt_st (i := .aload_n 0) (len := 1) (by decide +kernel) rfl rfl
set_option maxRecDepth 20000 in
theorem s999_874 {X : Nat × (Nat → Int32)} {d n k : Nat} {f : Nat → e_C} {Q : t_Q} {a0 a1 a2 : Value} {st : List Value} {x : Int32} : TT X d 999 874 [a0, a1, a2, .int x] st f n k Q = TT X d 999 875 [a0, a1, a2, .int x] (.int x :: st) f n k Q := tt_st (i := .iload_n 3) (len := 1) (by decide +kernel) rfl rfl
set_option maxRecDepth 20000 in
theorem s999_875 {X : Nat × (Nat → Int32)} {d n k : Nat} {f : Nat → e_C} {Q : t_Q} {lv st : List Value} : TT X d 999 875 lv st f n k Q = TT X d 999 876 lv (.int 1 :: st) f n k Q := tt_st (i := .iconst 1) (len := 1) (by decide +kernel) rfl rfl
set_option maxRecDepth 20000 in
theorem s999_876 {X : Nat × (Nat → Int32)} {d n k : Nat} {f : Nat → e_C} {Q : t_Q} {lv st : List Value} {x y : Int32} : TT X d 999 876 lv (.int y :: .int x :: st) f n k Q = TT X d 999 877 lv (.int (x + y) :: st) f n k Q := tt_st (i := .iadd) (len := 1) (by decide +kernel) rfl rfl
set_option maxRecDepth 20000 in
theorem s999_877 {X : Nat × (Nat → Int32)} {d n k : Nat} {f : Nat → e_C} {Q : t_Q} {lv st : List Value} {a : Nat} {i : Int32} : TT X d 999 877 lv (.int i :: .ref a :: st) f n k Q = ow (arI (f a)) (fun q => e_in i q.1 = true ∧ TT X d 999 878 lv (.int (q.2 i.toNatClampNeg) :: st) f n k Q) := tt_iald (by decide +kernel)
set_option maxRecDepth 20000 in
theorem k999_878 {X : Nat × (Nat → Int32)} {d n k : Nat} {f : Nat → e_C} {Q : t_Q} {lv rest : List Value} {a : Nat} {x0 : Int32} (hcl : cno (f a) = some 12) (hcat : e_cat rest ≤ 8) {Q1 : t_Q} (h1 : TT X d 268 0 [.ref a, .int x0] [] f n k Q1) (h2 : ∀ f' n' k' v, Q1 f' n' k' v → TT X (d + 1) 999 881 lv (v.toList ++ rest) f' n' k' Q) : TT X (d + 1) 999 878 lv (.int x0 :: .ref a :: rest) f n k Q := tt_cV (i := .invokevirtual 120) (kind := 1) (idx := 120) (ci := 12) (as := [.int x0]) (r := e_M268) (by decide +kernel) rfl rfl rfl (by decide +kernel) rc268 (by decide) rfl rfl (by decide) (Nat.le_of_ble_eq_true rfl) rfl hcl hcat h1 h2
set_option maxRecDepth 20000 in
theorem p999_878 {X : Nat × (Nat → Int32)} {d n k : Nat} {f : Nat → e_C} {Q : t_Q} {lv rest : List Value} {a : Nat} {x0 : Int32} (hcl : cno (f a) = some 12) (hcat : e_cat rest ≤ 8) {v : Option Value} (h1 : PU X d 268 [.ref a, .int x0] f n k v) : TT X (d + 1) 999 878 lv (.int x0 :: .ref a :: rest) f n k Q = TT X (d + 1) 999 881 lv (v.toList ++ rest) f n k Q := tt_pV (i := .invokevirtual 120) (kind := 1) (idx := 120) (ci := 12) (as := [.int x0]) (r := e_M268) (by decide +kernel) rfl rfl rfl (by decide +kernel) rc268 (by decide) rfl rfl (by decide) (Nat.le_of_ble_eq_true rfl) rfl hcl hcat h1
set_option maxRecDepth 20000 in
theorem s999_881 {X : Nat × (Nat → Int32)} {d n k : Nat} {f : Nat → e_C} {Q : t_Q} {lv st : List Value} {x y : Int32} : TT X d 999 881 lv (.int y :: .int x :: st) f n k Q = if x = y then TT X d 999 1395 lv st f n k Q else TT X d 999 884 lv st f n k Q := tt_if2 (c := .eq) (off := 514) (by decide +kernel) rfl rfl
set_option maxRecDepth 20000 in
theorem s999_884 {X : Nat × (Nat → Int32)} {d n k : Nat} {f : Nat → e_C} {Q : t_Q} {lv st : List Value} : TT X d 999 884 lv st f n k Q = TT X d 999 885 lv (.int 0 :: st) f n k Q := tt_st (i := .iconst 0) (len := 1) (by decide +kernel) rfl rfl
set_option maxRecDepth 20000 in
theorem s999_885 {X : Nat × (Nat → Int32)} {d n k : Nat} {f : Nat → e_C} {Q : t_Q} {lv : List Value} {v : Int32} : TT X d 999 885 lv [.int v] f n k Q = ((v = 0 ∨ v = 1) ∧ Q f n k (some (.int v))) := tt_reB (by decide +kernel) (by decide +kernel)
set_option maxRecDepth 20000 in
theorem s999_886 {X : Nat × (Nat → Int32)} {d n k : Nat} {f : Nat → e_C} {Q : t_Q} {a0 a2 a3 : Value} {st : List Value} {x : Nat} : TT X d 999 886 [a0, .ref x, a2, a3] st f n k Q = TT X d 999 887 [a0, .ref x, a2, a3] (.ref x :: st) f n k Q := tt_st (i := .aload_n 1) (len := 1) (by decide +kernel) rfl rfl
set_option maxRecDepth 20000 in
theorem s999_887 {X : Nat × (Nat → Int32)} {d n k : Nat} {f : Nat → e_C} {Q : t_Q} {a1 a2 a3 : Value} {st : List Value} {x : Nat} : TT X d 999 887 [.ref x, a1, a2, a3] st f n k Q = TT X d 999 888 [.ref x, a1, a2, a3] (.ref x :: st) f n k Q := tt_st (i := .aload_n 0) (len := 1) (by decide +kernel) rfl rfl
set_option maxRecDepth 20000 in
theorem s999_888 {X : Nat × (Nat → Int32)} {d n k : Nat} {f : Nat → e_C} {Q : t_Q} {a0 a1 a2 : Value} {st : List Value} {x : Int32} : TT X d 999 888 [a0, a1, a2, .int x] st f n k Q = TT X d 999 889 [a0, a1, a2, .int x] (.int x :: st) f n k Q := tt_st (i := .iload_n 3) (len := 1) (by decide +kernel) rfl rfl
set_option maxRecDepth 20000 in
theorem s999_889 {X : Nat × (Nat → Int32)} {d n k : Nat} {f : Nat → e_C} {Q : t_Q} {lv st : List Value} : TT X d 999 889 lv st f n k Q = TT X d 999 890 lv (.int 1 :: st) f n k Q := tt_st (i := .iconst 1) (len := 1) (by decide +kernel) rfl rfl
set_option maxRecDepth 20000 in
theorem s999_890 {X : Nat × (Nat → Int32)} {d n k : Nat} {f : Nat → e_C} {Q : t_Q} {lv st : List Value} {x y : Int32} : TT X d 999 890 lv (.int y :: .int x :: st) f n k Q = TT X d 999 891 lv (.int (x + y) :: st) f n k Q := tt_st (i := .iadd) (len := 1) (by decide +kernel) rfl rfl
set_option maxRecDepth 20000 in
theorem s999_891 {X : Nat × (Nat → Int32)} {d n k : Nat} {f : Nat → e_C} {Q : t_Q} {lv st : List Value} {a : Nat} {i : Int32} : TT X d 999 891 lv (.int i :: .ref a :: st) f n k Q = ow (arI (f a)) (fun q => e_in i q.1 = true ∧ TT X d 999 892 lv (.int (q.2 i.toNatClampNeg) :: st) f n k Q) := tt_iald (by decide +kernel)
set_option maxRecDepth 20000 in
theorem k999_892 {X : Nat × (Nat → Int32)} {d n k : Nat} {f : Nat → e_C} {Q : t_Q} {lv rest : List Value} {a : Nat} {x0 : Int32} (hcl : cno (f a) = some 11) (hcat : e_cat rest ≤ 8) {Q1 : t_Q} (h1 : TT X d 147 0 [.ref a, .int x0] [] f n k Q1) (h2 : ∀ f' n' k' v, Q1 f' n' k' v → TT X (d + 1) 999 895 lv (v.toList ++ rest) f' n' k' Q) : TT X (d + 1) 999 892 lv (.int x0 :: .ref a :: rest) f n k Q := tt_cV (i := .invokevirtual 121) (kind := 1) (idx := 121) (ci := 11) (as := [.int x0]) (r := e_M147) (by decide +kernel) rfl rfl rfl (by decide +kernel) rc147 (by decide) rfl rfl (by decide) (Nat.le_of_ble_eq_true rfl) rfl hcl hcat h1 h2
set_option maxRecDepth 20000 in
theorem p999_892 {X : Nat × (Nat → Int32)} {d n k : Nat} {f : Nat → e_C} {Q : t_Q} {lv rest : List Value} {a : Nat} {x0 : Int32} (hcl : cno (f a) = some 11) (hcat : e_cat rest ≤ 8) {v : Option Value} (h1 : PU X d 147 [.ref a, .int x0] f n k v) : TT X (d + 1) 999 892 lv (.int x0 :: .ref a :: rest) f n k Q = TT X (d + 1) 999 895 lv (v.toList ++ rest) f n k Q := tt_pV (i := .invokevirtual 121) (kind := 1) (idx := 121) (ci := 11) (as := [.int x0]) (r := e_M147) (by decide +kernel) rfl rfl rfl (by decide +kernel) rc147 (by decide) rfl rfl (by decide) (Nat.le_of_ble_eq_true rfl) rfl hcl hcat h1
set_option maxRecDepth 20000 in
theorem s999_895 {X : Nat × (Nat → Int32)} {d n k : Nat} {f : Nat → e_C} {Q : t_Q} {a0 a1 a3 : Value} {st : List Value} {x : Nat} : TT X d 999 895 [a0, a1, .ref x, a3] st f n k Q = TT X d 999 896 [a0, a1, .ref x, a3] (.ref x :: st) f n k Q := tt_st (i := .aload_n 2) (len := 1) (by decide +kernel) rfl rfl
set_option maxRecDepth 20000 in
theorem s999_896 {X : Nat × (Nat → Int32)} {d n k : Nat} {f : Nat → e_C} {Q : t_Q} {a1 a2 a3 : Value} {st : List Value} {x : Nat} : TT X d 999 896 [.ref x, a1, a2, a3] st f n k Q = TT X d 999 897 [.ref x, a1, a2, a3] (.ref x :: st) f n k Q := tt_st (i := .aload_n 0) (len := 1) (by decide +kernel) rfl rfl
set_option maxRecDepth 20000 in
theorem s999_897 {X : Nat × (Nat → Int32)} {d n k : Nat} {f : Nat → e_C} {Q : t_Q} {a0 a1 a2 : Value} {st : List Value} {x : Int32} : TT X d 999 897 [a0, a1, a2, .int x] st f n k Q = TT X d 999 898 [a0, a1, a2, .int x] (.int x :: st) f n k Q := tt_st (i := .iload_n 3) (len := 1) (by decide +kernel) rfl rfl
set_option maxRecDepth 20000 in
theorem s999_898 {X : Nat × (Nat → Int32)} {d n k : Nat} {f : Nat → e_C} {Q : t_Q} {lv st : List Value} : TT X d 999 898 lv st f n k Q = TT X d 999 899 lv (.int 1 :: st) f n k Q := tt_st (i := .iconst 1) (len := 1) (by decide +kernel) rfl rfl
set_option maxRecDepth 20000 in
theorem s999_899 {X : Nat × (Nat → Int32)} {d n k : Nat} {f : Nat → e_C} {Q : t_Q} {lv st : List Value} {x y : Int32} : TT X d 999 899 lv (.int y :: .int x :: st) f n k Q = TT X d 999 900 lv (.int (x + y) :: st) f n k Q := tt_st (i := .iadd) (len := 1) (by decide +kernel) rfl rfl
set_option maxRecDepth 20000 in
theorem s999_900 {X : Nat × (Nat → Int32)} {d n k : Nat} {f : Nat → e_C} {Q : t_Q} {lv st : List Value} {a : Nat} {i : Int32} : TT X d 999 900 lv (.int i :: .ref a :: st) f n k Q = ow (arI (f a)) (fun q => e_in i q.1 = true ∧ TT X d 999 901 lv (.int (q.2 i.toNatClampNeg) :: st) f n k Q) := tt_iald (by decide +kernel)
set_option maxRecDepth 20000 in
theorem k999_901 {X : Nat × (Nat → Int32)} {d n k : Nat} {f : Nat → e_C} {Q : t_Q} {lv rest : List Value} {a : Nat} {x0 : Int32} (hcl : cno (f a) = some 12) (hcat : e_cat rest ≤ 8) {Q1 : t_Q} (h1 : TT X d 271 0 [.ref a, .int x0] [] f n k Q1) (h2 : ∀ f' n' k' v, Q1 f' n' k' v → TT X (d + 1) 999 904 lv (v.toList ++ rest) f' n' k' Q) : TT X (d + 1) 999 901 lv (.int x0 :: .ref a :: rest) f n k Q := tt_cV (i := .invokevirtual 124) (kind := 1) (idx := 124) (ci := 12) (as := [.int x0]) (r := e_M271) (by decide +kernel) rfl rfl rfl (by decide +kernel) rc271 (by decide) rfl rfl (by decide) (Nat.le_of_ble_eq_true rfl) rfl hcl hcat h1 h2
set_option maxRecDepth 20000 in
theorem p999_901 {X : Nat × (Nat → Int32)} {d n k : Nat} {f : Nat → e_C} {Q : t_Q} {lv rest : List Value} {a : Nat} {x0 : Int32} (hcl : cno (f a) = some 12) (hcat : e_cat rest ≤ 8) {v : Option Value} (h1 : PU X d 271 [.ref a, .int x0] f n k v) : TT X (d + 1) 999 901 lv (.int x0 :: .ref a :: rest) f n k Q = TT X (d + 1) 999 904 lv (v.toList ++ rest) f n k Q := tt_pV (i := .invokevirtual 124) (kind := 1) (idx := 124) (ci := 12) (as := [.int x0]) (r := e_M271) (by decide +kernel) rfl rfl rfl (by decide +kernel) rc271 (by decide) rfl rfl (by decide) (Nat.le_of_ble_eq_true rfl) rfl hcl hcat h1
set_option maxRecDepth 20000 in
theorem s999_904 {X : Nat × (Nat → Int32)} {d n k : Nat} {f : Nat → e_C} {Q : t_Q} {lv st : List Value} {x y : Int32} : TT X d 999 904 lv (.int y :: .int x :: st) f n k Q = if x = y then TT X d 999 1395 lv st f n k Q else TT X d 999 907 lv st f n k Q := tt_if2 (c := .eq) (off := 491) (by decide +kernel) rfl rfl
set_option maxRecDepth 20000 in
theorem s999_907 {X : Nat × (Nat → Int32)} {d n k : Nat} {f : Nat → e_C} {Q : t_Q} {lv st : List Value} : TT X d 999 907 lv st f n k Q = TT X d 999 908 lv (.int 0 :: st) f n k Q := tt_st (i := .iconst 0) (len := 1) (by decide +kernel) rfl rfl
set_option maxRecDepth 20000 in
theorem s999_908 {X : Nat × (Nat → Int32)} {d n k : Nat} {f : Nat → e_C} {Q : t_Q} {lv : List Value} {v : Int32} : TT X d 999 908 lv [.int v] f n k Q = ((v = 0 ∨ v = 1) ∧ Q f n k (some (.int v))) := tt_reB (by decide +kernel) (by decide +kernel)
set_option maxRecDepth 20000 in
theorem s999_909 {X : Nat × (Nat → Int32)} {d n k : Nat} {f : Nat → e_C} {Q : t_Q} {a0 a2 a3 : Value} {st : List Value} {x : Nat} : TT X d 999 909 [a0, .ref x, a2, a3] st f n k Q = TT X d 999 910 [a0, .ref x, a2, a3] (.ref x :: st) f n k Q := tt_st (i := .aload_n 1) (len := 1) (by decide +kernel) rfl rfl
set_option maxRecDepth 20000 in
theorem k999_910 {X : Nat × (Nat → Int32)} {d n k : Nat} {f : Nat → e_C} {Q : t_Q} {lv rest : List Value} {a : Nat}  (hcl : cno (f a) = some 11) (hcat : e_cat rest ≤ 8) {Q1 : t_Q} (h1 : TT X d 148 0 [.ref a] [] f n k Q1) (h2 : ∀ f' n' k' v, Q1 f' n' k' v → TT X (d + 1) 999 913 lv (v.toList ++ rest) f' n' k' Q) : TT X (d + 1) 999 910 lv (.ref a :: rest) f n k Q := tt_cV (i := .invokevirtual 125) (kind := 1) (idx := 125) (ci := 11) (as := []) (r := e_M148) (by decide +kernel) rfl rfl rfl (by decide +kernel) rc148 (by decide) rfl rfl (by decide) (Nat.le_of_ble_eq_true rfl) rfl hcl hcat h1 h2
set_option maxRecDepth 20000 in
theorem p999_910 {X : Nat × (Nat → Int32)} {d n k : Nat} {f : Nat → e_C} {Q : t_Q} {lv rest : List Value} {a : Nat}  (hcl : cno (f a) = some 11) (hcat : e_cat rest ≤ 8) {v : Option Value} (h1 : PU X d 148 [.ref a] f n k v) : TT X (d + 1) 999 910 lv (.ref a :: rest) f n k Q = TT X (d + 1) 999 913 lv (v.toList ++ rest) f n k Q := tt_pV (i := .invokevirtual 125) (kind := 1) (idx := 125) (ci := 11) (as := []) (r := e_M148) (by decide +kernel) rfl rfl rfl (by decide +kernel) rc148 (by decide) rfl rfl (by decide) (Nat.le_of_ble_eq_true rfl) rfl hcl hcat h1
set_option maxRecDepth 20000 in
theorem s999_913 {X : Nat × (Nat → Int32)} {d n k : Nat} {f : Nat → e_C} {Q : t_Q} {a0 a1 a3 : Value} {st : List Value} {x : Nat} : TT X d 999 913 [a0, a1, .ref x, a3] st f n k Q = TT X d 999 914 [a0, a1, .ref x, a3] (.ref x :: st) f n k Q := tt_st (i := .aload_n 2) (len := 1) (by decide +kernel) rfl rfl
set_option maxRecDepth 20000 in
theorem k999_914 {X : Nat × (Nat → Int32)} {d n k : Nat} {f : Nat → e_C} {Q : t_Q} {lv rest : List Value} {a : Nat}  (hcl : cno (f a) = some 12) (hcat : e_cat rest ≤ 8) {Q1 : t_Q} (h1 : TT X d 272 0 [.ref a, .float 0] [] f n k Q1) (h2 : ∀ f' n' k' v, Q1 f' n' k' v → TT X (d + 1) 999 917 lv (v.toList ++ rest) f' n' k' Q) : TT X (d + 1) 999 914 lv (.ref a :: rest) f n k Q := tt_cV (i := .invokevirtual 128) (kind := 1) (idx := 128) (ci := 12) (as := []) (r := e_M272) (by decide +kernel) rfl rfl rfl (by decide +kernel) rc272 (by decide) rfl rfl (by decide) (Nat.le_of_ble_eq_true rfl) rfl hcl hcat h1 h2
set_option maxRecDepth 20000 in
theorem p999_914 {X : Nat × (Nat → Int32)} {d n k : Nat} {f : Nat → e_C} {Q : t_Q} {lv rest : List Value} {a : Nat}  (hcl : cno (f a) = some 12) (hcat : e_cat rest ≤ 8) {v : Option Value} (h1 : PU X d 272 [.ref a, .float 0] f n k v) : TT X (d + 1) 999 914 lv (.ref a :: rest) f n k Q = TT X (d + 1) 999 917 lv (v.toList ++ rest) f n k Q := tt_pV (i := .invokevirtual 128) (kind := 1) (idx := 128) (ci := 12) (as := []) (r := e_M272) (by decide +kernel) rfl rfl rfl (by decide +kernel) rc272 (by decide) rfl rfl (by decide) (Nat.le_of_ble_eq_true rfl) rfl hcl hcat h1
set_option maxRecDepth 20000 in
theorem s999_917 {X : Nat × (Nat → Int32)} {d n k : Nat} {f : Nat → e_C} {Q : t_Q} {lv st : List Value} {x y : Int32} : TT X d 999 917 lv (.int y :: .int x :: st) f n k Q = if x = y then TT X d 999 1395 lv st f n k Q else TT X d 999 920 lv st f n k Q := tt_if2 (c := .eq) (off := 478) (by decide +kernel) rfl rfl
set_option maxRecDepth 20000 in
theorem s999_920 {X : Nat × (Nat → Int32)} {d n k : Nat} {f : Nat → e_C} {Q : t_Q} {lv st : List Value} : TT X d 999 920 lv st f n k Q = TT X d 999 921 lv (.int 0 :: st) f n k Q := tt_st (i := .iconst 0) (len := 1) (by decide +kernel) rfl rfl
set_option maxRecDepth 20000 in
theorem s999_921 {X : Nat × (Nat → Int32)} {d n k : Nat} {f : Nat → e_C} {Q : t_Q} {lv : List Value} {v : Int32} : TT X d 999 921 lv [.int v] f n k Q = ((v = 0 ∨ v = 1) ∧ Q f n k (some (.int v))) := tt_reB (by decide +kernel) (by decide +kernel)
set_option maxRecDepth 20000 in
theorem s999_922 {X : Nat × (Nat → Int32)} {d n k : Nat} {f : Nat → e_C} {Q : t_Q} {a0 a2 a3 : Value} {st : List Value} {x : Nat} : TT X d 999 922 [a0, .ref x, a2, a3] st f n k Q = TT X d 999 923 [a0, .ref x, a2, a3] (.ref x :: st) f n k Q := tt_st (i := .aload_n 1) (len := 1) (by decide +kernel) rfl rfl
set_option maxRecDepth 20000 in
theorem s999_923 {X : Nat × (Nat → Int32)} {d n k : Nat} {f : Nat → e_C} {Q : t_Q} {a1 a2 a3 : Value} {st : List Value} {x : Nat} : TT X d 999 923 [.ref x, a1, a2, a3] st f n k Q = TT X d 999 924 [.ref x, a1, a2, a3] (.ref x :: st) f n k Q := tt_st (i := .aload_n 0) (len := 1) (by decide +kernel) rfl rfl
set_option maxRecDepth 20000 in
theorem s999_924 {X : Nat × (Nat → Int32)} {d n k : Nat} {f : Nat → e_C} {Q : t_Q} {a0 a1 a2 : Value} {st : List Value} {x : Int32} : TT X d 999 924 [a0, a1, a2, .int x] st f n k Q = TT X d 999 925 [a0, a1, a2, .int x] (.int x :: st) f n k Q := tt_st (i := .iload_n 3) (len := 1) (by decide +kernel) rfl rfl
set_option maxRecDepth 20000 in
theorem s999_925 {X : Nat × (Nat → Int32)} {d n k : Nat} {f : Nat → e_C} {Q : t_Q} {lv st : List Value} : TT X d 999 925 lv st f n k Q = TT X d 999 926 lv (.int 1 :: st) f n k Q := tt_st (i := .iconst 1) (len := 1) (by decide +kernel) rfl rfl
set_option maxRecDepth 20000 in
theorem s999_926 {X : Nat × (Nat → Int32)} {d n k : Nat} {f : Nat → e_C} {Q : t_Q} {lv st : List Value} {x y : Int32} : TT X d 999 926 lv (.int y :: .int x :: st) f n k Q = TT X d 999 927 lv (.int (x + y) :: st) f n k Q := tt_st (i := .iadd) (len := 1) (by decide +kernel) rfl rfl
set_option maxRecDepth 20000 in
theorem s999_927 {X : Nat × (Nat → Int32)} {d n k : Nat} {f : Nat → e_C} {Q : t_Q} {lv st : List Value} {a : Nat} {i : Int32} : TT X d 999 927 lv (.int i :: .ref a :: st) f n k Q = ow (arI (f a)) (fun q => e_in i q.1 = true ∧ TT X d 999 928 lv (.int (q.2 i.toNatClampNeg) :: st) f n k Q) := tt_iald (by decide +kernel)
set_option maxRecDepth 20000 in
theorem k999_928 {X : Nat × (Nat → Int32)} {d n k : Nat} {f : Nat → e_C} {Q : t_Q} {lv rest : List Value} {a : Nat} {x0 : Int32} (hcl : cno (f a) = some 11) (hcat : e_cat rest ≤ 8) {Q1 : t_Q} (h1 : TT X d 149 0 [.ref a, .int x0, .float 0] [] f n k Q1) (h2 : ∀ f' n' k' v, Q1 f' n' k' v → TT X (d + 1) 999 931 lv (v.toList ++ rest) f' n' k' Q) : TT X (d + 1) 999 928 lv (.int x0 :: .ref a :: rest) f n k Q := tt_cV (i := .invokevirtual 129) (kind := 1) (idx := 129) (ci := 11) (as := [.int x0]) (r := e_M149) (by decide +kernel) rfl rfl rfl (by decide +kernel) rc149 (by decide) rfl rfl (by decide) (Nat.le_of_ble_eq_true rfl) rfl hcl hcat h1 h2
set_option maxRecDepth 20000 in
theorem p999_928 {X : Nat × (Nat → Int32)} {d n k : Nat} {f : Nat → e_C} {Q : t_Q} {lv rest : List Value} {a : Nat} {x0 : Int32} (hcl : cno (f a) = some 11) (hcat : e_cat rest ≤ 8) {v : Option Value} (h1 : PU X d 149 [.ref a, .int x0, .float 0] f n k v) : TT X (d + 1) 999 928 lv (.int x0 :: .ref a :: rest) f n k Q = TT X (d + 1) 999 931 lv (v.toList ++ rest) f n k Q := tt_pV (i := .invokevirtual 129) (kind := 1) (idx := 129) (ci := 11) (as := [.int x0]) (r := e_M149) (by decide +kernel) rfl rfl rfl (by decide +kernel) rc149 (by decide) rfl rfl (by decide) (Nat.le_of_ble_eq_true rfl) rfl hcl hcat h1
set_option maxRecDepth 20000 in
theorem s999_931 {X : Nat × (Nat → Int32)} {d n k : Nat} {f : Nat → e_C} {Q : t_Q} {a0 a1 a3 : Value} {st : List Value} {x : Nat} : TT X d 999 931 [a0, a1, .ref x, a3] st f n k Q = TT X d 999 932 [a0, a1, .ref x, a3] (.ref x :: st) f n k Q := tt_st (i := .aload_n 2) (len := 1) (by decide +kernel) rfl rfl
set_option maxRecDepth 20000 in
theorem s999_932 {X : Nat × (Nat → Int32)} {d n k : Nat} {f : Nat → e_C} {Q : t_Q} {a1 a2 a3 : Value} {st : List Value} {x : Nat} : TT X d 999 932 [.ref x, a1, a2, a3] st f n k Q = TT X d 999 933 [.ref x, a1, a2, a3] (.ref x :: st) f n k Q := tt_st (i := .aload_n 0) (len := 1) (by decide +kernel) rfl rfl
set_option maxRecDepth 20000 in
theorem s999_933 {X : Nat × (Nat → Int32)} {d n k : Nat} {f : Nat → e_C} {Q : t_Q} {a0 a1 a2 : Value} {st : List Value} {x : Int32} : TT X d 999 933 [a0, a1, a2, .int x] st f n k Q = TT X d 999 934 [a0, a1, a2, .int x] (.int x :: st) f n k Q := tt_st (i := .iload_n 3) (len := 1) (by decide +kernel) rfl rfl
set_option maxRecDepth 20000 in
theorem s999_934 {X : Nat × (Nat → Int32)} {d n k : Nat} {f : Nat → e_C} {Q : t_Q} {lv st : List Value} : TT X d 999 934 lv st f n k Q = TT X d 999 935 lv (.int 1 :: st) f n k Q := tt_st (i := .iconst 1) (len := 1) (by decide +kernel) rfl rfl
set_option maxRecDepth 20000 in
theorem s999_935 {X : Nat × (Nat → Int32)} {d n k : Nat} {f : Nat → e_C} {Q : t_Q} {lv st : List Value} {x y : Int32} : TT X d 999 935 lv (.int y :: .int x :: st) f n k Q = TT X d 999 936 lv (.int (x + y) :: st) f n k Q := tt_st (i := .iadd) (len := 1) (by decide +kernel) rfl rfl
set_option maxRecDepth 20000 in
theorem s999_936 {X : Nat × (Nat → Int32)} {d n k : Nat} {f : Nat → e_C} {Q : t_Q} {lv st : List Value} {a : Nat} {i : Int32} : TT X d 999 936 lv (.int i :: .ref a :: st) f n k Q = ow (arI (f a)) (fun q => e_in i q.1 = true ∧ TT X d 999 937 lv (.int (q.2 i.toNatClampNeg) :: st) f n k Q) := tt_iald (by decide +kernel)
set_option maxRecDepth 20000 in
theorem k999_937 {X : Nat × (Nat → Int32)} {d n k : Nat} {f : Nat → e_C} {Q : t_Q} {lv rest : List Value} {a : Nat} {x0 : Int32} (hcl : cno (f a) = some 12) (hcat : e_cat rest ≤ 8) {Q1 : t_Q} (h1 : TT X d 274 0 [.ref a, .int x0, .float 0, .float 0, .float 0, .float 0] [] f n k Q1) (h2 : ∀ f' n' k' v, Q1 f' n' k' v → TT X (d + 1) 999 940 lv (v.toList ++ rest) f' n' k' Q) : TT X (d + 1) 999 937 lv (.int x0 :: .ref a :: rest) f n k Q := tt_cV (i := .invokevirtual 132) (kind := 1) (idx := 132) (ci := 12) (as := [.int x0]) (r := e_M274) (by decide +kernel) rfl rfl rfl (by decide +kernel) rc274 (by decide) rfl rfl (by decide) (Nat.le_of_ble_eq_true rfl) rfl hcl hcat h1 h2
set_option maxRecDepth 20000 in
theorem p999_937 {X : Nat × (Nat → Int32)} {d n k : Nat} {f : Nat → e_C} {Q : t_Q} {lv rest : List Value} {a : Nat} {x0 : Int32} (hcl : cno (f a) = some 12) (hcat : e_cat rest ≤ 8) {v : Option Value} (h1 : PU X d 274 [.ref a, .int x0, .float 0, .float 0, .float 0, .float 0] f n k v) : TT X (d + 1) 999 937 lv (.int x0 :: .ref a :: rest) f n k Q = TT X (d + 1) 999 940 lv (v.toList ++ rest) f n k Q := tt_pV (i := .invokevirtual 132) (kind := 1) (idx := 132) (ci := 12) (as := [.int x0]) (r := e_M274) (by decide +kernel) rfl rfl rfl (by decide +kernel) rc274 (by decide) rfl rfl (by decide) (Nat.le_of_ble_eq_true rfl) rfl hcl hcat h1
set_option maxRecDepth 20000 in
theorem s999_940 {X : Nat × (Nat → Int32)} {d n k : Nat} {f : Nat → e_C} {Q : t_Q} {lv st : List Value} {x y : Int32} : TT X d 999 940 lv (.int y :: .int x :: st) f n k Q = if x = y then TT X d 999 1395 lv st f n k Q else TT X d 999 943 lv st f n k Q := tt_if2 (c := .eq) (off := 455) (by decide +kernel) rfl rfl
set_option maxRecDepth 20000 in
theorem s999_943 {X : Nat × (Nat → Int32)} {d n k : Nat} {f : Nat → e_C} {Q : t_Q} {lv st : List Value} : TT X d 999 943 lv st f n k Q = TT X d 999 944 lv (.int 0 :: st) f n k Q := tt_st (i := .iconst 0) (len := 1) (by decide +kernel) rfl rfl
set_option maxRecDepth 20000 in
theorem s999_944 {X : Nat × (Nat → Int32)} {d n k : Nat} {f : Nat → e_C} {Q : t_Q} {lv : List Value} {v : Int32} : TT X d 999 944 lv [.int v] f n k Q = ((v = 0 ∨ v = 1) ∧ Q f n k (some (.int v))) := tt_reB (by decide +kernel) (by decide +kernel)
set_option maxRecDepth 20000 in
theorem s999_945 {X : Nat × (Nat → Int32)} {d n k : Nat} {f : Nat → e_C} {Q : t_Q} {a0 a2 a3 : Value} {st : List Value} {x : Nat} : TT X d 999 945 [a0, .ref x, a2, a3] st f n k Q = TT X d 999 946 [a0, .ref x, a2, a3] (.ref x :: st) f n k Q := tt_st (i := .aload_n 1) (len := 1) (by decide +kernel) rfl rfl
set_option maxRecDepth 20000 in
theorem s999_946 {X : Nat × (Nat → Int32)} {d n k : Nat} {f : Nat → e_C} {Q : t_Q} {a1 a2 a3 : Value} {st : List Value} {x : Nat} : TT X d 999 946 [.ref x, a1, a2, a3] st f n k Q = TT X d 999 947 [.ref x, a1, a2, a3] (.ref x :: st) f n k Q := tt_st (i := .aload_n 0) (len := 1) (by decide +kernel) rfl rfl
set_option maxRecDepth 20000 in
theorem s999_947 {X : Nat × (Nat → Int32)} {d n k : Nat} {f : Nat → e_C} {Q : t_Q} {a0 a1 a2 : Value} {st : List Value} {x : Int32} : TT X d 999 947 [a0, a1, a2, .int x] st f n k Q = TT X d 999 948 [a0, a1, a2, .int x] (.int x :: st) f n k Q := tt_st (i := .iload_n 3) (len := 1) (by decide +kernel) rfl rfl
set_option maxRecDepth 20000 in
theorem s999_948 {X : Nat × (Nat → Int32)} {d n k : Nat} {f : Nat → e_C} {Q : t_Q} {lv st : List Value} : TT X d 999 948 lv st f n k Q = TT X d 999 949 lv (.int 1 :: st) f n k Q := tt_st (i := .iconst 1) (len := 1) (by decide +kernel) rfl rfl
set_option maxRecDepth 20000 in
theorem s999_949 {X : Nat × (Nat → Int32)} {d n k : Nat} {f : Nat → e_C} {Q : t_Q} {lv st : List Value} {x y : Int32} : TT X d 999 949 lv (.int y :: .int x :: st) f n k Q = TT X d 999 950 lv (.int (x + y) :: st) f n k Q := tt_st (i := .iadd) (len := 1) (by decide +kernel) rfl rfl
set_option maxRecDepth 20000 in
theorem s999_950 {X : Nat × (Nat → Int32)} {d n k : Nat} {f : Nat → e_C} {Q : t_Q} {lv st : List Value} {a : Nat} {i : Int32} : TT X d 999 950 lv (.int i :: .ref a :: st) f n k Q = ow (arI (f a)) (fun q => e_in i q.1 = true ∧ TT X d 999 951 lv (.int (q.2 i.toNatClampNeg) :: st) f n k Q) := tt_iald (by decide +kernel)
set_option maxRecDepth 20000 in
theorem s999_951 {X : Nat × (Nat → Int32)} {d n k : Nat} {f : Nat → e_C} {Q : t_Q} {a1 a2 a3 : Value} {st : List Value} {x : Nat} : TT X d 999 951 [.ref x, a1, a2, a3] st f n k Q = TT X d 999 952 [.ref x, a1, a2, a3] (.ref x :: st) f n k Q := tt_st (i := .aload_n 0) (len := 1) (by decide +kernel) rfl rfl
set_option maxRecDepth 20000 in
theorem s999_952 {X : Nat × (Nat → Int32)} {d n k : Nat} {f : Nat → e_C} {Q : t_Q} {a0 a1 a2 : Value} {st : List Value} {x : Int32} : TT X d 999 952 [a0, a1, a2, .int x] st f n k Q = TT X d 999 953 [a0, a1, a2, .int x] (.int x :: st) f n k Q := tt_st (i := .iload_n 3) (len := 1) (by decide +kernel) rfl rfl
set_option maxRecDepth 20000 in
theorem s999_953 {X : Nat × (Nat → Int32)} {d n k : Nat} {f : Nat → e_C} {Q : t_Q} {lv st : List Value} : TT X d 999 953 lv st f n k Q = TT X d 999 954 lv (.int 2 :: st) f n k Q := tt_st (i := .iconst 2) (len := 1) (by decide +kernel) rfl rfl
set_option maxRecDepth 20000 in
theorem s999_954 {X : Nat × (Nat → Int32)} {d n k : Nat} {f : Nat → e_C} {Q : t_Q} {lv st : List Value} {x y : Int32} : TT X d 999 954 lv (.int y :: .int x :: st) f n k Q = TT X d 999 955 lv (.int (x + y) :: st) f n k Q := tt_st (i := .iadd) (len := 1) (by decide +kernel) rfl rfl
set_option maxRecDepth 20000 in
theorem s999_955 {X : Nat × (Nat → Int32)} {d n k : Nat} {f : Nat → e_C} {Q : t_Q} {lv st : List Value} {a : Nat} {i : Int32} : TT X d 999 955 lv (.int i :: .ref a :: st) f n k Q = ow (arI (f a)) (fun q => e_in i q.1 = true ∧ TT X d 999 956 lv (.int (q.2 i.toNatClampNeg) :: st) f n k Q) := tt_iald (by decide +kernel)
set_option maxRecDepth 20000 in
theorem k999_956 {X : Nat × (Nat → Int32)} {d n k : Nat} {f : Nat → e_C} {Q : t_Q} {lv rest : List Value} {a : Nat} {x0 : Int32} {x1 : Int32} (hcl : cno (f a) = some 11) (hcat : e_cat rest ≤ 8) {Q1 : t_Q} (h1 : TT X d 150 0 [.ref a, .int x0, .int x1, .float 0] [] f n k Q1) (h2 : ∀ f' n' k' v, Q1 f' n' k' v → TT X (d + 1) 999 959 lv (v.toList ++ rest) f' n' k' Q) : TT X (d + 1) 999 956 lv (.int x1 :: .int x0 :: .ref a :: rest) f n k Q := tt_cV (i := .invokevirtual 133) (kind := 1) (idx := 133) (ci := 11) (as := [.int x0, .int x1]) (r := e_M150) (by decide +kernel) rfl rfl rfl (by decide +kernel) rc150 (by decide) rfl rfl (by decide) (Nat.le_of_ble_eq_true rfl) rfl hcl hcat h1 h2
set_option maxRecDepth 20000 in
theorem p999_956 {X : Nat × (Nat → Int32)} {d n k : Nat} {f : Nat → e_C} {Q : t_Q} {lv rest : List Value} {a : Nat} {x0 : Int32} {x1 : Int32} (hcl : cno (f a) = some 11) (hcat : e_cat rest ≤ 8) {v : Option Value} (h1 : PU X d 150 [.ref a, .int x0, .int x1, .float 0] f n k v) : TT X (d + 1) 999 956 lv (.int x1 :: .int x0 :: .ref a :: rest) f n k Q = TT X (d + 1) 999 959 lv (v.toList ++ rest) f n k Q := tt_pV (i := .invokevirtual 133) (kind := 1) (idx := 133) (ci := 11) (as := [.int x0, .int x1]) (r := e_M150) (by decide +kernel) rfl rfl rfl (by decide +kernel) rc150 (by decide) rfl rfl (by decide) (Nat.le_of_ble_eq_true rfl) rfl hcl hcat h1
set_option maxRecDepth 20000 in
theorem s999_959 {X : Nat × (Nat → Int32)} {d n k : Nat} {f : Nat → e_C} {Q : t_Q} {a0 a1 a3 : Value} {st : List Value} {x : Nat} : TT X d 999 959 [a0, a1, .ref x, a3] st f n k Q = TT X d 999 960 [a0, a1, .ref x, a3] (.ref x :: st) f n k Q := tt_st (i := .aload_n 2) (len := 1) (by decide +kernel) rfl rfl
set_option maxRecDepth 20000 in
theorem s999_960 {X : Nat × (Nat → Int32)} {d n k : Nat} {f : Nat → e_C} {Q : t_Q} {a1 a2 a3 : Value} {st : List Value} {x : Nat} : TT X d 999 960 [.ref x, a1, a2, a3] st f n k Q = TT X d 999 961 [.ref x, a1, a2, a3] (.ref x :: st) f n k Q := tt_st (i := .aload_n 0) (len := 1) (by decide +kernel) rfl rfl
set_option maxRecDepth 20000 in
theorem s999_961 {X : Nat × (Nat → Int32)} {d n k : Nat} {f : Nat → e_C} {Q : t_Q} {a0 a1 a2 : Value} {st : List Value} {x : Int32} : TT X d 999 961 [a0, a1, a2, .int x] st f n k Q = TT X d 999 962 [a0, a1, a2, .int x] (.int x :: st) f n k Q := tt_st (i := .iload_n 3) (len := 1) (by decide +kernel) rfl rfl
set_option maxRecDepth 20000 in
theorem s999_962 {X : Nat × (Nat → Int32)} {d n k : Nat} {f : Nat → e_C} {Q : t_Q} {lv st : List Value} : TT X d 999 962 lv st f n k Q = TT X d 999 963 lv (.int 1 :: st) f n k Q := tt_st (i := .iconst 1) (len := 1) (by decide +kernel) rfl rfl
set_option maxRecDepth 20000 in
theorem s999_963 {X : Nat × (Nat → Int32)} {d n k : Nat} {f : Nat → e_C} {Q : t_Q} {lv st : List Value} {x y : Int32} : TT X d 999 963 lv (.int y :: .int x :: st) f n k Q = TT X d 999 964 lv (.int (x + y) :: st) f n k Q := tt_st (i := .iadd) (len := 1) (by decide +kernel) rfl rfl
set_option maxRecDepth 20000 in
theorem s999_964 {X : Nat × (Nat → Int32)} {d n k : Nat} {f : Nat → e_C} {Q : t_Q} {lv st : List Value} {a : Nat} {i : Int32} : TT X d 999 964 lv (.int i :: .ref a :: st) f n k Q = ow (arI (f a)) (fun q => e_in i q.1 = true ∧ TT X d 999 965 lv (.int (q.2 i.toNatClampNeg) :: st) f n k Q) := tt_iald (by decide +kernel)
set_option maxRecDepth 20000 in
theorem s999_965 {X : Nat × (Nat → Int32)} {d n k : Nat} {f : Nat → e_C} {Q : t_Q} {a1 a2 a3 : Value} {st : List Value} {x : Nat} : TT X d 999 965 [.ref x, a1, a2, a3] st f n k Q = TT X d 999 966 [.ref x, a1, a2, a3] (.ref x :: st) f n k Q := tt_st (i := .aload_n 0) (len := 1) (by decide +kernel) rfl rfl
set_option maxRecDepth 20000 in
theorem s999_966 {X : Nat × (Nat → Int32)} {d n k : Nat} {f : Nat → e_C} {Q : t_Q} {a0 a1 a2 : Value} {st : List Value} {x : Int32} : TT X d 999 966 [a0, a1, a2, .int x] st f n k Q = TT X d 999 967 [a0, a1, a2, .int x] (.int x :: st) f n k Q := tt_st (i := .iload_n 3) (len := 1) (by decide +kernel) rfl rfl
set_option maxRecDepth 20000 in
theorem s999_967 {X : Nat × (Nat → Int32)} {d n k : Nat} {f : Nat → e_C} {Q : t_Q} {lv st : List Value} : TT X d 999 967 lv st f n k Q = TT X d 999 968 lv (.int 2 :: st) f n k Q := tt_st (i := .iconst 2) (len := 1) (by decide +kernel) rfl rfl
set_option maxRecDepth 20000 in
theorem s999_968 {X : Nat × (Nat → Int32)} {d n k : Nat} {f : Nat → e_C} {Q : t_Q} {lv st : List Value} {x y : Int32} : TT X d 999 968 lv (.int y :: .int x :: st) f n k Q = TT X d 999 969 lv (.int (x + y) :: st) f n k Q := tt_st (i := .iadd) (len := 1) (by decide +kernel) rfl rfl
set_option maxRecDepth 20000 in
theorem s999_969 {X : Nat × (Nat → Int32)} {d n k : Nat} {f : Nat → e_C} {Q : t_Q} {lv st : List Value} {a : Nat} {i : Int32} : TT X d 999 969 lv (.int i :: .ref a :: st) f n k Q = ow (arI (f a)) (fun q => e_in i q.1 = true ∧ TT X d 999 970 lv (.int (q.2 i.toNatClampNeg) :: st) f n k Q) := tt_iald (by decide +kernel)
set_option maxRecDepth 20000 in
theorem k999_970 {X : Nat × (Nat → Int32)} {d n k : Nat} {f : Nat → e_C} {Q : t_Q} {lv rest : List Value} {a : Nat} {x0 : Int32} {x1 : Int32} (hcl : cno (f a) = some 12) (hcat : e_cat rest ≤ 8) {Q1 : t_Q} (h1 : TT X d 275 0 [.ref a, .int x0, .int x1, .float 0] [] f n k Q1) (h2 : ∀ f' n' k' v, Q1 f' n' k' v → TT X (d + 1) 999 973 lv (v.toList ++ rest) f' n' k' Q) : TT X (d + 1) 999 970 lv (.int x1 :: .int x0 :: .ref a :: rest) f n k Q := tt_cV (i := .invokevirtual 136) (kind := 1) (idx := 136) (ci := 12) (as := [.int x0, .int x1]) (r := e_M275) (by decide +kernel) rfl rfl rfl (by decide +kernel) rc275 (by decide) rfl rfl (by decide) (Nat.le_of_ble_eq_true rfl) rfl hcl hcat h1 h2
set_option maxRecDepth 20000 in
theorem p999_970 {X : Nat × (Nat → Int32)} {d n k : Nat} {f : Nat → e_C} {Q : t_Q} {lv rest : List Value} {a : Nat} {x0 : Int32} {x1 : Int32} (hcl : cno (f a) = some 12) (hcat : e_cat rest ≤ 8) {v : Option Value} (h1 : PU X d 275 [.ref a, .int x0, .int x1, .float 0] f n k v) : TT X (d + 1) 999 970 lv (.int x1 :: .int x0 :: .ref a :: rest) f n k Q = TT X (d + 1) 999 973 lv (v.toList ++ rest) f n k Q := tt_pV (i := .invokevirtual 136) (kind := 1) (idx := 136) (ci := 12) (as := [.int x0, .int x1]) (r := e_M275) (by decide +kernel) rfl rfl rfl (by decide +kernel) rc275 (by decide) rfl rfl (by decide) (Nat.le_of_ble_eq_true rfl) rfl hcl hcat h1
set_option maxRecDepth 20000 in
theorem s999_973 {X : Nat × (Nat → Int32)} {d n k : Nat} {f : Nat → e_C} {Q : t_Q} {lv st : List Value} {x y : Int32} : TT X d 999 973 lv (.int y :: .int x :: st) f n k Q = if x = y then TT X d 999 1395 lv st f n k Q else TT X d 999 976 lv st f n k Q := tt_if2 (c := .eq) (off := 422) (by decide +kernel) rfl rfl
set_option maxRecDepth 20000 in
theorem s999_976 {X : Nat × (Nat → Int32)} {d n k : Nat} {f : Nat → e_C} {Q : t_Q} {lv st : List Value} : TT X d 999 976 lv st f n k Q = TT X d 999 977 lv (.int 0 :: st) f n k Q := tt_st (i := .iconst 0) (len := 1) (by decide +kernel) rfl rfl
set_option maxRecDepth 20000 in
theorem s999_977 {X : Nat × (Nat → Int32)} {d n k : Nat} {f : Nat → e_C} {Q : t_Q} {lv : List Value} {v : Int32} : TT X d 999 977 lv [.int v] f n k Q = ((v = 0 ∨ v = 1) ∧ Q f n k (some (.int v))) := tt_reB (by decide +kernel) (by decide +kernel)
set_option maxRecDepth 20000 in
theorem s999_978 {X : Nat × (Nat → Int32)} {d n k : Nat} {f : Nat → e_C} {Q : t_Q} {a0 a2 a3 : Value} {st : List Value} {x : Nat} : TT X d 999 978 [a0, .ref x, a2, a3] st f n k Q = TT X d 999 979 [a0, .ref x, a2, a3] (.ref x :: st) f n k Q := tt_st (i := .aload_n 1) (len := 1) (by decide +kernel) rfl rfl
set_option maxRecDepth 20000 in
theorem s999_979 {X : Nat × (Nat → Int32)} {d n k : Nat} {f : Nat → e_C} {Q : t_Q} {a1 a2 a3 : Value} {st : List Value} {x : Nat} : TT X d 999 979 [.ref x, a1, a2, a3] st f n k Q = TT X d 999 980 [.ref x, a1, a2, a3] (.ref x :: st) f n k Q := tt_st (i := .aload_n 0) (len := 1) (by decide +kernel) rfl rfl
set_option maxRecDepth 20000 in
theorem s999_980 {X : Nat × (Nat → Int32)} {d n k : Nat} {f : Nat → e_C} {Q : t_Q} {a0 a1 a2 : Value} {st : List Value} {x : Int32} : TT X d 999 980 [a0, a1, a2, .int x] st f n k Q = TT X d 999 981 [a0, a1, a2, .int x] (.int x :: st) f n k Q := tt_st (i := .iload_n 3) (len := 1) (by decide +kernel) rfl rfl
set_option maxRecDepth 20000 in
theorem s999_981 {X : Nat × (Nat → Int32)} {d n k : Nat} {f : Nat → e_C} {Q : t_Q} {lv st : List Value} : TT X d 999 981 lv st f n k Q = TT X d 999 982 lv (.int 1 :: st) f n k Q := tt_st (i := .iconst 1) (len := 1) (by decide +kernel) rfl rfl
set_option maxRecDepth 20000 in
theorem s999_982 {X : Nat × (Nat → Int32)} {d n k : Nat} {f : Nat → e_C} {Q : t_Q} {lv st : List Value} {x y : Int32} : TT X d 999 982 lv (.int y :: .int x :: st) f n k Q = TT X d 999 983 lv (.int (x + y) :: st) f n k Q := tt_st (i := .iadd) (len := 1) (by decide +kernel) rfl rfl
set_option maxRecDepth 20000 in
theorem s999_983 {X : Nat × (Nat → Int32)} {d n k : Nat} {f : Nat → e_C} {Q : t_Q} {lv st : List Value} {a : Nat} {i : Int32} : TT X d 999 983 lv (.int i :: .ref a :: st) f n k Q = ow (arI (f a)) (fun q => e_in i q.1 = true ∧ TT X d 999 984 lv (.int (q.2 i.toNatClampNeg) :: st) f n k Q) := tt_iald (by decide +kernel)
set_option maxRecDepth 20000 in
theorem s999_984 {X : Nat × (Nat → Int32)} {d n k : Nat} {f : Nat → e_C} {Q : t_Q} {a1 a2 a3 : Value} {st : List Value} {x : Nat} : TT X d 999 984 [.ref x, a1, a2, a3] st f n k Q = TT X d 999 985 [.ref x, a1, a2, a3] (.ref x :: st) f n k Q := tt_st (i := .aload_n 0) (len := 1) (by decide +kernel) rfl rfl
set_option maxRecDepth 20000 in
theorem s999_985 {X : Nat × (Nat → Int32)} {d n k : Nat} {f : Nat → e_C} {Q : t_Q} {a0 a1 a2 : Value} {st : List Value} {x : Int32} : TT X d 999 985 [a0, a1, a2, .int x] st f n k Q = TT X d 999 986 [a0, a1, a2, .int x] (.int x :: st) f n k Q := tt_st (i := .iload_n 3) (len := 1) (by decide +kernel) rfl rfl
set_option maxRecDepth 20000 in
theorem s999_986 {X : Nat × (Nat → Int32)} {d n k : Nat} {f : Nat → e_C} {Q : t_Q} {lv st : List Value} : TT X d 999 986 lv st f n k Q = TT X d 999 987 lv (.int 2 :: st) f n k Q := tt_st (i := .iconst 2) (len := 1) (by decide +kernel) rfl rfl
set_option maxRecDepth 20000 in
theorem s999_987 {X : Nat × (Nat → Int32)} {d n k : Nat} {f : Nat → e_C} {Q : t_Q} {lv st : List Value} {x y : Int32} : TT X d 999 987 lv (.int y :: .int x :: st) f n k Q = TT X d 999 988 lv (.int (x + y) :: st) f n k Q := tt_st (i := .iadd) (len := 1) (by decide +kernel) rfl rfl
set_option maxRecDepth 20000 in
theorem s999_988 {X : Nat × (Nat → Int32)} {d n k : Nat} {f : Nat → e_C} {Q : t_Q} {lv st : List Value} {a : Nat} {i : Int32} : TT X d 999 988 lv (.int i :: .ref a :: st) f n k Q = ow (arI (f a)) (fun q => e_in i q.1 = true ∧ TT X d 999 989 lv (.int (q.2 i.toNatClampNeg) :: st) f n k Q) := tt_iald (by decide +kernel)
set_option maxRecDepth 20000 in
theorem s999_989 {X : Nat × (Nat → Int32)} {d n k : Nat} {f : Nat → e_C} {Q : t_Q} {a1 a2 a3 : Value} {st : List Value} {x : Nat} : TT X d 999 989 [.ref x, a1, a2, a3] st f n k Q = TT X d 999 990 [.ref x, a1, a2, a3] (.ref x :: st) f n k Q := tt_st (i := .aload_n 0) (len := 1) (by decide +kernel) rfl rfl
set_option maxRecDepth 20000 in
theorem s999_990 {X : Nat × (Nat → Int32)} {d n k : Nat} {f : Nat → e_C} {Q : t_Q} {a0 a1 a2 : Value} {st : List Value} {x : Int32} : TT X d 999 990 [a0, a1, a2, .int x] st f n k Q = TT X d 999 991 [a0, a1, a2, .int x] (.int x :: st) f n k Q := tt_st (i := .iload_n 3) (len := 1) (by decide +kernel) rfl rfl
set_option maxRecDepth 20000 in
theorem s999_991 {X : Nat × (Nat → Int32)} {d n k : Nat} {f : Nat → e_C} {Q : t_Q} {lv st : List Value} : TT X d 999 991 lv st f n k Q = TT X d 999 992 lv (.int 3 :: st) f n k Q := tt_st (i := .iconst 3) (len := 1) (by decide +kernel) rfl rfl
set_option maxRecDepth 20000 in
theorem s999_992 {X : Nat × (Nat → Int32)} {d n k : Nat} {f : Nat → e_C} {Q : t_Q} {lv st : List Value} {x y : Int32} : TT X d 999 992 lv (.int y :: .int x :: st) f n k Q = TT X d 999 993 lv (.int (x + y) :: st) f n k Q := tt_st (i := .iadd) (len := 1) (by decide +kernel) rfl rfl
set_option maxRecDepth 20000 in
theorem s999_993 {X : Nat × (Nat → Int32)} {d n k : Nat} {f : Nat → e_C} {Q : t_Q} {lv st : List Value} {a : Nat} {i : Int32} : TT X d 999 993 lv (.int i :: .ref a :: st) f n k Q = ow (arI (f a)) (fun q => e_in i q.1 = true ∧ TT X d 999 994 lv (.int (q.2 i.toNatClampNeg) :: st) f n k Q) := tt_iald (by decide +kernel)
set_option maxRecDepth 20000 in
theorem k999_994 {X : Nat × (Nat → Int32)} {d n k : Nat} {f : Nat → e_C} {Q : t_Q} {lv rest : List Value} {a : Nat} {x0 : Int32} {x1 : Int32} {x2 : Int32} (hcl : cno (f a) = some 11) (hcat : e_cat rest ≤ 8) {Q1 : t_Q} (h1 : TT X d 152 0 [.ref a, .int x0, .int x1, .int x2, .float 0] [] f n k Q1) (h2 : ∀ f' n' k' v, Q1 f' n' k' v → TT X (d + 1) 999 997 lv (v.toList ++ rest) f' n' k' Q) : TT X (d + 1) 999 994 lv (.int x2 :: .int x1 :: .int x0 :: .ref a :: rest) f n k Q := tt_cV (i := .invokevirtual 137) (kind := 1) (idx := 137) (ci := 11) (as := [.int x0, .int x1, .int x2]) (r := e_M152) (by decide +kernel) rfl rfl rfl (by decide +kernel) rc152 (by decide) rfl rfl (by decide) (Nat.le_of_ble_eq_true rfl) rfl hcl hcat h1 h2
set_option maxRecDepth 20000 in
theorem p999_994 {X : Nat × (Nat → Int32)} {d n k : Nat} {f : Nat → e_C} {Q : t_Q} {lv rest : List Value} {a : Nat} {x0 : Int32} {x1 : Int32} {x2 : Int32} (hcl : cno (f a) = some 11) (hcat : e_cat rest ≤ 8) {v : Option Value} (h1 : PU X d 152 [.ref a, .int x0, .int x1, .int x2, .float 0] f n k v) : TT X (d + 1) 999 994 lv (.int x2 :: .int x1 :: .int x0 :: .ref a :: rest) f n k Q = TT X (d + 1) 999 997 lv (v.toList ++ rest) f n k Q := tt_pV (i := .invokevirtual 137) (kind := 1) (idx := 137) (ci := 11) (as := [.int x0, .int x1, .int x2]) (r := e_M152) (by decide +kernel) rfl rfl rfl (by decide +kernel) rc152 (by decide) rfl rfl (by decide) (Nat.le_of_ble_eq_true rfl) rfl hcl hcat h1
set_option maxRecDepth 20000 in
theorem s999_997 {X : Nat × (Nat → Int32)} {d n k : Nat} {f : Nat → e_C} {Q : t_Q} {a0 a1 a3 : Value} {st : List Value} {x : Nat} : TT X d 999 997 [a0, a1, .ref x, a3] st f n k Q = TT X d 999 998 [a0, a1, .ref x, a3] (.ref x :: st) f n k Q := tt_st (i := .aload_n 2) (len := 1) (by decide +kernel) rfl rfl
set_option maxRecDepth 20000 in
theorem s999_998 {X : Nat × (Nat → Int32)} {d n k : Nat} {f : Nat → e_C} {Q : t_Q} {a1 a2 a3 : Value} {st : List Value} {x : Nat} : TT X d 999 998 [.ref x, a1, a2, a3] st f n k Q = TT X d 999 999 [.ref x, a1, a2, a3] (.ref x :: st) f n k Q := tt_st (i := .aload_n 0) (len := 1) (by decide +kernel) rfl rfl
set_option maxRecDepth 20000 in
theorem s999_999 {X : Nat × (Nat → Int32)} {d n k : Nat} {f : Nat → e_C} {Q : t_Q} {a0 a1 a2 : Value} {st : List Value} {x : Int32} : TT X d 999 999 [a0, a1, a2, .int x] st f n k Q = TT X d 999 1000 [a0, a1, a2, .int x] (.int x :: st) f n k Q := tt_st (i := .iload_n 3) (len := 1) (by decide +kernel) rfl rfl
set_option maxRecDepth 20000 in
theorem s999_1000 {X : Nat × (Nat → Int32)} {d n k : Nat} {f : Nat → e_C} {Q : t_Q} {lv st : List Value} : TT X d 999 1000 lv st f n k Q = TT X d 999 1001 lv (.int 1 :: st) f n k Q := tt_st (i := .iconst 1) (len := 1) (by decide +kernel) rfl rfl
set_option maxRecDepth 20000 in
theorem s999_1001 {X : Nat × (Nat → Int32)} {d n k : Nat} {f : Nat → e_C} {Q : t_Q} {lv st : List Value} {x y : Int32} : TT X d 999 1001 lv (.int y :: .int x :: st) f n k Q = TT X d 999 1002 lv (.int (x + y) :: st) f n k Q := tt_st (i := .iadd) (len := 1) (by decide +kernel) rfl rfl
set_option maxRecDepth 20000 in
theorem s999_1002 {X : Nat × (Nat → Int32)} {d n k : Nat} {f : Nat → e_C} {Q : t_Q} {lv st : List Value} {a : Nat} {i : Int32} : TT X d 999 1002 lv (.int i :: .ref a :: st) f n k Q = ow (arI (f a)) (fun q => e_in i q.1 = true ∧ TT X d 999 1003 lv (.int (q.2 i.toNatClampNeg) :: st) f n k Q) := tt_iald (by decide +kernel)
set_option maxRecDepth 20000 in
theorem s999_1003 {X : Nat × (Nat → Int32)} {d n k : Nat} {f : Nat → e_C} {Q : t_Q} {a1 a2 a3 : Value} {st : List Value} {x : Nat} : TT X d 999 1003 [.ref x, a1, a2, a3] st f n k Q = TT X d 999 1004 [.ref x, a1, a2, a3] (.ref x :: st) f n k Q := tt_st (i := .aload_n 0) (len := 1) (by decide +kernel) rfl rfl
set_option maxRecDepth 20000 in
theorem s999_1004 {X : Nat × (Nat → Int32)} {d n k : Nat} {f : Nat → e_C} {Q : t_Q} {a0 a1 a2 : Value} {st : List Value} {x : Int32} : TT X d 999 1004 [a0, a1, a2, .int x] st f n k Q = TT X d 999 1005 [a0, a1, a2, .int x] (.int x :: st) f n k Q := tt_st (i := .iload_n 3) (len := 1) (by decide +kernel) rfl rfl
set_option maxRecDepth 20000 in
theorem s999_1005 {X : Nat × (Nat → Int32)} {d n k : Nat} {f : Nat → e_C} {Q : t_Q} {lv st : List Value} : TT X d 999 1005 lv st f n k Q = TT X d 999 1006 lv (.int 2 :: st) f n k Q := tt_st (i := .iconst 2) (len := 1) (by decide +kernel) rfl rfl
set_option maxRecDepth 20000 in
theorem s999_1006 {X : Nat × (Nat → Int32)} {d n k : Nat} {f : Nat → e_C} {Q : t_Q} {lv st : List Value} {x y : Int32} : TT X d 999 1006 lv (.int y :: .int x :: st) f n k Q = TT X d 999 1007 lv (.int (x + y) :: st) f n k Q := tt_st (i := .iadd) (len := 1) (by decide +kernel) rfl rfl
set_option maxRecDepth 20000 in
theorem s999_1007 {X : Nat × (Nat → Int32)} {d n k : Nat} {f : Nat → e_C} {Q : t_Q} {lv st : List Value} {a : Nat} {i : Int32} : TT X d 999 1007 lv (.int i :: .ref a :: st) f n k Q = ow (arI (f a)) (fun q => e_in i q.1 = true ∧ TT X d 999 1008 lv (.int (q.2 i.toNatClampNeg) :: st) f n k Q) := tt_iald (by decide +kernel)
set_option maxRecDepth 20000 in
theorem s999_1008 {X : Nat × (Nat → Int32)} {d n k : Nat} {f : Nat → e_C} {Q : t_Q} {a1 a2 a3 : Value} {st : List Value} {x : Nat} : TT X d 999 1008 [.ref x, a1, a2, a3] st f n k Q = TT X d 999 1009 [.ref x, a1, a2, a3] (.ref x :: st) f n k Q := tt_st (i := .aload_n 0) (len := 1) (by decide +kernel) rfl rfl
set_option maxRecDepth 20000 in
theorem s999_1009 {X : Nat × (Nat → Int32)} {d n k : Nat} {f : Nat → e_C} {Q : t_Q} {a0 a1 a2 : Value} {st : List Value} {x : Int32} : TT X d 999 1009 [a0, a1, a2, .int x] st f n k Q = TT X d 999 1010 [a0, a1, a2, .int x] (.int x :: st) f n k Q := tt_st (i := .iload_n 3) (len := 1) (by decide +kernel) rfl rfl
set_option maxRecDepth 20000 in
theorem s999_1010 {X : Nat × (Nat → Int32)} {d n k : Nat} {f : Nat → e_C} {Q : t_Q} {lv st : List Value} : TT X d 999 1010 lv st f n k Q = TT X d 999 1011 lv (.int 3 :: st) f n k Q := tt_st (i := .iconst 3) (len := 1) (by decide +kernel) rfl rfl
set_option maxRecDepth 20000 in
theorem s999_1011 {X : Nat × (Nat → Int32)} {d n k : Nat} {f : Nat → e_C} {Q : t_Q} {lv st : List Value} {x y : Int32} : TT X d 999 1011 lv (.int y :: .int x :: st) f n k Q = TT X d 999 1012 lv (.int (x + y) :: st) f n k Q := tt_st (i := .iadd) (len := 1) (by decide +kernel) rfl rfl
set_option maxRecDepth 20000 in
theorem s999_1012 {X : Nat × (Nat → Int32)} {d n k : Nat} {f : Nat → e_C} {Q : t_Q} {lv st : List Value} {a : Nat} {i : Int32} : TT X d 999 1012 lv (.int i :: .ref a :: st) f n k Q = ow (arI (f a)) (fun q => e_in i q.1 = true ∧ TT X d 999 1013 lv (.int (q.2 i.toNatClampNeg) :: st) f n k Q) := tt_iald (by decide +kernel)
set_option maxRecDepth 20000 in
theorem k999_1013 {X : Nat × (Nat → Int32)} {d n k : Nat} {f : Nat → e_C} {Q : t_Q} {lv rest : List Value} {a : Nat} {x0 : Int32} {x1 : Int32} {x2 : Int32} (hcl : cno (f a) = some 12) (hcat : e_cat rest ≤ 8) {Q1 : t_Q} (h1 : TT X d 278 0 [.ref a, .int x0, .int x1, .int x2, .float 0, .float 0, .float 0] [] f n k Q1) (h2 : ∀ f' n' k' v, Q1 f' n' k' v → TT X (d + 1) 999 1016 lv (v.toList ++ rest) f' n' k' Q) : TT X (d + 1) 999 1013 lv (.int x2 :: .int x1 :: .int x0 :: .ref a :: rest) f n k Q := tt_cV (i := .invokevirtual 141) (kind := 1) (idx := 141) (ci := 12) (as := [.int x0, .int x1, .int x2]) (r := e_M278) (by decide +kernel) rfl rfl rfl (by decide +kernel) rc278 (by decide) rfl rfl (by decide) (Nat.le_of_ble_eq_true rfl) rfl hcl hcat h1 h2
set_option maxRecDepth 20000 in
theorem p999_1013 {X : Nat × (Nat → Int32)} {d n k : Nat} {f : Nat → e_C} {Q : t_Q} {lv rest : List Value} {a : Nat} {x0 : Int32} {x1 : Int32} {x2 : Int32} (hcl : cno (f a) = some 12) (hcat : e_cat rest ≤ 8) {v : Option Value} (h1 : PU X d 278 [.ref a, .int x0, .int x1, .int x2, .float 0, .float 0, .float 0] f n k v) : TT X (d + 1) 999 1013 lv (.int x2 :: .int x1 :: .int x0 :: .ref a :: rest) f n k Q = TT X (d + 1) 999 1016 lv (v.toList ++ rest) f n k Q := tt_pV (i := .invokevirtual 141) (kind := 1) (idx := 141) (ci := 12) (as := [.int x0, .int x1, .int x2]) (r := e_M278) (by decide +kernel) rfl rfl rfl (by decide +kernel) rc278 (by decide) rfl rfl (by decide) (Nat.le_of_ble_eq_true rfl) rfl hcl hcat h1
set_option maxRecDepth 20000 in
theorem s999_1016 {X : Nat × (Nat → Int32)} {d n k : Nat} {f : Nat → e_C} {Q : t_Q} {lv st : List Value} {x y : Int32} : TT X d 999 1016 lv (.int y :: .int x :: st) f n k Q = if x = y then TT X d 999 1395 lv st f n k Q else TT X d 999 1019 lv st f n k Q := tt_if2 (c := .eq) (off := 379) (by decide +kernel) rfl rfl
set_option maxRecDepth 20000 in
theorem s999_1019 {X : Nat × (Nat → Int32)} {d n k : Nat} {f : Nat → e_C} {Q : t_Q} {lv st : List Value} : TT X d 999 1019 lv st f n k Q = TT X d 999 1020 lv (.int 0 :: st) f n k Q := tt_st (i := .iconst 0) (len := 1) (by decide +kernel) rfl rfl
set_option maxRecDepth 20000 in
theorem s999_1020 {X : Nat × (Nat → Int32)} {d n k : Nat} {f : Nat → e_C} {Q : t_Q} {lv : List Value} {v : Int32} : TT X d 999 1020 lv [.int v] f n k Q = ((v = 0 ∨ v = 1) ∧ Q f n k (some (.int v))) := tt_reB (by decide +kernel) (by decide +kernel)
set_option maxRecDepth 20000 in
theorem s999_1021 {X : Nat × (Nat → Int32)} {d n k : Nat} {f : Nat → e_C} {Q : t_Q} {a0 a2 a3 : Value} {st : List Value} {x : Nat} : TT X d 999 1021 [a0, .ref x, a2, a3] st f n k Q = TT X d 999 1022 [a0, .ref x, a2, a3] (.ref x :: st) f n k Q := tt_st (i := .aload_n 1) (len := 1) (by decide +kernel) rfl rfl
set_option maxRecDepth 20000 in
theorem s999_1022 {X : Nat × (Nat → Int32)} {d n k : Nat} {f : Nat → e_C} {Q : t_Q} {a1 a2 a3 : Value} {st : List Value} {x : Nat} : TT X d 999 1022 [.ref x, a1, a2, a3] st f n k Q = TT X d 999 1023 [.ref x, a1, a2, a3] (.ref x :: st) f n k Q := tt_st (i := .aload_n 0) (len := 1) (by decide +kernel) rfl rfl
set_option maxRecDepth 20000 in
theorem s999_1023 {X : Nat × (Nat → Int32)} {d n k : Nat} {f : Nat → e_C} {Q : t_Q} {a0 a1 a2 : Value} {st : List Value} {x : Int32} : TT X d 999 1023 [a0, a1, a2, .int x] st f n k Q = TT X d 999 1024 [a0, a1, a2, .int x] (.int x :: st) f n k Q := tt_st (i := .iload_n 3) (len := 1) (by decide +kernel) rfl rfl
set_option maxRecDepth 20000 in
theorem s999_1024 {X : Nat × (Nat → Int32)} {d n k : Nat} {f : Nat → e_C} {Q : t_Q} {lv st : List Value} : TT X d 999 1024 lv st f n k Q = TT X d 999 1025 lv (.int 1 :: st) f n k Q := tt_st (i := .iconst 1) (len := 1) (by decide +kernel) rfl rfl
set_option maxRecDepth 20000 in
theorem s999_1025 {X : Nat × (Nat → Int32)} {d n k : Nat} {f : Nat → e_C} {Q : t_Q} {lv st : List Value} {x y : Int32} : TT X d 999 1025 lv (.int y :: .int x :: st) f n k Q = TT X d 999 1026 lv (.int (x + y) :: st) f n k Q := tt_st (i := .iadd) (len := 1) (by decide +kernel) rfl rfl
set_option maxRecDepth 20000 in
theorem s999_1026 {X : Nat × (Nat → Int32)} {d n k : Nat} {f : Nat → e_C} {Q : t_Q} {lv st : List Value} {a : Nat} {i : Int32} : TT X d 999 1026 lv (.int i :: .ref a :: st) f n k Q = ow (arI (f a)) (fun q => e_in i q.1 = true ∧ TT X d 999 1027 lv (.int (q.2 i.toNatClampNeg) :: st) f n k Q) := tt_iald (by decide +kernel)
set_option maxRecDepth 20000 in
theorem s999_1027 {X : Nat × (Nat → Int32)} {d n k : Nat} {f : Nat → e_C} {Q : t_Q} {a1 a2 a3 : Value} {st : List Value} {x : Nat} : TT X d 999 1027 [.ref x, a1, a2, a3] st f n k Q = TT X d 999 1028 [.ref x, a1, a2, a3] (.ref x :: st) f n k Q := tt_st (i := .aload_n 0) (len := 1) (by decide +kernel) rfl rfl
set_option maxRecDepth 20000 in
theorem s999_1028 {X : Nat × (Nat → Int32)} {d n k : Nat} {f : Nat → e_C} {Q : t_Q} {a0 a1 a2 : Value} {st : List Value} {x : Int32} : TT X d 999 1028 [a0, a1, a2, .int x] st f n k Q = TT X d 999 1029 [a0, a1, a2, .int x] (.int x :: st) f n k Q := tt_st (i := .iload_n 3) (len := 1) (by decide +kernel) rfl rfl
set_option maxRecDepth 20000 in
theorem s999_1029 {X : Nat × (Nat → Int32)} {d n k : Nat} {f : Nat → e_C} {Q : t_Q} {lv st : List Value} : TT X d 999 1029 lv st f n k Q = TT X d 999 1030 lv (.int 2 :: st) f n k Q := tt_st (i := .iconst 2) (len := 1) (by decide +kernel) rfl rfl
set_option maxRecDepth 20000 in
theorem s999_1030 {X : Nat × (Nat → Int32)} {d n k : Nat} {f : Nat → e_C} {Q : t_Q} {lv st : List Value} {x y : Int32} : TT X d 999 1030 lv (.int y :: .int x :: st) f n k Q = TT X d 999 1031 lv (.int (x + y) :: st) f n k Q := tt_st (i := .iadd) (len := 1) (by decide +kernel) rfl rfl
set_option maxRecDepth 20000 in
theorem s999_1031 {X : Nat × (Nat → Int32)} {d n k : Nat} {f : Nat → e_C} {Q : t_Q} {lv st : List Value} {a : Nat} {i : Int32} : TT X d 999 1031 lv (.int i :: .ref a :: st) f n k Q = ow (arI (f a)) (fun q => e_in i q.1 = true ∧ TT X d 999 1032 lv (.int (q.2 i.toNatClampNeg) :: st) f n k Q) := tt_iald (by decide +kernel)
set_option maxRecDepth 20000 in
theorem k999_1032 {X : Nat × (Nat → Int32)} {d n k : Nat} {f : Nat → e_C} {Q : t_Q} {lv rest : List Value} {a : Nat} {x0 : Int32} {x1 : Int32} (hcl : cno (f a) = some 11) (hcat : e_cat rest ≤ 8) {Q1 : t_Q} (h1 : TT X d 153 0 [.ref a, .int x0, .int x1, .float 0] [] f n k Q1) (h2 : ∀ f' n' k' v, Q1 f' n' k' v → TT X (d + 1) 999 1035 lv (v.toList ++ rest) f' n' k' Q) : TT X (d + 1) 999 1032 lv (.int x1 :: .int x0 :: .ref a :: rest) f n k Q := tt_cV (i := .invokevirtual 142) (kind := 1) (idx := 142) (ci := 11) (as := [.int x0, .int x1]) (r := e_M153) (by decide +kernel) rfl rfl rfl (by decide +kernel) rc153 (by decide) rfl rfl (by decide) (Nat.le_of_ble_eq_true rfl) rfl hcl hcat h1 h2
set_option maxRecDepth 20000 in
theorem p999_1032 {X : Nat × (Nat → Int32)} {d n k : Nat} {f : Nat → e_C} {Q : t_Q} {lv rest : List Value} {a : Nat} {x0 : Int32} {x1 : Int32} (hcl : cno (f a) = some 11) (hcat : e_cat rest ≤ 8) {v : Option Value} (h1 : PU X d 153 [.ref a, .int x0, .int x1, .float 0] f n k v) : TT X (d + 1) 999 1032 lv (.int x1 :: .int x0 :: .ref a :: rest) f n k Q = TT X (d + 1) 999 1035 lv (v.toList ++ rest) f n k Q := tt_pV (i := .invokevirtual 142) (kind := 1) (idx := 142) (ci := 11) (as := [.int x0, .int x1]) (r := e_M153) (by decide +kernel) rfl rfl rfl (by decide +kernel) rc153 (by decide) rfl rfl (by decide) (Nat.le_of_ble_eq_true rfl) rfl hcl hcat h1
set_option maxRecDepth 20000 in
theorem s999_1035 {X : Nat × (Nat → Int32)} {d n k : Nat} {f : Nat → e_C} {Q : t_Q} {a0 a1 a3 : Value} {st : List Value} {x : Nat} : TT X d 999 1035 [a0, a1, .ref x, a3] st f n k Q = TT X d 999 1036 [a0, a1, .ref x, a3] (.ref x :: st) f n k Q := tt_st (i := .aload_n 2) (len := 1) (by decide +kernel) rfl rfl
set_option maxRecDepth 20000 in
theorem s999_1036 {X : Nat × (Nat → Int32)} {d n k : Nat} {f : Nat → e_C} {Q : t_Q} {a1 a2 a3 : Value} {st : List Value} {x : Nat} : TT X d 999 1036 [.ref x, a1, a2, a3] st f n k Q = TT X d 999 1037 [.ref x, a1, a2, a3] (.ref x :: st) f n k Q := tt_st (i := .aload_n 0) (len := 1) (by decide +kernel) rfl rfl
set_option maxRecDepth 20000 in
theorem s999_1037 {X : Nat × (Nat → Int32)} {d n k : Nat} {f : Nat → e_C} {Q : t_Q} {a0 a1 a2 : Value} {st : List Value} {x : Int32} : TT X d 999 1037 [a0, a1, a2, .int x] st f n k Q = TT X d 999 1038 [a0, a1, a2, .int x] (.int x :: st) f n k Q := tt_st (i := .iload_n 3) (len := 1) (by decide +kernel) rfl rfl
set_option maxRecDepth 20000 in
theorem s999_1038 {X : Nat × (Nat → Int32)} {d n k : Nat} {f : Nat → e_C} {Q : t_Q} {lv st : List Value} : TT X d 999 1038 lv st f n k Q = TT X d 999 1039 lv (.int 1 :: st) f n k Q := tt_st (i := .iconst 1) (len := 1) (by decide +kernel) rfl rfl
set_option maxRecDepth 20000 in
theorem s999_1039 {X : Nat × (Nat → Int32)} {d n k : Nat} {f : Nat → e_C} {Q : t_Q} {lv st : List Value} {x y : Int32} : TT X d 999 1039 lv (.int y :: .int x :: st) f n k Q = TT X d 999 1040 lv (.int (x + y) :: st) f n k Q := tt_st (i := .iadd) (len := 1) (by decide +kernel) rfl rfl
set_option maxRecDepth 20000 in
theorem s999_1040 {X : Nat × (Nat → Int32)} {d n k : Nat} {f : Nat → e_C} {Q : t_Q} {lv st : List Value} {a : Nat} {i : Int32} : TT X d 999 1040 lv (.int i :: .ref a :: st) f n k Q = ow (arI (f a)) (fun q => e_in i q.1 = true ∧ TT X d 999 1041 lv (.int (q.2 i.toNatClampNeg) :: st) f n k Q) := tt_iald (by decide +kernel)
set_option maxRecDepth 20000 in
theorem s999_1041 {X : Nat × (Nat → Int32)} {d n k : Nat} {f : Nat → e_C} {Q : t_Q} {a1 a2 a3 : Value} {st : List Value} {x : Nat} : TT X d 999 1041 [.ref x, a1, a2, a3] st f n k Q = TT X d 999 1042 [.ref x, a1, a2, a3] (.ref x :: st) f n k Q := tt_st (i := .aload_n 0) (len := 1) (by decide +kernel) rfl rfl
set_option maxRecDepth 20000 in
theorem s999_1042 {X : Nat × (Nat → Int32)} {d n k : Nat} {f : Nat → e_C} {Q : t_Q} {a0 a1 a2 : Value} {st : List Value} {x : Int32} : TT X d 999 1042 [a0, a1, a2, .int x] st f n k Q = TT X d 999 1043 [a0, a1, a2, .int x] (.int x :: st) f n k Q := tt_st (i := .iload_n 3) (len := 1) (by decide +kernel) rfl rfl
set_option maxRecDepth 20000 in
theorem s999_1043 {X : Nat × (Nat → Int32)} {d n k : Nat} {f : Nat → e_C} {Q : t_Q} {lv st : List Value} : TT X d 999 1043 lv st f n k Q = TT X d 999 1044 lv (.int 2 :: st) f n k Q := tt_st (i := .iconst 2) (len := 1) (by decide +kernel) rfl rfl
set_option maxRecDepth 20000 in
theorem s999_1044 {X : Nat × (Nat → Int32)} {d n k : Nat} {f : Nat → e_C} {Q : t_Q} {lv st : List Value} {x y : Int32} : TT X d 999 1044 lv (.int y :: .int x :: st) f n k Q = TT X d 999 1045 lv (.int (x + y) :: st) f n k Q := tt_st (i := .iadd) (len := 1) (by decide +kernel) rfl rfl
set_option maxRecDepth 20000 in
theorem s999_1045 {X : Nat × (Nat → Int32)} {d n k : Nat} {f : Nat → e_C} {Q : t_Q} {lv st : List Value} {a : Nat} {i : Int32} : TT X d 999 1045 lv (.int i :: .ref a :: st) f n k Q = ow (arI (f a)) (fun q => e_in i q.1 = true ∧ TT X d 999 1046 lv (.int (q.2 i.toNatClampNeg) :: st) f n k Q) := tt_iald (by decide +kernel)
set_option maxRecDepth 20000 in
theorem k999_1046 {X : Nat × (Nat → Int32)} {d n k : Nat} {f : Nat → e_C} {Q : t_Q} {lv rest : List Value} {a : Nat} {x0 : Int32} {x1 : Int32} (hcl : cno (f a) = some 12) (hcat : e_cat rest ≤ 8) {Q1 : t_Q} (h1 : TT X d 279 0 [.ref a, .int x0, .int x1, .float 0, .float 0, .float 0, .float 0, .float 0, .float 0] [] f n k Q1) (h2 : ∀ f' n' k' v, Q1 f' n' k' v → TT X (d + 1) 999 1049 lv (v.toList ++ rest) f' n' k' Q) : TT X (d + 1) 999 1046 lv (.int x1 :: .int x0 :: .ref a :: rest) f n k Q := tt_cV (i := .invokevirtual 145) (kind := 1) (idx := 145) (ci := 12) (as := [.int x0, .int x1]) (r := e_M279) (by decide +kernel) rfl rfl rfl (by decide +kernel) rc279 (by decide) rfl rfl (by decide) (Nat.le_of_ble_eq_true rfl) rfl hcl hcat h1 h2
set_option maxRecDepth 20000 in
theorem p999_1046 {X : Nat × (Nat → Int32)} {d n k : Nat} {f : Nat → e_C} {Q : t_Q} {lv rest : List Value} {a : Nat} {x0 : Int32} {x1 : Int32} (hcl : cno (f a) = some 12) (hcat : e_cat rest ≤ 8) {v : Option Value} (h1 : PU X d 279 [.ref a, .int x0, .int x1, .float 0, .float 0, .float 0, .float 0, .float 0, .float 0] f n k v) : TT X (d + 1) 999 1046 lv (.int x1 :: .int x0 :: .ref a :: rest) f n k Q = TT X (d + 1) 999 1049 lv (v.toList ++ rest) f n k Q := tt_pV (i := .invokevirtual 145) (kind := 1) (idx := 145) (ci := 12) (as := [.int x0, .int x1]) (r := e_M279) (by decide +kernel) rfl rfl rfl (by decide +kernel) rc279 (by decide) rfl rfl (by decide) (Nat.le_of_ble_eq_true rfl) rfl hcl hcat h1
set_option maxRecDepth 20000 in
theorem s999_1049 {X : Nat × (Nat → Int32)} {d n k : Nat} {f : Nat → e_C} {Q : t_Q} {lv st : List Value} {x y : Int32} : TT X d 999 1049 lv (.int y :: .int x :: st) f n k Q = if x = y then TT X d 999 1395 lv st f n k Q else TT X d 999 1052 lv st f n k Q := tt_if2 (c := .eq) (off := 346) (by decide +kernel) rfl rfl
set_option maxRecDepth 20000 in
theorem s999_1052 {X : Nat × (Nat → Int32)} {d n k : Nat} {f : Nat → e_C} {Q : t_Q} {lv st : List Value} : TT X d 999 1052 lv st f n k Q = TT X d 999 1053 lv (.int 0 :: st) f n k Q := tt_st (i := .iconst 0) (len := 1) (by decide +kernel) rfl rfl
set_option maxRecDepth 20000 in
theorem s999_1053 {X : Nat × (Nat → Int32)} {d n k : Nat} {f : Nat → e_C} {Q : t_Q} {lv : List Value} {v : Int32} : TT X d 999 1053 lv [.int v] f n k Q = ((v = 0 ∨ v = 1) ∧ Q f n k (some (.int v))) := tt_reB (by decide +kernel) (by decide +kernel)
set_option maxRecDepth 20000 in
theorem s999_1054 {X : Nat × (Nat → Int32)} {d n k : Nat} {f : Nat → e_C} {Q : t_Q} {a0 a2 a3 : Value} {st : List Value} {x : Nat} : TT X d 999 1054 [a0, .ref x, a2, a3] st f n k Q = TT X d 999 1055 [a0, .ref x, a2, a3] (.ref x :: st) f n k Q := tt_st (i := .aload_n 1) (len := 1) (by decide +kernel) rfl rfl
set_option maxRecDepth 20000 in
theorem k999_1055 {X : Nat × (Nat → Int32)} {d n k : Nat} {f : Nat → e_C} {Q : t_Q} {lv rest : List Value} {a : Nat}  (hcl : cno (f a) = some 11) (hcat : e_cat rest ≤ 8) {Q1 : t_Q} (h1 : TT X d 154 0 [.ref a] [] f n k Q1) (h2 : ∀ f' n' k' v, Q1 f' n' k' v → TT X (d + 1) 999 1058 lv (v.toList ++ rest) f' n' k' Q) : TT X (d + 1) 999 1055 lv (.ref a :: rest) f n k Q := tt_cV (i := .invokevirtual 146) (kind := 1) (idx := 146) (ci := 11) (as := []) (r := e_M154) (by decide +kernel) rfl rfl rfl (by decide +kernel) rc154 (by decide) rfl rfl (by decide) (Nat.le_of_ble_eq_true rfl) rfl hcl hcat h1 h2
set_option maxRecDepth 20000 in
theorem p999_1055 {X : Nat × (Nat → Int32)} {d n k : Nat} {f : Nat → e_C} {Q : t_Q} {lv rest : List Value} {a : Nat}  (hcl : cno (f a) = some 11) (hcat : e_cat rest ≤ 8) {v : Option Value} (h1 : PU X d 154 [.ref a] f n k v) : TT X (d + 1) 999 1055 lv (.ref a :: rest) f n k Q = TT X (d + 1) 999 1058 lv (v.toList ++ rest) f n k Q := tt_pV (i := .invokevirtual 146) (kind := 1) (idx := 146) (ci := 11) (as := []) (r := e_M154) (by decide +kernel) rfl rfl rfl (by decide +kernel) rc154 (by decide) rfl rfl (by decide) (Nat.le_of_ble_eq_true rfl) rfl hcl hcat h1
set_option maxRecDepth 20000 in
theorem s999_1058 {X : Nat × (Nat → Int32)} {d n k : Nat} {f : Nat → e_C} {Q : t_Q} {a0 a1 a3 : Value} {st : List Value} {x : Nat} : TT X d 999 1058 [a0, a1, .ref x, a3] st f n k Q = TT X d 999 1059 [a0, a1, .ref x, a3] (.ref x :: st) f n k Q := tt_st (i := .aload_n 2) (len := 1) (by decide +kernel) rfl rfl
set_option maxRecDepth 20000 in
theorem k999_1059 {X : Nat × (Nat → Int32)} {d n k : Nat} {f : Nat → e_C} {Q : t_Q} {lv rest : List Value} {a : Nat}  (hcl : cno (f a) = some 12) (hcat : e_cat rest ≤ 8) {Q1 : t_Q} (h1 : TT X d 281 0 [.ref a] [] f n k Q1) (h2 : ∀ f' n' k' v, Q1 f' n' k' v → TT X (d + 1) 999 1062 lv (v.toList ++ rest) f' n' k' Q) : TT X (d + 1) 999 1059 lv (.ref a :: rest) f n k Q := tt_cV (i := .invokevirtual 149) (kind := 1) (idx := 149) (ci := 12) (as := []) (r := e_M281) (by decide +kernel) rfl rfl rfl (by decide +kernel) rc281 (by decide) rfl rfl (by decide) (Nat.le_of_ble_eq_true rfl) rfl hcl hcat h1 h2
set_option maxRecDepth 20000 in
theorem p999_1059 {X : Nat × (Nat → Int32)} {d n k : Nat} {f : Nat → e_C} {Q : t_Q} {lv rest : List Value} {a : Nat}  (hcl : cno (f a) = some 12) (hcat : e_cat rest ≤ 8) {v : Option Value} (h1 : PU X d 281 [.ref a] f n k v) : TT X (d + 1) 999 1059 lv (.ref a :: rest) f n k Q = TT X (d + 1) 999 1062 lv (v.toList ++ rest) f n k Q := tt_pV (i := .invokevirtual 149) (kind := 1) (idx := 149) (ci := 12) (as := []) (r := e_M281) (by decide +kernel) rfl rfl rfl (by decide +kernel) rc281 (by decide) rfl rfl (by decide) (Nat.le_of_ble_eq_true rfl) rfl hcl hcat h1
set_option maxRecDepth 20000 in
theorem s999_1062 {X : Nat × (Nat → Int32)} {d n k : Nat} {f : Nat → e_C} {Q : t_Q} {lv st : List Value} {x y : Int32} : TT X d 999 1062 lv (.int y :: .int x :: st) f n k Q = if x = y then TT X d 999 1395 lv st f n k Q else TT X d 999 1065 lv st f n k Q := tt_if2 (c := .eq) (off := 333) (by decide +kernel) rfl rfl
set_option maxRecDepth 20000 in
theorem s999_1065 {X : Nat × (Nat → Int32)} {d n k : Nat} {f : Nat → e_C} {Q : t_Q} {lv st : List Value} : TT X d 999 1065 lv st f n k Q = TT X d 999 1066 lv (.int 0 :: st) f n k Q := tt_st (i := .iconst 0) (len := 1) (by decide +kernel) rfl rfl
set_option maxRecDepth 20000 in
theorem s999_1066 {X : Nat × (Nat → Int32)} {d n k : Nat} {f : Nat → e_C} {Q : t_Q} {lv : List Value} {v : Int32} : TT X d 999 1066 lv [.int v] f n k Q = ((v = 0 ∨ v = 1) ∧ Q f n k (some (.int v))) := tt_reB (by decide +kernel) (by decide +kernel)
set_option maxRecDepth 20000 in
theorem s999_1067 {X : Nat × (Nat → Int32)} {d n k : Nat} {f : Nat → e_C} {Q : t_Q} {a0 a2 a3 : Value} {st : List Value} {x : Nat} : TT X d 999 1067 [a0, .ref x, a2, a3] st f n k Q = TT X d 999 1068 [a0, .ref x, a2, a3] (.ref x :: st) f n k Q := tt_st (i := .aload_n 1) (len := 1) (by decide +kernel) rfl rfl
set_option maxRecDepth 20000 in
theorem k999_1068 {X : Nat × (Nat → Int32)} {d n k : Nat} {f : Nat → e_C} {Q : t_Q} {lv rest : List Value} {a : Nat}  (hcl : cno (f a) = some 11) (hcat : e_cat rest ≤ 8) {Q1 : t_Q} (h1 : TT X d 155 0 [.ref a] [] f n k Q1) (h2 : ∀ f' n' k' v, Q1 f' n' k' v → TT X (d + 1) 999 1071 lv (v.toList ++ rest) f' n' k' Q) : TT X (d + 1) 999 1068 lv (.ref a :: rest) f n k Q := tt_cV (i := .invokevirtual 150) (kind := 1) (idx := 150) (ci := 11) (as := []) (r := e_M155) (by decide +kernel) rfl rfl rfl (by decide +kernel) rc155 (by decide) rfl rfl (by decide) (Nat.le_of_ble_eq_true rfl) rfl hcl hcat h1 h2
set_option maxRecDepth 20000 in
theorem p999_1068 {X : Nat × (Nat → Int32)} {d n k : Nat} {f : Nat → e_C} {Q : t_Q} {lv rest : List Value} {a : Nat}  (hcl : cno (f a) = some 11) (hcat : e_cat rest ≤ 8) {v : Option Value} (h1 : PU X d 155 [.ref a] f n k v) : TT X (d + 1) 999 1068 lv (.ref a :: rest) f n k Q = TT X (d + 1) 999 1071 lv (v.toList ++ rest) f n k Q := tt_pV (i := .invokevirtual 150) (kind := 1) (idx := 150) (ci := 11) (as := []) (r := e_M155) (by decide +kernel) rfl rfl rfl (by decide +kernel) rc155 (by decide) rfl rfl (by decide) (Nat.le_of_ble_eq_true rfl) rfl hcl hcat h1
set_option maxRecDepth 20000 in
theorem s999_1071 {X : Nat × (Nat → Int32)} {d n k : Nat} {f : Nat → e_C} {Q : t_Q} {a0 a1 a3 : Value} {st : List Value} {x : Nat} : TT X d 999 1071 [a0, a1, .ref x, a3] st f n k Q = TT X d 999 1072 [a0, a1, .ref x, a3] (.ref x :: st) f n k Q := tt_st (i := .aload_n 2) (len := 1) (by decide +kernel) rfl rfl
set_option maxRecDepth 20000 in
theorem k999_1072 {X : Nat × (Nat → Int32)} {d n k : Nat} {f : Nat → e_C} {Q : t_Q} {lv rest : List Value} {a : Nat}  (hcl : cno (f a) = some 12) (hcat : e_cat rest ≤ 8) {Q1 : t_Q} (h1 : TT X d 283 0 [.ref a, .float 0] [] f n k Q1) (h2 : ∀ f' n' k' v, Q1 f' n' k' v → TT X (d + 1) 999 1075 lv (v.toList ++ rest) f' n' k' Q) : TT X (d + 1) 999 1072 lv (.ref a :: rest) f n k Q := tt_cV (i := .invokevirtual 153) (kind := 1) (idx := 153) (ci := 12) (as := []) (r := e_M283) (by decide +kernel) rfl rfl rfl (by decide +kernel) rc283 (by decide) rfl rfl (by decide) (Nat.le_of_ble_eq_true rfl) rfl hcl hcat h1 h2
set_option maxRecDepth 20000 in
theorem p999_1072 {X : Nat × (Nat → Int32)} {d n k : Nat} {f : Nat → e_C} {Q : t_Q} {lv rest : List Value} {a : Nat}  (hcl : cno (f a) = some 12) (hcat : e_cat rest ≤ 8) {v : Option Value} (h1 : PU X d 283 [.ref a, .float 0] f n k v) : TT X (d + 1) 999 1072 lv (.ref a :: rest) f n k Q = TT X (d + 1) 999 1075 lv (v.toList ++ rest) f n k Q := tt_pV (i := .invokevirtual 153) (kind := 1) (idx := 153) (ci := 12) (as := []) (r := e_M283) (by decide +kernel) rfl rfl rfl (by decide +kernel) rc283 (by decide) rfl rfl (by decide) (Nat.le_of_ble_eq_true rfl) rfl hcl hcat h1
set_option maxRecDepth 20000 in
theorem s999_1075 {X : Nat × (Nat → Int32)} {d n k : Nat} {f : Nat → e_C} {Q : t_Q} {lv st : List Value} {x y : Int32} : TT X d 999 1075 lv (.int y :: .int x :: st) f n k Q = if x = y then TT X d 999 1395 lv st f n k Q else TT X d 999 1078 lv st f n k Q := tt_if2 (c := .eq) (off := 320) (by decide +kernel) rfl rfl
set_option maxRecDepth 20000 in
theorem s999_1078 {X : Nat × (Nat → Int32)} {d n k : Nat} {f : Nat → e_C} {Q : t_Q} {lv st : List Value} : TT X d 999 1078 lv st f n k Q = TT X d 999 1079 lv (.int 0 :: st) f n k Q := tt_st (i := .iconst 0) (len := 1) (by decide +kernel) rfl rfl
set_option maxRecDepth 20000 in
theorem s999_1079 {X : Nat × (Nat → Int32)} {d n k : Nat} {f : Nat → e_C} {Q : t_Q} {lv : List Value} {v : Int32} : TT X d 999 1079 lv [.int v] f n k Q = ((v = 0 ∨ v = 1) ∧ Q f n k (some (.int v))) := tt_reB (by decide +kernel) (by decide +kernel)
set_option maxRecDepth 20000 in
theorem s999_1080 {X : Nat × (Nat → Int32)} {d n k : Nat} {f : Nat → e_C} {Q : t_Q} {a0 a2 a3 : Value} {st : List Value} {x : Nat} : TT X d 999 1080 [a0, .ref x, a2, a3] st f n k Q = TT X d 999 1081 [a0, .ref x, a2, a3] (.ref x :: st) f n k Q := tt_st (i := .aload_n 1) (len := 1) (by decide +kernel) rfl rfl
set_option maxRecDepth 20000 in
theorem k999_1081 {X : Nat × (Nat → Int32)} {d n k : Nat} {f : Nat → e_C} {Q : t_Q} {lv rest : List Value} {a : Nat}  (hcl : cno (f a) = some 11) (hcat : e_cat rest ≤ 8) {Q1 : t_Q} (h1 : TT X d 156 0 [.ref a, .float 0] [] f n k Q1) (h2 : ∀ f' n' k' v, Q1 f' n' k' v → TT X (d + 1) 999 1084 lv (v.toList ++ rest) f' n' k' Q) : TT X (d + 1) 999 1081 lv (.ref a :: rest) f n k Q := tt_cV (i := .invokevirtual 154) (kind := 1) (idx := 154) (ci := 11) (as := []) (r := e_M156) (by decide +kernel) rfl rfl rfl (by decide +kernel) rc156 (by decide) rfl rfl (by decide) (Nat.le_of_ble_eq_true rfl) rfl hcl hcat h1 h2
set_option maxRecDepth 20000 in
theorem p999_1081 {X : Nat × (Nat → Int32)} {d n k : Nat} {f : Nat → e_C} {Q : t_Q} {lv rest : List Value} {a : Nat}  (hcl : cno (f a) = some 11) (hcat : e_cat rest ≤ 8) {v : Option Value} (h1 : PU X d 156 [.ref a, .float 0] f n k v) : TT X (d + 1) 999 1081 lv (.ref a :: rest) f n k Q = TT X (d + 1) 999 1084 lv (v.toList ++ rest) f n k Q := tt_pV (i := .invokevirtual 154) (kind := 1) (idx := 154) (ci := 11) (as := []) (r := e_M156) (by decide +kernel) rfl rfl rfl (by decide +kernel) rc156 (by decide) rfl rfl (by decide) (Nat.le_of_ble_eq_true rfl) rfl hcl hcat h1
set_option maxRecDepth 20000 in
theorem s999_1084 {X : Nat × (Nat → Int32)} {d n k : Nat} {f : Nat → e_C} {Q : t_Q} {a0 a1 a3 : Value} {st : List Value} {x : Nat} : TT X d 999 1084 [a0, a1, .ref x, a3] st f n k Q = TT X d 999 1085 [a0, a1, .ref x, a3] (.ref x :: st) f n k Q := tt_st (i := .aload_n 2) (len := 1) (by decide +kernel) rfl rfl
set_option maxRecDepth 20000 in
theorem k999_1085 {X : Nat × (Nat → Int32)} {d n k : Nat} {f : Nat → e_C} {Q : t_Q} {lv rest : List Value} {a : Nat}  (hcl : cno (f a) = some 12) (hcat : e_cat rest ≤ 8) {Q1 : t_Q} (h1 : TT X d 284 0 [.ref a, .float 0] [] f n k Q1) (h2 : ∀ f' n' k' v, Q1 f' n' k' v → TT X (d + 1) 999 1088 lv (v.toList ++ rest) f' n' k' Q) : TT X (d + 1) 999 1085 lv (.ref a :: rest) f n k Q := tt_cV (i := .invokevirtual 157) (kind := 1) (idx := 157) (ci := 12) (as := []) (r := e_M284) (by decide +kernel) rfl rfl rfl (by decide +kernel) rc284 (by decide) rfl rfl (by decide) (Nat.le_of_ble_eq_true rfl) rfl hcl hcat h1 h2
set_option maxRecDepth 20000 in
theorem p999_1085 {X : Nat × (Nat → Int32)} {d n k : Nat} {f : Nat → e_C} {Q : t_Q} {lv rest : List Value} {a : Nat}  (hcl : cno (f a) = some 12) (hcat : e_cat rest ≤ 8) {v : Option Value} (h1 : PU X d 284 [.ref a, .float 0] f n k v) : TT X (d + 1) 999 1085 lv (.ref a :: rest) f n k Q = TT X (d + 1) 999 1088 lv (v.toList ++ rest) f n k Q := tt_pV (i := .invokevirtual 157) (kind := 1) (idx := 157) (ci := 12) (as := []) (r := e_M284) (by decide +kernel) rfl rfl rfl (by decide +kernel) rc284 (by decide) rfl rfl (by decide) (Nat.le_of_ble_eq_true rfl) rfl hcl hcat h1
set_option maxRecDepth 20000 in
theorem s999_1088 {X : Nat × (Nat → Int32)} {d n k : Nat} {f : Nat → e_C} {Q : t_Q} {lv st : List Value} {x y : Int32} : TT X d 999 1088 lv (.int y :: .int x :: st) f n k Q = if x = y then TT X d 999 1395 lv st f n k Q else TT X d 999 1091 lv st f n k Q := tt_if2 (c := .eq) (off := 307) (by decide +kernel) rfl rfl
set_option maxRecDepth 20000 in
theorem s999_1091 {X : Nat × (Nat → Int32)} {d n k : Nat} {f : Nat → e_C} {Q : t_Q} {lv st : List Value} : TT X d 999 1091 lv st f n k Q = TT X d 999 1092 lv (.int 0 :: st) f n k Q := tt_st (i := .iconst 0) (len := 1) (by decide +kernel) rfl rfl
set_option maxRecDepth 20000 in
theorem s999_1092 {X : Nat × (Nat → Int32)} {d n k : Nat} {f : Nat → e_C} {Q : t_Q} {lv : List Value} {v : Int32} : TT X d 999 1092 lv [.int v] f n k Q = ((v = 0 ∨ v = 1) ∧ Q f n k (some (.int v))) := tt_reB (by decide +kernel) (by decide +kernel)
set_option maxRecDepth 20000 in
theorem s999_1093 {X : Nat × (Nat → Int32)} {d n k : Nat} {f : Nat → e_C} {Q : t_Q} {a0 a2 a3 : Value} {st : List Value} {x : Nat} : TT X d 999 1093 [a0, .ref x, a2, a3] st f n k Q = TT X d 999 1094 [a0, .ref x, a2, a3] (.ref x :: st) f n k Q := tt_st (i := .aload_n 1) (len := 1) (by decide +kernel) rfl rfl
set_option maxRecDepth 20000 in
theorem s999_1094 {X : Nat × (Nat → Int32)} {d n k : Nat} {f : Nat → e_C} {Q : t_Q} {a1 a2 a3 : Value} {st : List Value} {x : Nat} : TT X d 999 1094 [.ref x, a1, a2, a3] st f n k Q = TT X d 999 1095 [.ref x, a1, a2, a3] (.ref x :: st) f n k Q := tt_st (i := .aload_n 0) (len := 1) (by decide +kernel) rfl rfl
set_option maxRecDepth 20000 in
theorem s999_1095 {X : Nat × (Nat → Int32)} {d n k : Nat} {f : Nat → e_C} {Q : t_Q} {a0 a1 a2 : Value} {st : List Value} {x : Int32} : TT X d 999 1095 [a0, a1, a2, .int x] st f n k Q = TT X d 999 1096 [a0, a1, a2, .int x] (.int x :: st) f n k Q := tt_st (i := .iload_n 3) (len := 1) (by decide +kernel) rfl rfl
set_option maxRecDepth 20000 in
theorem s999_1096 {X : Nat × (Nat → Int32)} {d n k : Nat} {f : Nat → e_C} {Q : t_Q} {lv st : List Value} : TT X d 999 1096 lv st f n k Q = TT X d 999 1097 lv (.int 1 :: st) f n k Q := tt_st (i := .iconst 1) (len := 1) (by decide +kernel) rfl rfl
set_option maxRecDepth 20000 in
theorem s999_1097 {X : Nat × (Nat → Int32)} {d n k : Nat} {f : Nat → e_C} {Q : t_Q} {lv st : List Value} {x y : Int32} : TT X d 999 1097 lv (.int y :: .int x :: st) f n k Q = TT X d 999 1098 lv (.int (x + y) :: st) f n k Q := tt_st (i := .iadd) (len := 1) (by decide +kernel) rfl rfl
set_option maxRecDepth 20000 in
theorem s999_1098 {X : Nat × (Nat → Int32)} {d n k : Nat} {f : Nat → e_C} {Q : t_Q} {lv st : List Value} {a : Nat} {i : Int32} : TT X d 999 1098 lv (.int i :: .ref a :: st) f n k Q = ow (arI (f a)) (fun q => e_in i q.1 = true ∧ TT X d 999 1099 lv (.int (q.2 i.toNatClampNeg) :: st) f n k Q) := tt_iald (by decide +kernel)
set_option maxRecDepth 20000 in
theorem s999_1099 {X : Nat × (Nat → Int32)} {d n k : Nat} {f : Nat → e_C} {Q : t_Q} {a1 a2 a3 : Value} {st : List Value} {x : Nat} : TT X d 999 1099 [.ref x, a1, a2, a3] st f n k Q = TT X d 999 1100 [.ref x, a1, a2, a3] (.ref x :: st) f n k Q := tt_st (i := .aload_n 0) (len := 1) (by decide +kernel) rfl rfl
set_option maxRecDepth 20000 in
theorem s999_1100 {X : Nat × (Nat → Int32)} {d n k : Nat} {f : Nat → e_C} {Q : t_Q} {a0 a1 a2 : Value} {st : List Value} {x : Int32} : TT X d 999 1100 [a0, a1, a2, .int x] st f n k Q = TT X d 999 1101 [a0, a1, a2, .int x] (.int x :: st) f n k Q := tt_st (i := .iload_n 3) (len := 1) (by decide +kernel) rfl rfl
set_option maxRecDepth 20000 in
theorem s999_1101 {X : Nat × (Nat → Int32)} {d n k : Nat} {f : Nat → e_C} {Q : t_Q} {lv st : List Value} : TT X d 999 1101 lv st f n k Q = TT X d 999 1102 lv (.int 2 :: st) f n k Q := tt_st (i := .iconst 2) (len := 1) (by decide +kernel) rfl rfl
set_option maxRecDepth 20000 in
theorem s999_1102 {X : Nat × (Nat → Int32)} {d n k : Nat} {f : Nat → e_C} {Q : t_Q} {lv st : List Value} {x y : Int32} : TT X d 999 1102 lv (.int y :: .int x :: st) f n k Q = TT X d 999 1103 lv (.int (x + y) :: st) f n k Q := tt_st (i := .iadd) (len := 1) (by decide +kernel) rfl rfl
set_option maxRecDepth 20000 in
theorem s999_1103 {X : Nat × (Nat → Int32)} {d n k : Nat} {f : Nat → e_C} {Q : t_Q} {lv st : List Value} {a : Nat} {i : Int32} : TT X d 999 1103 lv (.int i :: .ref a :: st) f n k Q = ow (arI (f a)) (fun q => e_in i q.1 = true ∧ TT X d 999 1104 lv (.int (q.2 i.toNatClampNeg) :: st) f n k Q) := tt_iald (by decide +kernel)
set_option maxRecDepth 20000 in
theorem k999_1104 {X : Nat × (Nat → Int32)} {d n k : Nat} {f : Nat → e_C} {Q : t_Q} {lv rest : List Value} {a : Nat} {x0 : Int32} {x1 : Int32} (hcl : cno (f a) = some 11) (hcat : e_cat rest ≤ 8) {Q1 : t_Q} (h1 : TT X d 157 0 [.ref a, .int x0, .int x1, .float 0, .float 0, .float 0] [] f n k Q1) (h2 : ∀ f' n' k' v, Q1 f' n' k' v → TT X (d + 1) 999 1107 lv (v.toList ++ rest) f' n' k' Q) : TT X (d + 1) 999 1104 lv (.int x1 :: .int x0 :: .ref a :: rest) f n k Q := tt_cV (i := .invokevirtual 158) (kind := 1) (idx := 158) (ci := 11) (as := [.int x0, .int x1]) (r := e_M157) (by decide +kernel) rfl rfl rfl (by decide +kernel) rc157 (by decide) rfl rfl (by decide) (Nat.le_of_ble_eq_true rfl) rfl hcl hcat h1 h2
set_option maxRecDepth 20000 in
theorem p999_1104 {X : Nat × (Nat → Int32)} {d n k : Nat} {f : Nat → e_C} {Q : t_Q} {lv rest : List Value} {a : Nat} {x0 : Int32} {x1 : Int32} (hcl : cno (f a) = some 11) (hcat : e_cat rest ≤ 8) {v : Option Value} (h1 : PU X d 157 [.ref a, .int x0, .int x1, .float 0, .float 0, .float 0] f n k v) : TT X (d + 1) 999 1104 lv (.int x1 :: .int x0 :: .ref a :: rest) f n k Q = TT X (d + 1) 999 1107 lv (v.toList ++ rest) f n k Q := tt_pV (i := .invokevirtual 158) (kind := 1) (idx := 158) (ci := 11) (as := [.int x0, .int x1]) (r := e_M157) (by decide +kernel) rfl rfl rfl (by decide +kernel) rc157 (by decide) rfl rfl (by decide) (Nat.le_of_ble_eq_true rfl) rfl hcl hcat h1
set_option maxRecDepth 20000 in
theorem s999_1107 {X : Nat × (Nat → Int32)} {d n k : Nat} {f : Nat → e_C} {Q : t_Q} {a0 a1 a3 : Value} {st : List Value} {x : Nat} : TT X d 999 1107 [a0, a1, .ref x, a3] st f n k Q = TT X d 999 1108 [a0, a1, .ref x, a3] (.ref x :: st) f n k Q := tt_st (i := .aload_n 2) (len := 1) (by decide +kernel) rfl rfl
set_option maxRecDepth 20000 in
theorem s999_1108 {X : Nat × (Nat → Int32)} {d n k : Nat} {f : Nat → e_C} {Q : t_Q} {a1 a2 a3 : Value} {st : List Value} {x : Nat} : TT X d 999 1108 [.ref x, a1, a2, a3] st f n k Q = TT X d 999 1109 [.ref x, a1, a2, a3] (.ref x :: st) f n k Q := tt_st (i := .aload_n 0) (len := 1) (by decide +kernel) rfl rfl
set_option maxRecDepth 20000 in
theorem s999_1109 {X : Nat × (Nat → Int32)} {d n k : Nat} {f : Nat → e_C} {Q : t_Q} {a0 a1 a2 : Value} {st : List Value} {x : Int32} : TT X d 999 1109 [a0, a1, a2, .int x] st f n k Q = TT X d 999 1110 [a0, a1, a2, .int x] (.int x :: st) f n k Q := tt_st (i := .iload_n 3) (len := 1) (by decide +kernel) rfl rfl
set_option maxRecDepth 20000 in
theorem s999_1110 {X : Nat × (Nat → Int32)} {d n k : Nat} {f : Nat → e_C} {Q : t_Q} {lv st : List Value} : TT X d 999 1110 lv st f n k Q = TT X d 999 1111 lv (.int 1 :: st) f n k Q := tt_st (i := .iconst 1) (len := 1) (by decide +kernel) rfl rfl
set_option maxRecDepth 20000 in
theorem s999_1111 {X : Nat × (Nat → Int32)} {d n k : Nat} {f : Nat → e_C} {Q : t_Q} {lv st : List Value} {x y : Int32} : TT X d 999 1111 lv (.int y :: .int x :: st) f n k Q = TT X d 999 1112 lv (.int (x + y) :: st) f n k Q := tt_st (i := .iadd) (len := 1) (by decide +kernel) rfl rfl
set_option maxRecDepth 20000 in
theorem s999_1112 {X : Nat × (Nat → Int32)} {d n k : Nat} {f : Nat → e_C} {Q : t_Q} {lv st : List Value} {a : Nat} {i : Int32} : TT X d 999 1112 lv (.int i :: .ref a :: st) f n k Q = ow (arI (f a)) (fun q => e_in i q.1 = true ∧ TT X d 999 1113 lv (.int (q.2 i.toNatClampNeg) :: st) f n k Q) := tt_iald (by decide +kernel)
set_option maxRecDepth 20000 in
theorem s999_1113 {X : Nat × (Nat → Int32)} {d n k : Nat} {f : Nat → e_C} {Q : t_Q} {a1 a2 a3 : Value} {st : List Value} {x : Nat} : TT X d 999 1113 [.ref x, a1, a2, a3] st f n k Q = TT X d 999 1114 [.ref x, a1, a2, a3] (.ref x :: st) f n k Q := tt_st (i := .aload_n 0) (len := 1) (by decide +kernel) rfl rfl
set_option maxRecDepth 20000 in
theorem s999_1114 {X : Nat × (Nat → Int32)} {d n k : Nat} {f : Nat → e_C} {Q : t_Q} {a0 a1 a2 : Value} {st : List Value} {x : Int32} : TT X d 999 1114 [a0, a1, a2, .int x] st f n k Q = TT X d 999 1115 [a0, a1, a2, .int x] (.int x :: st) f n k Q := tt_st (i := .iload_n 3) (len := 1) (by decide +kernel) rfl rfl
set_option maxRecDepth 20000 in
theorem s999_1115 {X : Nat × (Nat → Int32)} {d n k : Nat} {f : Nat → e_C} {Q : t_Q} {lv st : List Value} : TT X d 999 1115 lv st f n k Q = TT X d 999 1116 lv (.int 2 :: st) f n k Q := tt_st (i := .iconst 2) (len := 1) (by decide +kernel) rfl rfl
set_option maxRecDepth 20000 in
theorem s999_1116 {X : Nat × (Nat → Int32)} {d n k : Nat} {f : Nat → e_C} {Q : t_Q} {lv st : List Value} {x y : Int32} : TT X d 999 1116 lv (.int y :: .int x :: st) f n k Q = TT X d 999 1117 lv (.int (x + y) :: st) f n k Q := tt_st (i := .iadd) (len := 1) (by decide +kernel) rfl rfl
set_option maxRecDepth 20000 in
theorem s999_1117 {X : Nat × (Nat → Int32)} {d n k : Nat} {f : Nat → e_C} {Q : t_Q} {lv st : List Value} {a : Nat} {i : Int32} : TT X d 999 1117 lv (.int i :: .ref a :: st) f n k Q = ow (arI (f a)) (fun q => e_in i q.1 = true ∧ TT X d 999 1118 lv (.int (q.2 i.toNatClampNeg) :: st) f n k Q) := tt_iald (by decide +kernel)
set_option maxRecDepth 20000 in
theorem k999_1118 {X : Nat × (Nat → Int32)} {d n k : Nat} {f : Nat → e_C} {Q : t_Q} {lv rest : List Value} {a : Nat} {x0 : Int32} {x1 : Int32} (hcl : cno (f a) = some 12) (hcat : e_cat rest ≤ 8) {Q1 : t_Q} (h1 : TT X d 285 0 [.ref a, .int x0, .int x1, .float 0, .float 0, .float 0] [] f n k Q1) (h2 : ∀ f' n' k' v, Q1 f' n' k' v → TT X (d + 1) 999 1121 lv (v.toList ++ rest) f' n' k' Q) : TT X (d + 1) 999 1118 lv (.int x1 :: .int x0 :: .ref a :: rest) f n k Q := tt_cV (i := .invokevirtual 161) (kind := 1) (idx := 161) (ci := 12) (as := [.int x0, .int x1]) (r := e_M285) (by decide +kernel) rfl rfl rfl (by decide +kernel) rc285 (by decide) rfl rfl (by decide) (Nat.le_of_ble_eq_true rfl) rfl hcl hcat h1 h2
set_option maxRecDepth 20000 in
theorem p999_1118 {X : Nat × (Nat → Int32)} {d n k : Nat} {f : Nat → e_C} {Q : t_Q} {lv rest : List Value} {a : Nat} {x0 : Int32} {x1 : Int32} (hcl : cno (f a) = some 12) (hcat : e_cat rest ≤ 8) {v : Option Value} (h1 : PU X d 285 [.ref a, .int x0, .int x1, .float 0, .float 0, .float 0] f n k v) : TT X (d + 1) 999 1118 lv (.int x1 :: .int x0 :: .ref a :: rest) f n k Q = TT X (d + 1) 999 1121 lv (v.toList ++ rest) f n k Q := tt_pV (i := .invokevirtual 161) (kind := 1) (idx := 161) (ci := 12) (as := [.int x0, .int x1]) (r := e_M285) (by decide +kernel) rfl rfl rfl (by decide +kernel) rc285 (by decide) rfl rfl (by decide) (Nat.le_of_ble_eq_true rfl) rfl hcl hcat h1
set_option maxRecDepth 20000 in
theorem s999_1121 {X : Nat × (Nat → Int32)} {d n k : Nat} {f : Nat → e_C} {Q : t_Q} {lv st : List Value} {x y : Int32} : TT X d 999 1121 lv (.int y :: .int x :: st) f n k Q = if x = y then TT X d 999 1395 lv st f n k Q else TT X d 999 1124 lv st f n k Q := tt_if2 (c := .eq) (off := 274) (by decide +kernel) rfl rfl
set_option maxRecDepth 20000 in
theorem s999_1124 {X : Nat × (Nat → Int32)} {d n k : Nat} {f : Nat → e_C} {Q : t_Q} {lv st : List Value} : TT X d 999 1124 lv st f n k Q = TT X d 999 1125 lv (.int 0 :: st) f n k Q := tt_st (i := .iconst 0) (len := 1) (by decide +kernel) rfl rfl
set_option maxRecDepth 20000 in
theorem s999_1125 {X : Nat × (Nat → Int32)} {d n k : Nat} {f : Nat → e_C} {Q : t_Q} {lv : List Value} {v : Int32} : TT X d 999 1125 lv [.int v] f n k Q = ((v = 0 ∨ v = 1) ∧ Q f n k (some (.int v))) := tt_reB (by decide +kernel) (by decide +kernel)
set_option maxRecDepth 20000 in
theorem s999_1126 {X : Nat × (Nat → Int32)} {d n k : Nat} {f : Nat → e_C} {Q : t_Q} {a0 a2 a3 : Value} {st : List Value} {x : Nat} : TT X d 999 1126 [a0, .ref x, a2, a3] st f n k Q = TT X d 999 1127 [a0, .ref x, a2, a3] (.ref x :: st) f n k Q := tt_st (i := .aload_n 1) (len := 1) (by decide +kernel) rfl rfl
set_option maxRecDepth 20000 in
theorem k999_1127 {X : Nat × (Nat → Int32)} {d n k : Nat} {f : Nat → e_C} {Q : t_Q} {lv rest : List Value} {a : Nat}  (hcl : cno (f a) = some 11) (hcat : e_cat rest ≤ 8) {Q1 : t_Q} (h1 : TT X d 159 0 [.ref a] [] f n k Q1) (h2 : ∀ f' n' k' v, Q1 f' n' k' v → TT X (d + 1) 999 1130 lv (v.toList ++ rest) f' n' k' Q) : TT X (d + 1) 999 1127 lv (.ref a :: rest) f n k Q := tt_cV (i := .invokevirtual 162) (kind := 1) (idx := 162) (ci := 11) (as := []) (r := e_M159) (by decide +kernel) rfl rfl rfl (by decide +kernel) rc159 (by decide) rfl rfl (by decide) (Nat.le_of_ble_eq_true rfl) rfl hcl hcat h1 h2
set_option maxRecDepth 20000 in
theorem p999_1127 {X : Nat × (Nat → Int32)} {d n k : Nat} {f : Nat → e_C} {Q : t_Q} {lv rest : List Value} {a : Nat}  (hcl : cno (f a) = some 11) (hcat : e_cat rest ≤ 8) {v : Option Value} (h1 : PU X d 159 [.ref a] f n k v) : TT X (d + 1) 999 1127 lv (.ref a :: rest) f n k Q = TT X (d + 1) 999 1130 lv (v.toList ++ rest) f n k Q := tt_pV (i := .invokevirtual 162) (kind := 1) (idx := 162) (ci := 11) (as := []) (r := e_M159) (by decide +kernel) rfl rfl rfl (by decide +kernel) rc159 (by decide) rfl rfl (by decide) (Nat.le_of_ble_eq_true rfl) rfl hcl hcat h1
set_option maxRecDepth 20000 in
theorem s999_1130 {X : Nat × (Nat → Int32)} {d n k : Nat} {f : Nat → e_C} {Q : t_Q} {a0 a1 a3 : Value} {st : List Value} {x : Nat} : TT X d 999 1130 [a0, a1, .ref x, a3] st f n k Q = TT X d 999 1131 [a0, a1, .ref x, a3] (.ref x :: st) f n k Q := tt_st (i := .aload_n 2) (len := 1) (by decide +kernel) rfl rfl
set_option maxRecDepth 20000 in
theorem k999_1131 {X : Nat × (Nat → Int32)} {d n k : Nat} {f : Nat → e_C} {Q : t_Q} {lv rest : List Value} {a : Nat}  (hcl : cno (f a) = some 12) (hcat : e_cat rest ≤ 8) {Q1 : t_Q} (h1 : TT X d 288 0 [.ref a, .float 0, .float 0, .float 0, .float 0] [] f n k Q1) (h2 : ∀ f' n' k' v, Q1 f' n' k' v → TT X (d + 1) 999 1134 lv (v.toList ++ rest) f' n' k' Q) : TT X (d + 1) 999 1131 lv (.ref a :: rest) f n k Q := tt_cV (i := .invokevirtual 165) (kind := 1) (idx := 165) (ci := 12) (as := []) (r := e_M288) (by decide +kernel) rfl rfl rfl (by decide +kernel) rc288 (by decide) rfl rfl (by decide) (Nat.le_of_ble_eq_true rfl) rfl hcl hcat h1 h2
set_option maxRecDepth 20000 in
theorem p999_1131 {X : Nat × (Nat → Int32)} {d n k : Nat} {f : Nat → e_C} {Q : t_Q} {lv rest : List Value} {a : Nat}  (hcl : cno (f a) = some 12) (hcat : e_cat rest ≤ 8) {v : Option Value} (h1 : PU X d 288 [.ref a, .float 0, .float 0, .float 0, .float 0] f n k v) : TT X (d + 1) 999 1131 lv (.ref a :: rest) f n k Q = TT X (d + 1) 999 1134 lv (v.toList ++ rest) f n k Q := tt_pV (i := .invokevirtual 165) (kind := 1) (idx := 165) (ci := 12) (as := []) (r := e_M288) (by decide +kernel) rfl rfl rfl (by decide +kernel) rc288 (by decide) rfl rfl (by decide) (Nat.le_of_ble_eq_true rfl) rfl hcl hcat h1
set_option maxRecDepth 20000 in
theorem s999_1134 {X : Nat × (Nat → Int32)} {d n k : Nat} {f : Nat → e_C} {Q : t_Q} {lv st : List Value} {x y : Int32} : TT X d 999 1134 lv (.int y :: .int x :: st) f n k Q = if x = y then TT X d 999 1395 lv st f n k Q else TT X d 999 1137 lv st f n k Q := tt_if2 (c := .eq) (off := 261) (by decide +kernel) rfl rfl
set_option maxRecDepth 20000 in
theorem s999_1137 {X : Nat × (Nat → Int32)} {d n k : Nat} {f : Nat → e_C} {Q : t_Q} {lv st : List Value} : TT X d 999 1137 lv st f n k Q = TT X d 999 1138 lv (.int 0 :: st) f n k Q := tt_st (i := .iconst 0) (len := 1) (by decide +kernel) rfl rfl
set_option maxRecDepth 20000 in
theorem s999_1138 {X : Nat × (Nat → Int32)} {d n k : Nat} {f : Nat → e_C} {Q : t_Q} {lv : List Value} {v : Int32} : TT X d 999 1138 lv [.int v] f n k Q = ((v = 0 ∨ v = 1) ∧ Q f n k (some (.int v))) := tt_reB (by decide +kernel) (by decide +kernel)
set_option maxRecDepth 20000 in
theorem s999_1139 {X : Nat × (Nat → Int32)} {d n k : Nat} {f : Nat → e_C} {Q : t_Q} {a0 a2 a3 : Value} {st : List Value} {x : Nat} : TT X d 999 1139 [a0, .ref x, a2, a3] st f n k Q = TT X d 999 1140 [a0, .ref x, a2, a3] (.ref x :: st) f n k Q := tt_st (i := .aload_n 1) (len := 1) (by decide +kernel) rfl rfl
set_option maxRecDepth 20000 in
theorem s999_1140 {X : Nat × (Nat → Int32)} {d n k : Nat} {f : Nat → e_C} {Q : t_Q} {a1 a2 a3 : Value} {st : List Value} {x : Nat} : TT X d 999 1140 [.ref x, a1, a2, a3] st f n k Q = TT X d 999 1141 [.ref x, a1, a2, a3] (.ref x :: st) f n k Q := tt_st (i := .aload_n 0) (len := 1) (by decide +kernel) rfl rfl
set_option maxRecDepth 20000 in
theorem s999_1141 {X : Nat × (Nat → Int32)} {d n k : Nat} {f : Nat → e_C} {Q : t_Q} {a0 a1 a2 : Value} {st : List Value} {x : Int32} : TT X d 999 1141 [a0, a1, a2, .int x] st f n k Q = TT X d 999 1142 [a0, a1, a2, .int x] (.int x :: st) f n k Q := tt_st (i := .iload_n 3) (len := 1) (by decide +kernel) rfl rfl
set_option maxRecDepth 20000 in
theorem s999_1142 {X : Nat × (Nat → Int32)} {d n k : Nat} {f : Nat → e_C} {Q : t_Q} {lv st : List Value} : TT X d 999 1142 lv st f n k Q = TT X d 999 1143 lv (.int 1 :: st) f n k Q := tt_st (i := .iconst 1) (len := 1) (by decide +kernel) rfl rfl
set_option maxRecDepth 20000 in
theorem s999_1143 {X : Nat × (Nat → Int32)} {d n k : Nat} {f : Nat → e_C} {Q : t_Q} {lv st : List Value} {x y : Int32} : TT X d 999 1143 lv (.int y :: .int x :: st) f n k Q = TT X d 999 1144 lv (.int (x + y) :: st) f n k Q := tt_st (i := .iadd) (len := 1) (by decide +kernel) rfl rfl
set_option maxRecDepth 20000 in
theorem s999_1144 {X : Nat × (Nat → Int32)} {d n k : Nat} {f : Nat → e_C} {Q : t_Q} {lv st : List Value} {a : Nat} {i : Int32} : TT X d 999 1144 lv (.int i :: .ref a :: st) f n k Q = ow (arI (f a)) (fun q => e_in i q.1 = true ∧ TT X d 999 1145 lv (.int (q.2 i.toNatClampNeg) :: st) f n k Q) := tt_iald (by decide +kernel)
set_option maxRecDepth 20000 in
theorem k999_1145 {X : Nat × (Nat → Int32)} {d n k : Nat} {f : Nat → e_C} {Q : t_Q} {lv rest : List Value} {a : Nat} {x0 : Int32} (hcl : cno (f a) = some 11) (hcat : e_cat rest ≤ 8) {Q1 : t_Q} (h1 : TT X d 160 0 [.ref a, .int x0, .float 0, .float 0, .float 0, .float 0, .float 0] [] f n k Q1) (h2 : ∀ f' n' k' v, Q1 f' n' k' v → TT X (d + 1) 999 1148 lv (v.toList ++ rest) f' n' k' Q) : TT X (d + 1) 999 1145 lv (.int x0 :: .ref a :: rest) f n k Q := tt_cV (i := .invokevirtual 166) (kind := 1) (idx := 166) (ci := 11) (as := [.int x0]) (r := e_M160) (by decide +kernel) rfl rfl rfl (by decide +kernel) rc160 (by decide) rfl rfl (by decide) (Nat.le_of_ble_eq_true rfl) rfl hcl hcat h1 h2
set_option maxRecDepth 20000 in
theorem p999_1145 {X : Nat × (Nat → Int32)} {d n k : Nat} {f : Nat → e_C} {Q : t_Q} {lv rest : List Value} {a : Nat} {x0 : Int32} (hcl : cno (f a) = some 11) (hcat : e_cat rest ≤ 8) {v : Option Value} (h1 : PU X d 160 [.ref a, .int x0, .float 0, .float 0, .float 0, .float 0, .float 0] f n k v) : TT X (d + 1) 999 1145 lv (.int x0 :: .ref a :: rest) f n k Q = TT X (d + 1) 999 1148 lv (v.toList ++ rest) f n k Q := tt_pV (i := .invokevirtual 166) (kind := 1) (idx := 166) (ci := 11) (as := [.int x0]) (r := e_M160) (by decide +kernel) rfl rfl rfl (by decide +kernel) rc160 (by decide) rfl rfl (by decide) (Nat.le_of_ble_eq_true rfl) rfl hcl hcat h1
set_option maxRecDepth 20000 in
theorem s999_1148 {X : Nat × (Nat → Int32)} {d n k : Nat} {f : Nat → e_C} {Q : t_Q} {a0 a1 a3 : Value} {st : List Value} {x : Nat} : TT X d 999 1148 [a0, a1, .ref x, a3] st f n k Q = TT X d 999 1149 [a0, a1, .ref x, a3] (.ref x :: st) f n k Q := tt_st (i := .aload_n 2) (len := 1) (by decide +kernel) rfl rfl
set_option maxRecDepth 20000 in
theorem s999_1149 {X : Nat × (Nat → Int32)} {d n k : Nat} {f : Nat → e_C} {Q : t_Q} {a1 a2 a3 : Value} {st : List Value} {x : Nat} : TT X d 999 1149 [.ref x, a1, a2, a3] st f n k Q = TT X d 999 1150 [.ref x, a1, a2, a3] (.ref x :: st) f n k Q := tt_st (i := .aload_n 0) (len := 1) (by decide +kernel) rfl rfl
set_option maxRecDepth 20000 in
theorem s999_1150 {X : Nat × (Nat → Int32)} {d n k : Nat} {f : Nat → e_C} {Q : t_Q} {a0 a1 a2 : Value} {st : List Value} {x : Int32} : TT X d 999 1150 [a0, a1, a2, .int x] st f n k Q = TT X d 999 1151 [a0, a1, a2, .int x] (.int x :: st) f n k Q := tt_st (i := .iload_n 3) (len := 1) (by decide +kernel) rfl rfl
set_option maxRecDepth 20000 in
theorem s999_1151 {X : Nat × (Nat → Int32)} {d n k : Nat} {f : Nat → e_C} {Q : t_Q} {lv st : List Value} : TT X d 999 1151 lv st f n k Q = TT X d 999 1152 lv (.int 1 :: st) f n k Q := tt_st (i := .iconst 1) (len := 1) (by decide +kernel) rfl rfl
set_option maxRecDepth 20000 in
theorem s999_1152 {X : Nat × (Nat → Int32)} {d n k : Nat} {f : Nat → e_C} {Q : t_Q} {lv st : List Value} {x y : Int32} : TT X d 999 1152 lv (.int y :: .int x :: st) f n k Q = TT X d 999 1153 lv (.int (x + y) :: st) f n k Q := tt_st (i := .iadd) (len := 1) (by decide +kernel) rfl rfl
set_option maxRecDepth 20000 in
theorem s999_1153 {X : Nat × (Nat → Int32)} {d n k : Nat} {f : Nat → e_C} {Q : t_Q} {lv st : List Value} {a : Nat} {i : Int32} : TT X d 999 1153 lv (.int i :: .ref a :: st) f n k Q = ow (arI (f a)) (fun q => e_in i q.1 = true ∧ TT X d 999 1154 lv (.int (q.2 i.toNatClampNeg) :: st) f n k Q) := tt_iald (by decide +kernel)
set_option maxRecDepth 20000 in
theorem k999_1154 {X : Nat × (Nat → Int32)} {d n k : Nat} {f : Nat → e_C} {Q : t_Q} {lv rest : List Value} {a : Nat} {x0 : Int32} (hcl : cno (f a) = some 12) (hcat : e_cat rest ≤ 8) {Q1 : t_Q} (h1 : TT X d 289 0 [.ref a, .int x0, .float 0, .float 0, .float 0, .float 0, .float 0, .float 0] [] f n k Q1) (h2 : ∀ f' n' k' v, Q1 f' n' k' v → TT X (d + 1) 999 1157 lv (v.toList ++ rest) f' n' k' Q) : TT X (d + 1) 999 1154 lv (.int x0 :: .ref a :: rest) f n k Q := tt_cV (i := .invokevirtual 170) (kind := 1) (idx := 170) (ci := 12) (as := [.int x0]) (r := e_M289) (by decide +kernel) rfl rfl rfl (by decide +kernel) rc289 (by decide) rfl rfl (by decide) (Nat.le_of_ble_eq_true rfl) rfl hcl hcat h1 h2
set_option maxRecDepth 20000 in
theorem p999_1154 {X : Nat × (Nat → Int32)} {d n k : Nat} {f : Nat → e_C} {Q : t_Q} {lv rest : List Value} {a : Nat} {x0 : Int32} (hcl : cno (f a) = some 12) (hcat : e_cat rest ≤ 8) {v : Option Value} (h1 : PU X d 289 [.ref a, .int x0, .float 0, .float 0, .float 0, .float 0, .float 0, .float 0] f n k v) : TT X (d + 1) 999 1154 lv (.int x0 :: .ref a :: rest) f n k Q = TT X (d + 1) 999 1157 lv (v.toList ++ rest) f n k Q := tt_pV (i := .invokevirtual 170) (kind := 1) (idx := 170) (ci := 12) (as := [.int x0]) (r := e_M289) (by decide +kernel) rfl rfl rfl (by decide +kernel) rc289 (by decide) rfl rfl (by decide) (Nat.le_of_ble_eq_true rfl) rfl hcl hcat h1
set_option maxRecDepth 20000 in
theorem s999_1157 {X : Nat × (Nat → Int32)} {d n k : Nat} {f : Nat → e_C} {Q : t_Q} {lv st : List Value} {x y : Int64} : TT X d 999 1157 lv (.long y :: .long x :: st) f n k Q = TT X d 999 1158 lv (.int (lg_cmp x y) :: st) f n k Q := tt_st (i := .lcmp) (len := 1) (by decide +kernel) rfl rfl
set_option maxRecDepth 20000 in
theorem s999_1158 {X : Nat × (Nat → Int32)} {d n k : Nat} {f : Nat → e_C} {Q : t_Q} {lv st : List Value} {x : Int32} : TT X d 999 1158 lv (.int x :: st) f n k Q = if x = 0 then TT X d 999 1395 lv st f n k Q else TT X d 999 1161 lv st f n k Q := tt_if0 (c := .eq) (off := 237) (by decide +kernel) rfl rfl
set_option maxRecDepth 20000 in
theorem s999_1161 {X : Nat × (Nat → Int32)} {d n k : Nat} {f : Nat → e_C} {Q : t_Q} {lv st : List Value} : TT X d 999 1161 lv st f n k Q = TT X d 999 1162 lv (.int 0 :: st) f n k Q := tt_st (i := .iconst 0) (len := 1) (by decide +kernel) rfl rfl
set_option maxRecDepth 20000 in
theorem s999_1162 {X : Nat × (Nat → Int32)} {d n k : Nat} {f : Nat → e_C} {Q : t_Q} {lv : List Value} {v : Int32} : TT X d 999 1162 lv [.int v] f n k Q = ((v = 0 ∨ v = 1) ∧ Q f n k (some (.int v))) := tt_reB (by decide +kernel) (by decide +kernel)
set_option maxRecDepth 20000 in
theorem s999_1163 {X : Nat × (Nat → Int32)} {d n k : Nat} {f : Nat → e_C} {Q : t_Q} {a0 a2 a3 : Value} {st : List Value} {x : Nat} : TT X d 999 1163 [a0, .ref x, a2, a3] st f n k Q = TT X d 999 1164 [a0, .ref x, a2, a3] (.ref x :: st) f n k Q := tt_st (i := .aload_n 1) (len := 1) (by decide +kernel) rfl rfl
set_option maxRecDepth 20000 in
theorem s999_1164 {X : Nat × (Nat → Int32)} {d n k : Nat} {f : Nat → e_C} {Q : t_Q} {a1 a2 a3 : Value} {st : List Value} {x : Nat} : TT X d 999 1164 [.ref x, a1, a2, a3] st f n k Q = TT X d 999 1165 [.ref x, a1, a2, a3] (.ref x :: st) f n k Q := tt_st (i := .aload_n 0) (len := 1) (by decide +kernel) rfl rfl
set_option maxRecDepth 20000 in
theorem s999_1165 {X : Nat × (Nat → Int32)} {d n k : Nat} {f : Nat → e_C} {Q : t_Q} {a0 a1 a2 : Value} {st : List Value} {x : Int32} : TT X d 999 1165 [a0, a1, a2, .int x] st f n k Q = TT X d 999 1166 [a0, a1, a2, .int x] (.int x :: st) f n k Q := tt_st (i := .iload_n 3) (len := 1) (by decide +kernel) rfl rfl
set_option maxRecDepth 20000 in
theorem s999_1166 {X : Nat × (Nat → Int32)} {d n k : Nat} {f : Nat → e_C} {Q : t_Q} {lv st : List Value} : TT X d 999 1166 lv st f n k Q = TT X d 999 1167 lv (.int 1 :: st) f n k Q := tt_st (i := .iconst 1) (len := 1) (by decide +kernel) rfl rfl
set_option maxRecDepth 20000 in
theorem s999_1167 {X : Nat × (Nat → Int32)} {d n k : Nat} {f : Nat → e_C} {Q : t_Q} {lv st : List Value} {x y : Int32} : TT X d 999 1167 lv (.int y :: .int x :: st) f n k Q = TT X d 999 1168 lv (.int (x + y) :: st) f n k Q := tt_st (i := .iadd) (len := 1) (by decide +kernel) rfl rfl
set_option maxRecDepth 20000 in
theorem s999_1168 {X : Nat × (Nat → Int32)} {d n k : Nat} {f : Nat → e_C} {Q : t_Q} {lv st : List Value} {a : Nat} {i : Int32} : TT X d 999 1168 lv (.int i :: .ref a :: st) f n k Q = ow (arI (f a)) (fun q => e_in i q.1 = true ∧ TT X d 999 1169 lv (.int (q.2 i.toNatClampNeg) :: st) f n k Q) := tt_iald (by decide +kernel)
set_option maxRecDepth 20000 in
theorem k999_1169 {X : Nat × (Nat → Int32)} {d n k : Nat} {f : Nat → e_C} {Q : t_Q} {lv rest : List Value} {a : Nat} {x0 : Int32} (hcl : cno (f a) = some 11) (hcat : e_cat rest ≤ 8) {Q1 : t_Q} (h1 : TT X d 161 0 [.ref a, .int x0, .float 0] [] f n k Q1) (h2 : ∀ f' n' k' v, Q1 f' n' k' v → TT X (d + 1) 999 1172 lv (v.toList ++ rest) f' n' k' Q) : TT X (d + 1) 999 1169 lv (.int x0 :: .ref a :: rest) f n k Q := tt_cV (i := .invokevirtual 171) (kind := 1) (idx := 171) (ci := 11) (as := [.int x0]) (r := e_M161) (by decide +kernel) rfl rfl rfl (by decide +kernel) rc161 (by decide) rfl rfl (by decide) (Nat.le_of_ble_eq_true rfl) rfl hcl hcat h1 h2
set_option maxRecDepth 20000 in
theorem p999_1169 {X : Nat × (Nat → Int32)} {d n k : Nat} {f : Nat → e_C} {Q : t_Q} {lv rest : List Value} {a : Nat} {x0 : Int32} (hcl : cno (f a) = some 11) (hcat : e_cat rest ≤ 8) {v : Option Value} (h1 : PU X d 161 [.ref a, .int x0, .float 0] f n k v) : TT X (d + 1) 999 1169 lv (.int x0 :: .ref a :: rest) f n k Q = TT X (d + 1) 999 1172 lv (v.toList ++ rest) f n k Q := tt_pV (i := .invokevirtual 171) (kind := 1) (idx := 171) (ci := 11) (as := [.int x0]) (r := e_M161) (by decide +kernel) rfl rfl rfl (by decide +kernel) rc161 (by decide) rfl rfl (by decide) (Nat.le_of_ble_eq_true rfl) rfl hcl hcat h1
set_option maxRecDepth 20000 in
theorem s999_1172 {X : Nat × (Nat → Int32)} {d n k : Nat} {f : Nat → e_C} {Q : t_Q} {a0 a1 a3 : Value} {st : List Value} {x : Nat} : TT X d 999 1172 [a0, a1, .ref x, a3] st f n k Q = TT X d 999 1173 [a0, a1, .ref x, a3] (.ref x :: st) f n k Q := tt_st (i := .aload_n 2) (len := 1) (by decide +kernel) rfl rfl
set_option maxRecDepth 20000 in
theorem s999_1173 {X : Nat × (Nat → Int32)} {d n k : Nat} {f : Nat → e_C} {Q : t_Q} {a1 a2 a3 : Value} {st : List Value} {x : Nat} : TT X d 999 1173 [.ref x, a1, a2, a3] st f n k Q = TT X d 999 1174 [.ref x, a1, a2, a3] (.ref x :: st) f n k Q := tt_st (i := .aload_n 0) (len := 1) (by decide +kernel) rfl rfl
set_option maxRecDepth 20000 in
theorem s999_1174 {X : Nat × (Nat → Int32)} {d n k : Nat} {f : Nat → e_C} {Q : t_Q} {a0 a1 a2 : Value} {st : List Value} {x : Int32} : TT X d 999 1174 [a0, a1, a2, .int x] st f n k Q = TT X d 999 1175 [a0, a1, a2, .int x] (.int x :: st) f n k Q := tt_st (i := .iload_n 3) (len := 1) (by decide +kernel) rfl rfl
set_option maxRecDepth 20000 in
theorem s999_1175 {X : Nat × (Nat → Int32)} {d n k : Nat} {f : Nat → e_C} {Q : t_Q} {lv st : List Value} : TT X d 999 1175 lv st f n k Q = TT X d 999 1176 lv (.int 1 :: st) f n k Q := tt_st (i := .iconst 1) (len := 1) (by decide +kernel) rfl rfl
set_option maxRecDepth 20000 in
theorem s999_1176 {X : Nat × (Nat → Int32)} {d n k : Nat} {f : Nat → e_C} {Q : t_Q} {lv st : List Value} {x y : Int32} : TT X d 999 1176 lv (.int y :: .int x :: st) f n k Q = TT X d 999 1177 lv (.int (x + y) :: st) f n k Q := tt_st (i := .iadd) (len := 1) (by decide +kernel) rfl rfl
set_option maxRecDepth 20000 in
theorem s999_1177 {X : Nat × (Nat → Int32)} {d n k : Nat} {f : Nat → e_C} {Q : t_Q} {lv st : List Value} {a : Nat} {i : Int32} : TT X d 999 1177 lv (.int i :: .ref a :: st) f n k Q = ow (arI (f a)) (fun q => e_in i q.1 = true ∧ TT X d 999 1178 lv (.int (q.2 i.toNatClampNeg) :: st) f n k Q) := tt_iald (by decide +kernel)
set_option maxRecDepth 20000 in
theorem k999_1178 {X : Nat × (Nat → Int32)} {d n k : Nat} {f : Nat → e_C} {Q : t_Q} {lv rest : List Value} {a : Nat} {x0 : Int32} (hcl : cno (f a) = some 12) (hcat : e_cat rest ≤ 8) {Q1 : t_Q} (h1 : TT X d 292 0 [.ref a, .int x0, .float 0, .float 0, .float 0, .float 0, .float 0, .float 0] [] f n k Q1) (h2 : ∀ f' n' k' v, Q1 f' n' k' v → TT X (d + 1) 999 1181 lv (v.toList ++ rest) f' n' k' Q) : TT X (d + 1) 999 1178 lv (.int x0 :: .ref a :: rest) f n k Q := tt_cV (i := .invokevirtual 174) (kind := 1) (idx := 174) (ci := 12) (as := [.int x0]) (r := e_M292) (by decide +kernel) rfl rfl rfl (by decide +kernel) rc292 (by decide) rfl rfl (by decide) (Nat.le_of_ble_eq_true rfl) rfl hcl hcat h1 h2
set_option maxRecDepth 20000 in
theorem p999_1178 {X : Nat × (Nat → Int32)} {d n k : Nat} {f : Nat → e_C} {Q : t_Q} {lv rest : List Value} {a : Nat} {x0 : Int32} (hcl : cno (f a) = some 12) (hcat : e_cat rest ≤ 8) {v : Option Value} (h1 : PU X d 292 [.ref a, .int x0, .float 0, .float 0, .float 0, .float 0, .float 0, .float 0] f n k v) : TT X (d + 1) 999 1178 lv (.int x0 :: .ref a :: rest) f n k Q = TT X (d + 1) 999 1181 lv (v.toList ++ rest) f n k Q := tt_pV (i := .invokevirtual 174) (kind := 1) (idx := 174) (ci := 12) (as := [.int x0]) (r := e_M292) (by decide +kernel) rfl rfl rfl (by decide +kernel) rc292 (by decide) rfl rfl (by decide) (Nat.le_of_ble_eq_true rfl) rfl hcl hcat h1
set_option maxRecDepth 20000 in
theorem s999_1181 {X : Nat × (Nat → Int32)} {d n k : Nat} {f : Nat → e_C} {Q : t_Q} {lv st : List Value} {x y : Int32} : TT X d 999 1181 lv (.int y :: .int x :: st) f n k Q = if x = y then TT X d 999 1395 lv st f n k Q else TT X d 999 1184 lv st f n k Q := tt_if2 (c := .eq) (off := 214) (by decide +kernel) rfl rfl
set_option maxRecDepth 20000 in
theorem s999_1184 {X : Nat × (Nat → Int32)} {d n k : Nat} {f : Nat → e_C} {Q : t_Q} {lv st : List Value} : TT X d 999 1184 lv st f n k Q = TT X d 999 1185 lv (.int 0 :: st) f n k Q := tt_st (i := .iconst 0) (len := 1) (by decide +kernel) rfl rfl
set_option maxRecDepth 20000 in
theorem s999_1185 {X : Nat × (Nat → Int32)} {d n k : Nat} {f : Nat → e_C} {Q : t_Q} {lv : List Value} {v : Int32} : TT X d 999 1185 lv [.int v] f n k Q = ((v = 0 ∨ v = 1) ∧ Q f n k (some (.int v))) := tt_reB (by decide +kernel) (by decide +kernel)
set_option maxRecDepth 20000 in
theorem s999_1186 {X : Nat × (Nat → Int32)} {d n k : Nat} {f : Nat → e_C} {Q : t_Q} {a0 a2 a3 : Value} {st : List Value} {x : Nat} : TT X d 999 1186 [a0, .ref x, a2, a3] st f n k Q = TT X d 999 1187 [a0, .ref x, a2, a3] (.ref x :: st) f n k Q := tt_st (i := .aload_n 1) (len := 1) (by decide +kernel) rfl rfl
set_option maxRecDepth 20000 in
theorem s999_1187 {X : Nat × (Nat → Int32)} {d n k : Nat} {f : Nat → e_C} {Q : t_Q} {a1 a2 a3 : Value} {st : List Value} {x : Nat} : TT X d 999 1187 [.ref x, a1, a2, a3] st f n k Q = TT X d 999 1188 [.ref x, a1, a2, a3] (.ref x :: st) f n k Q := tt_st (i := .aload_n 0) (len := 1) (by decide +kernel) rfl rfl
set_option maxRecDepth 20000 in
theorem s999_1188 {X : Nat × (Nat → Int32)} {d n k : Nat} {f : Nat → e_C} {Q : t_Q} {a0 a1 a2 : Value} {st : List Value} {x : Int32} : TT X d 999 1188 [a0, a1, a2, .int x] st f n k Q = TT X d 999 1189 [a0, a1, a2, .int x] (.int x :: st) f n k Q := tt_st (i := .iload_n 3) (len := 1) (by decide +kernel) rfl rfl
set_option maxRecDepth 20000 in
theorem s999_1189 {X : Nat × (Nat → Int32)} {d n k : Nat} {f : Nat → e_C} {Q : t_Q} {lv st : List Value} : TT X d 999 1189 lv st f n k Q = TT X d 999 1190 lv (.int 1 :: st) f n k Q := tt_st (i := .iconst 1) (len := 1) (by decide +kernel) rfl rfl
set_option maxRecDepth 20000 in
theorem s999_1190 {X : Nat × (Nat → Int32)} {d n k : Nat} {f : Nat → e_C} {Q : t_Q} {lv st : List Value} {x y : Int32} : TT X d 999 1190 lv (.int y :: .int x :: st) f n k Q = TT X d 999 1191 lv (.int (x + y) :: st) f n k Q := tt_st (i := .iadd) (len := 1) (by decide +kernel) rfl rfl
set_option maxRecDepth 20000 in
theorem s999_1191 {X : Nat × (Nat → Int32)} {d n k : Nat} {f : Nat → e_C} {Q : t_Q} {lv st : List Value} {a : Nat} {i : Int32} : TT X d 999 1191 lv (.int i :: .ref a :: st) f n k Q = ow (arI (f a)) (fun q => e_in i q.1 = true ∧ TT X d 999 1192 lv (.int (q.2 i.toNatClampNeg) :: st) f n k Q) := tt_iald (by decide +kernel)
set_option maxRecDepth 20000 in
theorem s999_1192 {X : Nat × (Nat → Int32)} {d n k : Nat} {f : Nat → e_C} {Q : t_Q} {a1 a2 a3 : Value} {st : List Value} {x : Nat} : TT X d 999 1192 [.ref x, a1, a2, a3] st f n k Q = TT X d 999 1193 [.ref x, a1, a2, a3] (.ref x :: st) f n k Q := tt_st (i := .aload_n 0) (len := 1) (by decide +kernel) rfl rfl
set_option maxRecDepth 20000 in
theorem s999_1193 {X : Nat × (Nat → Int32)} {d n k : Nat} {f : Nat → e_C} {Q : t_Q} {a0 a1 a2 : Value} {st : List Value} {x : Int32} : TT X d 999 1193 [a0, a1, a2, .int x] st f n k Q = TT X d 999 1194 [a0, a1, a2, .int x] (.int x :: st) f n k Q := tt_st (i := .iload_n 3) (len := 1) (by decide +kernel) rfl rfl
set_option maxRecDepth 20000 in
theorem s999_1194 {X : Nat × (Nat → Int32)} {d n k : Nat} {f : Nat → e_C} {Q : t_Q} {lv st : List Value} : TT X d 999 1194 lv st f n k Q = TT X d 999 1195 lv (.int 2 :: st) f n k Q := tt_st (i := .iconst 2) (len := 1) (by decide +kernel) rfl rfl
set_option maxRecDepth 20000 in
theorem s999_1195 {X : Nat × (Nat → Int32)} {d n k : Nat} {f : Nat → e_C} {Q : t_Q} {lv st : List Value} {x y : Int32} : TT X d 999 1195 lv (.int y :: .int x :: st) f n k Q = TT X d 999 1196 lv (.int (x + y) :: st) f n k Q := tt_st (i := .iadd) (len := 1) (by decide +kernel) rfl rfl
set_option maxRecDepth 20000 in
theorem s999_1196 {X : Nat × (Nat → Int32)} {d n k : Nat} {f : Nat → e_C} {Q : t_Q} {lv st : List Value} {a : Nat} {i : Int32} : TT X d 999 1196 lv (.int i :: .ref a :: st) f n k Q = ow (arI (f a)) (fun q => e_in i q.1 = true ∧ TT X d 999 1197 lv (.int (q.2 i.toNatClampNeg) :: st) f n k Q) := tt_iald (by decide +kernel)
set_option maxRecDepth 20000 in
theorem s999_1197 {X : Nat × (Nat → Int32)} {d n k : Nat} {f : Nat → e_C} {Q : t_Q} {a1 a2 a3 : Value} {st : List Value} {x : Nat} : TT X d 999 1197 [.ref x, a1, a2, a3] st f n k Q = TT X d 999 1198 [.ref x, a1, a2, a3] (.ref x :: st) f n k Q := tt_st (i := .aload_n 0) (len := 1) (by decide +kernel) rfl rfl
set_option maxRecDepth 20000 in
theorem s999_1198 {X : Nat × (Nat → Int32)} {d n k : Nat} {f : Nat → e_C} {Q : t_Q} {a0 a1 a2 : Value} {st : List Value} {x : Int32} : TT X d 999 1198 [a0, a1, a2, .int x] st f n k Q = TT X d 999 1199 [a0, a1, a2, .int x] (.int x :: st) f n k Q := tt_st (i := .iload_n 3) (len := 1) (by decide +kernel) rfl rfl
set_option maxRecDepth 20000 in
theorem s999_1199 {X : Nat × (Nat → Int32)} {d n k : Nat} {f : Nat → e_C} {Q : t_Q} {lv st : List Value} : TT X d 999 1199 lv st f n k Q = TT X d 999 1200 lv (.int 3 :: st) f n k Q := tt_st (i := .iconst 3) (len := 1) (by decide +kernel) rfl rfl
set_option maxRecDepth 20000 in
theorem s999_1200 {X : Nat × (Nat → Int32)} {d n k : Nat} {f : Nat → e_C} {Q : t_Q} {lv st : List Value} {x y : Int32} : TT X d 999 1200 lv (.int y :: .int x :: st) f n k Q = TT X d 999 1201 lv (.int (x + y) :: st) f n k Q := tt_st (i := .iadd) (len := 1) (by decide +kernel) rfl rfl
set_option maxRecDepth 20000 in
theorem s999_1201 {X : Nat × (Nat → Int32)} {d n k : Nat} {f : Nat → e_C} {Q : t_Q} {lv st : List Value} {a : Nat} {i : Int32} : TT X d 999 1201 lv (.int i :: .ref a :: st) f n k Q = ow (arI (f a)) (fun q => e_in i q.1 = true ∧ TT X d 999 1202 lv (.int (q.2 i.toNatClampNeg) :: st) f n k Q) := tt_iald (by decide +kernel)
set_option maxRecDepth 20000 in
theorem k999_1202 {X : Nat × (Nat → Int32)} {d n k : Nat} {f : Nat → e_C} {Q : t_Q} {lv rest : List Value} {a : Nat} {x0 : Int32} {x1 : Int32} {x2 : Int32} (hcl : cno (f a) = some 11) (hcat : e_cat rest ≤ 8) {Q1 : t_Q} (h1 : TT X d 162 0 [.ref a, .int x0, .int x1, .int x2] [] f n k Q1) (h2 : ∀ f' n' k' v, Q1 f' n' k' v → TT X (d + 1) 999 1205 lv (v.toList ++ rest) f' n' k' Q) : TT X (d + 1) 999 1202 lv (.int x2 :: .int x1 :: .int x0 :: .ref a :: rest) f n k Q := tt_cV (i := .invokevirtual 175) (kind := 1) (idx := 175) (ci := 11) (as := [.int x0, .int x1, .int x2]) (r := e_M162) (by decide +kernel) rfl rfl rfl (by decide +kernel) rc162 (by decide) rfl rfl (by decide) (Nat.le_of_ble_eq_true rfl) rfl hcl hcat h1 h2
set_option maxRecDepth 20000 in
theorem p999_1202 {X : Nat × (Nat → Int32)} {d n k : Nat} {f : Nat → e_C} {Q : t_Q} {lv rest : List Value} {a : Nat} {x0 : Int32} {x1 : Int32} {x2 : Int32} (hcl : cno (f a) = some 11) (hcat : e_cat rest ≤ 8) {v : Option Value} (h1 : PU X d 162 [.ref a, .int x0, .int x1, .int x2] f n k v) : TT X (d + 1) 999 1202 lv (.int x2 :: .int x1 :: .int x0 :: .ref a :: rest) f n k Q = TT X (d + 1) 999 1205 lv (v.toList ++ rest) f n k Q := tt_pV (i := .invokevirtual 175) (kind := 1) (idx := 175) (ci := 11) (as := [.int x0, .int x1, .int x2]) (r := e_M162) (by decide +kernel) rfl rfl rfl (by decide +kernel) rc162 (by decide) rfl rfl (by decide) (Nat.le_of_ble_eq_true rfl) rfl hcl hcat h1
set_option maxRecDepth 20000 in
theorem s999_1205 {X : Nat × (Nat → Int32)} {d n k : Nat} {f : Nat → e_C} {Q : t_Q} {a0 a1 a3 : Value} {st : List Value} {x : Nat} : TT X d 999 1205 [a0, a1, .ref x, a3] st f n k Q = TT X d 999 1206 [a0, a1, .ref x, a3] (.ref x :: st) f n k Q := tt_st (i := .aload_n 2) (len := 1) (by decide +kernel) rfl rfl
set_option maxRecDepth 20000 in
theorem s999_1206 {X : Nat × (Nat → Int32)} {d n k : Nat} {f : Nat → e_C} {Q : t_Q} {a1 a2 a3 : Value} {st : List Value} {x : Nat} : TT X d 999 1206 [.ref x, a1, a2, a3] st f n k Q = TT X d 999 1207 [.ref x, a1, a2, a3] (.ref x :: st) f n k Q := tt_st (i := .aload_n 0) (len := 1) (by decide +kernel) rfl rfl
set_option maxRecDepth 20000 in
theorem s999_1207 {X : Nat × (Nat → Int32)} {d n k : Nat} {f : Nat → e_C} {Q : t_Q} {a0 a1 a2 : Value} {st : List Value} {x : Int32} : TT X d 999 1207 [a0, a1, a2, .int x] st f n k Q = TT X d 999 1208 [a0, a1, a2, .int x] (.int x :: st) f n k Q := tt_st (i := .iload_n 3) (len := 1) (by decide +kernel) rfl rfl
set_option maxRecDepth 20000 in
theorem s999_1208 {X : Nat × (Nat → Int32)} {d n k : Nat} {f : Nat → e_C} {Q : t_Q} {lv st : List Value} : TT X d 999 1208 lv st f n k Q = TT X d 999 1209 lv (.int 1 :: st) f n k Q := tt_st (i := .iconst 1) (len := 1) (by decide +kernel) rfl rfl
set_option maxRecDepth 20000 in
theorem s999_1209 {X : Nat × (Nat → Int32)} {d n k : Nat} {f : Nat → e_C} {Q : t_Q} {lv st : List Value} {x y : Int32} : TT X d 999 1209 lv (.int y :: .int x :: st) f n k Q = TT X d 999 1210 lv (.int (x + y) :: st) f n k Q := tt_st (i := .iadd) (len := 1) (by decide +kernel) rfl rfl
set_option maxRecDepth 20000 in
theorem s999_1210 {X : Nat × (Nat → Int32)} {d n k : Nat} {f : Nat → e_C} {Q : t_Q} {lv st : List Value} {a : Nat} {i : Int32} : TT X d 999 1210 lv (.int i :: .ref a :: st) f n k Q = ow (arI (f a)) (fun q => e_in i q.1 = true ∧ TT X d 999 1211 lv (.int (q.2 i.toNatClampNeg) :: st) f n k Q) := tt_iald (by decide +kernel)
set_option maxRecDepth 20000 in
theorem s999_1211 {X : Nat × (Nat → Int32)} {d n k : Nat} {f : Nat → e_C} {Q : t_Q} {a1 a2 a3 : Value} {st : List Value} {x : Nat} : TT X d 999 1211 [.ref x, a1, a2, a3] st f n k Q = TT X d 999 1212 [.ref x, a1, a2, a3] (.ref x :: st) f n k Q := tt_st (i := .aload_n 0) (len := 1) (by decide +kernel) rfl rfl
set_option maxRecDepth 20000 in
theorem s999_1212 {X : Nat × (Nat → Int32)} {d n k : Nat} {f : Nat → e_C} {Q : t_Q} {a0 a1 a2 : Value} {st : List Value} {x : Int32} : TT X d 999 1212 [a0, a1, a2, .int x] st f n k Q = TT X d 999 1213 [a0, a1, a2, .int x] (.int x :: st) f n k Q := tt_st (i := .iload_n 3) (len := 1) (by decide +kernel) rfl rfl
set_option maxRecDepth 20000 in
theorem s999_1213 {X : Nat × (Nat → Int32)} {d n k : Nat} {f : Nat → e_C} {Q : t_Q} {lv st : List Value} : TT X d 999 1213 lv st f n k Q = TT X d 999 1214 lv (.int 2 :: st) f n k Q := tt_st (i := .iconst 2) (len := 1) (by decide +kernel) rfl rfl
set_option maxRecDepth 20000 in
theorem s999_1214 {X : Nat × (Nat → Int32)} {d n k : Nat} {f : Nat → e_C} {Q : t_Q} {lv st : List Value} {x y : Int32} : TT X d 999 1214 lv (.int y :: .int x :: st) f n k Q = TT X d 999 1215 lv (.int (x + y) :: st) f n k Q := tt_st (i := .iadd) (len := 1) (by decide +kernel) rfl rfl
set_option maxRecDepth 20000 in
theorem s999_1215 {X : Nat × (Nat → Int32)} {d n k : Nat} {f : Nat → e_C} {Q : t_Q} {lv st : List Value} {a : Nat} {i : Int32} : TT X d 999 1215 lv (.int i :: .ref a :: st) f n k Q = ow (arI (f a)) (fun q => e_in i q.1 = true ∧ TT X d 999 1216 lv (.int (q.2 i.toNatClampNeg) :: st) f n k Q) := tt_iald (by decide +kernel)
set_option maxRecDepth 20000 in
theorem s999_1216 {X : Nat × (Nat → Int32)} {d n k : Nat} {f : Nat → e_C} {Q : t_Q} {a1 a2 a3 : Value} {st : List Value} {x : Nat} : TT X d 999 1216 [.ref x, a1, a2, a3] st f n k Q = TT X d 999 1217 [.ref x, a1, a2, a3] (.ref x :: st) f n k Q := tt_st (i := .aload_n 0) (len := 1) (by decide +kernel) rfl rfl
set_option maxRecDepth 20000 in
theorem s999_1217 {X : Nat × (Nat → Int32)} {d n k : Nat} {f : Nat → e_C} {Q : t_Q} {a0 a1 a2 : Value} {st : List Value} {x : Int32} : TT X d 999 1217 [a0, a1, a2, .int x] st f n k Q = TT X d 999 1218 [a0, a1, a2, .int x] (.int x :: st) f n k Q := tt_st (i := .iload_n 3) (len := 1) (by decide +kernel) rfl rfl
set_option maxRecDepth 20000 in
theorem s999_1218 {X : Nat × (Nat → Int32)} {d n k : Nat} {f : Nat → e_C} {Q : t_Q} {lv st : List Value} : TT X d 999 1218 lv st f n k Q = TT X d 999 1219 lv (.int 3 :: st) f n k Q := tt_st (i := .iconst 3) (len := 1) (by decide +kernel) rfl rfl
set_option maxRecDepth 20000 in
theorem s999_1219 {X : Nat × (Nat → Int32)} {d n k : Nat} {f : Nat → e_C} {Q : t_Q} {lv st : List Value} {x y : Int32} : TT X d 999 1219 lv (.int y :: .int x :: st) f n k Q = TT X d 999 1220 lv (.int (x + y) :: st) f n k Q := tt_st (i := .iadd) (len := 1) (by decide +kernel) rfl rfl
set_option maxRecDepth 20000 in
theorem s999_1220 {X : Nat × (Nat → Int32)} {d n k : Nat} {f : Nat → e_C} {Q : t_Q} {lv st : List Value} {a : Nat} {i : Int32} : TT X d 999 1220 lv (.int i :: .ref a :: st) f n k Q = ow (arI (f a)) (fun q => e_in i q.1 = true ∧ TT X d 999 1221 lv (.int (q.2 i.toNatClampNeg) :: st) f n k Q) := tt_iald (by decide +kernel)
set_option maxRecDepth 20000 in
theorem k999_1221 {X : Nat × (Nat → Int32)} {d n k : Nat} {f : Nat → e_C} {Q : t_Q} {lv rest : List Value} {a : Nat} {x0 : Int32} {x1 : Int32} {x2 : Int32} (hcl : cno (f a) = some 12) (hcat : e_cat rest ≤ 8) {Q1 : t_Q} (h1 : TT X d 293 0 [.ref a, .int x0, .int x1, .int x2, .float 0] [] f n k Q1) (h2 : ∀ f' n' k' v, Q1 f' n' k' v → TT X (d + 1) 999 1224 lv (v.toList ++ rest) f' n' k' Q) : TT X (d + 1) 999 1221 lv (.int x2 :: .int x1 :: .int x0 :: .ref a :: rest) f n k Q := tt_cV (i := .invokevirtual 178) (kind := 1) (idx := 178) (ci := 12) (as := [.int x0, .int x1, .int x2]) (r := e_M293) (by decide +kernel) rfl rfl rfl (by decide +kernel) rc293 (by decide) rfl rfl (by decide) (Nat.le_of_ble_eq_true rfl) rfl hcl hcat h1 h2
set_option maxRecDepth 20000 in
theorem p999_1221 {X : Nat × (Nat → Int32)} {d n k : Nat} {f : Nat → e_C} {Q : t_Q} {lv rest : List Value} {a : Nat} {x0 : Int32} {x1 : Int32} {x2 : Int32} (hcl : cno (f a) = some 12) (hcat : e_cat rest ≤ 8) {v : Option Value} (h1 : PU X d 293 [.ref a, .int x0, .int x1, .int x2, .float 0] f n k v) : TT X (d + 1) 999 1221 lv (.int x2 :: .int x1 :: .int x0 :: .ref a :: rest) f n k Q = TT X (d + 1) 999 1224 lv (v.toList ++ rest) f n k Q := tt_pV (i := .invokevirtual 178) (kind := 1) (idx := 178) (ci := 12) (as := [.int x0, .int x1, .int x2]) (r := e_M293) (by decide +kernel) rfl rfl rfl (by decide +kernel) rc293 (by decide) rfl rfl (by decide) (Nat.le_of_ble_eq_true rfl) rfl hcl hcat h1
set_option maxRecDepth 20000 in
theorem s999_1224 {X : Nat × (Nat → Int32)} {d n k : Nat} {f : Nat → e_C} {Q : t_Q} {lv st : List Value} {x y : Int32} : TT X d 999 1224 lv (.int y :: .int x :: st) f n k Q = if x = y then TT X d 999 1395 lv st f n k Q else TT X d 999 1227 lv st f n k Q := tt_if2 (c := .eq) (off := 171) (by decide +kernel) rfl rfl
set_option maxRecDepth 20000 in
theorem s999_1227 {X : Nat × (Nat → Int32)} {d n k : Nat} {f : Nat → e_C} {Q : t_Q} {lv st : List Value} : TT X d 999 1227 lv st f n k Q = TT X d 999 1228 lv (.int 0 :: st) f n k Q := tt_st (i := .iconst 0) (len := 1) (by decide +kernel) rfl rfl
set_option maxRecDepth 20000 in
theorem s999_1228 {X : Nat × (Nat → Int32)} {d n k : Nat} {f : Nat → e_C} {Q : t_Q} {lv : List Value} {v : Int32} : TT X d 999 1228 lv [.int v] f n k Q = ((v = 0 ∨ v = 1) ∧ Q f n k (some (.int v))) := tt_reB (by decide +kernel) (by decide +kernel)
set_option maxRecDepth 20000 in
theorem s999_1229 {X : Nat × (Nat → Int32)} {d n k : Nat} {f : Nat → e_C} {Q : t_Q} {a0 a2 a3 : Value} {st : List Value} {x : Nat} : TT X d 999 1229 [a0, .ref x, a2, a3] st f n k Q = TT X d 999 1230 [a0, .ref x, a2, a3] (.ref x :: st) f n k Q := tt_st (i := .aload_n 1) (len := 1) (by decide +kernel) rfl rfl
set_option maxRecDepth 20000 in
theorem s999_1230 {X : Nat × (Nat → Int32)} {d n k : Nat} {f : Nat → e_C} {Q : t_Q} {a1 a2 a3 : Value} {st : List Value} {x : Nat} : TT X d 999 1230 [.ref x, a1, a2, a3] st f n k Q = TT X d 999 1231 [.ref x, a1, a2, a3] (.ref x :: st) f n k Q := tt_st (i := .aload_n 0) (len := 1) (by decide +kernel) rfl rfl
set_option maxRecDepth 20000 in
theorem s999_1231 {X : Nat × (Nat → Int32)} {d n k : Nat} {f : Nat → e_C} {Q : t_Q} {a0 a1 a2 : Value} {st : List Value} {x : Int32} : TT X d 999 1231 [a0, a1, a2, .int x] st f n k Q = TT X d 999 1232 [a0, a1, a2, .int x] (.int x :: st) f n k Q := tt_st (i := .iload_n 3) (len := 1) (by decide +kernel) rfl rfl
set_option maxRecDepth 20000 in
theorem s999_1232 {X : Nat × (Nat → Int32)} {d n k : Nat} {f : Nat → e_C} {Q : t_Q} {lv st : List Value} : TT X d 999 1232 lv st f n k Q = TT X d 999 1233 lv (.int 1 :: st) f n k Q := tt_st (i := .iconst 1) (len := 1) (by decide +kernel) rfl rfl
set_option maxRecDepth 20000 in
theorem s999_1233 {X : Nat × (Nat → Int32)} {d n k : Nat} {f : Nat → e_C} {Q : t_Q} {lv st : List Value} {x y : Int32} : TT X d 999 1233 lv (.int y :: .int x :: st) f n k Q = TT X d 999 1234 lv (.int (x + y) :: st) f n k Q := tt_st (i := .iadd) (len := 1) (by decide +kernel) rfl rfl
set_option maxRecDepth 20000 in
theorem s999_1234 {X : Nat × (Nat → Int32)} {d n k : Nat} {f : Nat → e_C} {Q : t_Q} {lv st : List Value} {a : Nat} {i : Int32} : TT X d 999 1234 lv (.int i :: .ref a :: st) f n k Q = ow (arI (f a)) (fun q => e_in i q.1 = true ∧ TT X d 999 1235 lv (.int (q.2 i.toNatClampNeg) :: st) f n k Q) := tt_iald (by decide +kernel)
set_option maxRecDepth 20000 in
theorem s999_1235 {X : Nat × (Nat → Int32)} {d n k : Nat} {f : Nat → e_C} {Q : t_Q} {a1 a2 a3 : Value} {st : List Value} {x : Nat} : TT X d 999 1235 [.ref x, a1, a2, a3] st f n k Q = TT X d 999 1236 [.ref x, a1, a2, a3] (.ref x :: st) f n k Q := tt_st (i := .aload_n 0) (len := 1) (by decide +kernel) rfl rfl
set_option maxRecDepth 20000 in
theorem s999_1236 {X : Nat × (Nat → Int32)} {d n k : Nat} {f : Nat → e_C} {Q : t_Q} {a0 a1 a2 : Value} {st : List Value} {x : Int32} : TT X d 999 1236 [a0, a1, a2, .int x] st f n k Q = TT X d 999 1237 [a0, a1, a2, .int x] (.int x :: st) f n k Q := tt_st (i := .iload_n 3) (len := 1) (by decide +kernel) rfl rfl
set_option maxRecDepth 20000 in
theorem s999_1237 {X : Nat × (Nat → Int32)} {d n k : Nat} {f : Nat → e_C} {Q : t_Q} {lv st : List Value} : TT X d 999 1237 lv st f n k Q = TT X d 999 1238 lv (.int 2 :: st) f n k Q := tt_st (i := .iconst 2) (len := 1) (by decide +kernel) rfl rfl
set_option maxRecDepth 20000 in
theorem s999_1238 {X : Nat × (Nat → Int32)} {d n k : Nat} {f : Nat → e_C} {Q : t_Q} {lv st : List Value} {x y : Int32} : TT X d 999 1238 lv (.int y :: .int x :: st) f n k Q = TT X d 999 1239 lv (.int (x + y) :: st) f n k Q := tt_st (i := .iadd) (len := 1) (by decide +kernel) rfl rfl
set_option maxRecDepth 20000 in
theorem s999_1239 {X : Nat × (Nat → Int32)} {d n k : Nat} {f : Nat → e_C} {Q : t_Q} {lv st : List Value} {a : Nat} {i : Int32} : TT X d 999 1239 lv (.int i :: .ref a :: st) f n k Q = ow (arI (f a)) (fun q => e_in i q.1 = true ∧ TT X d 999 1240 lv (.int (q.2 i.toNatClampNeg) :: st) f n k Q) := tt_iald (by decide +kernel)
set_option maxRecDepth 20000 in
theorem s999_1240 {X : Nat × (Nat → Int32)} {d n k : Nat} {f : Nat → e_C} {Q : t_Q} {a1 a2 a3 : Value} {st : List Value} {x : Nat} : TT X d 999 1240 [.ref x, a1, a2, a3] st f n k Q = TT X d 999 1241 [.ref x, a1, a2, a3] (.ref x :: st) f n k Q := tt_st (i := .aload_n 0) (len := 1) (by decide +kernel) rfl rfl
set_option maxRecDepth 20000 in
theorem s999_1241 {X : Nat × (Nat → Int32)} {d n k : Nat} {f : Nat → e_C} {Q : t_Q} {a0 a1 a2 : Value} {st : List Value} {x : Int32} : TT X d 999 1241 [a0, a1, a2, .int x] st f n k Q = TT X d 999 1242 [a0, a1, a2, .int x] (.int x :: st) f n k Q := tt_st (i := .iload_n 3) (len := 1) (by decide +kernel) rfl rfl
set_option maxRecDepth 20000 in
theorem s999_1242 {X : Nat × (Nat → Int32)} {d n k : Nat} {f : Nat → e_C} {Q : t_Q} {lv st : List Value} : TT X d 999 1242 lv st f n k Q = TT X d 999 1243 lv (.int 3 :: st) f n k Q := tt_st (i := .iconst 3) (len := 1) (by decide +kernel) rfl rfl
set_option maxRecDepth 20000 in
theorem s999_1243 {X : Nat × (Nat → Int32)} {d n k : Nat} {f : Nat → e_C} {Q : t_Q} {lv st : List Value} {x y : Int32} : TT X d 999 1243 lv (.int y :: .int x :: st) f n k Q = TT X d 999 1244 lv (.int (x + y) :: st) f n k Q := tt_st (i := .iadd) (len := 1) (by decide +kernel) rfl rfl
set_option maxRecDepth 20000 in
theorem s999_1244 {X : Nat × (Nat → Int32)} {d n k : Nat} {f : Nat → e_C} {Q : t_Q} {lv st : List Value} {a : Nat} {i : Int32} : TT X d 999 1244 lv (.int i :: .ref a :: st) f n k Q = ow (arI (f a)) (fun q => e_in i q.1 = true ∧ TT X d 999 1245 lv (.int (q.2 i.toNatClampNeg) :: st) f n k Q) := tt_iald (by decide +kernel)
set_option maxRecDepth 20000 in
theorem s999_1245 {X : Nat × (Nat → Int32)} {d n k : Nat} {f : Nat → e_C} {Q : t_Q} {lv st : List Value} {x : Int32} : TT X d 999 1245 lv (.int x :: st) f n k Q = TT X d 999 1246 lv (.long x.toInt64 :: st) f n k Q := tt_st (i := .i2l) (len := 1) (by decide +kernel) rfl rfl
set_option maxRecDepth 20000 in
theorem s999_1246 {X : Nat × (Nat → Int32)} {d n k : Nat} {f : Nat → e_C} {Q : t_Q} {lv st : List Value} : TT X d 999 1246 lv st f n k Q = TT X d 999 1248 lv (.int 32 :: st) f n k Q := tt_st (i := .bipush 32) (len := 2) (by decide +kernel) rfl rfl
set_option maxRecDepth 20000 in
theorem s999_1248 {X : Nat × (Nat → Int32)} {d n k : Nat} {f : Nat → e_C} {Q : t_Q} {lv st : List Value} {x : Int64} {y : Int32} : TT X d 999 1248 lv (.int y :: .long x :: st) f n k Q = TT X d 999 1249 lv (.long (x <<< (y.toInt64 &&& 63)) :: st) f n k Q := tt_st (i := .lshl) (len := 1) (by decide +kernel) rfl rfl
set_option maxRecDepth 20000 in
theorem s999_1249 {X : Nat × (Nat → Int32)} {d n k : Nat} {f : Nat → e_C} {Q : t_Q} {a1 a2 a3 : Value} {st : List Value} {x : Nat} : TT X d 999 1249 [.ref x, a1, a2, a3] st f n k Q = TT X d 999 1250 [.ref x, a1, a2, a3] (.ref x :: st) f n k Q := tt_st (i := .aload_n 0) (len := 1) (by decide +kernel) rfl rfl
set_option maxRecDepth 20000 in
theorem s999_1250 {X : Nat × (Nat → Int32)} {d n k : Nat} {f : Nat → e_C} {Q : t_Q} {a0 a1 a2 : Value} {st : List Value} {x : Int32} : TT X d 999 1250 [a0, a1, a2, .int x] st f n k Q = TT X d 999 1251 [a0, a1, a2, .int x] (.int x :: st) f n k Q := tt_st (i := .iload_n 3) (len := 1) (by decide +kernel) rfl rfl
set_option maxRecDepth 20000 in
theorem s999_1251 {X : Nat × (Nat → Int32)} {d n k : Nat} {f : Nat → e_C} {Q : t_Q} {lv st : List Value} : TT X d 999 1251 lv st f n k Q = TT X d 999 1252 lv (.int 4 :: st) f n k Q := tt_st (i := .iconst 4) (len := 1) (by decide +kernel) rfl rfl
set_option maxRecDepth 20000 in
theorem s999_1252 {X : Nat × (Nat → Int32)} {d n k : Nat} {f : Nat → e_C} {Q : t_Q} {lv st : List Value} {x y : Int32} : TT X d 999 1252 lv (.int y :: .int x :: st) f n k Q = TT X d 999 1253 lv (.int (x + y) :: st) f n k Q := tt_st (i := .iadd) (len := 1) (by decide +kernel) rfl rfl
set_option maxRecDepth 20000 in
theorem s999_1253 {X : Nat × (Nat → Int32)} {d n k : Nat} {f : Nat → e_C} {Q : t_Q} {lv st : List Value} {a : Nat} {i : Int32} : TT X d 999 1253 lv (.int i :: .ref a :: st) f n k Q = ow (arI (f a)) (fun q => e_in i q.1 = true ∧ TT X d 999 1254 lv (.int (q.2 i.toNatClampNeg) :: st) f n k Q) := tt_iald (by decide +kernel)
set_option maxRecDepth 20000 in
theorem s999_1254 {X : Nat × (Nat → Int32)} {d n k : Nat} {f : Nat → e_C} {Q : t_Q} {lv st : List Value} {x : Int32} : TT X d 999 1254 lv (.int x :: st) f n k Q = TT X d 999 1255 lv (.long x.toInt64 :: st) f n k Q := tt_st (i := .i2l) (len := 1) (by decide +kernel) rfl rfl
set_option maxRecDepth 20000 in
theorem s999_1255 {X : Nat × (Nat → Int32)} {d n k : Nat} {f : Nat → e_C} {Q : t_Q} {lv st : List Value} : TT X d 999 1255 lv st f n k Q = TT X d 999 1258 lv (.long (4294967295) :: st) f n k Q := tt_st (i := .ldc2_w 179) (len := 3) (by decide +kernel) rfl rfl
set_option maxRecDepth 20000 in
theorem s999_1258 {X : Nat × (Nat → Int32)} {d n k : Nat} {f : Nat → e_C} {Q : t_Q} {lv st : List Value} {x y : Int64} : TT X d 999 1258 lv (.long y :: .long x :: st) f n k Q = TT X d 999 1259 lv (.long (x &&& y) :: st) f n k Q := tt_st (i := .land) (len := 1) (by decide +kernel) rfl rfl
set_option maxRecDepth 20000 in
theorem s999_1259 {X : Nat × (Nat → Int32)} {d n k : Nat} {f : Nat → e_C} {Q : t_Q} {lv st : List Value} {x y : Int64} : TT X d 999 1259 lv (.long y :: .long x :: st) f n k Q = TT X d 999 1260 lv (.long (x ||| y) :: st) f n k Q := tt_st (i := .lor) (len := 1) (by decide +kernel) rfl rfl
set_option maxRecDepth 20000 in
theorem k999_1260 {X : Nat × (Nat → Int32)} {d n k : Nat} {f : Nat → e_C} {Q : t_Q} {lv rest : List Value} {a : Nat} {x0 : Int32} {x1 : Int32} {x2 : Int64} (hcl : cno (f a) = some 11) (hcat : e_cat rest ≤ 8) {Q1 : t_Q} (h1 : TT X d 163 0 [.ref a, .int x0, .int x1, .long x2, .double 0] [] f n k Q1) (h2 : ∀ f' n' k' v, Q1 f' n' k' v → TT X (d + 1) 999 1263 lv (v.toList ++ rest) f' n' k' Q) : TT X (d + 1) 999 1260 lv (.long x2 :: .int x1 :: .int x0 :: .ref a :: rest) f n k Q := tt_cV (i := .invokevirtual 181) (kind := 1) (idx := 181) (ci := 11) (as := [.int x0, .int x1, .long x2]) (r := e_M163) (by decide +kernel) rfl rfl rfl (by decide +kernel) rc163 (by decide) rfl rfl (by decide) (Nat.le_of_ble_eq_true rfl) rfl hcl hcat h1 h2
set_option maxRecDepth 20000 in
theorem p999_1260 {X : Nat × (Nat → Int32)} {d n k : Nat} {f : Nat → e_C} {Q : t_Q} {lv rest : List Value} {a : Nat} {x0 : Int32} {x1 : Int32} {x2 : Int64} (hcl : cno (f a) = some 11) (hcat : e_cat rest ≤ 8) {v : Option Value} (h1 : PU X d 163 [.ref a, .int x0, .int x1, .long x2, .double 0] f n k v) : TT X (d + 1) 999 1260 lv (.long x2 :: .int x1 :: .int x0 :: .ref a :: rest) f n k Q = TT X (d + 1) 999 1263 lv (v.toList ++ rest) f n k Q := tt_pV (i := .invokevirtual 181) (kind := 1) (idx := 181) (ci := 11) (as := [.int x0, .int x1, .long x2]) (r := e_M163) (by decide +kernel) rfl rfl rfl (by decide +kernel) rc163 (by decide) rfl rfl (by decide) (Nat.le_of_ble_eq_true rfl) rfl hcl hcat h1
set_option maxRecDepth 20000 in
theorem s999_1263 {X : Nat × (Nat → Int32)} {d n k : Nat} {f : Nat → e_C} {Q : t_Q} {a0 a1 a3 : Value} {st : List Value} {x : Nat} : TT X d 999 1263 [a0, a1, .ref x, a3] st f n k Q = TT X d 999 1264 [a0, a1, .ref x, a3] (.ref x :: st) f n k Q := tt_st (i := .aload_n 2) (len := 1) (by decide +kernel) rfl rfl
set_option maxRecDepth 20000 in
theorem s999_1264 {X : Nat × (Nat → Int32)} {d n k : Nat} {f : Nat → e_C} {Q : t_Q} {a1 a2 a3 : Value} {st : List Value} {x : Nat} : TT X d 999 1264 [.ref x, a1, a2, a3] st f n k Q = TT X d 999 1265 [.ref x, a1, a2, a3] (.ref x :: st) f n k Q := tt_st (i := .aload_n 0) (len := 1) (by decide +kernel) rfl rfl
set_option maxRecDepth 20000 in
theorem s999_1265 {X : Nat × (Nat → Int32)} {d n k : Nat} {f : Nat → e_C} {Q : t_Q} {a0 a1 a2 : Value} {st : List Value} {x : Int32} : TT X d 999 1265 [a0, a1, a2, .int x] st f n k Q = TT X d 999 1266 [a0, a1, a2, .int x] (.int x :: st) f n k Q := tt_st (i := .iload_n 3) (len := 1) (by decide +kernel) rfl rfl
set_option maxRecDepth 20000 in
theorem s999_1266 {X : Nat × (Nat → Int32)} {d n k : Nat} {f : Nat → e_C} {Q : t_Q} {lv st : List Value} : TT X d 999 1266 lv st f n k Q = TT X d 999 1267 lv (.int 1 :: st) f n k Q := tt_st (i := .iconst 1) (len := 1) (by decide +kernel) rfl rfl
set_option maxRecDepth 20000 in
theorem s999_1267 {X : Nat × (Nat → Int32)} {d n k : Nat} {f : Nat → e_C} {Q : t_Q} {lv st : List Value} {x y : Int32} : TT X d 999 1267 lv (.int y :: .int x :: st) f n k Q = TT X d 999 1268 lv (.int (x + y) :: st) f n k Q := tt_st (i := .iadd) (len := 1) (by decide +kernel) rfl rfl
set_option maxRecDepth 20000 in
theorem s999_1268 {X : Nat × (Nat → Int32)} {d n k : Nat} {f : Nat → e_C} {Q : t_Q} {lv st : List Value} {a : Nat} {i : Int32} : TT X d 999 1268 lv (.int i :: .ref a :: st) f n k Q = ow (arI (f a)) (fun q => e_in i q.1 = true ∧ TT X d 999 1269 lv (.int (q.2 i.toNatClampNeg) :: st) f n k Q) := tt_iald (by decide +kernel)
set_option maxRecDepth 20000 in
theorem s999_1269 {X : Nat × (Nat → Int32)} {d n k : Nat} {f : Nat → e_C} {Q : t_Q} {a1 a2 a3 : Value} {st : List Value} {x : Nat} : TT X d 999 1269 [.ref x, a1, a2, a3] st f n k Q = TT X d 999 1270 [.ref x, a1, a2, a3] (.ref x :: st) f n k Q := tt_st (i := .aload_n 0) (len := 1) (by decide +kernel) rfl rfl
set_option maxRecDepth 20000 in
theorem s999_1270 {X : Nat × (Nat → Int32)} {d n k : Nat} {f : Nat → e_C} {Q : t_Q} {a0 a1 a2 : Value} {st : List Value} {x : Int32} : TT X d 999 1270 [a0, a1, a2, .int x] st f n k Q = TT X d 999 1271 [a0, a1, a2, .int x] (.int x :: st) f n k Q := tt_st (i := .iload_n 3) (len := 1) (by decide +kernel) rfl rfl
set_option maxRecDepth 20000 in
theorem s999_1271 {X : Nat × (Nat → Int32)} {d n k : Nat} {f : Nat → e_C} {Q : t_Q} {lv st : List Value} : TT X d 999 1271 lv st f n k Q = TT X d 999 1272 lv (.int 2 :: st) f n k Q := tt_st (i := .iconst 2) (len := 1) (by decide +kernel) rfl rfl
set_option maxRecDepth 20000 in
theorem s999_1272 {X : Nat × (Nat → Int32)} {d n k : Nat} {f : Nat → e_C} {Q : t_Q} {lv st : List Value} {x y : Int32} : TT X d 999 1272 lv (.int y :: .int x :: st) f n k Q = TT X d 999 1273 lv (.int (x + y) :: st) f n k Q := tt_st (i := .iadd) (len := 1) (by decide +kernel) rfl rfl
set_option maxRecDepth 20000 in
theorem s999_1273 {X : Nat × (Nat → Int32)} {d n k : Nat} {f : Nat → e_C} {Q : t_Q} {lv st : List Value} {a : Nat} {i : Int32} : TT X d 999 1273 lv (.int i :: .ref a :: st) f n k Q = ow (arI (f a)) (fun q => e_in i q.1 = true ∧ TT X d 999 1274 lv (.int (q.2 i.toNatClampNeg) :: st) f n k Q) := tt_iald (by decide +kernel)
set_option maxRecDepth 20000 in
theorem s999_1274 {X : Nat × (Nat → Int32)} {d n k : Nat} {f : Nat → e_C} {Q : t_Q} {a1 a2 a3 : Value} {st : List Value} {x : Nat} : TT X d 999 1274 [.ref x, a1, a2, a3] st f n k Q = TT X d 999 1275 [.ref x, a1, a2, a3] (.ref x :: st) f n k Q := tt_st (i := .aload_n 0) (len := 1) (by decide +kernel) rfl rfl
set_option maxRecDepth 20000 in
theorem s999_1275 {X : Nat × (Nat → Int32)} {d n k : Nat} {f : Nat → e_C} {Q : t_Q} {a0 a1 a2 : Value} {st : List Value} {x : Int32} : TT X d 999 1275 [a0, a1, a2, .int x] st f n k Q = TT X d 999 1276 [a0, a1, a2, .int x] (.int x :: st) f n k Q := tt_st (i := .iload_n 3) (len := 1) (by decide +kernel) rfl rfl
set_option maxRecDepth 20000 in
theorem s999_1276 {X : Nat × (Nat → Int32)} {d n k : Nat} {f : Nat → e_C} {Q : t_Q} {lv st : List Value} : TT X d 999 1276 lv st f n k Q = TT X d 999 1277 lv (.int 3 :: st) f n k Q := tt_st (i := .iconst 3) (len := 1) (by decide +kernel) rfl rfl
set_option maxRecDepth 20000 in
theorem s999_1277 {X : Nat × (Nat → Int32)} {d n k : Nat} {f : Nat → e_C} {Q : t_Q} {lv st : List Value} {x y : Int32} : TT X d 999 1277 lv (.int y :: .int x :: st) f n k Q = TT X d 999 1278 lv (.int (x + y) :: st) f n k Q := tt_st (i := .iadd) (len := 1) (by decide +kernel) rfl rfl
set_option maxRecDepth 20000 in
theorem s999_1278 {X : Nat × (Nat → Int32)} {d n k : Nat} {f : Nat → e_C} {Q : t_Q} {lv st : List Value} {a : Nat} {i : Int32} : TT X d 999 1278 lv (.int i :: .ref a :: st) f n k Q = ow (arI (f a)) (fun q => e_in i q.1 = true ∧ TT X d 999 1279 lv (.int (q.2 i.toNatClampNeg) :: st) f n k Q) := tt_iald (by decide +kernel)
set_option maxRecDepth 20000 in
theorem s999_1279 {X : Nat × (Nat → Int32)} {d n k : Nat} {f : Nat → e_C} {Q : t_Q} {lv st : List Value} {x : Int32} : TT X d 999 1279 lv (.int x :: st) f n k Q = TT X d 999 1280 lv (.long x.toInt64 :: st) f n k Q := tt_st (i := .i2l) (len := 1) (by decide +kernel) rfl rfl
set_option maxRecDepth 20000 in
theorem s999_1280 {X : Nat × (Nat → Int32)} {d n k : Nat} {f : Nat → e_C} {Q : t_Q} {lv st : List Value} : TT X d 999 1280 lv st f n k Q = TT X d 999 1282 lv (.int 32 :: st) f n k Q := tt_st (i := .bipush 32) (len := 2) (by decide +kernel) rfl rfl
set_option maxRecDepth 20000 in
theorem s999_1282 {X : Nat × (Nat → Int32)} {d n k : Nat} {f : Nat → e_C} {Q : t_Q} {lv st : List Value} {x : Int64} {y : Int32} : TT X d 999 1282 lv (.int y :: .long x :: st) f n k Q = TT X d 999 1283 lv (.long (x <<< (y.toInt64 &&& 63)) :: st) f n k Q := tt_st (i := .lshl) (len := 1) (by decide +kernel) rfl rfl
set_option maxRecDepth 20000 in
theorem s999_1283 {X : Nat × (Nat → Int32)} {d n k : Nat} {f : Nat → e_C} {Q : t_Q} {a1 a2 a3 : Value} {st : List Value} {x : Nat} : TT X d 999 1283 [.ref x, a1, a2, a3] st f n k Q = TT X d 999 1284 [.ref x, a1, a2, a3] (.ref x :: st) f n k Q := tt_st (i := .aload_n 0) (len := 1) (by decide +kernel) rfl rfl
set_option maxRecDepth 20000 in
theorem s999_1284 {X : Nat × (Nat → Int32)} {d n k : Nat} {f : Nat → e_C} {Q : t_Q} {a0 a1 a2 : Value} {st : List Value} {x : Int32} : TT X d 999 1284 [a0, a1, a2, .int x] st f n k Q = TT X d 999 1285 [a0, a1, a2, .int x] (.int x :: st) f n k Q := tt_st (i := .iload_n 3) (len := 1) (by decide +kernel) rfl rfl
set_option maxRecDepth 20000 in
theorem s999_1285 {X : Nat × (Nat → Int32)} {d n k : Nat} {f : Nat → e_C} {Q : t_Q} {lv st : List Value} : TT X d 999 1285 lv st f n k Q = TT X d 999 1286 lv (.int 4 :: st) f n k Q := tt_st (i := .iconst 4) (len := 1) (by decide +kernel) rfl rfl
set_option maxRecDepth 20000 in
theorem s999_1286 {X : Nat × (Nat → Int32)} {d n k : Nat} {f : Nat → e_C} {Q : t_Q} {lv st : List Value} {x y : Int32} : TT X d 999 1286 lv (.int y :: .int x :: st) f n k Q = TT X d 999 1287 lv (.int (x + y) :: st) f n k Q := tt_st (i := .iadd) (len := 1) (by decide +kernel) rfl rfl
set_option maxRecDepth 20000 in
theorem s999_1287 {X : Nat × (Nat → Int32)} {d n k : Nat} {f : Nat → e_C} {Q : t_Q} {lv st : List Value} {a : Nat} {i : Int32} : TT X d 999 1287 lv (.int i :: .ref a :: st) f n k Q = ow (arI (f a)) (fun q => e_in i q.1 = true ∧ TT X d 999 1288 lv (.int (q.2 i.toNatClampNeg) :: st) f n k Q) := tt_iald (by decide +kernel)
set_option maxRecDepth 20000 in
theorem s999_1288 {X : Nat × (Nat → Int32)} {d n k : Nat} {f : Nat → e_C} {Q : t_Q} {lv st : List Value} {x : Int32} : TT X d 999 1288 lv (.int x :: st) f n k Q = TT X d 999 1289 lv (.long x.toInt64 :: st) f n k Q := tt_st (i := .i2l) (len := 1) (by decide +kernel) rfl rfl
set_option maxRecDepth 20000 in
theorem s999_1289 {X : Nat × (Nat → Int32)} {d n k : Nat} {f : Nat → e_C} {Q : t_Q} {lv st : List Value} : TT X d 999 1289 lv st f n k Q = TT X d 999 1292 lv (.long (4294967295) :: st) f n k Q := tt_st (i := .ldc2_w 179) (len := 3) (by decide +kernel) rfl rfl
set_option maxRecDepth 20000 in
theorem s999_1292 {X : Nat × (Nat → Int32)} {d n k : Nat} {f : Nat → e_C} {Q : t_Q} {lv st : List Value} {x y : Int64} : TT X d 999 1292 lv (.long y :: .long x :: st) f n k Q = TT X d 999 1293 lv (.long (x &&& y) :: st) f n k Q := tt_st (i := .land) (len := 1) (by decide +kernel) rfl rfl
set_option maxRecDepth 20000 in
theorem s999_1293 {X : Nat × (Nat → Int32)} {d n k : Nat} {f : Nat → e_C} {Q : t_Q} {lv st : List Value} {x y : Int64} : TT X d 999 1293 lv (.long y :: .long x :: st) f n k Q = TT X d 999 1294 lv (.long (x ||| y) :: st) f n k Q := tt_st (i := .lor) (len := 1) (by decide +kernel) rfl rfl
set_option maxRecDepth 20000 in
theorem k999_1294 {X : Nat × (Nat → Int32)} {d n k : Nat} {f : Nat → e_C} {Q : t_Q} {lv rest : List Value} {a : Nat} {x0 : Int32} {x1 : Int32} {x2 : Int64} (hcl : cno (f a) = some 12) (hcat : e_cat rest ≤ 8) {Q1 : t_Q} (h1 : TT X d 294 0 [.ref a, .int x0, .int x1, .long x2, .double 0, .float 0] [] f n k Q1) (h2 : ∀ f' n' k' v, Q1 f' n' k' v → TT X (d + 1) 999 1297 lv (v.toList ++ rest) f' n' k' Q) : TT X (d + 1) 999 1294 lv (.long x2 :: .int x1 :: .int x0 :: .ref a :: rest) f n k Q := tt_cV (i := .invokevirtual 185) (kind := 1) (idx := 185) (ci := 12) (as := [.int x0, .int x1, .long x2]) (r := e_M294) (by decide +kernel) rfl rfl rfl (by decide +kernel) rc294 (by decide) rfl rfl (by decide) (Nat.le_of_ble_eq_true rfl) rfl hcl hcat h1 h2
set_option maxRecDepth 20000 in
theorem p999_1294 {X : Nat × (Nat → Int32)} {d n k : Nat} {f : Nat → e_C} {Q : t_Q} {lv rest : List Value} {a : Nat} {x0 : Int32} {x1 : Int32} {x2 : Int64} (hcl : cno (f a) = some 12) (hcat : e_cat rest ≤ 8) {v : Option Value} (h1 : PU X d 294 [.ref a, .int x0, .int x1, .long x2, .double 0, .float 0] f n k v) : TT X (d + 1) 999 1294 lv (.long x2 :: .int x1 :: .int x0 :: .ref a :: rest) f n k Q = TT X (d + 1) 999 1297 lv (v.toList ++ rest) f n k Q := tt_pV (i := .invokevirtual 185) (kind := 1) (idx := 185) (ci := 12) (as := [.int x0, .int x1, .long x2]) (r := e_M294) (by decide +kernel) rfl rfl rfl (by decide +kernel) rc294 (by decide) rfl rfl (by decide) (Nat.le_of_ble_eq_true rfl) rfl hcl hcat h1
set_option maxRecDepth 20000 in
theorem s999_1297 {X : Nat × (Nat → Int32)} {d n k : Nat} {f : Nat → e_C} {Q : t_Q} {lv st : List Value} {x y : Int64} : TT X d 999 1297 lv (.long y :: .long x :: st) f n k Q = TT X d 999 1298 lv (.int (lg_cmp x y) :: st) f n k Q := tt_st (i := .lcmp) (len := 1) (by decide +kernel) rfl rfl
set_option maxRecDepth 20000 in
theorem s999_1298 {X : Nat × (Nat → Int32)} {d n k : Nat} {f : Nat → e_C} {Q : t_Q} {lv st : List Value} {x : Int32} : TT X d 999 1298 lv (.int x :: st) f n k Q = if x = 0 then TT X d 999 1395 lv st f n k Q else TT X d 999 1301 lv st f n k Q := tt_if0 (c := .eq) (off := 97) (by decide +kernel) rfl rfl
set_option maxRecDepth 20000 in
theorem s999_1301 {X : Nat × (Nat → Int32)} {d n k : Nat} {f : Nat → e_C} {Q : t_Q} {lv st : List Value} : TT X d 999 1301 lv st f n k Q = TT X d 999 1302 lv (.int 0 :: st) f n k Q := tt_st (i := .iconst 0) (len := 1) (by decide +kernel) rfl rfl
set_option maxRecDepth 20000 in
theorem s999_1302 {X : Nat × (Nat → Int32)} {d n k : Nat} {f : Nat → e_C} {Q : t_Q} {lv : List Value} {v : Int32} : TT X d 999 1302 lv [.int v] f n k Q = ((v = 0 ∨ v = 1) ∧ Q f n k (some (.int v))) := tt_reB (by decide +kernel) (by decide +kernel)
set_option maxRecDepth 20000 in
theorem s999_1303 {X : Nat × (Nat → Int32)} {d n k : Nat} {f : Nat → e_C} {Q : t_Q} {a0 a2 a3 : Value} {st : List Value} {x : Nat} : TT X d 999 1303 [a0, .ref x, a2, a3] st f n k Q = TT X d 999 1304 [a0, .ref x, a2, a3] (.ref x :: st) f n k Q := tt_st (i := .aload_n 1) (len := 1) (by decide +kernel) rfl rfl
set_option maxRecDepth 20000 in
theorem s999_1304 {X : Nat × (Nat → Int32)} {d n k : Nat} {f : Nat → e_C} {Q : t_Q} {a1 a2 a3 : Value} {st : List Value} {x : Nat} : TT X d 999 1304 [.ref x, a1, a2, a3] st f n k Q = TT X d 999 1305 [.ref x, a1, a2, a3] (.ref x :: st) f n k Q := tt_st (i := .aload_n 0) (len := 1) (by decide +kernel) rfl rfl
set_option maxRecDepth 20000 in
theorem s999_1305 {X : Nat × (Nat → Int32)} {d n k : Nat} {f : Nat → e_C} {Q : t_Q} {a0 a1 a2 : Value} {st : List Value} {x : Int32} : TT X d 999 1305 [a0, a1, a2, .int x] st f n k Q = TT X d 999 1306 [a0, a1, a2, .int x] (.int x :: st) f n k Q := tt_st (i := .iload_n 3) (len := 1) (by decide +kernel) rfl rfl
set_option maxRecDepth 20000 in
theorem s999_1306 {X : Nat × (Nat → Int32)} {d n k : Nat} {f : Nat → e_C} {Q : t_Q} {lv st : List Value} : TT X d 999 1306 lv st f n k Q = TT X d 999 1307 lv (.int 1 :: st) f n k Q := tt_st (i := .iconst 1) (len := 1) (by decide +kernel) rfl rfl
set_option maxRecDepth 20000 in
theorem s999_1307 {X : Nat × (Nat → Int32)} {d n k : Nat} {f : Nat → e_C} {Q : t_Q} {lv st : List Value} {x y : Int32} : TT X d 999 1307 lv (.int y :: .int x :: st) f n k Q = TT X d 999 1308 lv (.int (x + y) :: st) f n k Q := tt_st (i := .iadd) (len := 1) (by decide +kernel) rfl rfl
set_option maxRecDepth 20000 in
theorem s999_1308 {X : Nat × (Nat → Int32)} {d n k : Nat} {f : Nat → e_C} {Q : t_Q} {lv st : List Value} {a : Nat} {i : Int32} : TT X d 999 1308 lv (.int i :: .ref a :: st) f n k Q = ow (arI (f a)) (fun q => e_in i q.1 = true ∧ TT X d 999 1309 lv (.int (q.2 i.toNatClampNeg) :: st) f n k Q) := tt_iald (by decide +kernel)
set_option maxRecDepth 20000 in
theorem k999_1309 {X : Nat × (Nat → Int32)} {d n k : Nat} {f : Nat → e_C} {Q : t_Q} {lv rest : List Value} {a : Nat} {x0 : Int32} (hcl : cno (f a) = some 11) (hcat : e_cat rest ≤ 8) {Q1 : t_Q} (h1 : TT X d 164 0 [.ref a, .int x0, .float 0, .float 0] [] f n k Q1) (h2 : ∀ f' n' k' v, Q1 f' n' k' v → TT X (d + 1) 999 1312 lv (v.toList ++ rest) f' n' k' Q) : TT X (d + 1) 999 1309 lv (.int x0 :: .ref a :: rest) f n k Q := tt_cV (i := .invokevirtual 186) (kind := 1) (idx := 186) (ci := 11) (as := [.int x0]) (r := e_M164) (by decide +kernel) rfl rfl rfl (by decide +kernel) rc164 (by decide) rfl rfl (by decide) (Nat.le_of_ble_eq_true rfl) rfl hcl hcat h1 h2
set_option maxRecDepth 20000 in
theorem p999_1309 {X : Nat × (Nat → Int32)} {d n k : Nat} {f : Nat → e_C} {Q : t_Q} {lv rest : List Value} {a : Nat} {x0 : Int32} (hcl : cno (f a) = some 11) (hcat : e_cat rest ≤ 8) {v : Option Value} (h1 : PU X d 164 [.ref a, .int x0, .float 0, .float 0] f n k v) : TT X (d + 1) 999 1309 lv (.int x0 :: .ref a :: rest) f n k Q = TT X (d + 1) 999 1312 lv (v.toList ++ rest) f n k Q := tt_pV (i := .invokevirtual 186) (kind := 1) (idx := 186) (ci := 11) (as := [.int x0]) (r := e_M164) (by decide +kernel) rfl rfl rfl (by decide +kernel) rc164 (by decide) rfl rfl (by decide) (Nat.le_of_ble_eq_true rfl) rfl hcl hcat h1
set_option maxRecDepth 20000 in
theorem s999_1312 {X : Nat × (Nat → Int32)} {d n k : Nat} {f : Nat → e_C} {Q : t_Q} {a0 a1 a3 : Value} {st : List Value} {x : Nat} : TT X d 999 1312 [a0, a1, .ref x, a3] st f n k Q = TT X d 999 1313 [a0, a1, .ref x, a3] (.ref x :: st) f n k Q := tt_st (i := .aload_n 2) (len := 1) (by decide +kernel) rfl rfl
set_option maxRecDepth 20000 in
theorem s999_1313 {X : Nat × (Nat → Int32)} {d n k : Nat} {f : Nat → e_C} {Q : t_Q} {a1 a2 a3 : Value} {st : List Value} {x : Nat} : TT X d 999 1313 [.ref x, a1, a2, a3] st f n k Q = TT X d 999 1314 [.ref x, a1, a2, a3] (.ref x :: st) f n k Q := tt_st (i := .aload_n 0) (len := 1) (by decide +kernel) rfl rfl
set_option maxRecDepth 20000 in
theorem s999_1314 {X : Nat × (Nat → Int32)} {d n k : Nat} {f : Nat → e_C} {Q : t_Q} {a0 a1 a2 : Value} {st : List Value} {x : Int32} : TT X d 999 1314 [a0, a1, a2, .int x] st f n k Q = TT X d 999 1315 [a0, a1, a2, .int x] (.int x :: st) f n k Q := tt_st (i := .iload_n 3) (len := 1) (by decide +kernel) rfl rfl
set_option maxRecDepth 20000 in
theorem s999_1315 {X : Nat × (Nat → Int32)} {d n k : Nat} {f : Nat → e_C} {Q : t_Q} {lv st : List Value} : TT X d 999 1315 lv st f n k Q = TT X d 999 1316 lv (.int 1 :: st) f n k Q := tt_st (i := .iconst 1) (len := 1) (by decide +kernel) rfl rfl
set_option maxRecDepth 20000 in
theorem s999_1316 {X : Nat × (Nat → Int32)} {d n k : Nat} {f : Nat → e_C} {Q : t_Q} {lv st : List Value} {x y : Int32} : TT X d 999 1316 lv (.int y :: .int x :: st) f n k Q = TT X d 999 1317 lv (.int (x + y) :: st) f n k Q := tt_st (i := .iadd) (len := 1) (by decide +kernel) rfl rfl
set_option maxRecDepth 20000 in
theorem s999_1317 {X : Nat × (Nat → Int32)} {d n k : Nat} {f : Nat → e_C} {Q : t_Q} {lv st : List Value} {a : Nat} {i : Int32} : TT X d 999 1317 lv (.int i :: .ref a :: st) f n k Q = ow (arI (f a)) (fun q => e_in i q.1 = true ∧ TT X d 999 1318 lv (.int (q.2 i.toNatClampNeg) :: st) f n k Q) := tt_iald (by decide +kernel)
set_option maxRecDepth 20000 in
theorem k999_1318 {X : Nat × (Nat → Int32)} {d n k : Nat} {f : Nat → e_C} {Q : t_Q} {lv rest : List Value} {a : Nat} {x0 : Int32} (hcl : cno (f a) = some 12) (hcat : e_cat rest ≤ 8) {Q1 : t_Q} (h1 : TT X d 296 0 [.ref a, .int x0, .float 0, .float 0, .float 0] [] f n k Q1) (h2 : ∀ f' n' k' v, Q1 f' n' k' v → TT X (d + 1) 999 1321 lv (v.toList ++ rest) f' n' k' Q) : TT X (d + 1) 999 1318 lv (.int x0 :: .ref a :: rest) f n k Q := tt_cV (i := .invokevirtual 189) (kind := 1) (idx := 189) (ci := 12) (as := [.int x0]) (r := e_M296) (by decide +kernel) rfl rfl rfl (by decide +kernel) rc296 (by decide) rfl rfl (by decide) (Nat.le_of_ble_eq_true rfl) rfl hcl hcat h1 h2
set_option maxRecDepth 20000 in
theorem p999_1318 {X : Nat × (Nat → Int32)} {d n k : Nat} {f : Nat → e_C} {Q : t_Q} {lv rest : List Value} {a : Nat} {x0 : Int32} (hcl : cno (f a) = some 12) (hcat : e_cat rest ≤ 8) {v : Option Value} (h1 : PU X d 296 [.ref a, .int x0, .float 0, .float 0, .float 0] f n k v) : TT X (d + 1) 999 1318 lv (.int x0 :: .ref a :: rest) f n k Q = TT X (d + 1) 999 1321 lv (v.toList ++ rest) f n k Q := tt_pV (i := .invokevirtual 189) (kind := 1) (idx := 189) (ci := 12) (as := [.int x0]) (r := e_M296) (by decide +kernel) rfl rfl rfl (by decide +kernel) rc296 (by decide) rfl rfl (by decide) (Nat.le_of_ble_eq_true rfl) rfl hcl hcat h1
set_option maxRecDepth 20000 in
theorem s999_1321 {X : Nat × (Nat → Int32)} {d n k : Nat} {f : Nat → e_C} {Q : t_Q} {lv st : List Value} {x y : Int32} : TT X d 999 1321 lv (.int y :: .int x :: st) f n k Q = if x = y then TT X d 999 1395 lv st f n k Q else TT X d 999 1324 lv st f n k Q := tt_if2 (c := .eq) (off := 74) (by decide +kernel) rfl rfl
set_option maxRecDepth 20000 in
theorem s999_1324 {X : Nat × (Nat → Int32)} {d n k : Nat} {f : Nat → e_C} {Q : t_Q} {lv st : List Value} : TT X d 999 1324 lv st f n k Q = TT X d 999 1325 lv (.int 0 :: st) f n k Q := tt_st (i := .iconst 0) (len := 1) (by decide +kernel) rfl rfl
set_option maxRecDepth 20000 in
theorem s999_1325 {X : Nat × (Nat → Int32)} {d n k : Nat} {f : Nat → e_C} {Q : t_Q} {lv : List Value} {v : Int32} : TT X d 999 1325 lv [.int v] f n k Q = ((v = 0 ∨ v = 1) ∧ Q f n k (some (.int v))) := tt_reB (by decide +kernel) (by decide +kernel)
set_option maxRecDepth 20000 in
theorem s999_1326 {X : Nat × (Nat → Int32)} {d n k : Nat} {f : Nat → e_C} {Q : t_Q} {a0 a2 a3 : Value} {st : List Value} {x : Nat} : TT X d 999 1326 [a0, .ref x, a2, a3] st f n k Q = TT X d 999 1327 [a0, .ref x, a2, a3] (.ref x :: st) f n k Q := tt_st (i := .aload_n 1) (len := 1) (by decide +kernel) rfl rfl
set_option maxRecDepth 20000 in
theorem s999_1327 {X : Nat × (Nat → Int32)} {d n k : Nat} {f : Nat → e_C} {Q : t_Q} {a1 a2 a3 : Value} {st : List Value} {x : Nat} : TT X d 999 1327 [.ref x, a1, a2, a3] st f n k Q = TT X d 999 1328 [.ref x, a1, a2, a3] (.ref x :: st) f n k Q := tt_st (i := .aload_n 0) (len := 1) (by decide +kernel) rfl rfl
set_option maxRecDepth 20000 in
theorem s999_1328 {X : Nat × (Nat → Int32)} {d n k : Nat} {f : Nat → e_C} {Q : t_Q} {a0 a1 a2 : Value} {st : List Value} {x : Int32} : TT X d 999 1328 [a0, a1, a2, .int x] st f n k Q = TT X d 999 1329 [a0, a1, a2, .int x] (.int x :: st) f n k Q := tt_st (i := .iload_n 3) (len := 1) (by decide +kernel) rfl rfl
set_option maxRecDepth 20000 in
theorem s999_1329 {X : Nat × (Nat → Int32)} {d n k : Nat} {f : Nat → e_C} {Q : t_Q} {lv st : List Value} : TT X d 999 1329 lv st f n k Q = TT X d 999 1330 lv (.int 1 :: st) f n k Q := tt_st (i := .iconst 1) (len := 1) (by decide +kernel) rfl rfl
set_option maxRecDepth 20000 in
theorem s999_1330 {X : Nat × (Nat → Int32)} {d n k : Nat} {f : Nat → e_C} {Q : t_Q} {lv st : List Value} {x y : Int32} : TT X d 999 1330 lv (.int y :: .int x :: st) f n k Q = TT X d 999 1331 lv (.int (x + y) :: st) f n k Q := tt_st (i := .iadd) (len := 1) (by decide +kernel) rfl rfl
set_option maxRecDepth 20000 in
theorem s999_1331 {X : Nat × (Nat → Int32)} {d n k : Nat} {f : Nat → e_C} {Q : t_Q} {lv st : List Value} {a : Nat} {i : Int32} : TT X d 999 1331 lv (.int i :: .ref a :: st) f n k Q = ow (arI (f a)) (fun q => e_in i q.1 = true ∧ TT X d 999 1332 lv (.int (q.2 i.toNatClampNeg) :: st) f n k Q) := tt_iald (by decide +kernel)
set_option maxRecDepth 20000 in
theorem k999_1332 {X : Nat × (Nat → Int32)} {d n k : Nat} {f : Nat → e_C} {Q : t_Q} {lv rest : List Value} {a : Nat} {x0 : Int32} (hcl : cno (f a) = some 11) (hcat : e_cat rest ≤ 8) {Q1 : t_Q} (h1 : TT X d 165 0 [.ref a, .int x0] [] f n k Q1) (h2 : ∀ f' n' k' v, Q1 f' n' k' v → TT X (d + 1) 999 1335 lv (v.toList ++ rest) f' n' k' Q) : TT X (d + 1) 999 1332 lv (.int x0 :: .ref a :: rest) f n k Q := tt_cV (i := .invokevirtual 190) (kind := 1) (idx := 190) (ci := 11) (as := [.int x0]) (r := e_M165) (by decide +kernel) rfl rfl rfl (by decide +kernel) rc165 (by decide) rfl rfl (by decide) (Nat.le_of_ble_eq_true rfl) rfl hcl hcat h1 h2
set_option maxRecDepth 20000 in
theorem p999_1332 {X : Nat × (Nat → Int32)} {d n k : Nat} {f : Nat → e_C} {Q : t_Q} {lv rest : List Value} {a : Nat} {x0 : Int32} (hcl : cno (f a) = some 11) (hcat : e_cat rest ≤ 8) {v : Option Value} (h1 : PU X d 165 [.ref a, .int x0] f n k v) : TT X (d + 1) 999 1332 lv (.int x0 :: .ref a :: rest) f n k Q = TT X (d + 1) 999 1335 lv (v.toList ++ rest) f n k Q := tt_pV (i := .invokevirtual 190) (kind := 1) (idx := 190) (ci := 11) (as := [.int x0]) (r := e_M165) (by decide +kernel) rfl rfl rfl (by decide +kernel) rc165 (by decide) rfl rfl (by decide) (Nat.le_of_ble_eq_true rfl) rfl hcl hcat h1
set_option maxRecDepth 20000 in
theorem s999_1335 {X : Nat × (Nat → Int32)} {d n k : Nat} {f : Nat → e_C} {Q : t_Q} {a0 a1 a3 : Value} {st : List Value} {x : Nat} : TT X d 999 1335 [a0, a1, .ref x, a3] st f n k Q = TT X d 999 1336 [a0, a1, .ref x, a3] (.ref x :: st) f n k Q := tt_st (i := .aload_n 2) (len := 1) (by decide +kernel) rfl rfl
set_option maxRecDepth 20000 in
theorem s999_1336 {X : Nat × (Nat → Int32)} {d n k : Nat} {f : Nat → e_C} {Q : t_Q} {a1 a2 a3 : Value} {st : List Value} {x : Nat} : TT X d 999 1336 [.ref x, a1, a2, a3] st f n k Q = TT X d 999 1337 [.ref x, a1, a2, a3] (.ref x :: st) f n k Q := tt_st (i := .aload_n 0) (len := 1) (by decide +kernel) rfl rfl
set_option maxRecDepth 20000 in
theorem s999_1337 {X : Nat × (Nat → Int32)} {d n k : Nat} {f : Nat → e_C} {Q : t_Q} {a0 a1 a2 : Value} {st : List Value} {x : Int32} : TT X d 999 1337 [a0, a1, a2, .int x] st f n k Q = TT X d 999 1338 [a0, a1, a2, .int x] (.int x :: st) f n k Q := tt_st (i := .iload_n 3) (len := 1) (by decide +kernel) rfl rfl
set_option maxRecDepth 20000 in
theorem s999_1338 {X : Nat × (Nat → Int32)} {d n k : Nat} {f : Nat → e_C} {Q : t_Q} {lv st : List Value} : TT X d 999 1338 lv st f n k Q = TT X d 999 1339 lv (.int 1 :: st) f n k Q := tt_st (i := .iconst 1) (len := 1) (by decide +kernel) rfl rfl
set_option maxRecDepth 20000 in
theorem s999_1339 {X : Nat × (Nat → Int32)} {d n k : Nat} {f : Nat → e_C} {Q : t_Q} {lv st : List Value} {x y : Int32} : TT X d 999 1339 lv (.int y :: .int x :: st) f n k Q = TT X d 999 1340 lv (.int (x + y) :: st) f n k Q := tt_st (i := .iadd) (len := 1) (by decide +kernel) rfl rfl
set_option maxRecDepth 20000 in
theorem s999_1340 {X : Nat × (Nat → Int32)} {d n k : Nat} {f : Nat → e_C} {Q : t_Q} {lv st : List Value} {a : Nat} {i : Int32} : TT X d 999 1340 lv (.int i :: .ref a :: st) f n k Q = ow (arI (f a)) (fun q => e_in i q.1 = true ∧ TT X d 999 1341 lv (.int (q.2 i.toNatClampNeg) :: st) f n k Q) := tt_iald (by decide +kernel)
set_option maxRecDepth 20000 in
theorem k999_1341 {X : Nat × (Nat → Int32)} {d n k : Nat} {f : Nat → e_C} {Q : t_Q} {lv rest : List Value} {a : Nat} {x0 : Int32} (hcl : cno (f a) = some 12) (hcat : e_cat rest ≤ 8) {Q1 : t_Q} (h1 : TT X d 297 0 [.ref a, .int x0, .float 0] [] f n k Q1) (h2 : ∀ f' n' k' v, Q1 f' n' k' v → TT X (d + 1) 999 1344 lv (v.toList ++ rest) f' n' k' Q) : TT X (d + 1) 999 1341 lv (.int x0 :: .ref a :: rest) f n k Q := tt_cV (i := .invokevirtual 193) (kind := 1) (idx := 193) (ci := 12) (as := [.int x0]) (r := e_M297) (by decide +kernel) rfl rfl rfl (by decide +kernel) rc297 (by decide) rfl rfl (by decide) (Nat.le_of_ble_eq_true rfl) rfl hcl hcat h1 h2
set_option maxRecDepth 20000 in
theorem p999_1341 {X : Nat × (Nat → Int32)} {d n k : Nat} {f : Nat → e_C} {Q : t_Q} {lv rest : List Value} {a : Nat} {x0 : Int32} (hcl : cno (f a) = some 12) (hcat : e_cat rest ≤ 8) {v : Option Value} (h1 : PU X d 297 [.ref a, .int x0, .float 0] f n k v) : TT X (d + 1) 999 1341 lv (.int x0 :: .ref a :: rest) f n k Q = TT X (d + 1) 999 1344 lv (v.toList ++ rest) f n k Q := tt_pV (i := .invokevirtual 193) (kind := 1) (idx := 193) (ci := 12) (as := [.int x0]) (r := e_M297) (by decide +kernel) rfl rfl rfl (by decide +kernel) rc297 (by decide) rfl rfl (by decide) (Nat.le_of_ble_eq_true rfl) rfl hcl hcat h1
set_option maxRecDepth 20000 in
theorem s999_1344 {X : Nat × (Nat → Int32)} {d n k : Nat} {f : Nat → e_C} {Q : t_Q} {lv st : List Value} {x y : Int32} : TT X d 999 1344 lv (.int y :: .int x :: st) f n k Q = if x = y then TT X d 999 1395 lv st f n k Q else TT X d 999 1347 lv st f n k Q := tt_if2 (c := .eq) (off := 51) (by decide +kernel) rfl rfl
set_option maxRecDepth 20000 in
theorem s999_1347 {X : Nat × (Nat → Int32)} {d n k : Nat} {f : Nat → e_C} {Q : t_Q} {lv st : List Value} : TT X d 999 1347 lv st f n k Q = TT X d 999 1348 lv (.int 0 :: st) f n k Q := tt_st (i := .iconst 0) (len := 1) (by decide +kernel) rfl rfl
set_option maxRecDepth 20000 in
theorem s999_1348 {X : Nat × (Nat → Int32)} {d n k : Nat} {f : Nat → e_C} {Q : t_Q} {lv : List Value} {v : Int32} : TT X d 999 1348 lv [.int v] f n k Q = ((v = 0 ∨ v = 1) ∧ Q f n k (some (.int v))) := tt_reB (by decide +kernel) (by decide +kernel)
set_option maxRecDepth 20000 in
theorem s999_1349 {X : Nat × (Nat → Int32)} {d n k : Nat} {f : Nat → e_C} {Q : t_Q} {a0 a2 a3 : Value} {st : List Value} {x : Nat} : TT X d 999 1349 [a0, .ref x, a2, a3] st f n k Q = TT X d 999 1350 [a0, .ref x, a2, a3] (.ref x :: st) f n k Q := tt_st (i := .aload_n 1) (len := 1) (by decide +kernel) rfl rfl
set_option maxRecDepth 20000 in
theorem s999_1350 {X : Nat × (Nat → Int32)} {d n k : Nat} {f : Nat → e_C} {Q : t_Q} {a1 a2 a3 : Value} {st : List Value} {x : Nat} : TT X d 999 1350 [.ref x, a1, a2, a3] st f n k Q = TT X d 999 1351 [.ref x, a1, a2, a3] (.ref x :: st) f n k Q := tt_st (i := .aload_n 0) (len := 1) (by decide +kernel) rfl rfl
set_option maxRecDepth 20000 in
theorem s999_1351 {X : Nat × (Nat → Int32)} {d n k : Nat} {f : Nat → e_C} {Q : t_Q} {a0 a1 a2 : Value} {st : List Value} {x : Int32} : TT X d 999 1351 [a0, a1, a2, .int x] st f n k Q = TT X d 999 1352 [a0, a1, a2, .int x] (.int x :: st) f n k Q := tt_st (i := .iload_n 3) (len := 1) (by decide +kernel) rfl rfl
set_option maxRecDepth 20000 in
theorem s999_1352 {X : Nat × (Nat → Int32)} {d n k : Nat} {f : Nat → e_C} {Q : t_Q} {lv st : List Value} : TT X d 999 1352 lv st f n k Q = TT X d 999 1353 lv (.int 1 :: st) f n k Q := tt_st (i := .iconst 1) (len := 1) (by decide +kernel) rfl rfl
set_option maxRecDepth 20000 in
theorem s999_1353 {X : Nat × (Nat → Int32)} {d n k : Nat} {f : Nat → e_C} {Q : t_Q} {lv st : List Value} {x y : Int32} : TT X d 999 1353 lv (.int y :: .int x :: st) f n k Q = TT X d 999 1354 lv (.int (x + y) :: st) f n k Q := tt_st (i := .iadd) (len := 1) (by decide +kernel) rfl rfl
set_option maxRecDepth 20000 in
theorem s999_1354 {X : Nat × (Nat → Int32)} {d n k : Nat} {f : Nat → e_C} {Q : t_Q} {lv st : List Value} {a : Nat} {i : Int32} : TT X d 999 1354 lv (.int i :: .ref a :: st) f n k Q = ow (arI (f a)) (fun q => e_in i q.1 = true ∧ TT X d 999 1355 lv (.int (q.2 i.toNatClampNeg) :: st) f n k Q) := tt_iald (by decide +kernel)
set_option maxRecDepth 20000 in
theorem k999_1355 {X : Nat × (Nat → Int32)} {d n k : Nat} {f : Nat → e_C} {Q : t_Q} {lv rest : List Value} {a : Nat} {x0 : Int32} (hcl : cno (f a) = some 11) (hcat : e_cat rest ≤ 8) {Q1 : t_Q} (h1 : TT X d 166 0 [.ref a, .int x0] [] f n k Q1) (h2 : ∀ f' n' k' v, Q1 f' n' k' v → TT X (d + 1) 999 1358 lv (v.toList ++ rest) f' n' k' Q) : TT X (d + 1) 999 1355 lv (.int x0 :: .ref a :: rest) f n k Q := tt_cV (i := .invokevirtual 194) (kind := 1) (idx := 194) (ci := 11) (as := [.int x0]) (r := e_M166) (by decide +kernel) rfl rfl rfl (by decide +kernel) rc166 (by decide) rfl rfl (by decide) (Nat.le_of_ble_eq_true rfl) rfl hcl hcat h1 h2
set_option maxRecDepth 20000 in
theorem p999_1355 {X : Nat × (Nat → Int32)} {d n k : Nat} {f : Nat → e_C} {Q : t_Q} {lv rest : List Value} {a : Nat} {x0 : Int32} (hcl : cno (f a) = some 11) (hcat : e_cat rest ≤ 8) {v : Option Value} (h1 : PU X d 166 [.ref a, .int x0] f n k v) : TT X (d + 1) 999 1355 lv (.int x0 :: .ref a :: rest) f n k Q = TT X (d + 1) 999 1358 lv (v.toList ++ rest) f n k Q := tt_pV (i := .invokevirtual 194) (kind := 1) (idx := 194) (ci := 11) (as := [.int x0]) (r := e_M166) (by decide +kernel) rfl rfl rfl (by decide +kernel) rc166 (by decide) rfl rfl (by decide) (Nat.le_of_ble_eq_true rfl) rfl hcl hcat h1
set_option maxRecDepth 20000 in
theorem s999_1358 {X : Nat × (Nat → Int32)} {d n k : Nat} {f : Nat → e_C} {Q : t_Q} {a0 a1 a3 : Value} {st : List Value} {x : Nat} : TT X d 999 1358 [a0, a1, .ref x, a3] st f n k Q = TT X d 999 1359 [a0, a1, .ref x, a3] (.ref x :: st) f n k Q := tt_st (i := .aload_n 2) (len := 1) (by decide +kernel) rfl rfl
set_option maxRecDepth 20000 in
theorem s999_1359 {X : Nat × (Nat → Int32)} {d n k : Nat} {f : Nat → e_C} {Q : t_Q} {a1 a2 a3 : Value} {st : List Value} {x : Nat} : TT X d 999 1359 [.ref x, a1, a2, a3] st f n k Q = TT X d 999 1360 [.ref x, a1, a2, a3] (.ref x :: st) f n k Q := tt_st (i := .aload_n 0) (len := 1) (by decide +kernel) rfl rfl
set_option maxRecDepth 20000 in
theorem s999_1360 {X : Nat × (Nat → Int32)} {d n k : Nat} {f : Nat → e_C} {Q : t_Q} {a0 a1 a2 : Value} {st : List Value} {x : Int32} : TT X d 999 1360 [a0, a1, a2, .int x] st f n k Q = TT X d 999 1361 [a0, a1, a2, .int x] (.int x :: st) f n k Q := tt_st (i := .iload_n 3) (len := 1) (by decide +kernel) rfl rfl
set_option maxRecDepth 20000 in
theorem s999_1361 {X : Nat × (Nat → Int32)} {d n k : Nat} {f : Nat → e_C} {Q : t_Q} {lv st : List Value} : TT X d 999 1361 lv st f n k Q = TT X d 999 1362 lv (.int 1 :: st) f n k Q := tt_st (i := .iconst 1) (len := 1) (by decide +kernel) rfl rfl
set_option maxRecDepth 20000 in
theorem s999_1362 {X : Nat × (Nat → Int32)} {d n k : Nat} {f : Nat → e_C} {Q : t_Q} {lv st : List Value} {x y : Int32} : TT X d 999 1362 lv (.int y :: .int x :: st) f n k Q = TT X d 999 1363 lv (.int (x + y) :: st) f n k Q := tt_st (i := .iadd) (len := 1) (by decide +kernel) rfl rfl
set_option maxRecDepth 20000 in
theorem s999_1363 {X : Nat × (Nat → Int32)} {d n k : Nat} {f : Nat → e_C} {Q : t_Q} {lv st : List Value} {a : Nat} {i : Int32} : TT X d 999 1363 lv (.int i :: .ref a :: st) f n k Q = ow (arI (f a)) (fun q => e_in i q.1 = true ∧ TT X d 999 1364 lv (.int (q.2 i.toNatClampNeg) :: st) f n k Q) := tt_iald (by decide +kernel)
set_option maxRecDepth 20000 in
theorem k999_1364 {X : Nat × (Nat → Int32)} {d n k : Nat} {f : Nat → e_C} {Q : t_Q} {lv rest : List Value} {a : Nat} {x0 : Int32} (hcl : cno (f a) = some 12) (hcat : e_cat rest ≤ 8) {Q1 : t_Q} (h1 : TT X d 298 0 [.ref a, .int x0, .float 0] [] f n k Q1) (h2 : ∀ f' n' k' v, Q1 f' n' k' v → TT X (d + 1) 999 1367 lv (v.toList ++ rest) f' n' k' Q) : TT X (d + 1) 999 1364 lv (.int x0 :: .ref a :: rest) f n k Q := tt_cV (i := .invokevirtual 197) (kind := 1) (idx := 197) (ci := 12) (as := [.int x0]) (r := e_M298) (by decide +kernel) rfl rfl rfl (by decide +kernel) rc298 (by decide) rfl rfl (by decide) (Nat.le_of_ble_eq_true rfl) rfl hcl hcat h1 h2
set_option maxRecDepth 20000 in
theorem p999_1364 {X : Nat × (Nat → Int32)} {d n k : Nat} {f : Nat → e_C} {Q : t_Q} {lv rest : List Value} {a : Nat} {x0 : Int32} (hcl : cno (f a) = some 12) (hcat : e_cat rest ≤ 8) {v : Option Value} (h1 : PU X d 298 [.ref a, .int x0, .float 0] f n k v) : TT X (d + 1) 999 1364 lv (.int x0 :: .ref a :: rest) f n k Q = TT X (d + 1) 999 1367 lv (v.toList ++ rest) f n k Q := tt_pV (i := .invokevirtual 197) (kind := 1) (idx := 197) (ci := 12) (as := [.int x0]) (r := e_M298) (by decide +kernel) rfl rfl rfl (by decide +kernel) rc298 (by decide) rfl rfl (by decide) (Nat.le_of_ble_eq_true rfl) rfl hcl hcat h1
set_option maxRecDepth 20000 in
theorem s999_1367 {X : Nat × (Nat → Int32)} {d n k : Nat} {f : Nat → e_C} {Q : t_Q} {lv st : List Value} {x y : Int32} : TT X d 999 1367 lv (.int y :: .int x :: st) f n k Q = if x = y then TT X d 999 1395 lv st f n k Q else TT X d 999 1370 lv st f n k Q := tt_if2 (c := .eq) (off := 28) (by decide +kernel) rfl rfl
set_option maxRecDepth 20000 in
theorem s999_1370 {X : Nat × (Nat → Int32)} {d n k : Nat} {f : Nat → e_C} {Q : t_Q} {lv st : List Value} : TT X d 999 1370 lv st f n k Q = TT X d 999 1371 lv (.int 0 :: st) f n k Q := tt_st (i := .iconst 0) (len := 1) (by decide +kernel) rfl rfl
set_option maxRecDepth 20000 in
theorem s999_1371 {X : Nat × (Nat → Int32)} {d n k : Nat} {f : Nat → e_C} {Q : t_Q} {lv : List Value} {v : Int32} : TT X d 999 1371 lv [.int v] f n k Q = ((v = 0 ∨ v = 1) ∧ Q f n k (some (.int v))) := tt_reB (by decide +kernel) (by decide +kernel)
set_option maxRecDepth 20000 in
theorem s999_1372 {X : Nat × (Nat → Int32)} {d n k : Nat} {f : Nat → e_C} {Q : t_Q} {a0 a2 a3 : Value} {st : List Value} {x : Nat} : TT X d 999 1372 [a0, .ref x, a2, a3] st f n k Q = TT X d 999 1373 [a0, .ref x, a2, a3] (.ref x :: st) f n k Q := tt_st (i := .aload_n 1) (len := 1) (by decide +kernel) rfl rfl
set_option maxRecDepth 20000 in
theorem s999_1373 {X : Nat × (Nat → Int32)} {d n k : Nat} {f : Nat → e_C} {Q : t_Q} {a1 a2 a3 : Value} {st : List Value} {x : Nat} : TT X d 999 1373 [.ref x, a1, a2, a3] st f n k Q = TT X d 999 1374 [.ref x, a1, a2, a3] (.ref x :: st) f n k Q := tt_st (i := .aload_n 0) (len := 1) (by decide +kernel) rfl rfl
set_option maxRecDepth 20000 in
theorem s999_1374 {X : Nat × (Nat → Int32)} {d n k : Nat} {f : Nat → e_C} {Q : t_Q} {a0 a1 a2 : Value} {st : List Value} {x : Int32} : TT X d 999 1374 [a0, a1, a2, .int x] st f n k Q = TT X d 999 1375 [a0, a1, a2, .int x] (.int x :: st) f n k Q := tt_st (i := .iload_n 3) (len := 1) (by decide +kernel) rfl rfl
set_option maxRecDepth 20000 in
theorem s999_1375 {X : Nat × (Nat → Int32)} {d n k : Nat} {f : Nat → e_C} {Q : t_Q} {lv st : List Value} : TT X d 999 1375 lv st f n k Q = TT X d 999 1376 lv (.int 1 :: st) f n k Q := tt_st (i := .iconst 1) (len := 1) (by decide +kernel) rfl rfl
set_option maxRecDepth 20000 in
theorem s999_1376 {X : Nat × (Nat → Int32)} {d n k : Nat} {f : Nat → e_C} {Q : t_Q} {lv st : List Value} {x y : Int32} : TT X d 999 1376 lv (.int y :: .int x :: st) f n k Q = TT X d 999 1377 lv (.int (x + y) :: st) f n k Q := tt_st (i := .iadd) (len := 1) (by decide +kernel) rfl rfl
set_option maxRecDepth 20000 in
theorem s999_1377 {X : Nat × (Nat → Int32)} {d n k : Nat} {f : Nat → e_C} {Q : t_Q} {lv st : List Value} {a : Nat} {i : Int32} : TT X d 999 1377 lv (.int i :: .ref a :: st) f n k Q = ow (arI (f a)) (fun q => e_in i q.1 = true ∧ TT X d 999 1378 lv (.int (q.2 i.toNatClampNeg) :: st) f n k Q) := tt_iald (by decide +kernel)
set_option maxRecDepth 20000 in
theorem k999_1378 {X : Nat × (Nat → Int32)} {d n k : Nat} {f : Nat → e_C} {Q : t_Q} {lv rest : List Value} {a : Nat} {x0 : Int32} (hcl : cno (f a) = some 11) (hcat : e_cat rest ≤ 8) {Q1 : t_Q} (h1 : TT X d 167 0 [.ref a, .int x0] [] f n k Q1) (h2 : ∀ f' n' k' v, Q1 f' n' k' v → TT X (d + 1) 999 1381 lv (v.toList ++ rest) f' n' k' Q) : TT X (d + 1) 999 1378 lv (.int x0 :: .ref a :: rest) f n k Q := tt_cV (i := .invokevirtual 198) (kind := 1) (idx := 198) (ci := 11) (as := [.int x0]) (r := e_M167) (by decide +kernel) rfl rfl rfl (by decide +kernel) rc167 (by decide) rfl rfl (by decide) (Nat.le_of_ble_eq_true rfl) rfl hcl hcat h1 h2
set_option maxRecDepth 20000 in
theorem p999_1378 {X : Nat × (Nat → Int32)} {d n k : Nat} {f : Nat → e_C} {Q : t_Q} {lv rest : List Value} {a : Nat} {x0 : Int32} (hcl : cno (f a) = some 11) (hcat : e_cat rest ≤ 8) {v : Option Value} (h1 : PU X d 167 [.ref a, .int x0] f n k v) : TT X (d + 1) 999 1378 lv (.int x0 :: .ref a :: rest) f n k Q = TT X (d + 1) 999 1381 lv (v.toList ++ rest) f n k Q := tt_pV (i := .invokevirtual 198) (kind := 1) (idx := 198) (ci := 11) (as := [.int x0]) (r := e_M167) (by decide +kernel) rfl rfl rfl (by decide +kernel) rc167 (by decide) rfl rfl (by decide) (Nat.le_of_ble_eq_true rfl) rfl hcl hcat h1
set_option maxRecDepth 20000 in
theorem s999_1381 {X : Nat × (Nat → Int32)} {d n k : Nat} {f : Nat → e_C} {Q : t_Q} {a0 a1 a3 : Value} {st : List Value} {x : Nat} : TT X d 999 1381 [a0, a1, .ref x, a3] st f n k Q = TT X d 999 1382 [a0, a1, .ref x, a3] (.ref x :: st) f n k Q := tt_st (i := .aload_n 2) (len := 1) (by decide +kernel) rfl rfl
set_option maxRecDepth 20000 in
theorem s999_1382 {X : Nat × (Nat → Int32)} {d n k : Nat} {f : Nat → e_C} {Q : t_Q} {a1 a2 a3 : Value} {st : List Value} {x : Nat} : TT X d 999 1382 [.ref x, a1, a2, a3] st f n k Q = TT X d 999 1383 [.ref x, a1, a2, a3] (.ref x :: st) f n k Q := tt_st (i := .aload_n 0) (len := 1) (by decide +kernel) rfl rfl
set_option maxRecDepth 20000 in
theorem s999_1383 {X : Nat × (Nat → Int32)} {d n k : Nat} {f : Nat → e_C} {Q : t_Q} {a0 a1 a2 : Value} {st : List Value} {x : Int32} : TT X d 999 1383 [a0, a1, a2, .int x] st f n k Q = TT X d 999 1384 [a0, a1, a2, .int x] (.int x :: st) f n k Q := tt_st (i := .iload_n 3) (len := 1) (by decide +kernel) rfl rfl
set_option maxRecDepth 20000 in
theorem s999_1384 {X : Nat × (Nat → Int32)} {d n k : Nat} {f : Nat → e_C} {Q : t_Q} {lv st : List Value} : TT X d 999 1384 lv st f n k Q = TT X d 999 1385 lv (.int 1 :: st) f n k Q := tt_st (i := .iconst 1) (len := 1) (by decide +kernel) rfl rfl
set_option maxRecDepth 20000 in
theorem s999_1385 {X : Nat × (Nat → Int32)} {d n k : Nat} {f : Nat → e_C} {Q : t_Q} {lv st : List Value} {x y : Int32} : TT X d 999 1385 lv (.int y :: .int x :: st) f n k Q = TT X d 999 1386 lv (.int (x + y) :: st) f n k Q := tt_st (i := .iadd) (len := 1) (by decide +kernel) rfl rfl
set_option maxRecDepth 20000 in
theorem s999_1386 {X : Nat × (Nat → Int32)} {d n k : Nat} {f : Nat → e_C} {Q : t_Q} {lv st : List Value} {a : Nat} {i : Int32} : TT X d 999 1386 lv (.int i :: .ref a :: st) f n k Q = ow (arI (f a)) (fun q => e_in i q.1 = true ∧ TT X d 999 1387 lv (.int (q.2 i.toNatClampNeg) :: st) f n k Q) := tt_iald (by decide +kernel)
set_option maxRecDepth 20000 in
theorem k999_1387 {X : Nat × (Nat → Int32)} {d n k : Nat} {f : Nat → e_C} {Q : t_Q} {lv rest : List Value} {a : Nat} {x0 : Int32} (hcl : cno (f a) = some 12) (hcat : e_cat rest ≤ 8) {Q1 : t_Q} (h1 : TT X d 299 0 [.ref a, .int x0] [] f n k Q1) (h2 : ∀ f' n' k' v, Q1 f' n' k' v → TT X (d + 1) 999 1390 lv (v.toList ++ rest) f' n' k' Q) : TT X (d + 1) 999 1387 lv (.int x0 :: .ref a :: rest) f n k Q := tt_cV (i := .invokevirtual 201) (kind := 1) (idx := 201) (ci := 12) (as := [.int x0]) (r := e_M299) (by decide +kernel) rfl rfl rfl (by decide +kernel) rc299 (by decide) rfl rfl (by decide) (Nat.le_of_ble_eq_true rfl) rfl hcl hcat h1 h2
set_option maxRecDepth 20000 in
theorem p999_1387 {X : Nat × (Nat → Int32)} {d n k : Nat} {f : Nat → e_C} {Q : t_Q} {lv rest : List Value} {a : Nat} {x0 : Int32} (hcl : cno (f a) = some 12) (hcat : e_cat rest ≤ 8) {v : Option Value} (h1 : PU X d 299 [.ref a, .int x0] f n k v) : TT X (d + 1) 999 1387 lv (.int x0 :: .ref a :: rest) f n k Q = TT X (d + 1) 999 1390 lv (v.toList ++ rest) f n k Q := tt_pV (i := .invokevirtual 201) (kind := 1) (idx := 201) (ci := 12) (as := [.int x0]) (r := e_M299) (by decide +kernel) rfl rfl rfl (by decide +kernel) rc299 (by decide) rfl rfl (by decide) (Nat.le_of_ble_eq_true rfl) rfl hcl hcat h1
set_option maxRecDepth 20000 in
theorem s999_1390 {X : Nat × (Nat → Int32)} {d n k : Nat} {f : Nat → e_C} {Q : t_Q} {lv st : List Value} {x y : Int32} : TT X d 999 1390 lv (.int y :: .int x :: st) f n k Q = if x = y then TT X d 999 1395 lv st f n k Q else TT X d 999 1393 lv st f n k Q := tt_if2 (c := .eq) (off := 5) (by decide +kernel) rfl rfl
set_option maxRecDepth 20000 in
theorem s999_1393 {X : Nat × (Nat → Int32)} {d n k : Nat} {f : Nat → e_C} {Q : t_Q} {lv st : List Value} : TT X d 999 1393 lv st f n k Q = TT X d 999 1394 lv (.int 0 :: st) f n k Q := tt_st (i := .iconst 0) (len := 1) (by decide +kernel) rfl rfl
set_option maxRecDepth 20000 in
theorem s999_1394 {X : Nat × (Nat → Int32)} {d n k : Nat} {f : Nat → e_C} {Q : t_Q} {lv : List Value} {v : Int32} : TT X d 999 1394 lv [.int v] f n k Q = ((v = 0 ∨ v = 1) ∧ Q f n k (some (.int v))) := tt_reB (by decide +kernel) (by decide +kernel)
set_option maxRecDepth 20000 in
theorem s999_1395 {X : Nat × (Nat → Int32)} {d n k : Nat} {f : Nat → e_C} {Q : t_Q} {a0 a1 a2 : Value} {st : List Value} {x : Int32} : TT X d 999 1395 [a0, a1, a2, .int x] st f n k Q = TT X d 999 1398 [a0, a1, a2, .int (x + 6)] st f n k Q := tt_st (i := .iinc 3 6) (len := 3) (by decide +kernel) rfl rfl
set_option maxRecDepth 20000 in
theorem s999_1398 {X : Nat × (Nat → Int32)} {d n k : Nat} {f : Nat → e_C} {Q : t_Q} {lv st : List Value} : TT X d 999 1398 lv st f n k Q = TT X d 999 18 lv st f n k Q := tt_st (i := .goto (-1380)) (len := 3) (by decide +kernel) rfl rfl
set_option maxRecDepth 20000 in
theorem s999_1401 {X : Nat × (Nat → Int32)} {d n k : Nat} {f : Nat → e_C} {Q : t_Q} {lv st : List Value} : TT X d 999 1401 lv st f n k Q = TT X d 999 1402 lv (.int 1 :: st) f n k Q := tt_st (i := .iconst 1) (len := 1) (by decide +kernel) rfl rfl
set_option maxRecDepth 20000 in
theorem s999_1402 {X : Nat × (Nat → Int32)} {d n k : Nat} {f : Nat → e_C} {Q : t_Q} {lv : List Value} {v : Int32} : TT X d 999 1402 lv [.int v] f n k Q = ((v = 0 ∨ v = 1) ∧ Q f n k (some (.int v))) := tt_reB (by decide +kernel) (by decide +kernel)

/-! the law's own code -/
set_option maxRecDepth 100000 in
theorem e_ld0 : ∀ q ∈ (e_I323.drop 0).take 40, decode code q.1 = .ok q.2 := by decide +kernel
set_option maxRecDepth 100000 in
theorem e_ld1 : ∀ q ∈ (e_I323.drop 40).take 40, decode code q.1 = .ok q.2 := by decide +kernel
set_option maxRecDepth 100000 in
theorem e_ld2 : ∀ q ∈ (e_I323.drop 80).take 40, decode code q.1 = .ok q.2 := by decide +kernel
set_option maxRecDepth 100000 in
theorem e_ld3 : ∀ q ∈ (e_I323.drop 120).take 40, decode code q.1 = .ok q.2 := by decide +kernel
set_option maxRecDepth 100000 in
theorem e_ld4 : ∀ q ∈ (e_I323.drop 160).take 40, decode code q.1 = .ok q.2 := by decide +kernel
set_option maxRecDepth 100000 in
theorem e_ld5 : ∀ q ∈ (e_I323.drop 200).take 40, decode code q.1 = .ok q.2 := by decide +kernel
set_option maxRecDepth 100000 in
theorem e_ld6 : ∀ q ∈ (e_I323.drop 240).take 40, decode code q.1 = .ok q.2 := by decide +kernel
set_option maxRecDepth 100000 in
theorem e_ld7 : ∀ q ∈ (e_I323.drop 280).take 40, decode code q.1 = .ok q.2 := by decide +kernel
set_option maxRecDepth 100000 in
theorem e_ld8 : ∀ q ∈ (e_I323.drop 320).take 40, decode code q.1 = .ok q.2 := by decide +kernel
set_option maxRecDepth 100000 in
theorem e_ld9 : ∀ q ∈ (e_I323.drop 360).take 40, decode code q.1 = .ok q.2 := by decide +kernel
set_option maxRecDepth 100000 in
theorem e_ld10 : ∀ q ∈ (e_I323.drop 400).take 40, decode code q.1 = .ok q.2 := by decide +kernel
set_option maxRecDepth 100000 in
theorem e_ld11 : ∀ q ∈ (e_I323.drop 440).take 40, decode code q.1 = .ok q.2 := by decide +kernel
set_option maxRecDepth 100000 in
theorem e_ld12 : ∀ q ∈ (e_I323.drop 480).take 40, decode code q.1 = .ok q.2 := by decide +kernel
set_option maxRecDepth 100000 in
theorem e_ld13 : ∀ q ∈ (e_I323.drop 520).take 40, decode code q.1 = .ok q.2 := by decide +kernel
set_option maxRecDepth 100000 in
theorem e_ld14 : ∀ q ∈ (e_I323.drop 560).take 40, decode code q.1 = .ok q.2 := by decide +kernel
set_option maxRecDepth 100000 in
theorem e_ld15 : ∀ q ∈ (e_I323.drop 600).take 40, decode code q.1 = .ok q.2 := by decide +kernel
set_option maxRecDepth 100000 in
theorem e_ld16 : ∀ q ∈ (e_I323.drop 640).take 40, decode code q.1 = .ok q.2 := by decide +kernel
set_option maxRecDepth 100000 in
theorem e_ld17 : ∀ q ∈ (e_I323.drop 680).take 40, decode code q.1 = .ok q.2 := by decide +kernel
set_option maxRecDepth 100000 in
theorem e_ld18 : ∀ q ∈ (e_I323.drop 720).take 40, decode code q.1 = .ok q.2 := by decide +kernel
set_option maxRecDepth 100000 in
theorem e_ld19 : ∀ q ∈ (e_I323.drop 760).take 40, decode code q.1 = .ok q.2 := by decide +kernel
set_option maxRecDepth 100000 in
theorem e_ld20 : ∀ q ∈ (e_I323.drop 800).take 40, decode code q.1 = .ok q.2 := by decide +kernel
set_option maxRecDepth 100000 in
theorem e_ld21 : ∀ q ∈ (e_I323.drop 840).take 40, decode code q.1 = .ok q.2 := by decide +kernel
set_option maxRecDepth 100000 in
theorem e_ld22 : ∀ q ∈ (e_I323.drop 880).take 40, decode code q.1 = .ok q.2 := by decide +kernel
theorem e_td {α : Type} {P : α → Prop} {l : List α} (k : Nat) (h1 : ∀ q ∈ l.take k, P q) (h2 : ∀ q ∈ l.drop k, P q) : ∀ q ∈ l, P q := fun q hq => by
  rw [← List.take_append_drop k l] at hq
  exact (List.mem_append.mp hq).elim (h1 q) (h2 q)
theorem e_lz23 : ∀ q ∈ e_I323.drop 920, decode code q.1 = .ok q.2 := fun q hq => absurd hq (by rw [List.drop_eq_nil_of_le (by decide +kernel)]; exact List.not_mem_nil)
theorem e_lz22 : ∀ q ∈ e_I323.drop 880, decode code q.1 = .ok q.2 := e_td 40 e_ld22 (by rw [List.drop_drop]; exact e_lz23)
theorem e_lz21 : ∀ q ∈ e_I323.drop 840, decode code q.1 = .ok q.2 := e_td 40 e_ld21 (by rw [List.drop_drop]; exact e_lz22)
theorem e_lz20 : ∀ q ∈ e_I323.drop 800, decode code q.1 = .ok q.2 := e_td 40 e_ld20 (by rw [List.drop_drop]; exact e_lz21)
theorem e_lz19 : ∀ q ∈ e_I323.drop 760, decode code q.1 = .ok q.2 := e_td 40 e_ld19 (by rw [List.drop_drop]; exact e_lz20)
theorem e_lz18 : ∀ q ∈ e_I323.drop 720, decode code q.1 = .ok q.2 := e_td 40 e_ld18 (by rw [List.drop_drop]; exact e_lz19)
theorem e_lz17 : ∀ q ∈ e_I323.drop 680, decode code q.1 = .ok q.2 := e_td 40 e_ld17 (by rw [List.drop_drop]; exact e_lz18)
theorem e_lz16 : ∀ q ∈ e_I323.drop 640, decode code q.1 = .ok q.2 := e_td 40 e_ld16 (by rw [List.drop_drop]; exact e_lz17)
theorem e_lz15 : ∀ q ∈ e_I323.drop 600, decode code q.1 = .ok q.2 := e_td 40 e_ld15 (by rw [List.drop_drop]; exact e_lz16)
theorem e_lz14 : ∀ q ∈ e_I323.drop 560, decode code q.1 = .ok q.2 := e_td 40 e_ld14 (by rw [List.drop_drop]; exact e_lz15)
theorem e_lz13 : ∀ q ∈ e_I323.drop 520, decode code q.1 = .ok q.2 := e_td 40 e_ld13 (by rw [List.drop_drop]; exact e_lz14)
theorem e_lz12 : ∀ q ∈ e_I323.drop 480, decode code q.1 = .ok q.2 := e_td 40 e_ld12 (by rw [List.drop_drop]; exact e_lz13)
theorem e_lz11 : ∀ q ∈ e_I323.drop 440, decode code q.1 = .ok q.2 := e_td 40 e_ld11 (by rw [List.drop_drop]; exact e_lz12)
theorem e_lz10 : ∀ q ∈ e_I323.drop 400, decode code q.1 = .ok q.2 := e_td 40 e_ld10 (by rw [List.drop_drop]; exact e_lz11)
theorem e_lz9 : ∀ q ∈ e_I323.drop 360, decode code q.1 = .ok q.2 := e_td 40 e_ld9 (by rw [List.drop_drop]; exact e_lz10)
theorem e_lz8 : ∀ q ∈ e_I323.drop 320, decode code q.1 = .ok q.2 := e_td 40 e_ld8 (by rw [List.drop_drop]; exact e_lz9)
theorem e_lz7 : ∀ q ∈ e_I323.drop 280, decode code q.1 = .ok q.2 := e_td 40 e_ld7 (by rw [List.drop_drop]; exact e_lz8)
theorem e_lz6 : ∀ q ∈ e_I323.drop 240, decode code q.1 = .ok q.2 := e_td 40 e_ld6 (by rw [List.drop_drop]; exact e_lz7)
theorem e_lz5 : ∀ q ∈ e_I323.drop 200, decode code q.1 = .ok q.2 := e_td 40 e_ld5 (by rw [List.drop_drop]; exact e_lz6)
theorem e_lz4 : ∀ q ∈ e_I323.drop 160, decode code q.1 = .ok q.2 := e_td 40 e_ld4 (by rw [List.drop_drop]; exact e_lz5)
theorem e_lz3 : ∀ q ∈ e_I323.drop 120, decode code q.1 = .ok q.2 := e_td 40 e_ld3 (by rw [List.drop_drop]; exact e_lz4)
theorem e_lz2 : ∀ q ∈ e_I323.drop 80, decode code q.1 = .ok q.2 := e_td 40 e_ld2 (by rw [List.drop_drop]; exact e_lz3)
theorem e_lz1 : ∀ q ∈ e_I323.drop 40, decode code q.1 = .ok q.2 := e_td 40 e_ld1 (by rw [List.drop_drop]; exact e_lz2)
theorem e_lz0 : ∀ q ∈ e_I323.drop 0, decode code q.1 = .ok q.2 := e_td 40 e_ld0 (by rw [List.drop_drop]; exact e_lz1)
theorem e_ML_dec : ∀ q ∈ e_ML.2.2.2.2.2.2, decode code q.1 = .ok q.2 := e_lz0

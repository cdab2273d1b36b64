/-! ===== turning, triangles: in whole numbers ===== -/
def turnK (n : Int) (h : Int → Int) (y x j : Int) : Int := if sqIn n j ∧ (n - 1 - j % 6 < y ∨ (n - 1 - j % 6 = y ∧ j / 6 < x)) then h ((n - 1 - j % 6) * 6 + j / 6) else 0
/-- what stands on a square behind a quarter's turn -/
def turnF (n : Int) (h : Int → Int) : Int → Int := turnK n h n 0
theorem turnK_0 (n : Int) (h : Int → Int) (j : Int) (hn : n ≤ 6) : turnK n h 0 0 j = 0 := by
  unfold turnK
  exact if_neg (by rintro ⟨⟨a, b, c⟩, d | ⟨d, e⟩⟩ <;> omega)
theorem turnK_s {n : Int} {h : Int → Int} {y x : Int} (hn : n ≤ 6) (h1 : 0 ≤ x) (h2 : x < n) (h3 : 0 ≤ y) (h4 : y < n) (j : Int) : updI (turnK n h y x) (x * 6 + (n - 1 - y)) (h (y * 6 + x)) j = turnK n h y (x + 1) j := by
  unfold updI turnK
  by_cases e : j = x * 6 + (n - 1 - y)
  · have e1 : j % 6 = n - 1 - y := by omega
    have e2 : j / 6 = x := by omega
    rw [if_pos e, if_pos ⟨⟨by omega, by omega, by omega⟩, by omega⟩, show (n - 1 - j % 6) * 6 + j / 6 = y * 6 + x by omega]
  · rw [if_neg e]
    by_cases q : sqIn n j ∧ (n - 1 - j % 6 < y ∨ (n - 1 - j % 6 = y ∧ j / 6 < x))
    · rw [if_pos q, if_pos ⟨q.1, by omega⟩]
    · rw [if_neg q, if_neg (fun w => q ⟨w.1, by
        obtain ⟨⟨a, b, c⟩, d⟩ := w
        omega⟩)]
theorem turnK_row {n : Int} {h : Int → Int} {y : Int} (j : Int) : turnK n h y n j = turnK n h (y + 1) 0 j := by
  unfold turnK
  by_cases q : sqIn n j ∧ (n - 1 - j % 6 < y ∨ (n - 1 - j % 6 = y ∧ j / 6 < n))
  · rw [if_pos q, if_pos ⟨q.1, by omega⟩]
  · rw [if_neg q, if_neg (fun w => q ⟨w.1, by
      obtain ⟨⟨a, b, c⟩, d⟩ := w
      omega⟩)]
theorem turnF_at {n : Int} {h : Int → Int} {j : Int} (hj : sqIn n j) : turnF n h j = h ((n - 1 - j % 6) * 6 + j / 6) := by
  unfold turnF turnK
  exact if_pos ⟨hj, by obtain ⟨a, b, c⟩ := hj; omega⟩
theorem turnF_out {n : Int} {h : Int → Int} {j : Int} (hj : ¬ sqIn n j) : turnF n h j = 0 := by
  unfold turnF turnK
  exact if_neg (fun w => hj w.1)
theorem YOk.turn {n ho : Int} {h c : Int → Int} (H : YOk n ho h c) : YOk n ho (turnF n h) (turnF n c) := by
  refine ⟨H.1, H.2.1, fun j => ?_, fun j => ?_, fun j hj => turnF_out hj⟩
  · by_cases q : sqIn n j
    · rw [turnF_at q]; exact H.h _
    · rw [turnF_out q]; exact ⟨Int.le_refl 0, by omega⟩
  · by_cases q : sqIn n j
    · rw [turnF_at q, turnF_at q]; exact H.c _
    · rw [turnF_out q, turnF_out q]; exact ⟨Int.le_refl 0, p4_pos 0⟩
theorem YOk.none {n ho : Int} (hn : 2 ≤ n ∧ n ≤ 6) (hh : 0 ≤ ho ∧ ho ≤ 7) : YOk n ho (fun _ => 0) (fun _ => 0) := ⟨hn, hh, fun _ => ⟨Int.le_refl 0, by show (0:Int) ≤ 8; omega⟩, fun _ => ⟨Int.le_refl 0, p4_pos _⟩, fun _ _ => rfl⟩
/-- a stack lowered to v blocks, where it has more -/
def lowH (h : Int → Int) (q v : Int) : Int → Int := if 0 ≤ v ∧ v < h q then updI h q v else h
def lowC (h c : Int → Int) (q v : Int) : Int → Int := if 0 ≤ v ∧ v < h q then updI c q (c q % p4 v) else c
theorem YOk.low {n ho : Int} {h c : Int → Int} (H : YOk n ho h c) {q v : Int} (hq : sqIn n q) : YOk n ho (lowH h q v) (lowC h c q v) := by
  unfold lowH lowC
  by_cases e : 0 ≤ v ∧ v < h q
  · rw [if_pos e, if_pos e]
    exact H.set hq (by have := H.h q; omega) (mod4 _ _)
  · rw [if_neg e, if_neg e]
    exact H
theorem YOk.add {n ho : Int} {h c : Int → Int} (H : YOk n ho h c) {q d : Int} (hq : sqIn n q) (h8 : h q < 8) (hd : 0 ≤ d ∧ d ≤ 3) : YOk n ho (updI h q (h q + 1)) (updI c q (c q + d * p4 (h q))) := by
  have a1 := H.h q
  have a2 := H.c q
  exact H.set hq (by omega) (add4 a2.1 a2.2 hd a1.1)
theorem sq_in {n x y : Int} (hn : n ≤ 6) (h1 : 0 ≤ x) (h2 : x < n) (h3 : 0 ≤ y) (h4 : y < n) : sqIn n (y * 6 + x) := ⟨by omega, by omega, by omega⟩
def triN (i j t : Int) : Int := ((i + 9) * 16 + j + 9) * 2 + t
def tI (w : Int) : Int := atI [-1, -1, 0, 0, -1, 0] w
def tJ (w : Int) : Int := atI [-1, -1, -1, 0, 0, 0] w
def tH (w : Int) : Int := atI [0, 1, 1, 0, 0, 1] w
theorem t_rg (w : Int) (h : 0 ≤ w ∧ w < 6) : (-1 ≤ tI w ∧ tI w ≤ 0) ∧ (-1 ≤ tJ w ∧ tJ w ≤ 0) ∧ 0 ≤ tH w ∧ tH w ≤ 1 := by
  rcases (show w = 0 ∨ w = 1 ∨ w = 2 ∨ w = 3 ∨ w = 4 ∨ w = 5 by omega) with h | h | h | h | h | h <;> subst h <;> decide
/-- the w-th of a block's six triangles -/
def triB (x y z w : Int) : Int := triN (x - z + tI w) (y - z + tJ w) (tH w)
theorem triB_rg {x y z w : Int} (hx : 0 ≤ x ∧ x ≤ 5) (hy : 0 ≤ y ∧ y ≤ 5) (hz : 0 ≤ z ∧ z ≤ 7) (hw : 0 ≤ w ∧ w < 6) : 0 ≤ triB x y z w ∧ triB x y z w < 512 := by
  have := t_rg w hw
  unfold triB triN
  omega
def setF (f : Int → Int) (N i v : Int) : Int → Int := if 0 ≤ i ∧ i < N then updI f i v else f
def blkN (x y z : Int) : Int := z * 36 + y * 6 + x

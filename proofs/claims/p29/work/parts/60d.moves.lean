/-! ===== a change, and what is told behind it ===== -/
theorem topV_rg (h c : Int → Int) (q : Int) : -1 ≤ topV h c q ∧ topV h c q ≤ 3 := by
  unfold topV
  split
  · omega
  · have := colZ_rg (c q) (h q - 1)
    omega
theorem put_top {n ho : Int} {h c : Int → Int} (H : YOk n ho h c) {q d : Int} (hd : 0 ≤ d ∧ d ≤ 3) : topV (updI h q (h q + 1)) (updI c q (c q + d * p4 (h q))) q = d := by
  have a := H.h q
  have b := H.c q
  unfold topV
  rw [updI_s, updI_s, if_neg (by omega), show h q + 1 - 1 = h q by omega]
  exact colZ_add b.1 b.2 hd
theorem put_blk {n ho : Int} {h c : Int → Int} (H : YOk n ho h c) {x y d : Int} (hd : 0 ≤ d ∧ d ≤ 3) : blkV n (updI h (y * 6 + x) (h (y * 6 + x) + 1)) (updI c (y * 6 + x) (c (y * 6 + x) + d * p4 (h (y * 6 + x)))) x y (h (y * 6 + x)) 0 = d := by
  have b := H.c (y * 6 + x)
  unfold blkV
  rw [updI_s, updI_s, if_neg (by omega), if_pos rfl]
  exact colZ_add b.1 b.2 hd
theorem low_at {h : Int → Int} {q : Int} (h0 : 0 < h q) : lowH h q (h q - 1) q = h q - 1 := by
  unfold lowH
  rw [if_pos ⟨by omega, by omega⟩]
  exact updI_s
theorem paint_top {n ho : Int} {h c : Int → Int} (H : YOk n ho h c) {q d : Int} (h0 : 0 < h q) (hd : 0 ≤ d ∧ d ≤ 3) : topV (updI (lowH h q (h q - 1)) q (lowH h q (h q - 1) q + 1)) (updI (lowC h c q (h q - 1)) q (lowC h c q (h q - 1) q + d * p4 (lowH h q (h q - 1) q))) q = d := by
  have a := H.h q
  have e := low_at h0
  have e2 : lowC h c q (h q - 1) q = c q % p4 (h q - 1) := by
    unfold lowC
    rw [if_pos ⟨by omega, by omega⟩]
    exact updI_s
  unfold topV
  rw [updI_s, updI_s, e, if_neg (by omega), show h q - 1 + 1 - 1 = h q - 1 by omega, e2]
  exact colZ_add (mod4 _ _).1 (mod4 _ _).2 hd
theorem YOk_paint {n ho : Int} {h c : Int → Int} (H : YOk n ho h c) {q d : Int} (hq : sqIn n q) (h0 : 0 < h q) (hd : 0 ≤ d ∧ d ≤ 3) : YOk n ho (updI (lowH h q (h q - 1)) q (lowH h q (h q - 1) q + 1)) (updI (lowC h c q (h q - 1)) q (lowC h c q (h q - 1) q + d * p4 (lowH h q (h q - 1) q))) := by
  have a := H.h q
  have e := low_at h0
  exact YOk.add (YOk.low H hq) hq (by rw [e]; omega) hd
theorem car_q {h : Int → Int} {q p v : Int} (hne : q ≠ p) (h0 : 0 ≤ h q) : lowH (updI h p v) q 0 q = 0 := by
  have e : updI h p v q = h q := updI_n hne
  unfold lowH
  rw [e]
  by_cases r : 0 ≤ (0 : Int) ∧ 0 < h q
  · rw [if_pos r]; exact updI_s
  · rw [if_neg r, e]; omega
theorem car_blk {n ho : Int} {h c : Int → Int} (H : YOk n ho h c) {x y u v : Int} (hne : y * 6 + x ≠ v * 6 + u) (h0 : 0 < h (y * 6 + x)) : blkV n (lowH (updI h (v * 6 + u) (h (v * 6 + u) + h (y * 6 + x))) (y * 6 + x) 0) (lowC (updI h (v * 6 + u) (h (v * 6 + u) + h (y * 6 + x))) (updI c (v * 6 + u) (carC h c (y * 6 + x) (v * 6 + u) (h (y * 6 + x)))) (y * 6 + x) 0) u v (h (v * 6 + u)) 0 = colZ (c (y * 6 + x)) 0 := by
  have e : updI h (v * 6 + u) (h (v * 6 + u) + h (y * 6 + x)) (y * 6 + x) = h (y * 6 + x) := updI_n hne
  have e1 : lowH (updI h (v * 6 + u) (h (v * 6 + u) + h (y * 6 + x))) (y * 6 + x) 0 (v * 6 + u) = h (v * 6 + u) + h (y * 6 + x) := by
    unfold lowH
    rw [e, if_pos ⟨Int.le_refl 0, h0⟩, updI_n (fun w => hne w.symm)]
    exact updI_s
  have e2 : lowC (updI h (v * 6 + u) (h (v * 6 + u) + h (y * 6 + x))) (updI c (v * 6 + u) (carC h c (y * 6 + x) (v * 6 + u) (h (y * 6 + x)))) (y * 6 + x) 0 (v * 6 + u) = carC h c (y * 6 + x) (v * 6 + u) (h (y * 6 + x)) := by
    unfold lowC
    rw [e, if_pos ⟨Int.le_refl 0, h0⟩, updI_n (fun w => hne w.symm)]
    exact updI_s
  unfold blkV
  rw [e1, e2, if_neg (by omega), if_pos rfl]
  exact car_low H _ _ h0
theorem YOk_carry {n ho : Int} {h c : Int → Int} (H : YOk n ho h c) {q p : Int} (hq : sqIn n q) (hp : sqIn n p) (hne : p ≠ q) (hs : h q + h p ≤ 8) : YOk n ho (lowH (updI h p (h p + h q)) q 0) (lowC (updI h p (h p + h q)) (updI c p (carC h c q p (h q))) q 0) := by
  have a := H.h q
  exact YOk.low (YOk.car H hp hne a.1 (by omega)) hq
theorem turn_top {n : Int} (h c : Int → Int) {x y : Int} (hn : n ≤ 6) (h1 : 0 ≤ x) (h2 : x < n) (h3 : 0 ≤ y) (h4 : y < n) : topV (turnF n h) (turnF n c) (x * 6 + (n - 1 - y)) = topV h c (y * 6 + x) := by
  unfold topV
  rw [turn_at h hn h1 h2 h3 h4, turn_at c hn h1 h2 h3 h4]

theorem updI_id (f : Int → Int) (i j : Int) : updI f i (f i) j = f j := by
  unfold updI
  split
  · rename_i e; rw [e]
  · rfl
/-- cutting at the height v, row by row: the heights, the colours -/
def cutH (n : Int) (h : Int → Int) (v y x j : Int) : Int := if sqIn n j ∧ (j / 6 < y ∨ (j / 6 = y ∧ j % 6 < x)) ∧ v < h j then v else h j
def cutC (n : Int) (h c : Int → Int) (v y x j : Int) : Int := if sqIn n j ∧ (j / 6 < y ∨ (j / 6 = y ∧ j % 6 < x)) ∧ v < h j then c j % p4 v else c j
theorem cutH_0 (n : Int) (h : Int → Int) (v j : Int) : cutH n h v 0 0 j = h j := if_neg (by rintro ⟨⟨a, b, d⟩, e | ⟨e, f⟩, g⟩ <;> omega)
theorem cutC_0 (n : Int) (h c : Int → Int) (v j : Int) : cutC n h c v 0 0 j = c j := if_neg (by rintro ⟨⟨a, b, d⟩, e | ⟨e, f⟩, g⟩ <;> omega)
theorem cut_c {n j y : Int} : (sqIn n j ∧ (j / 6 < y ∨ (j / 6 = y ∧ j % 6 < n))) ↔ (sqIn n j ∧ (j / 6 < y + 1 ∨ (j / 6 = y + 1 ∧ j % 6 < 0))) := ⟨fun ⟨⟨a, b, c⟩, d⟩ => ⟨⟨a, b, c⟩, by omega⟩, fun ⟨⟨a, b, c⟩, d⟩ => ⟨⟨a, b, c⟩, by omega⟩⟩
theorem cutH_row {n : Int} {h : Int → Int} {v y : Int} (j : Int) : cutH n h v y n j = cutH n h v (y + 1) 0 j := by
  unfold cutH
  by_cases q : sqIn n j ∧ (j / 6 < y ∨ (j / 6 = y ∧ j % 6 < n)) ∧ v < h j
  · rw [if_pos q, if_pos (by have := cut_c.mp ⟨q.1, q.2.1⟩; exact ⟨this.1, this.2, q.2.2⟩)]
  · rw [if_neg q, if_neg (fun w => q (by have := cut_c.mpr ⟨w.1, w.2.1⟩; exact ⟨this.1, this.2, w.2.2⟩))]
theorem cutC_row {n : Int} {h c : Int → Int} {v y : Int} (j : Int) : cutC n h c v y n j = cutC n h c v (y + 1) 0 j := by
  unfold cutC
  by_cases q : sqIn n j ∧ (j / 6 < y ∨ (j / 6 = y ∧ j % 6 < n)) ∧ v < h j
  · rw [if_pos q, if_pos (by have := cut_c.mp ⟨q.1, q.2.1⟩; exact ⟨this.1, this.2, q.2.2⟩)]
  · rw [if_neg q, if_neg (fun w => q (by have := cut_c.mpr ⟨w.1, w.2.1⟩; exact ⟨this.1, this.2, w.2.2⟩))]
theorem cutH_q {n : Int} {h : Int → Int} {v y x : Int} (hn : n ≤ 6) (h1 : 0 ≤ x) (h2 : x < n) : cutH n h v y x (y * 6 + x) = h (y * 6 + x) := if_neg (by rintro ⟨⟨a, b, d⟩, e | ⟨e, f⟩, g⟩ <;> omega)
theorem cutC_q {n : Int} {h c : Int → Int} {v y x : Int} (hn : n ≤ 6) (h1 : 0 ≤ x) (h2 : x < n) : cutC n h c v y x (y * 6 + x) = c (y * 6 + x) := if_neg (by rintro ⟨⟨a, b, d⟩, e | ⟨e, f⟩, g⟩ <;> omega)
theorem cut_s {n j y x v : Int} {h : Int → Int} (hn : n ≤ 6) (h1 : 0 ≤ x) (h2 : x < n) (h3 : 0 ≤ y) (h4 : y < n) (hj : j ≠ y * 6 + x) : (sqIn n j ∧ (j / 6 < y ∨ (j / 6 = y ∧ j % 6 < x)) ∧ v < h j) ↔ (sqIn n j ∧ (j / 6 < y ∨ (j / 6 = y ∧ j % 6 < x + 1)) ∧ v < h j) := ⟨fun ⟨⟨a, b, c⟩, d, e⟩ => ⟨⟨a, b, c⟩, by omega, e⟩, fun ⟨⟨a, b, c⟩, d, e⟩ => ⟨⟨a, b, c⟩, by omega, e⟩⟩
theorem cutH_s {n : Int} {h : Int → Int} {v y x : Int} (hn : n ≤ 6) (hv : 0 ≤ v) (h1 : 0 ≤ x) (h2 : x < n) (h3 : 0 ≤ y) (h4 : y < n) (j : Int) : lowH (cutH n h v y x) (y * 6 + x) v j = cutH n h v y (x + 1) j := by
  have hq := cutH_q (n := n) (h := h) (v := v) (y := y) (x := x) hn h1 h2
  unfold lowH
  rw [hq]
  by_cases e : j = y * 6 + x
  · have c9 : sqIn n j ∧ (j / 6 < y ∨ (j / 6 = y ∧ j % 6 < x + 1)) := ⟨⟨by omega, by omega, by omega⟩, by omega⟩
    by_cases q : 0 ≤ v ∧ v < h (y * 6 + x)
    · rw [if_pos q, e, updI_s]
      rw [← e]
      unfold cutH
      rw [if_pos ⟨c9.1, c9.2, by rw [e]; exact q.2⟩]
    · rw [if_neg q]
      unfold cutH
      rw [if_neg (by rintro ⟨a, b, d⟩; rw [e] at b; omega), if_neg (by rintro ⟨a, b, d⟩; rw [e] at d; omega)]
  · have c8 := cut_s (h := h) (v := v) hn h1 h2 h3 h4 e
    have : cutH n h v y (x + 1) j = cutH n h v y x j := by
      unfold cutH
      by_cases r : sqIn n j ∧ (j / 6 < y ∨ (j / 6 = y ∧ j % 6 < x)) ∧ v < h j
      · rw [if_pos r, if_pos (c8.mp r)]
      · rw [if_neg r, if_neg (fun w => r (c8.mpr w))]
    rw [this]
    by_cases q : 0 ≤ v ∧ v < h (y * 6 + x)
    · rw [if_pos q, updI_n e]
    · rw [if_neg q]
theorem cutC_s {n : Int} {h c : Int → Int} {v y x : Int} (hn : n ≤ 6) (hv : 0 ≤ v) (h1 : 0 ≤ x) (h2 : x < n) (h3 : 0 ≤ y) (h4 : y < n) (j : Int) : lowC (cutH n h v y x) (cutC n h c v y x) (y * 6 + x) v j = cutC n h c v y (x + 1) j := by
  have hq := cutH_q (n := n) (h := h) (v := v) (y := y) (x := x) hn h1 h2
  have hq2 := cutC_q (n := n) (h := h) (c := c) (v := v) (y := y) (x := x) hn h1 h2
  unfold lowC
  rw [hq, hq2]
  by_cases e : j = y * 6 + x
  · have c9 : sqIn n j ∧ (j / 6 < y ∨ (j / 6 = y ∧ j % 6 < x + 1)) := ⟨⟨by omega, by omega, by omega⟩, by omega⟩
    by_cases q : 0 ≤ v ∧ v < h (y * 6 + x)
    · rw [if_pos q, e, updI_s]
      rw [← e]
      unfold cutC
      rw [if_pos ⟨c9.1, c9.2, by rw [e]; exact q.2⟩]
    · rw [if_neg q]
      unfold cutC
      rw [if_neg (by rintro ⟨a, b, d⟩; rw [e] at b; omega), if_neg (by rintro ⟨a, b, d⟩; rw [e] at d; omega)]
  · have c8 := cut_s (h := h) (v := v) hn h1 h2 h3 h4 e
    have : cutC n h c v y (x + 1) j = cutC n h c v y x j := by
      unfold cutC
      by_cases r : sqIn n j ∧ (j / 6 < y ∨ (j / 6 = y ∧ j % 6 < x)) ∧ v < h j
      · rw [if_pos r, if_pos (c8.mp r)]
      · rw [if_neg r, if_neg (fun w => r (c8.mpr w))]
    rw [this]
    by_cases q : 0 ≤ v ∧ v < h (y * 6 + x)
    · rw [if_pos q, updI_n e]
    · rw [if_neg q]
theorem YOk.cut {n ho : Int} {h c : Int → Int} (H : YOk n ho h c) {v : Int} (hv : 0 ≤ v ∧ v ≤ 8) (y x : Int) : YOk n ho (cutH n h v y x) (cutC n h c v y x) := by
  refine ⟨H.1, H.2.1, fun j => ?_, fun j => ?_, fun j hj => ?_⟩
  · unfold cutH; split
    · exact hv
    · exact H.h j
  · unfold cutH cutC; split
    · exact mod4 _ _
    · exact H.c j
  · unfold cutH; rw [if_neg (fun w => hj w.1)]; exact H.o hj

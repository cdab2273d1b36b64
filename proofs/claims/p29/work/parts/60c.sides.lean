/-! ===== elevations ===== -/
theorem greatK_ge {h : Int → Int} {s a k j : Int} (h0 : 0 ≤ j) (h1 : j < k) : hA h s a j ≤ greatK h s a k := by
  refine sm_ind (P := fun k => j < k → hA h s a j ≤ greatK h s a k) (fun q => by omega) (by omega) (fun i u v ih q => ?_) h1
  show hA h s a j ≤ greatK h s a (i + 1)
  rw [← greatK_s u]
  by_cases e : j = i
  · rw [e]; unfold maxI; split <;> omega
  · have := ih (by omega)
    unfold maxI; split <;> omega
theorem greatK_ex {h : Int → Int} {s a k : Int} (h0 : 0 ≤ k) (hp : 0 < greatK h s a k) : ∃ j, 0 ≤ j ∧ j < k ∧ hA h s a j = greatK h s a k := by
  refine sm_ind (P := fun k => 0 < greatK h s a k → ∃ j, 0 ≤ j ∧ j < k ∧ hA h s a j = greatK h s a k) (fun q => absurd q (by show ¬ (0 : Int) < 0; omega)) h0 (fun i u v ih q => ?_) hp
  show ∃ j, 0 ≤ j ∧ j < i + 1 ∧ hA h s a j = greatK h s a (i + 1)
  have q : 0 < greatK h s a (i + 1) := q
  rw [← greatK_s u] at q ⊢
  unfold maxI at q ⊢
  by_cases e : greatK h s a i < hA h s a i
  · rw [if_pos e]; exact ⟨i, u, by omega, rfl⟩
  · rw [if_neg e] at q ⊢
    obtain ⟨j, x, y, z⟩ := ih q
    exact ⟨j, x, by omega, z⟩
theorem stacksK_no {h : Int → Int} {s a v k : Int} (h0 : 0 ≤ k) (hv : ∀ j, 0 ≤ j → j < k → hA h s a j ≠ v) : stacksK h s a v k = 0 := by
  refine sm_ind (P := fun i => i ≤ k → stacksK h s a v i = 0) (fun _ => rfl) h0 (fun i u w ih q => ?_) (Int.le_refl k)
  show stacksK h s a v (i + 1) = 0
  rw [stacksK_s u, bI_f (hv i u (by omega)), ih (by omega)]; rfl
/-- the law's count of the greatest so far -/
def manyK (h : Int → Int) (s a k : Int) : Int := stacksK h s a (greatK h s a k) k
theorem manyK_0 (h : Int → Int) (s a : Int) : manyK h s a 0 = 0 := rfl
theorem manyK_s {h : Int → Int} {s a k : Int} (h0 : 0 ≤ k) : manyK h s a (k + 1) = if greatK h s a k < hA h s a k then 1 else if hA h s a k = greatK h s a k then manyK h s a k + 1 else manyK h s a k := by
  unfold manyK
  rw [← greatK_s h0, stacksK_s h0]
  unfold maxI
  by_cases e : greatK h s a k < hA h s a k
  · rw [if_pos e, if_pos e, bI_t rfl, stacksK_no h0 (fun j u v q => by have := greatK_ge (h := h) (s := s) (a := a) u v; omega)]; rfl
  · rw [if_neg e, if_neg e]
    by_cases e2 : hA h s a k = greatK h s a k
    · rw [if_pos e2, bI_t e2]
    · rw [if_neg e2, bI_f e2]; omega
theorem greatHK_ge {n : Int} {h : Int → Int} {k y : Int} (h0 : 0 ≤ y) (h1 : y < k) : greatK h 0 y n ≤ greatHK n h k := by
  refine sm_ind (P := fun k => y < k → greatK h 0 y n ≤ greatHK n h k) (fun q => by omega) (by omega) (fun i u v ih q => ?_) h1
  show greatK h 0 y n ≤ greatHK n h (i + 1)
  rw [← greatHK_s u]
  by_cases e : y = i
  · rw [e]; unfold maxI; split <;> omega
  · have := ih (by omega)
    unfold maxI; split <;> omega
/-- no column is higher than the highest row -/
theorem col_le {n ho : Int} {h c : Int → Int} (H : YOk n ho h c) {a : Int} (h0 : 0 ≤ a) (h1 : a < n) : greatK h 1 a n ≤ greatHK n h n := by
  have hn := H.n
  have g := greatHK_rg (n := n) H.h (by omega) (k := n) (by omega)
  by_cases q : 0 < greatK h 1 a n
  · obtain ⟨j, u, v, w⟩ := greatK_ex (by omega) q
    have e := greatK_ge (h := h) (s := 0) (a := j) (k := n) h0 h1
    have e2 := greatHK_ge (n := n) (h := h) (k := n) u v
    have e3 : hA h 1 a j = hA h 0 j a := by unfold hA; rw [if_neg (by decide), if_pos rfl]
    omega
  · omega
/-- rows and columns of a height -/
def rowL (n : Int) (h : Int → Int) (s a : Int) : Int → Int := fun v => if s = 0 then linesK n h 0 v a else linesK n h 0 v n
def colL (n : Int) (h : Int → Int) (s a : Int) : Int → Int := fun v => if s = 0 then 0 else if s = 1 then linesK n h 1 v a else linesK n h 1 v n
def topK (n : Int) (h : Int → Int) (s a : Int) : Int := if s = 0 then greatHK n h a else greatHK n h n
theorem rowL_0 (n : Int) (h : Int → Int) (v : Int) : rowL n h 0 0 v = 0 := rfl
theorem colL_0 (n : Int) (h : Int → Int) (v : Int) : colL n h 0 0 v = 0 := rfl
theorem topK_0 (n : Int) (h : Int → Int) : topK n h 0 0 = 0 := rfl
theorem rowL_n {n : Int} {h : Int → Int} {s : Int} (hs : 0 ≤ s) (v : Int) : rowL n h s n v = rowL n h (s + 1) 0 v := by
  unfold rowL
  rw [if_neg (c := s + 1 = 0) (by omega)]
  split <;> rfl
theorem colL_n {n : Int} {h : Int → Int} {s : Int} (hs : s = 0 ∨ s = 1) (v : Int) : colL n h s n v = colL n h (s + 1) 0 v := by
  rcases hs with e | e <;> subst e <;> rfl
theorem topK_n {n : Int} {h : Int → Int} {s : Int} (hs : 0 ≤ s) : topK n h s n = topK n h (s + 1) 0 := by
  unfold topK
  rw [if_neg (c := s + 1 = 0) (by omega)]
  split <;> rfl
theorem rowL_s {n : Int} {h : Int → Int} {s a : Int} (ha : 0 ≤ a) (hs : s = 0 ∨ s = 1) (v : Int) : updI (rowL n h s a) (greatK h s a n) (rowL n h s a (greatK h s a n) + (if s = 0 then 1 else 0)) v = rowL n h s (a + 1) v := by
  unfold updI rowL
  rcases hs with e | e
  · subst e
    rw [if_pos rfl, if_pos rfl, if_pos rfl, if_pos rfl, linesK_s ha]
    by_cases q : v = greatK h 0 a n
    · rw [if_pos q, bI_t q.symm, q]
    · rw [if_neg q, bI_f (fun w => q w.symm), Int.add_zero]
  · subst e
    have e1 : ¬ (1 : Int) = 0 := by decide
    simp only [if_neg e1, Int.add_zero]
    by_cases q : v = greatK h 1 a n
    · rw [if_pos q, q]
    · rw [if_neg q]
theorem colL_s {n : Int} {h : Int → Int} {s a : Int} (ha : 0 ≤ a) (hs : s = 0 ∨ s = 1) (v : Int) : updI (colL n h s a) (greatK h s a n) (colL n h s a (greatK h s a n) + (if s = 1 then 1 else 0)) v = colL n h s (a + 1) v := by
  unfold updI colL
  rcases hs with e | e
  · subst e
    by_cases q : v = greatK h 0 a n
    · rw [if_pos q]; rfl
    · rw [if_neg q]; rfl
  · subst e
    have e1 : ¬ (1 : Int) = 0 := by decide
    simp only [if_neg e1, if_true]
    rw [linesK_s ha]
    by_cases q : v = greatK h 1 a n
    · rw [if_pos q, bI_t q.symm, q]
    · rw [if_neg q, bI_f (fun w => q w.symm), Int.add_zero]
theorem lin_rg {n : Int} {h : Int → Int} (hn : 2 ≤ n ∧ n ≤ 6) (s a v : Int) (ha : 0 ≤ a ∧ a ≤ n) : (0 ≤ rowL n h s a v ∧ rowL n h s a v ≤ 6) ∧ 0 ≤ colL n h s a v ∧ colL n h s a v ≤ 6 := by
  have a1 := linesK_rg (n := n) (h := h) 0 v (k := a) ha.1
  have a2 := linesK_rg (n := n) (h := h) 0 v (k := n) (by omega)
  have a3 := linesK_rg (n := n) (h := h) 1 v (k := a) ha.1
  have a4 := linesK_rg (n := n) (h := h) 1 v (k := n) (by omega)
  unfold rowL colL
  split
  · omega
  · split <;> omega
theorem topK_rg {n ho : Int} {h c : Int → Int} (H : YOk n ho h c) {s a : Int} (ha : 0 ≤ a) : 0 ≤ topK n h s a ∧ topK n h s a ≤ 8 := by
  have hn := H.n
  have a1 := greatHK_rg (n := n) H.h (by omega) (k := a) ha
  have a2 := greatHK_rg (n := n) H.h (by omega) (k := n) (by omega)
  unfold topK
  split <;> omega
theorem topK_s {n ho : Int} {h c : Int → Int} (H : YOk n ho h c) {s a : Int} (ha : 0 ≤ a) (h1 : a < n) (hs : s = 0 ∨ s = 1) : topK n h s (a + 1) = if topK n h s a < greatK h s a n then greatK h s a n else topK n h s a := by
  unfold topK
  rcases hs with e | e
  · subst e
    rw [if_pos rfl, if_pos rfl, ← greatHK_s ha]; rfl
  · subst e
    have := col_le H ha h1
    have e1 : ¬ (1 : Int) = 0 := by decide
    rw [if_neg e1, if_neg e1, if_neg (by omega)]
/-! the fewest and the most -/
theorem mostQ_all {n : Int} (h : Int → Int) (hn : 2 ≤ n ∧ n ≤ 6) : sm (fun j => minI (greatK h 0 (j / n) n) (greatK h 1 (j % n) n)) (n * n) = mostK n h n := by
  rw [sq_sum (fun x y => minI (greatK h 0 y n) (greatK h 1 x n)) hn]
  show sm (fun y => sm (fun x => minI (greatK h 0 y n) (greatK h 1 x n)) n) n = itI (fun y m => mostR n h y m n) 0 n
  refine itI_congr (fun y s a b => ?_)
  show s + sm (fun x => minI (greatK h 0 y n) (greatK h 1 x n)) n = itI (fun x m => m + minI (greatK h 0 y n) (greatK h 1 x n)) s n
  rw [it_sm (fun x => minI (greatK h 0 y n) (greatK h 1 x n)) s (by omega)]
def mstQ (n : Int) (h : Int → Int) (k : Int) : Int := sm (fun j => minI (greatK h 0 (j / n) n) (greatK h 1 (j % n) n)) k
theorem mstQ_s {n : Int} {h : Int → Int} {k : Int} (h0 : 0 ≤ k) : mstQ n h (k + 1) = mstQ n h k + minI (greatK h 0 (k / n) n) (greatK h 1 (k % n) n) := sm_s h0
theorem mstQ_rg {n ho : Int} {h c : Int → Int} (H : YOk n ho h c) {k : Int} (hk : 0 ≤ k) : 0 ≤ mstQ n h k ∧ mstQ n h k ≤ k * 8 := sm_rg hk (fun j => by
  have hn := H.n
  have a1 := greatK_rg H.h 0 (j / n) (k := n) (by omega)
  have a2 := greatK_rg H.h 1 (j % n) (k := n) (by omega)
  unfold minI; split <;> omega)
theorem count_sq (n : Int) (h : Int → Int) : countK n h n = sm (fun y => sm (fun x => h (y * 6 + x)) n) n := rfl
theorem le_most {n ho : Int} {h c : Int → Int} (H : YOk n ho h c) : countK n h n ≤ mostK n h n := by
  have hn := H.n
  rw [← mostQ_all h hn, sq_sum (fun x y => minI (greatK h 0 y n) (greatK h 1 x n)) hn, count_sq]
  refine sm_mono (by omega) (fun y a b => sm_mono (by omega) (fun x u v => ?_))
  show h (y * 6 + x) ≤ minI (greatK h 0 y n) (greatK h 1 x n)
  have e1 := greatK_ge (h := h) (s := 0) (a := y) (k := n) u v
  have e2 := greatK_ge (h := h) (s := 1) (a := x) (k := n) a b
  have e3 : hA h 0 y x = h (y * 6 + x) := rfl
  have e4 : hA h 1 x y = h (y * 6 + x) := rfl
  unfold minI; split <;> omega
theorem sm_8 {m : Int} (h : 0 ≤ m ∧ m ≤ 8) : sm (fun v => (v + 1) * bI (m = v + 1)) 8 = m := by
  rcases (show m = 0 ∨ m = 1 ∨ m = 2 ∨ m = 3 ∨ m = 4 ∨ m = 5 ∨ m = 6 ∨ m = 7 ∨ m = 8 by omega) with e | e | e | e | e | e | e | e | e <;> subst e <;> decide
/-- the stacks of a height -/
def stkN (n : Int) (h : Int → Int) (v : Int) : Int := sm (fun y => sm (fun x => bI (h (y * 6 + x) = v)) n) n
theorem rows_le {n : Int} (h : Int → Int) {v : Int} (hv : 0 < v) (hn : 2 ≤ n) : linesK n h 0 v n ≤ stkN n h v := by
  show sm (fun y => bI (greatK h 0 y n = v)) n ≤ sm (fun y => sm (fun x => bI (h (y * 6 + x) = v)) n) n
  refine sm_mono (by omega) (fun y a b => ?_)
  show bI (greatK h 0 y n = v) ≤ sm (fun x => bI (h (y * 6 + x) = v)) n
  by_cases q : greatK h 0 y n = v
  · obtain ⟨j, u, w, e⟩ := greatK_ex (h := h) (s := 0) (a := y) (k := n) (by omega) (by omega)
    have e3 : hA h 0 y j = h (y * 6 + j) := rfl
    have o := sm_one_le (f := fun x => bI (h (y * 6 + x) = v)) (n := n) (fun j _ _ => (bI_rg _).1) u w
    have o2 : bI (h (y * 6 + j) = v) = 1 := bI_t (by omega)
    rw [bI_t q]
    have o3 : bI (h (y * 6 + j) = v) ≤ sm (fun x => bI (h (y * 6 + x) = v)) n := o
    omega
  · rw [bI_f q]
    exact sm_nn (by omega) (fun j _ _ => (bI_rg _).1)
theorem cols_le {n : Int} (h : Int → Int) {v : Int} (hv : 0 < v) (hn : 2 ≤ n) : linesK n h 1 v n ≤ stkN n h v := by
  unfold stkN
  rw [sm_swap (fun y x => bI (h (y * 6 + x) = v)) (by omega) (by omega)]
  show sm (fun x => bI (greatK h 1 x n = v)) n ≤ sm (fun x => sm (fun y => bI (h (y * 6 + x) = v)) n) n
  refine sm_mono (by omega) (fun x a b => ?_)
  show bI (greatK h 1 x n = v) ≤ sm (fun y => bI (h (y * 6 + x) = v)) n
  by_cases q : greatK h 1 x n = v
  · obtain ⟨j, u, w, e⟩ := greatK_ex (h := h) (s := 1) (a := x) (k := n) (by omega) (by omega)
    have e3 : hA h 1 x j = h (j * 6 + x) := rfl
    have o := sm_one_le (f := fun y => bI (h (y * 6 + x) = v)) (n := n) (fun j _ _ => (bI_rg _).1) u w
    have o2 : bI (h (j * 6 + x) = v) = 1 := bI_t (by omega)
    rw [bI_t q]
    have o3 : bI (h (j * 6 + x) = v) ≤ sm (fun y => bI (h (y * 6 + x) = v)) n := o
    omega
  · rw [bI_f q]
    exact sm_nn (by omega) (fun j _ _ => (bI_rg _).1)
theorem few_le {n ho : Int} {h c : Int → Int} (H : YOk n ho h c) : fewestK n h 8 ≤ countK n h n := by
  have hn := H.n
  have e1 : fewestK n h 8 ≤ sm (fun v => (v + 1) * stkN n h (v + 1)) 8 := by
    show sm (fun v => (v + 1) * maxI (linesK n h 0 (v + 1) n) (linesK n h 1 (v + 1) n)) 8 ≤ _
    refine sm_mono (by decide) (fun v a b => Int.mul_le_mul_of_nonneg_left ?_ (by omega))
    have r := rows_le h (v := v + 1) (n := n) (by omega) hn.1
    have s := cols_le h (v := v + 1) (n := n) (by omega) hn.1
    unfold maxI; split <;> omega
  have e2 : sm (fun v => (v + 1) * stkN n h (v + 1)) 8 = countK n h n := by
    rw [count_sq]
    have f1 : sm (fun v => (v + 1) * stkN n h (v + 1)) 8 = sm (fun v => sm (fun y => sm (fun x => (v + 1) * bI (h (y * 6 + x) = v + 1)) n) n) 8 := sm_cg (fun v _ _ => by
      show (v + 1) * sm (fun y => sm (fun x => bI (h (y * 6 + x) = v + 1)) n) n = _
      rw [← sm_c _ _ (by omega)]
      refine sm_cg (fun y _ _ => ?_)
      show (v + 1) * sm (fun x => bI (h (y * 6 + x) = v + 1)) n = sm (fun x => (v + 1) * bI (h (y * 6 + x) = v + 1)) n
      rw [← sm_c _ _ (by omega)])
    rw [f1, sm_swap (fun v y => sm (fun x => (v + 1) * bI (h (y * 6 + x) = v + 1)) n) (by decide) (by omega)]
    refine sm_cg (fun y _ _ => ?_)
    show sm (fun v => sm (fun x => (v + 1) * bI (h (y * 6 + x) = v + 1)) n) 8 = sm (fun x => h (y * 6 + x)) n
    rw [sm_swap (fun v x => (v + 1) * bI (h (y * 6 + x) = v + 1)) (by decide) (by omega)]
    exact sm_cg (fun x _ _ => sm_8 (H.h _))
  omega
/-! ===== what the changes do ===== -/
theorem colZ_add {v d z : Int} (h0 : 0 ≤ v) (h1 : v < p4 z) (hd : 0 ≤ d ∧ d ≤ 3) : colZ (v + d * p4 z) z = d := by
  unfold colZ
  have p := p4_pos z
  rw [Int.add_mul_ediv_right _ _ (by omega), Int.ediv_eq_zero_of_lt h0 h1]
  omega
theorem colZ_hi {v d z m : Int} (hz : 0 ≤ z) (hm : z < m) : colZ (v + d * p4 m) z = colZ v z := by
  unfold colZ
  have p := p4_pos z
  obtain ⟨k, rfl⟩ := Int.le.dest (show z + 1 ≤ m by omega)
  have e : p4 (z + 1 + (k : Int)) = p4 (k : Int) * 4 * p4 z := by
    unfold p4
    rw [show (2 * (z + 1 + (k : Int))).toNat = (2 * (k : Int)).toNat + 2 + (2 * z).toNat by omega, Int.pow_add, Int.pow_add]
    rfl
  rw [e, ← Int.mul_assoc, Int.add_mul_ediv_right _ _ (by omega), ← Int.mul_assoc, Int.add_mul_emod_self_right]
/-- carried: the block that lay lowest keeps its colour -/
theorem car_low {n ho : Int} {h c : Int → Int} (H : YOk n ho h c) (q p : Int) {z : Int} (hz : 0 < z) : colZ (carC h c q p z) (h p) = colZ (c q) 0 := by
  have hp := H.h p
  have cp := H.c p
  have key : ∀ m : Nat, colZ (carC h c q p ((m : Int) + 1)) (h p) = colZ (c q) 0 := by
    intro m
    induction m with
    | zero =>
      rw [show ((0 : Nat) : Int) + 1 = 0 + 1 by omega, carC_s (by omega)]
      show colZ (c p + colZ (c q) 0 * p4 (h p + 0)) (h p) = colZ (c q) 0
      rw [Int.add_zero]
      exact colZ_add cp.1 cp.2 (colZ_rg _ _)
    | succ m ih =>
      rw [show ((m + 1 : Nat) : Int) + 1 = ((m : Int) + 1) + 1 by omega, carC_s (by omega), colZ_hi hp.1 (by omega)]
      exact ih
  have := key (z - 1).toNat
  rw [show (((z - 1).toNat : Nat) : Int) + 1 = z by omega] at this
  exact this
/-- what a cut takes -/
def dueQ (n : Int) (h : Int → Int) (v k : Int) : Int := sm (fun j => if v < h (j / n * 6 + j % n) then h (j / n * 6 + j % n) - v else 0) k
theorem dueQ_s {n : Int} {h : Int → Int} {v k : Int} (h0 : 0 ≤ k) : dueQ n h v (k + 1) = dueQ n h v k + (if v < h (k / n * 6 + k % n) then h (k / n * 6 + k % n) - v else 0) := sm_s h0
theorem dueQ_rg {n ho : Int} {h c : Int → Int} (H : YOk n ho h c) {v k : Int} (hv : 0 ≤ v) (hk : 0 ≤ k) : 0 ≤ dueQ n h v k ∧ dueQ n h v k ≤ k * 8 := sm_rg hk (fun j => by
  have := H.h (j / n * 6 + j % n)
  split <;> omega)
theorem dueQ_all {n ho : Int} {h c : Int → Int} (H : YOk n ho h c) (v : Int) : dueQ n h v (n * n) = countK n h n - countK n (cutH n h v n 0) n := by
  have hn := H.n
  unfold dueQ
  rw [sq_sum (fun x y => if v < h (y * 6 + x) then h (y * 6 + x) - v else 0) hn, count_sq, count_sq]
  have e : sm (fun y => sm (fun x => h (y * 6 + x)) n) n = sm (fun y => sm (fun x => cutH n h v n 0 (y * 6 + x)) n + sm (fun x => if v < h (y * 6 + x) then h (y * 6 + x) - v else 0) n) n := sm_cg (fun y a b => by
    show sm (fun x => h (y * 6 + x)) n = sm (fun x => cutH n h v n 0 (y * 6 + x)) n + sm (fun x => if v < h (y * 6 + x) then h (y * 6 + x) - v else 0) n
    rw [← sm_add _ _ (by omega)]
    refine sm_cg (fun x u w => ?_)
    show h (y * 6 + x) = cutH n h v n 0 (y * 6 + x) + (if v < h (y * 6 + x) then h (y * 6 + x) - v else 0)
    unfold cutH
    by_cases q : v < h (y * 6 + x)
    · rw [if_pos ⟨sq_in (by omega) u w a b, Or.inl (by omega), q⟩, if_pos q]; omega
    · rw [if_neg (fun r => q r.2.2), if_neg q]; omega)
  rw [e, sm_add (fun y => sm (fun x => cutH n h v n 0 (y * 6 + x)) n) (fun y => sm (fun x => if v < h (y * 6 + x) then h (y * 6 + x) - v else 0) n) (by omega)]
  omega
theorem cutH_at {n : Int} {h : Int → Int} {v x y : Int} (hn : n ≤ 6) (h1 : 0 ≤ x) (h2 : x < n) (h3 : 0 ≤ y) (h4 : y < n) : cutH n h v n 0 (y * 6 + x) = if v < h (y * 6 + x) then v else h (y * 6 + x) := by
  unfold cutH
  by_cases q : v < h (y * 6 + x)
  · rw [if_pos ⟨sq_in hn h1 h2 h3 h4, Or.inl (by omega), q⟩, if_pos q]
  · rw [if_neg (fun r => q r.2.2), if_neg q]
theorem turn_at {n : Int} (f : Int → Int) {x y : Int} (hn : n ≤ 6) (h1 : 0 ≤ x) (h2 : x < n) (h3 : 0 ≤ y) (h4 : y < n) : turnF n f (x * 6 + (n - 1 - y)) = f (y * 6 + x) := by
  rw [turnF_at (sq_in hn (by omega) (by omega) h1 h2), show (n - 1 - (x * 6 + (n - 1 - y)) % 6) * 6 + (x * 6 + (n - 1 - y)) / 6 = y * 6 + x by omega]
/-! ===== the law's copy of the heights ===== -/
def layK (n : Int) (h f : Int → Int) (y x j : Int) : Int := if sqIn n j ∧ (j / 6 < y ∨ (j / 6 = y ∧ j % 6 < x)) then h j else f j
theorem layK_0 (n : Int) (h f : Int → Int) (j : Int) : layK n h f 0 0 j = f j := if_neg (by rintro ⟨⟨a, b, d⟩, e | ⟨e, g⟩⟩ <;> omega)
theorem layK_row {n : Int} {h f : Int → Int} {y : Int} (j : Int) : layK n h f y n j = layK n h f (y + 1) 0 j := by
  unfold layK
  by_cases q : sqIn n j ∧ (j / 6 < y ∨ (j / 6 = y ∧ j % 6 < n))
  · rw [if_pos q, if_pos (cut_c.mp q)]
  · rw [if_neg q, if_neg (fun w => q (cut_c.mpr w))]
theorem layK_s {n : Int} {h f : Int → Int} {y x : Int} (hn : n ≤ 6) (h1 : 0 ≤ x) (h2 : x < n) (h3 : 0 ≤ y) (h4 : y < n) (j : Int) : updI (layK n h f y x) (6 * y + x) (h (y * 6 + x)) j = layK n h f y (x + 1) j := by
  unfold updI layK
  by_cases e : j = 6 * y + x
  · rw [if_pos e, if_pos ⟨⟨by omega, by omega, by omega⟩, by omega⟩, show j = y * 6 + x by omega]
  · rw [if_neg e]
    by_cases q : sqIn n j ∧ (j / 6 < y ∨ (j / 6 = y ∧ j % 6 < x))
    · rw [if_pos q, if_pos ⟨q.1, by omega⟩]
    · rw [if_neg q, if_neg (fun w => q ⟨w.1, by obtain ⟨⟨a, b, c⟩, d⟩ := w; omega⟩)]
theorem layK_n {n ho : Int} {h c f : Int → Int} (H : YOk n ho h c) (hf : ∀ j, ¬ sqIn n j → f j = 0) (j : Int) : layK n h f n 0 j = h j := by
  unfold layK
  by_cases q : sqIn n j
  · rw [if_pos ⟨q, Or.inl q.2.2⟩]
  · rw [if_neg (fun w => q w.1), hf j q, H.o q]
/-! ===== a picture, triangle by triangle ===== -/
theorem look {n ho : Int} {h c : Int → Int} (H : YOk n ho h c) {k : Int} (h0 : 0 ≤ k) (h1 : k < 512) : (fcK n h (k / 32 - 9) (k / 2 % 16 - 9) (k % 2) 3 = -1 ∧ picM n h k = 0) ∨ ((0 ≤ fcK n h (k / 32 - 9) (k / 2 % 16 - 9) (k % 2) 3 ∧ fcK n h (k / 32 - 9) (k / 2 % 16 - 9) (k % 2) 3 < 3) ∧ ∃ X Y Z, (X = pF (k / 32 - 9) (k % 2) (fcK n h (k / 32 - 9) (k / 2 % 16 - 9) (k % 2) 3) + zF9 n h (k / 32 - 9) (k / 2 % 16 - 9) (k % 2) (fcK n h (k / 32 - 9) (k / 2 % 16 - 9) (k % 2) 3) ∧ Y = qF (k / 2 % 16 - 9) (k % 2) (fcK n h (k / 32 - 9) (k / 2 % 16 - 9) (k % 2) 3) + zF9 n h (k / 32 - 9) (k / 2 % 16 - 9) (k % 2) (fcK n h (k / 32 - 9) (k / 2 % 16 - 9) (k % 2) 3) ∧ Z = zF9 n h (k / 32 - 9) (k / 2 % 16 - 9) (k % 2) (fcK n h (k / 32 - 9) (k / 2 % 16 - 9) (k % 2) 3)) ∧ ((0 ≤ X ∧ X < n) ∧ (0 ≤ Y ∧ Y < n) ∧ (0 ≤ Z ∧ Z ≤ 7) ∧ Z < h (Y * 6 + X)) ∧ picM n h k ≠ 0 ∧ faceF (picM n h) k = blkN X Y Z * 3 + fcK n h (k / 32 - 9) (k / 2 % 16 - 9) (k % 2) 3 ∧ blkF (picM n h) k = blkN X Y Z) := by
  have ht : triN (k / 32 - 9) (k / 2 % 16 - 9) (k % 2) = k := by unfold triN; omega
  have hn := H.n
  rcases seen_pic H (i := k / 32 - 9) (j := k / 2 % 16 - 9) (t := k % 2) (by omega) (by omega) (by omega) with a | ⟨a, b, d, e⟩
  · rw [ht] at a; exact Or.inl a
  · rw [ht] at e
    refine Or.inr ⟨a, _, _, _, ⟨rfl, rfl, rfl⟩, ⟨⟨d.1.1.1, d.1.1.2⟩, ⟨d.1.2.1, d.1.2.2⟩, b, d.2.2⟩, ?_⟩
    have tw := tri_of (i := k / 32 - 9) (j := k / 2 % 16 - 9) (t := k % 2) (z := 0) a (by omega)
    have g := codeB_f (x := pF (k / 32 - 9) (k % 2) (fcK n h (k / 32 - 9) (k / 2 % 16 - 9) (k % 2) 3) + zF9 n h (k / 32 - 9) (k / 2 % 16 - 9) (k % 2) (fcK n h (k / 32 - 9) (k / 2 % 16 - 9) (k % 2) 3)) (y := qF (k / 2 % 16 - 9) (k % 2) (fcK n h (k / 32 - 9) (k / 2 % 16 - 9) (k % 2) 3) + zF9 n h (k / 32 - 9) (k / 2 % 16 - 9) (k % 2) (fcK n h (k / 32 - 9) (k / 2 % 16 - 9) (k % 2) 3)) (z := zF9 n h (k / 32 - 9) (k / 2 % 16 - 9) (k % 2) (fcK n h (k / 32 - 9) (k / 2 % 16 - 9) (k % 2) 3)) (w := wF (k % 2) (fcK n h (k / 32 - 9) (k / 2 % 16 - 9) (k % 2) 3)) ⟨⟨d.1.1.1, by have := d.1.1.2; omega⟩, ⟨d.1.2.1, by have := d.1.2.2; omega⟩, b, tw.2.1⟩
    rw [← e, tw.2.2] at g
    refine ⟨g.1, ?_, ?_⟩
    · unfold faceF; rw [if_neg g.1, g.2.2]
    · unfold blkF; rw [if_neg g.1, g.2.2]; omega
theorem col_step {n : Int} {h M c : Int → Int} {k X Y Z : Int} (hk : 0 ≤ k) (hX : 0 ≤ X ∧ X ≤ 5) (hY : 0 ≤ Y ∧ Y ≤ 5) (hne : M k ≠ 0) (hb : blkF M k = blkN X Y Z) (j : Int) : updI (fun d => colK M c d k) (colZ (c (Y * 6 + X)) Z) (colK M c (colZ (c (Y * 6 + X)) Z) k + 1) j = colK M c j (k + 1) := by
  have b := blkN_xyz (z := Z) hX hY
  have e : colB c (blkF M k) = colZ (c (Y * 6 + X)) Z := by unfold colB; rw [hb, b.1, b.2.1, b.2.2]
  rw [colK_s hk, e]
  unfold updI
  by_cases q : j = colZ (c (Y * 6 + X)) Z
  · rw [if_pos q, bI_t ⟨hne, q.symm⟩, q]
  · rw [if_neg q, bI_f (fun w => q w.2.symm), Int.add_zero]
theorem col_no {M c : Int → Int} {k : Int} (hk : 0 ≤ k) (h0 : M k = 0) (j : Int) : colK M c j k = colK M c j (k + 1) := by
  rw [colK_s hk, bI_f (fun w => w.1 h0), Int.add_zero]
theorem face_step {M : Int → Int} {k X Y Z F x y z v : Int} (hk : 0 ≤ k) (hf : faceF M k = blkN X Y Z * 3 + F) (hF : 0 ≤ F ∧ F < 3) (hX : 0 ≤ X ∧ X ≤ 5) (hY : 0 ≤ Y ∧ Y ≤ 5) (hx : 0 ≤ x ∧ x ≤ 5) (hy : 0 ≤ y ∧ y ≤ 5) (hv : v = bI (X = x ∧ Y = y ∧ Z = z)) (j : Int) (h0 : 0 ≤ j) (h3 : j < 3) : updI (fun f => cntL (faceF M) (blkN x y z * 3 + f) k) F (cntL (faceF M) (blkN x y z * 3 + F) k + v) j = cntL (faceF M) (blkN x y z * 3 + j) (k + 1) := by
  have b1 := blkN_xyz (z := Z) hX hY
  have b2 := blkN_xyz (z := z) hx hy
  rw [cntL_s hk, hf]
  unfold updI
  by_cases q : j = F
  · rw [if_pos q, q, hv]
    congr 1
    refine bI_c ⟨fun w => by rw [w.1, w.2.1, w.2.2], fun w => ?_⟩
    have e : blkN X Y Z = blkN x y z := by omega
    rw [e] at b1
    exact ⟨b1.1.symm.trans b2.1, b1.2.1.symm.trans b2.2.1, b1.2.2.symm.trans b2.2.2⟩
  · rw [if_neg q, bI_f (by omega), Int.add_zero]
theorem face_no {M : Int → Int} (H : MOk M) {k : Int} (hk : 0 ≤ k) (h0 : M k = 0) {F : Int} (hF : 0 ≤ F) : cntL (faceF M) F k = cntL (faceF M) F (k + 1) := by
  have := (face_none H k).mpr h0
  rw [cntL_s hk, bI_f (by omega), Int.add_zero]
theorem hQ_s {hf hn : Int} (hQ : (0 ≤ hf ∧ hf ≤ 5) ∧ 0 ≤ hn ∧ hn ≤ 6) : (0 ≤ svF hf hn ∧ svF hf hn ≤ 5) ∧ 0 ≤ svL hn + 1 ∧ svL hn + 1 ≤ 6 := by
  unfold svF svL
  split <;> omega

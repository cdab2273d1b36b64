/-! ===== counts over a picture ===== -/
def ofF (M : Int → Int) (k : Int) : Int → Int := fun f => cntL (faceF M) f k
theorem ofF_rg (M : Int → Int) {k : Int} (hk : 0 ≤ k) (f : Int) : 0 ≤ ofF M k f ∧ ofF M k f ≤ k := cntL_rg _ _ hk
theorem ofF_0 (M : Int → Int) (f : Int) : ofF M 0 f = 0 := rfl
theorem ofF_s {M : Int → Int} {k : Int} (hk : 0 ≤ k) (j : Int) : updI (ofF M k) (faceF M k) (ofF M k (faceF M k) + 1) j = ofF M (k + 1) j := by
  unfold updI ofF
  rw [cntL_s hk]
  by_cases e : j = faceF M k
  · rw [if_pos e, bI_t e.symm, e]
  · rw [if_neg e, bI_f (fun q => e q.symm), Int.add_zero]
theorem ofF_no {M : Int → Int} {k : Int} (hk : 0 ≤ k) (h : faceF M k = -1) {j : Int} (hj : 0 ≤ j) : ofF M k j = ofF M (k + 1) j := by
  unfold ofF
  rw [cntL_s hk, bI_f (by omega), Int.add_zero]
def tobK (M : Int → Int) (b kk k : Int) : Int := itI (fun f s => s + ofF M kk (b * 3 + f)) 0 k
theorem tobK_s {M : Int → Int} {b kk k : Int} (h0 : 0 ≤ k) : tobK M b kk k + ofF M kk (b * 3 + k) = tobK M b kk (k + 1) := by symm; exact itI_s _ _ h0
theorem tobK_rg {M : Int → Int} {b kk : Int} (hk : 0 ≤ kk) {k : Int} (h0 : 0 ≤ k) : 0 ≤ tobK M b kk k ∧ tobK M b kk k ≤ k * kk := by
  have := itI_lin (F := fun f s => s + ofF M kk (b * 3 + f)) (a := 0) (c := kk) (fun f x _ => by have := ofF_rg M hk (b * 3 + f); omega) h0
  unfold tobK; omega
theorem tobK_3 {M : Int → Int} (H : MOk M) {b kk : Int} (hb : 0 ≤ b) (hk : 0 ≤ kk) : tobK M b kk 3 = cntL (blkF M) b kk := by
  rw [← cnt_blk H hb hk]
  show 0 + ofF M kk (b * 3 + 0) + ofF M kk (b * 3 + 1) + ofF M kk (b * 3 + 2) = _
  unfold ofF
  rw [Int.add_zero, Int.zero_add]
/-- how many of a stack's blocks are seen -/
def seenIn (M : Int → Int) (x y k : Int) : Int := itI (fun z s => s + bI (0 < cntL (blkF M) (blkN x y z) 512)) 0 k
theorem seenIn_s {M : Int → Int} {x y k : Int} (h : 0 ≤ k) : seenIn M x y (k + 1) = seenIn M x y k + bI (0 < cntL (blkF M) (blkN x y k) 512) := itI_s _ _ h
theorem seenIn_rg (M : Int → Int) (x y : Int) {k : Int} (h : 0 ≤ k) : 0 ≤ seenIn M x y k ∧ seenIn M x y k ≤ k := by
  have := itI_lin (F := fun z s => s + bI (0 < cntL (blkF M) (blkN x y z) 512)) (a := 0) (c := 1) (fun k x2 _ => by have := bI_rg (0 < cntL (blkF M) (blkN x y k) 512); omega) h
  unfold seenIn; omega
theorem blkN_xyz {x y z : Int} (hx : 0 ≤ x ∧ x ≤ 5) (hy : 0 ≤ y ∧ y ≤ 5) : blkN x y z % 6 = x ∧ blkN x y z / 6 % 6 = y ∧ blkN x y z / 36 = z := by
  have e : blkN x y z / 6 = z * 6 + y := by unfold blkN; omega
  refine ⟨by unfold blkN; omega, by rw [e]; omega, ?_⟩
  have e2 : blkN x y z / 36 = blkN x y z / 6 / 6 := by rw [Int.ediv_ediv_of_nonneg (by decide)]; rfl
  rw [e2, e]
  omega
/-- all that a picture shows belongs to blocks of the yard -/
def MIn (n : Int) (h M : Int → Int) : Prop := ∀ t, M t = 0 ∨ ∃ x y z w, okB x y z w ∧ (x < n ∧ y < n ∧ z < h (y * 6 + x)) ∧ triB x y z w = t ∧ M t = codeB x y z w
theorem MIn.ok {n : Int} {h M : Int → Int} (H : MIn n h M) : MOk M := fun t => (H t).imp id (fun ⟨x, y, z, w, a, _, b, c⟩ => ⟨x, y, z, w, a, b, c⟩)
theorem MIn.blk {n : Int} {h M : Int → Int} (H : MIn n h M) {t : Int} (ht : M t ≠ 0) : (0 ≤ blkF M t % 6 ∧ blkF M t % 6 < n) ∧ (0 ≤ blkF M t / 6 % 6 ∧ blkF M t / 6 % 6 < n) ∧ (0 ≤ blkF M t / 36 ∧ blkF M t / 36 ≤ 7) ∧ blkF M t / 36 < h (blkF M t / 6 % 6 * 6 + blkF M t % 6) := by
  rcases H t with q | ⟨x, y, z, w, a, b, _, d⟩
  · exact absurd q ht
  · have c := codeB_f a
    have e : blkF M t = blkN x y z := by
      unfold blkF
      rw [if_neg ht, d, c.2.2]
      have := a.2.2.2
      omega
    obtain ⟨a1, a2, a3, a4⟩ := a
    obtain ⟨e1, e2, e3⟩ := blkN_xyz (z := z) a1 a2
    rw [e, e1, e2, e3]
    exact ⟨⟨a1.1, b.1⟩, ⟨a2.1, b.2.1⟩, a3, b.2.2⟩
theorem drawBK_in {n : Int} {h M : Int → Int} (H : MIn n h M) {x y z : Int} (hx : 0 ≤ x ∧ x ≤ 5) (hy : 0 ≤ y ∧ y ≤ 5) (hz : 0 ≤ z ∧ z ≤ 7) (hb : x < n ∧ y < n ∧ z < h (y * 6 + x)) {k : Int} (h0 : 0 ≤ k) (h6 : k ≤ 6) : MIn n h (drawBK x y z M k) :=
  itI_ind (F := fun w N => drawW x y z w N) (a := M) (fun _ N => MIn n h N) H h0 (fun w N a b hN t => by
    unfold drawW updI
    by_cases e : t = triB x y z w
    · rw [if_pos e]
      unfold maxI
      by_cases q : N (triB x y z w) < codeB x y z w
      · rw [if_pos q]; exact Or.inr ⟨x, y, z, w, ⟨hx, hy, hz, a, by omega⟩, hb, e.symm, rfl⟩
      · rw [if_neg q, ← e]; exact hN t
    · rw [if_neg e]; exact hN t)
theorem picM_in {n ho : Int} {h c : Int → Int} (H : YOk n ho h c) : MIn n h (picM n h) := by
  have hn := H.n
  refine itI_ind (F := fun y N => drawXK h y N n) (a := fun _ => 0) (fun _ N => MIn n h N) (fun _ => Or.inl rfl) (by omega) (fun y N a b hN => ?_)
  refine itI_ind (F := fun x N => drawZK x y N (h (y * 6 + x))) (a := N) (fun _ N => MIn n h N) hN (by omega) (fun x N a2 b2 hN => ?_)
  have h8 := H.h (y * 6 + x)
  exact itI_ind (F := fun z N => drawBK x y z N 6) (a := N) (fun _ N => MIn n h N) hN h8.1 (fun z N a3 b3 hN => drawBK_in hN ⟨a2, by omega⟩ ⟨a, by omega⟩ ⟨a3, by omega⟩ ⟨b2, b, b3⟩ (by decide) (by decide))
/-- a block's colour, by its number -/
def colB (c : Int → Int) (b : Int) : Int := colZ (c (b / 6 % 6 * 6 + b % 6)) (b / 36)
def colK (M c : Int → Int) (d k : Int) : Int := itI (fun t s => s + bI (M t ≠ 0 ∧ colB c (blkF M t) = d)) 0 k
theorem colK_s {M c : Int → Int} {d k : Int} (h : 0 ≤ k) : colK M c d (k + 1) = colK M c d k + bI (M k ≠ 0 ∧ colB c (blkF M k) = d) := itI_s _ _ h
theorem colK_rg (M c : Int → Int) (d : Int) {k : Int} (h : 0 ≤ k) : 0 ≤ colK M c d k ∧ colK M c d k ≤ k := by
  have := itI_lin (F := fun t s => s + bI (M t ≠ 0 ∧ colB c (blkF M t) = d)) (a := 0) (c := 1) (fun k x _ => by have := bI_rg (M k ≠ 0 ∧ colB c (blkF M k) = d); omega) h
  unfold colK; omega
theorem tdiv3 {f : Int} (h : -1 ≤ f) : f.tdiv 3 = if f = -1 then 0 else f / 3 := by
  by_cases e : f = -1
  · rw [if_pos e, e]; rfl
  · rw [if_neg e]; exact Int.tdiv_eq_ediv_of_nonneg (by omega)

/-! ===== the model's picture ===== -/
def mbF (M : Int → Int) : Int → Int := fun t => if M t = 0 then -1 else 8 * (blkF M t % 36) + blkF M t / 36
/-- the model's faces and nearness, where a block is seen -/
def GOk (M G N : Int → Int) : Prop := ∀ t, M t ≠ 0 → G t = faceF M t % 3 ∧ N t = nearF M t
theorem mb_none {M : Int → Int} (H : MOk M) (t : Int) : mbF M t = -1 ↔ M t = 0 := by
  have r := MOk.rg H t
  unfold mbF
  by_cases q : M t = 0
  · rw [if_pos q]; exact ⟨fun _ => q, fun _ => rfl⟩
  · rw [if_neg q]
    have e : 0 ≤ blkF M t := by
      have := blk_face t q
      have r2 : faceF M t ≠ -1 := fun w => q ((face_none H t).mp w)
      omega
    exact ⟨fun w => absurd w (by omega), fun w => absurd w q⟩
theorem mb_rg {M : Int → Int} (H : MOk M) (t : Int) : -1 ≤ mbF M t ∧ mbF M t < 288 := by
  have r := MOk.rg H t
  unfold mbF
  by_cases q : M t = 0
  · rw [if_pos q]; omega
  · rw [if_neg q]
    have e : 0 ≤ blkF M t := by
      have := blk_face t q
      have r2 : faceF M t ≠ -1 := fun w => q ((face_none H t).mp w)
      omega
    omega
section CV
variable {M : Int → Int} {x y z w : Int}
theorem draw_at (H : MOk M) (h : okB x y z w) (ht : nearF M (triB x y z w) < x + y + z) (j : Int) : drawW x y z w M j = updI M (triB x y z w) (codeB x y z w) j := by
  have q := (takes_code H h).mp ht
  unfold drawW maxI
  rw [if_pos q]
theorem mb_draw (H : MOk M) (h : okB x y z w) (ht : nearF M (triB x y z w) < x + y + z) (j : Int) : updI (mbF M) (triB x y z w) (8 * (6 * y + x) + z) j = mbF (drawW x y z w M) j := by
  have a := codeB_f h
  have b := blkN_rg h.1 h.2.1 h.2.2.1
  unfold mbF blkF
  rw [draw_at H h ht]
  unfold updI
  by_cases e : j = triB x y z w
  · rw [if_pos e, if_pos e, if_neg a.1, if_neg a.1, a.2.2]
    unfold blkN at b ⊢
    obtain ⟨h1, h2, h3, h4⟩ := h
    omega
  · rw [if_neg e, if_neg e]
theorem GOk.draw {G N : Int → Int} (HG : GOk M G N) (H : MOk M) (h : okB x y z w) (ht : nearF M (triB x y z w) < x + y + z) : GOk (drawW x y z w M) (updI G (triB x y z w) (w / 2)) (updI N (triB x y z w) (x + y + z)) := by
  intro j hj
  have a := codeB_f h
  unfold faceF nearF
  rw [draw_at H h ht] at hj ⊢
  unfold updI at hj ⊢
  by_cases e : j = triB x y z w
  · rw [if_pos e] at hj ⊢
    rw [if_pos e, if_pos e, if_neg hj, if_neg hj, a.2.1, a.2.2]
    have := h.2.2.2
    omega
  · rw [if_neg e] at hj ⊢
    rw [if_neg e, if_neg e, if_neg hj, if_neg hj]
    have := HG j hj
    unfold faceF nearF at this
    rw [if_neg hj, if_neg hj] at this
    exact this
theorem near_none (h : okB x y z w) (q : M (triB x y z w) = 0) : nearF M (triB x y z w) < x + y + z := by
  unfold nearF
  rw [if_pos q]
  have := h.1
  have := h.2.1
  have := h.2.2.1
  omega
end CV
theorem GOk.zero (G N : Int → Int) : GOk (fun _ => 0) G N := fun _ h => absurd rfl h
/-- the model's counts of faces -/
def fcB (j : Int) : Int := (j / 3 % 8 * 36 + j / 3 / 8) * 3 + j % 3
def sdF (M : Int → Int) (k : Int) : Int → Int := fun j => cntL (faceF M) (fcB j) k
theorem sdF_rg (M : Int → Int) {k : Int} (hk : 0 ≤ k) (j : Int) : 0 ≤ sdF M k j ∧ sdF M k j ≤ k := cntL_rg _ _ hk
theorem mb_idx {M G N : Int → Int} (H : MOk M) (HG : GOk M G N) {t : Int} (ht : M t ≠ 0) : fcB (3 * mbF M t + G t) = faceF M t ∧ 0 ≤ 3 * mbF M t + G t ∧ 3 * mbF M t + G t < 864 := by
  have g := (HG t ht).1
  have r := MOk.rg H t
  have e := blk_face t ht
  have r2 : faceF M t ≠ -1 := fun w => ht ((face_none H t).mp w)
  have m : mbF M t = 8 * (blkF M t % 36) + blkF M t / 36 := if_neg ht
  unfold fcB
  rw [m, g]
  omega
theorem fcB_inj {i j : Int} (hi : 0 ≤ i ∧ i < 864) (hj : 0 ≤ j ∧ j < 864) (e : fcB i = fcB j) : i = j := by
  unfold fcB at e
  omega
theorem sd_s {M G N : Int → Int} (H : MOk M) (HG : GOk M G N) {k : Int} (hk : 0 ≤ k) (ht : M k ≠ 0) {j : Int} (h0 : 0 ≤ j) (h1 : j < 864) : updI (sdF M k) (3 * mbF M k + G k) (sdF M k (3 * mbF M k + G k) + 1) j = sdF M (k + 1) j := by
  obtain ⟨a, b, c⟩ := mb_idx H HG ht
  unfold updI sdF
  rw [cntL_s hk]
  by_cases e : j = 3 * mbF M k + G k
  · rw [if_pos e, bI_t (by rw [e]; exact a.symm), e]
  · rw [if_neg e, bI_f (fun q => e (fcB_inj ⟨h0, h1⟩ ⟨b, c⟩ (by rw [a]; exact q.symm)))]
    omega
theorem sd_no {M : Int → Int} (H : MOk M) {k : Int} (hk : 0 ≤ k) (ht : M k = 0) {j : Int} (h0 : 0 ≤ j) : sdF M k j = sdF M (k + 1) j := by
  unfold sdF
  have f : faceF M k = -1 := (face_none H k).mpr ht
  rw [cntL_s hk, bI_f (by rw [f]; unfold fcB; omega)]
  omega
/-- a block's number, out of the model's -/
def bkB (b : Int) : Int := b % 8 * 36 + b / 8
theorem sd_blk {M : Int → Int} (H : MOk M) {b k : Int} (hb : 0 ≤ b) (hk : 0 ≤ k) : sdF M k (3 * b) + sdF M k (3 * b + 1) + sdF M k (3 * b + 2) = cntL (blkF M) (bkB b) k := by
  have h0 : 0 ≤ bkB b := by unfold bkB; omega
  rw [← cnt_blk H h0 hk]
  unfold sdF
  have e0 : fcB (3 * b) = bkB b * 3 := by unfold fcB bkB; omega
  have e1 : fcB (3 * b + 1) = bkB b * 3 + 1 := by unfold fcB bkB; omega
  have e2 : fcB (3 * b + 2) = bkB b * 3 + 2 := by unfold fcB bkB; omega
  rw [e0, e1, e2]
theorem bkB_n {x y z : Int} (hz : 0 ≤ z ∧ z ≤ 7) : bkB (8 * (6 * y + x) + z) = blkN x y z := by
  unfold bkB blkN
  omega
/-- all blocks, in the model's order -/
theorem dist_bk (M : Int → Int) : sm (fun b => bI (0 < cntL (blkF M) (bkB b) 512)) 288 = distL (blkF M) 288 512 := by
  have e1 := sm_prod (fun b => bI (0 < cntL (blkF M) (bkB b) 512)) (m := 36) (k := 8) (by decide) (by decide)
  have e2 := sm_prod (fun b => bI (0 < cntL (blkF M) b 512)) (m := 8) (k := 36) (by decide) (by decide)
  rw [show (36 : Int) * 8 = 288 by decide] at e1
  rw [show (8 : Int) * 36 = 288 by decide] at e2
  rw [e1]
  show _ = sm (fun b => bI (0 < cntL (blkF M) b 512)) 288
  rw [e2, sm_swap (fun z j => bI (0 < cntL (blkF M) (z * 36 + j) 512)) (by decide) (by decide)]
  refine sm_cg (fun j a b => sm_cg (fun z c d => ?_))
  show bI (0 < cntL (blkF M) (bkB (j * 8 + z)) 512) = bI (0 < cntL (blkF M) (z * 36 + j) 512)
  rw [show bkB (j * 8 + z) = z * 36 + j by unfold bkB; omega]

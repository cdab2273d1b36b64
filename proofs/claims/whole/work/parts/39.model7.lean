/-! ===== what the model tells of its picture ===== -/
theorem bk_perm (F : Int → Int) : sm (fun b => F (bkB b)) 288 = sm F 288 := by
  have e1 := sm_prod (fun b => F (bkB b)) (m := 36) (k := 8) (by decide) (by decide)
  have e2 := sm_prod F (m := 8) (k := 36) (by decide) (by decide)
  rw [show (36 : Int) * 8 = 288 by decide] at e1
  rw [show (8 : Int) * 36 = 288 by decide] at e2
  rw [e1, e2, sm_swap (fun z j => F (z * 36 + j)) (by decide) (by decide)]
  refine sm_cg (fun j a b => sm_cg (fun z c d => ?_))
  show F (bkB (j * 8 + z)) = F (z * 36 + j)
  rw [show bkB (j * 8 + z) = z * 36 + j by unfold bkB; omega]
theorem face_perm (M : Int → Int) : sm (fun j => bI (0 < sdF M 512 j)) 864 = distL (faceF M) 864 512 := by
  have e1 := sm_prod (fun j => bI (0 < sdF M 512 j)) (m := 288) (k := 3) (by decide) (by decide)
  have e2 := sm_prod (fun j => bI (0 < cntL (faceF M) j 512)) (m := 288) (k := 3) (by decide) (by decide)
  rw [show (288 : Int) * 3 = 864 by decide] at e1 e2
  show _ = sm (fun j => bI (0 < cntL (faceF M) j 512)) 864
  rw [e1, e2, ← bk_perm (fun y => sm (fun x => bI (0 < cntL (faceF M) (y * 3 + x) 512)) 3)]
  refine sm_cg (fun b a _ => sm_cg (fun f u v => ?_))
  show bI (0 < cntL (faceF M) (fcB (b * 3 + f)) 512) = bI (0 < cntL (faceF M) (bkB b * 3 + f) 512)
  rw [show fcB (b * 3 + f) = bkB b * 3 + f by unfold fcB bkB; omega]
def trS (M c : Int → Int) (d k : Int) : Int := itI (fun t s => s + bI (M t ≠ 0 ∧ (d = -1 ∨ colB c (blkF M t) = d))) 0 k
theorem trS_s {M c : Int → Int} {d k : Int} (h : 0 ≤ k) : trS M c d (k + 1) = trS M c d k + bI (M k ≠ 0 ∧ (d = -1 ∨ colB c (blkF M k) = d)) := itI_s _ _ h
theorem trS_all (M c : Int → Int) (k : Int) : trS M c (-1) k = litK M k := sum_same (fun j _ _ => bI_c ⟨fun q => q.1, fun q => ⟨q, Or.inl rfl⟩⟩)
theorem trS_col (M c : Int → Int) {d : Int} (hd : 0 ≤ d) (k : Int) : trS M c d k = colK M c d k := sum_same (fun j _ _ => bI_c ⟨fun q => ⟨q.1, q.2.resolve_left (by omega)⟩, fun q => ⟨q.1, Or.inr q.2⟩⟩)
/-- a seen block, out of the model's number -/
theorem mb_at {n : Int} {h M G N : Int → Int} (H : MIn n h M) (HG : GOk M G N) (hn : n ≤ 6) {t : Int} (ht : M t ≠ 0) : (0 ≤ mbF M t ∧ mbF M t < 288) ∧ mbF M t / 8 % 6 = faceF M t / 3 % 6 ∧ mbF M t / 8 / 6 = faceF M t / 3 / 6 % 6 ∧ mbF M t % 8 = faceF M t / 3 / 36 ∧ G t = faceF M t % 3 ∧ faceF M t ≠ -1 ∧ (0 ≤ mbF M t / 8 % 6 ∧ mbF M t / 8 % 6 < n) ∧ (0 ≤ mbF M t / 8 / 6 ∧ mbF M t / 8 / 6 < n) ∧ mbF M t % 8 < h (mbF M t / 8 / 6 * 6 + mbF M t / 8 % 6) := by
  have k := MIn.blk H ht
  have m : mbF M t = 8 * (blkF M t % 36) + blkF M t / 36 := if_neg ht
  have e := blk_face t ht
  have r := MOk.rg H.ok t
  have r2 : faceF M t ≠ -1 := fun w => ht ((face_none H.ok t).mp w)
  have g := (HG t ht).1
  have b0 : 0 ≤ blkF M t := by omega
  have b1 : blkF M t < 288 := by omega
  have d8 : mbF M t / 8 = blkF M t % 36 := by clear k g e r; omega
  have a1 : mbF M t / 8 % 6 = blkF M t % 6 := by rw [d8]; clear k g e r m; omega
  have a2 : mbF M t / 8 / 6 = blkF M t / 6 % 6 := by rw [d8]; clear k g e r m; omega
  have a3 : mbF M t % 8 = blkF M t / 36 := by omega
  rw [a1, a2, a3]
  refine ⟨by omega, by omega, by omega, by omega, g, r2, k.1, k.2.1, k.2.2.2⟩

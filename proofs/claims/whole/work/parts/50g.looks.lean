/-! ===== the model's looks, mixed ===== -/
def plM (n : Int) (h c : Int → Int) (a : Int64) (k : Int) : Int64 := itI (fun t a => mixI (mixI a (picW c (faceF (picM n h) t) 0)) (picW c (faceF (picM n h) t) 3)) a k
theorem plM_s {n : Int} {h c : Int → Int} {a : Int64} {k : Int} (h0 : 0 ≤ k) : mixI (mixI (plM n h c a k) (picW c (faceF (picM n h) k) 0)) (picW c (faceF (picM n h) k) 3) = plM n h c a (k + 1) := by symm; exact itI_s _ _ h0
theorem plM_all (n : Int) (h c : Int → Int) (a : Int64) : plM n h c a 512 = piM n h c a 16 := by
  unfold plM
  rw [show (512 : Int) = 16 * 32 by decide, fold_prod (by decide) (by decide)]
  unfold piM
  refine itI_congr (fun i x _ _ => ?_)
  show itI (fun j x => mixI (mixI x (picW c (faceF (picM n h) (i * 32 + j)) 0)) (picW c (faceF (picM n h) (i * 32 + j)) 3)) x 32 = pjM n h c (i - 9) x 16
  rw [show (32 : Int) = 16 * 2 by decide, fold_prod (by decide) (by decide)]
  unfold pjM
  refine itI_congr (fun j x _ _ => ?_)
  show itI (fun t x => mixI (mixI x (picW c (faceF (picM n h) (i * (16 * 2) + (j * 2 + t))) 0)) (picW c (faceF (picM n h) (i * (16 * 2) + (j * 2 + t))) 3)) x 2 = ptM n h c (i - 9) (j - 9) x 2
  unfold ptM
  refine itI_congr (fun t x _ _ => ?_)
  show _ = mixI (mixI x (picW c (faceF (picM n h) (triN (i - 9) (j - 9) t)) 0)) (picW c (faceF (picM n h) (triN (i - 9) (j - 9) t)) 3)
  rw [show triN (i - 9) (j - 9) t = i * (16 * 2) + (j * 2 + t) by unfold triN; omega]
def loM (n : Int) (h c : Int → Int) (a : Int64) : Int64 := czM n h (esM n h (piM n h c a 16) 2) 2

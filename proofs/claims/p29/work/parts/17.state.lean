/-! ===== the state that calls change ===== -/
def VOk (dr n : Int) (h S E F : Int → Int) (b g t : Int) : Prop := dr = 1 → (∀ j, S j = faceF (picM n h) j) ∧ (∀ j, E j = nearF (picM n h) j) ∧ (∀ j, 0 ≤ j → j < 864 → F j = ofF (picM n h) 512 j) ∧ b = distL (blkF (picM n h)) 288 512 ∧ g = distL (faceF (picM n h)) 864 512 ∧ t = litK (picM n h) 512
theorem VOk.pic (dr n : Int) (h : Int → Int) : VOk dr n h (faceF (picM n h)) (nearF (picM n h)) (ofF (picM n h) 512) (distL (blkF (picM n h)) 288 512) (distL (faceF (picM n h)) 864 512) (litK (picM n h) 512) := fun _ => ⟨fun _ => rfl, fun _ => rfl, fun _ _ _ => rfl, rfl, rfl, rfl⟩
theorem VOk.zero (n : Int) (h S E F : Int → Int) (b g t : Int) : VOk 0 n h S E F b g t := fun q => absurd q (by decide)
/-- carrying a stack: the colours of the goal behind z blocks -/
def carC (h c : Int → Int) (q p z : Int) : Int := itI (fun k v => v + colZ (c q) k * p4 (h p + k)) (c p) z
theorem carC_s {h c : Int → Int} {q p z : Int} (h0 : 0 ≤ z) : carC h c q p (z + 1) = carC h c q p z + colZ (c q) z * p4 (h p + z) := itI_s _ _ h0
theorem updI_u (f : Int → Int) (i v w j : Int) : updI (updI f i v) i w j = updI f i w j := by
  unfold updI
  split <;> rfl
theorem YOk.car {n ho : Int} {h c : Int → Int} (H : YOk n ho h c) {q p : Int} (hp : sqIn n p) (hne : p ≠ q) {z : Int} (h0 : 0 ≤ z) (hz : h p + z ≤ 8) : YOk n ho (updI h p (h p + z)) (updI c p (carC h c q p z)) := by
  have a1 := H.h p
  refine H.set hp (by omega) ?_
  have key : ∀ m : Nat, h p + (m : Int) ≤ 8 → 0 ≤ carC h c q p m ∧ carC h c q p m < p4 (h p + m) := by
    intro m
    induction m with
    | zero =>
      intro _
      have := H.c p
      show 0 ≤ c p ∧ c p < p4 (h p + 0)
      rw [Int.add_zero]; exact this
    | succ m ih =>
      intro hm
      have e : ((m + 1 : Nat) : Int) = (m : Int) + 1 := by omega
      obtain ⟨i1, i2⟩ := ih (by omega)
      rw [e, carC_s (by omega), show h p + ((m : Int) + 1) = (h p + m) + 1 by omega]
      exact add4 i1 i2 (colZ_rg _ _) (by omega)
  obtain ⟨m, rfl⟩ := Int.eq_ofNat_of_zero_le h0
  exact key m hz
/-- cutting at a height: what stands on a square, row by row -/
def cutK (n : Int) (h f : Int → Int) (v y x j : Int) : Int := if sqIn n j ∧ (j / 6 < y ∨ (j / 6 = y ∧ j % 6 < x)) ∧ v < h j then f j else h j

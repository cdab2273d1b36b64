/-! ===== the model: brightest, alike, saving ===== -/
theorem least_br {n : Int} {h : Int → Int} {k : Int} (hk : 0 ≤ k) : leastK n h k = shK n h (brK n h k) n := by
  refine sm_ind (P := fun k => leastK n h k = shK n h (brK n h k) n) rfl hk (fun i a _ ih => ?_)
  show leastK n h (i + 1) = shK n h (brK n h (i + 1)) n
  rw [leastK_s a, brK_s a]
  by_cases q : shK n h (i + 1) n < leastK n h i
  · rw [if_pos q, if_pos q]
  · rw [if_neg q, if_neg q]; exact ih
theorem sqn {n : Int} (hn : 2 ≤ n ∧ n ≤ 6) : 4 ≤ n * n ∧ n * n ≤ 36 := by
  rcases (show n = 2 ∨ n = 3 ∨ n = 4 ∨ n = 5 ∨ n = 6 by omega) with q | q | q | q | q <;> subst q <;> decide
def mlK (n : Int) (h : Int → Int) (k : Int) : Int := sm (fun k => minI (greatK h 0 (k / n) n) (greatK h 1 (k % n) n)) k
theorem mlK_s {n : Int} {h : Int → Int} {k : Int} (h0 : 0 ≤ k) : mlK n h (k + 1) = mlK n h k + minI (greatK h 0 (k / n) n) (greatK h 1 (k % n) n) := sm_s h0
theorem mostR_sm (n : Int) (h : Int → Int) (y a : Int) {k : Int} (hk : 0 ≤ k) : mostR n h y a k = a + sm (fun x => minI (greatK h 0 y n) (greatK h 1 x n)) k :=
  sm_ind (P := fun k => mostR n h y a k = a + sm (fun x => minI (greatK h 0 y n) (greatK h 1 x n)) k) (by rw [sm_0]; show a = a + 0; omega) hk (fun i b _ ih => by
    show mostR n h y a (i + 1) = _ + sm _ (i + 1)
    rw [← mostR_s b, sm_s b, ih]
    omega)
theorem mlK_all {n : Int} (hn : 2 ≤ n ∧ n ≤ 6) (h : Int → Int) : mlK n h (n * n) = mostK n h n := by
  unfold mlK
  rw [sm_prod _ (by omega) (by omega)]
  refine sm_ind (P := fun m => m ≤ n → sm (fun y => sm (fun x => minI (greatK h 0 ((y * n + x) / n) n) (greatK h 1 ((y * n + x) % n) n)) n) m = mostK n h m) (fun _ => rfl) (show 0 ≤ n by omega) (fun i a b ih hm => ?_) (Int.le_refl n)
  show sm _ (i + 1) = mostK n h (i + 1)
  rw [sm_s a, ih (by omega), ← mostK_s a, mostR_sm n h i _ (by omega)]
  congr 1
  refine sm_cg (fun x u v => ?_)
  have e1 : (i * n + x) / n = i := by
    rw [Int.add_comm, Int.add_mul_ediv_right _ _ (by omega), Int.ediv_eq_zero_of_lt u v]; omega
  have e2 : (i * n + x) % n = x := by
    rw [Int.add_comm, Int.add_mul_emod_self_right, Int.emod_eq_of_lt u v]
  show minI (greatK h 0 ((i * n + x) / n) n) (greatK h 1 ((i * n + x) % n) n) = minI (greatK h 0 i n) (greatK h 1 x n)
  rw [e1, e2]
theorem divn {n k : Int} (hn : 2 ≤ n ∧ n ≤ 6) (h0 : 0 ≤ k) (h1 : k < n * n) : (0 ≤ k / n ∧ k / n < n) ∧ 0 ≤ k % n ∧ k % n < n :=
  ⟨⟨Int.ediv_nonneg h0 (by omega), Int.ediv_lt_of_lt_mul (by omega) h1⟩, Int.emod_nonneg _ (by omega), Int.emod_lt_of_pos _ (by omega)⟩
theorem mlK_rg {n : Int} {h : Int → Int} (H : ∀ j, 0 ≤ h j ∧ h j ≤ 8) (hn : 0 ≤ n) {k : Int} (hk : 0 ≤ k) : 0 ≤ mlK n h k ∧ mlK n h k ≤ k * 8 := by
  have := itI_lin (F := fun k m => m + minI (greatK h 0 (k / n) n) (greatK h 1 (k % n) n)) (a := 0) (c := 8) (fun k x _ => by
    have := greatK_rg H 0 (k / n) hn
    have := greatK_rg H 1 (k % n) hn
    unfold minI; split <;> omega) hk
  have t : 0 ≤ mlK n h k ∧ mlK n h k ≤ 0 + k * 8 := this
  omega
/-- the saved rows: the older ones moved down, where six are saved -/
def mvF (f : Int → Int) (k : Int) : Int → Int := fun j => if j < k then f (j + 326) else f j
def olF (f : Int → Int) (hn : Int) : Int → Int := if hn = 6 then mvF f 1630 else f
def svM (f : Int → Int) (m : Int) (z : Int → Int) (k : Int) : Int → Int := fun j => if m * 326 ≤ j ∧ j < m * 326 + k then z (j - m * 326) else f j
theorem mv_s {f : Int → Int} {k j : Int} (hk : 0 ≤ k) : updI (mvF f k) k (mvF f k (k + 326)) j = mvF f (k + 1) j := by
  unfold updI mvF
  by_cases e : j = k
  · rw [if_pos e, if_neg (by omega), if_pos (by omega), e]
  · rw [if_neg e]
    by_cases q : j < k
    · rw [if_pos q, if_pos (by omega)]
    · rw [if_neg q, if_neg (by omega)]
theorem sv_s {f z : Int → Int} {m k j : Int} : updI (svM f m z k) (m * 326 + k) (z k) j = if 0 ≤ k then svM f m z (k + 1) j else updI (svM f m z k) (m * 326 + k) (z k) j := by
  by_cases hk : 0 ≤ k
  · rw [if_pos hk]
    unfold updI svM
    by_cases e : j = m * 326 + k
    · rw [if_pos e, if_pos (by omega), show j - m * 326 = k by omega]
    · rw [if_neg e]
      by_cases q : m * 326 ≤ j ∧ j < m * 326 + k
      · rw [if_pos q, if_pos (by omega)]
      · rw [if_neg q, if_neg (by omega)]
  · rw [if_neg hk]

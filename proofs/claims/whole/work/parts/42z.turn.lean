/-! ===== the model turns ===== -/
theorem turnK_cases (n : Int) (h : Int → Int) (y x j : Int) : (sqIn n j ∧ (n - 1 - j % 6 < y ∨ (n - 1 - j % 6 = y ∧ j / 6 < x)) ∧ turnK n h y x j = h ((n - 1 - j % 6) * 6 + j / 6)) ∨ (¬ (sqIn n j ∧ (n - 1 - j % 6 < y ∨ (n - 1 - j % 6 = y ∧ j / 6 < x))) ∧ turnK n h y x j = 0) := by
  unfold turnK
  by_cases q : sqIn n j ∧ (n - 1 - j % 6 < y ∨ (n - 1 - j % 6 = y ∧ j / 6 < x))
  · exact Or.inl ⟨q.1, q.2, if_pos q⟩
  · exact Or.inr ⟨q, if_neg q⟩
theorem YOk.tuK {n ho : Int} {h c : Int → Int} (H : YOk n ho h c) (y x : Int) : YOk n ho (turnK n h y x) (turnK n c y x) := by
  refine ⟨H.1, H.2.1, fun j => ?_, fun j => ?_, fun j hj => ?_⟩
  · rcases turnK_cases n h y x j with ⟨_, _, e⟩ | ⟨_, e⟩ <;> rw [e]
    · exact H.h _
    · omega
  · by_cases q : sqIn n j ∧ (n - 1 - j % 6 < y ∨ (n - 1 - j % 6 = y ∧ j / 6 < x))
    · have e1 : turnK n h y x j = _ := if_pos q
      have e2 : turnK n c y x j = _ := if_pos q
      rw [e1, e2]; exact H.c _
    · have e1 : turnK n h y x j = _ := if_neg q
      have e2 : turnK n c y x j = _ := if_neg q
      rw [e1, e2]; exact ⟨Int.le_refl 0, p4_pos 0⟩
  · exact if_neg (fun w => hj w.1)
theorem turnK_not {n : Int} {h : Int → Int} {y x : Int} (hn : n ≤ 6) (h3 : 0 ≤ y) (h4 : y < n) : turnK n h y x (x * 6 + (n - 1 - y)) = 0 := by
  unfold turnK
  exact if_neg (by rintro ⟨⟨a, b, c⟩, d⟩; omega)
theorem p4_split {v z : Int} (hz : 0 ≤ z) : v % p4 (z + 1) = v % p4 z + colZ v z * p4 z := by
  have pz := p4_pos z
  unfold colZ
  have e : p4 (z + 1) = p4 z * 4 := by rw [p4_s hz]; omega
  have a := Int.emod_add_mul_ediv v (p4 z)
  have b := Int.emod_add_mul_ediv (v / p4 z) 4
  have r1 := Int.emod_nonneg v (show p4 z ≠ 0 by omega)
  have r2 := Int.emod_lt_of_pos v pz
  have k0 : 0 ≤ v / p4 z % 4 := by omega
  have k3 : v / p4 z % 4 ≤ 3 := by omega
  have m1 : v / p4 z % 4 * p4 z ≤ 3 * p4 z := Int.mul_le_mul_of_nonneg_right k3 (by omega)
  have m0 : 0 ≤ v / p4 z % 4 * p4 z := Int.mul_nonneg k0 (by omega)
  have t : v = (v % p4 z + v / p4 z % 4 * p4 z) + p4 z * 4 * (v / p4 z / 4) := by
    have : p4 z * (v / p4 z) = p4 z * (v / p4 z % 4) + p4 z * (4 * (v / p4 z / 4)) := by rw [← Int.mul_add, b]
    have c1 : p4 z * (v / p4 z % 4) = v / p4 z % 4 * p4 z := Int.mul_comm _ _
    have c2 : p4 z * (4 * (v / p4 z / 4)) = p4 z * 4 * (v / p4 z / 4) := by ac_rfl
    omega
  rw [e]
  conv => lhs; rw [t]
  rw [Int.add_mul_emod_self_left, Int.emod_eq_of_lt (by omega) (by omega)]
theorem zF_cg {n ho : Int} {h h2 c c2 : Int → Int} (e1 : ∀ j, h j = h2 j) (e2 : ∀ j, c j = c2 j) (j : Int) : zF n ho h c j = zF n ho h2 c2 j := by
  rw [show h = h2 from funext e1, show c = c2 from funext e2]
/-- a step of k, by rows -/
theorem divn_s {n k : Int} (hn : 2 ≤ n) : ((k + 1) / n = k / n ∧ (k + 1) % n = k % n + 1) ∨ ((k + 1) / n = k / n + 1 ∧ (k + 1) % n = 0 ∧ k % n + 1 = n) := by
  have a := Int.emod_add_mul_ediv k n
  have r1 := Int.emod_nonneg k (show n ≠ 0 by omega)
  have r2 := Int.emod_lt_of_pos k (show 0 < n by omega)
  rcases (show k % n + 1 < n ∨ k % n + 1 = n by omega) with q | q
  · refine Or.inl ?_
    have e : k + 1 = (k % n + 1) + n * (k / n) := by omega
    rw [e, Int.add_mul_ediv_left _ _ (by omega), Int.add_mul_emod_self_left, Int.ediv_eq_zero_of_lt (by omega) q, Int.emod_eq_of_lt (by omega) q]
    omega
  · refine Or.inr ?_
    have e : k + 1 = 0 + n * (k / n + 1) := by rw [Int.mul_add]; omega
    rw [e, Int.add_mul_ediv_left _ _ (by omega), Int.add_mul_emod_self_left]
    refine ⟨?_, ?_, q⟩
    · rw [Int.zero_ediv]; omega
    · exact Int.zero_emod _
theorem turnK_k {n k : Int} {h : Int → Int} (hn : 2 ≤ n ∧ n ≤ 6) (h0 : 0 ≤ k) (h1 : k < n * n) (j : Int) : updI (turnK n h (k / n) (k % n)) (k % n * 6 + (n - 1 - k / n)) (h (k / n * 6 + k % n)) j = turnK n h ((k + 1) / n) ((k + 1) % n) j := by
  have d := divn hn h0 h1
  rw [turnK_s hn.2 d.2.1 d.2.2 d.1.1 d.1.2]
  rcases divn_s (k := k) hn.1 with ⟨a, b⟩ | ⟨a, b, c⟩
  · rw [a, b]
  · rw [a, b, c, turnK_row]

/-! ===== the model's row of numbers ===== -/
/-- the colours, eight to a square -/
def colA (h c : Int → Int) : Int → Int := fun j => if j % 8 < h (j / 8) then colZ (c (j / 8)) (j % 8) else 0
def zF (n ho : Int) (h c : Int → Int) : Int → Int := fun j => if j = 0 then n else if j = 1 then ho else if j < 38 then h (j - 2) else colA h c (j - 38)
theorem zF_0 {n ho : Int} {h c : Int → Int} : zF n ho h c 0 = n := rfl
theorem zF_1 {n ho : Int} {h c : Int → Int} : zF n ho h c 1 = ho := rfl
theorem zF_q {n ho : Int} {h c : Int → Int} {q : Int} (h0 : 0 ≤ q) (h1 : q < 36) : zF n ho h c (2 + q) = h q := by
  unfold zF
  rw [if_neg (by omega), if_neg (by omega), if_pos (by omega), show 2 + q - 2 = q by omega]
theorem zF_h {n ho : Int} {h c : Int → Int} {x y : Int} (h0 : 0 ≤ x) (h1 : x ≤ 5) (h2 : 0 ≤ y) (h3 : y ≤ 5) : zF n ho h c (2 + 6 * y + x) = h (y * 6 + x) := by
  rw [show 2 + 6 * y + x = 2 + (y * 6 + x) by omega]
  exact zF_q (by omega) (by omega)
theorem colA_at {h c : Int → Int} {q z : Int} (h0 : 0 ≤ z) (h1 : z < 8) : colA h c (8 * q + z) = if z < h q then colZ (c q) z else 0 := by
  unfold colA
  rw [show (8 * q + z) % 8 = z by omega, show (8 * q + z) / 8 = q by omega]
theorem zF_c {n ho : Int} {h c : Int → Int} {x y z : Int} (h0 : 0 ≤ x) (h1 : x ≤ 5) (h2 : 0 ≤ y) (h3 : y ≤ 5) (h4 : 0 ≤ z) (h5 : z < 8) : zF n ho h c (38 + 8 * (6 * y + x) + z) = if z < h (y * 6 + x) then colZ (c (y * 6 + x)) z else 0 := by
  unfold zF
  rw [if_neg (by omega), if_neg (by omega), if_neg (by omega), show 38 + 8 * (6 * y + x) + z - 38 = 8 * (y * 6 + x) + z by omega]
  exact colA_at h4 h5
theorem p4_add {a b : Int} (ha : 0 ≤ a) (hb : 0 ≤ b) : p4 (a + b) = p4 a * p4 b := by
  unfold p4
  rw [show (2 * (a + b)).toNat = (2 * a).toNat + (2 * b).toNat by omega, Int.pow_add]
/-- a colour of a stack behind another block -/
theorem colZ_add {v d z k : Int} (hv : 0 ≤ v ∧ v < p4 k) (hd : 0 ≤ d ∧ d ≤ 3) (hz : 0 ≤ z) (hk : z ≤ k) : colZ (v + d * p4 k) z = if z < k then colZ v z else d := by
  unfold colZ
  by_cases q : z < k
  · rw [if_pos q]
    have e : p4 k = p4 z * (4 * p4 (k - z - 1)) := by
      rw [← p4_s (by omega), ← p4_add hz (by omega)]
      congr 1; omega
    have pz := p4_pos z
    rw [e, show v + d * (p4 z * (4 * p4 (k - z - 1))) = v + p4 z * (d * p4 (k - z - 1) * 4) by ac_rfl, Int.add_mul_ediv_left _ _ (by omega)]
    exact Int.add_mul_emod_self_right _ _ _
  · rw [if_neg q]
    have e : z = k := by omega
    subst e
    have pz := p4_pos z
    rw [Int.add_mul_ediv_right _ _ (by omega), Int.ediv_eq_zero_of_lt hv.1 hv.2]
    omega
theorem colZ_mod {v z k : Int} (hz : 0 ≤ z) (hk : z < k) : colZ (v % p4 k) z = colZ v z := by
  unfold colZ
  have e : p4 k = p4 z * (4 * p4 (k - z - 1)) := by
    rw [← p4_s (by omega), ← p4_add hz (by omega)]
    congr 1; omega
  have pz := p4_pos z
  have d := Int.emod_add_mul_ediv v (p4 k)
  have h : v = v % p4 k + p4 z * ((p4 (k - z - 1) * (v / p4 k)) * 4) := by
    have : p4 z * ((p4 (k - z - 1) * (v / p4 k)) * 4) = p4 k * (v / p4 k) := by rw [e]; ac_rfl
    rw [this]; exact d.symm
  conv => rhs; rw [h]
  rw [Int.add_mul_ediv_left _ _ (by omega), Int.add_mul_emod_self_right]
/-- putting on a block, in the row -/
theorem z_put {n ho : Int} {h c : Int → Int} (H : YOk n ho h c) {q d : Int} (hq : 0 ≤ q ∧ q < 36) (hd : 0 ≤ d ∧ d ≤ 3) (h8 : h q < 8) {j : Int} (hj : 0 ≤ j) (hj2 : j < 326) : updI (updI (zF n ho h c) (38 + 8 * q + h q) d) (2 + q) (h q + 1) j = zF n ho (updI h q (h q + 1)) (updI c q (c q + d * p4 (h q))) j := by
  have hh := H.h q
  have hc := H.c q
  by_cases e1 : j = 2 + q
  · rw [e1, updI_s, zF_q hq.1 hq.2, updI_s]
  · rw [updI_n e1]
    by_cases e2 : j = 38 + 8 * q + h q
    · rw [e2, updI_s]
      unfold zF
      rw [if_neg (by omega), if_neg (by omega), if_neg (by omega), show 38 + 8 * q + h q - 38 = 8 * q + h q by omega, colA_at hh.1 h8, updI_s, updI_s, if_pos (by omega), colZ_add hc hd hh.1 (Int.le_refl _), if_neg (by omega)]
    · rw [updI_n e2]
      unfold zF
      by_cases a0 : j = 0
      · rw [if_pos a0, if_pos a0]
      · rw [if_neg a0, if_neg a0]
        by_cases a1 : j = 1
        · rw [if_pos a1, if_pos a1]
        · rw [if_neg a1, if_neg a1]
          by_cases a2 : j < 38
          · rw [if_pos a2, if_pos a2, updI_n (by omega)]
          · rw [if_neg a2, if_neg a2]
            unfold colA
            by_cases e3 : (j - 38) / 8 = q
            · rw [e3, updI_s, updI_s]
              by_cases e4 : (j - 38) % 8 < h q
              · rw [if_pos e4, if_pos (by omega), colZ_add hc hd (by omega) (by omega), if_pos e4]
              · rw [if_neg e4, if_neg (by omega)]
            · rw [updI_n e3, updI_n e3]
/-- taking off a block, in the row -/
theorem z_take {n ho : Int} {h c : Int → Int} (H : YOk n ho h c) {q : Int} (hq : 0 ≤ q ∧ q < 36) (h8 : h q ≠ 0) {j : Int} (hj : 0 ≤ j) (hj2 : j < 326) : updI (updI (zF n ho h c) (2 + q) (h q - 1)) (38 + 8 * q + (h q - 1)) 0 j = zF n ho (lowH h q (h q - 1)) (lowC h c q (h q - 1)) j := by
  have hh := H.h q
  have lh : lowH h q (h q - 1) = updI h q (h q - 1) := if_pos ⟨by omega, by omega⟩
  have lc : lowC h c q (h q - 1) = updI c q (c q % p4 (h q - 1)) := if_pos ⟨by omega, by omega⟩
  rw [lh, lc]
  by_cases e2 : j = 38 + 8 * q + (h q - 1)
  · rw [e2, updI_s]
    unfold zF
    rw [if_neg (by omega), if_neg (by omega), if_neg (by omega), show 38 + 8 * q + (h q - 1) - 38 = 8 * q + (h q - 1) by omega, colA_at (by omega) (by omega), updI_s, if_neg (by omega)]
  · rw [updI_n e2]
    by_cases e1 : j = 2 + q
    · rw [e1, updI_s, zF_q hq.1 hq.2, updI_s]
    · rw [updI_n e1]
      unfold zF
      by_cases a0 : j = 0
      · rw [if_pos a0, if_pos a0]
      · rw [if_neg a0, if_neg a0]
        by_cases a1 : j = 1
        · rw [if_pos a1, if_pos a1]
        · rw [if_neg a1, if_neg a1]
          by_cases a2 : j < 38
          · rw [if_pos a2, if_pos a2, updI_n (by omega)]
          · rw [if_neg a2, if_neg a2]
            unfold colA
            by_cases e3 : (j - 38) / 8 = q
            · rw [e3, updI_s, updI_s]
              by_cases e4 : (j - 38) % 8 < h q - 1
              · rw [if_pos (by omega), if_pos e4, colZ_mod (by omega) e4]
              · rw [if_neg e4, if_neg (by omega)]
            · rw [updI_n e3, updI_n e3]
theorem z_none {n ho : Int} {j : Int} : zF n ho (fun _ => 0) (fun _ => 0) j = if j = 0 then n else if j = 1 then ho else 0 := by
  unfold zF colA
  by_cases a0 : j = 0
  · rw [if_pos a0, if_pos a0]
  · rw [if_neg a0, if_neg a0]
    by_cases a1 : j = 1
    · rw [if_pos a1, if_pos a1]
    · rw [if_neg a1, if_neg a1]
      by_cases a2 : j < 38
      · rw [if_pos a2]
      · rw [if_neg a2, if_neg (show ¬ (j - 38) % 8 < 0 by omega)]
theorem shadeK_or {n : Int} {h : Int → Int} {t x y k : Int} (h0 : 1 ≤ k) : (shP n h t x y k ∧ shadeK n h t x y k = 1) ∨ (¬ shP n h t x y k ∧ shadeK n h t x y k = shadeK n h t x y (k - 1)) := by
  have D := shD n h t x y k
  by_cases q : shP n h t x y k
  · refine Or.inl ⟨q, ?_⟩
    unfold shadeK
    exact orI_one (k := k - 1) (by omega) (by omega) (by rw [show k - 1 + 1 = k by omega]; exact q)
  · exact Or.inr ⟨q, shadeK_s h0 q⟩
theorem shadeK_01 (n : Int) (h : Int → Int) (t x y k : Int) : shadeK n h t x y k = 0 ∨ shadeK n h t x y k = 1 := by unfold shadeK; exact orI_01
/-- the greatest of the first k -/
def mx (f : Int → Int) (k : Int) : Int := itI (fun j m => maxI m (f j)) 0 k
theorem mx_s {f : Int → Int} {k : Int} (h0 : 0 ≤ k) : mx f (k + 1) = maxI (mx f k) (f k) := itI_s _ _ h0
theorem mx_rg {f : Int → Int} (H : ∀ j, 0 ≤ f j ∧ f j ≤ 8) {k : Int} (hk : 0 ≤ k) : 0 ≤ mx f k ∧ mx f k ≤ 8 := by
  refine itI_ind (F := fun j m => maxI m (f j)) (fun _ x => 0 ≤ x ∧ x ≤ 8) (by decide) hk (fun k x _ _ hx => ?_)
  have := H k
  unfold maxI; split <;> omega
/-- a number is at most .. -/
theorem mx_le {f : Int → Int} {k m : Int} (hk : 0 ≤ k) (hm : 0 ≤ m) : mx f k ≤ m ↔ ∀ j, 0 ≤ j → j < k → f j ≤ m := by
  refine sm_ind (P := fun k => mx f k ≤ m ↔ ∀ j, 0 ≤ j → j < k → f j ≤ m) ⟨fun _ j a b => absurd b (by omega), fun _ => hm⟩ hk (fun i a _ ih => ?_)
  show mx f (i + 1) ≤ m ↔ ∀ j, 0 ≤ j → j < i + 1 → f j ≤ m
  rw [mx_s a]
  constructor
  · intro q j u v
    have q1 : mx f i ≤ m ∧ f i ≤ m := by unfold maxI at q; split at q <;> omega
    rcases (show j = i ∨ j < i by omega) with r | r
    · rw [r]; exact q1.2
    · exact ih.mp q1.1 j u r
  · intro q
    have q1 := ih.mpr (fun j u v => q j u (by omega))
    have q2 := q i a (by omega)
    unfold maxI; split <;> omega
theorem mx_0 (f : Int → Int) {k : Int} (hk : 0 ≤ k) : 0 ≤ mx f k := by
  refine itI_ind (F := fun j m => maxI m (f j)) (fun _ x => 0 ≤ x) (by decide) hk (fun k x _ _ hx => ?_)
  unfold maxI; split <;> omega
theorem great_36 {n ho : Int} {h c : Int → Int} (H : YOk n ho h c) : mx h 36 = greatHK n h n := by
  have hn := H.n
  have e : greatHK n h n = mx (fun y => mx (fun x => h (y * 6 + x)) n) n := rfl
  rw [e]
  have a0 := mx_0 h (k := 36) (by decide)
  have b0 := mx_0 (fun y => mx (fun x => h (y * 6 + x)) n) (k := n) (by omega)
  refine Int.le_antisymm ((mx_le (by decide) b0).mpr (fun j u v => ?_)) ((mx_le (by omega) a0).mpr (fun y u v => (mx_le (by omega) a0).mpr (fun x p q => (mx_le (by decide) a0).mp (Int.le_refl _) _ (by omega) (by omega))))
  by_cases q : sqIn n j
  · have s1 := (mx_le (f := fun y => mx (fun x => h (y * 6 + x)) n) (k := n) (by omega) b0).mp (Int.le_refl _) (j / 6) (by omega) q.2.2
    have s2 := (mx_le (f := fun x => h (j / 6 * 6 + x)) (k := n) (by omega) b0).mp s1 (j % 6) (by omega) q.2.1
    have s2 : h (j / 6 * 6 + j % 6) ≤ _ := s2
    rw [show j / 6 * 6 + j % 6 = j by omega] at s2
    exact s2
  · rw [H.o q]; exact b0

/-! ===== four quarters ===== -/
theorem turn4 {n : Int} {f : Int → Int} (hn : n ≤ 6) (hf : ∀ j, ¬ sqIn n j → f j = 0) (j : Int) : turnF n (turnF n (turnF n (turnF n f))) j = f j := by
  by_cases q : sqIn n j
  · obtain ⟨a, b, c⟩ := q
    have m1 : ((n - 1 - j % 6) * 6 + j / 6) % 6 = j / 6 := by omega
    have d1 : ((n - 1 - j % 6) * 6 + j / 6) / 6 = n - 1 - j % 6 := by omega
    rw [turnF_at ⟨a, b, c⟩, turnF_at ⟨by omega, by omega, by omega⟩, m1, d1]
    have m2 : ((n - 1 - j / 6) * 6 + (n - 1 - j % 6)) % 6 = n - 1 - j % 6 := by omega
    have d2 : ((n - 1 - j / 6) * 6 + (n - 1 - j % 6)) / 6 = n - 1 - j / 6 := by omega
    rw [turnF_at ⟨by omega, by omega, by omega⟩, m2, d2, show n - 1 - (n - 1 - j % 6) = j % 6 by omega]
    have m3 : (j % 6 * 6 + (n - 1 - j / 6)) % 6 = n - 1 - j / 6 := by omega
    have d3 : (j % 6 * 6 + (n - 1 - j / 6)) / 6 = j % 6 := by omega
    rw [turnF_at ⟨by omega, by omega, by omega⟩, m3, d3, show n - 1 - (n - 1 - j / 6) = j / 6 by omega, show j / 6 * 6 + j % 6 = j by omega]
  · rw [turnF_out q, hf j q]
theorem YOk.c0 {n ho : Int} {h c : Int → Int} (H : YOk n ho h c) {j : Int} (hj : ¬ sqIn n j) : c j = 0 := by
  have a := H.c j
  rw [H.o hj] at a
  have : p4 0 = 1 := rfl
  omega
theorem tn4_h {n ho : Int} {h c : Int → Int} (H : YOk n ho h c) (j : Int) : tnK n h 4 j = h j := turn4 (by have := H.n; omega) (fun _ hj => H.o hj) j
theorem tn4_c {n ho : Int} {h c : Int → Int} (H : YOk n ho h c) (j : Int) : tnK n c 4 j = c j := turn4 (by have := H.n; omega) (fun _ hj => H.c0 hj) j
def tfM (n : Int) (h : Int → Int) (k : Int) : Int := if k = 0 then -1 else mostD n h (k - 1)
def tfB (n : Int) (h : Int → Int) (k : Int) : Int := if k = 0 then 0 else btK n h (k - 1)
theorem tf_rg (n : Int) (h : Int → Int) {k : Int} (hk : 0 ≤ k) : -1 ≤ tfM n h k ∧ tfM n h k ≤ 288 := by
  unfold tfM
  by_cases q : k = 0
  · rw [if_pos q]; omega
  · rw [if_neg q]
    have := mostD_rg n h (k := k - 1) (by omega)
    omega
theorem tf_m {n : Int} {h : Int → Int} {k v : Int} (hk : 0 ≤ k) (hv : (tfM n h k < seenD n (tnK n h k) ∧ v = seenD n (tnK n h k)) ∨ (seenD n (tnK n h k) ≤ tfM n h k ∧ v = tfM n h k)) : v = tfM n h (k + 1) := by
  unfold tfM at *
  rw [if_neg (by omega), show k + 1 - 1 = k by omega]
  by_cases q : k = 0
  · rw [if_pos q] at hv
    have := seenD_rg n (tnK n h k)
    rcases hv with ⟨_, e⟩ | ⟨a, _⟩
    · have t0 : tnK n h 0 = h := itI_0 _ _
      have m0 : mostD n h 0 = seenD n h := itI_0 _ _
      rw [e, q, m0, t0]
    · omega
  · rw [if_neg q] at hv
    have e9 := mostD_s (n := n) (h := h) (k := k - 1) (by omega)
    rw [show k - 1 + 1 = k by omega] at e9
    rw [e9]
    rcases hv with ⟨a, e⟩ | ⟨a, e⟩
    · rw [if_pos a]; exact e
    · rw [if_neg (by omega)]; exact e
theorem tf_b {n : Int} {h : Int → Int} {k v : Int} (hk : 0 ≤ k) (hv : (tfM n h k < seenD n (tnK n h k) ∧ v = k) ∨ (seenD n (tnK n h k) ≤ tfM n h k ∧ v = tfB n h k)) : v = tfB n h (k + 1) := by
  unfold tfM tfB at *
  rw [if_neg (by omega), show k + 1 - 1 = k by omega]
  by_cases q : k = 0
  · rw [if_pos q] at hv
    have := seenD_rg n (tnK n h k)
    rcases hv with ⟨_, e⟩ | ⟨a, _⟩
    · rw [e, q]; rfl
    · omega
  · rw [if_neg q, if_neg q] at hv
    have e9 := btK_s (n := n) (h := h) (k := k - 1) (by omega)
    rw [show k - 1 + 1 = k by omega] at e9
    rw [e9]
    rcases hv with ⟨a, e⟩ | ⟨a, e⟩
    · rw [if_pos a]; exact e
    · rw [if_neg (by omega)]; exact e

/-! ===== taking one after the other ===== -/
theorem low_at {f : Int → Int} {q m : Int} (h0 : 0 ≤ m) (h1 : m ≤ f q) : lowH f q m q = m := by
  unfold lowH
  by_cases e : m < f q
  · rw [if_pos ⟨h0, e⟩, updI_s]
  · rw [if_neg (by omega)]
    omega
theorem low_id {f : Int → Int} {q : Int} (j : Int) : lowH f q (f q) j = f j := by
  unfold lowH
  rw [if_neg (by omega)]
theorem lowC_id {f c : Int → Int} {q : Int} (j : Int) : lowC f c q (f q) j = c j := by
  unfold lowC
  rw [if_neg (by omega)]
theorem low_s {f : Int → Int} {q m : Int} (h0 : 0 < m) (h1 : m ≤ f q) (j : Int) : lowH (lowH f q m) q (lowH f q m q - 1) j = lowH f q (m - 1) j := by
  rw [low_at (by omega) h1]
  have e1 : lowH (lowH f q m) q (m - 1) = updI (lowH f q m) q (m - 1) := by
    show (if 0 ≤ m - 1 ∧ m - 1 < lowH f q m q then _ else _) = _
    rw [low_at (by omega) h1, if_pos ⟨by omega, by omega⟩]
  have e2 : lowH f q (m - 1) = updI f q (m - 1) := if_pos ⟨by omega, by omega⟩
  rw [e1, e2]
  unfold lowH
  by_cases e : m < f q
  · rw [if_pos ⟨by omega, e⟩, updI_u]
  · rw [if_neg (by omega)]
theorem p4_dvd {a b : Int} (h0 : 0 ≤ a) (h1 : a ≤ b) : p4 a ∣ p4 b := by
  have e := p4_add h0 (show 0 ≤ b - a by omega)
  rw [show a + (b - a) = b by omega] at e
  exact ⟨_, e⟩
theorem lowC_s {f c : Int → Int} {q m : Int} (h0 : 0 < m) (h1 : m ≤ f q) (j : Int) : lowC (lowH f q m) (lowC f c q m) q (lowH f q m q - 1) j = lowC f c q (m - 1) j := by
  rw [low_at (by omega) h1]
  have e1 : lowC (lowH f q m) (lowC f c q m) q (m - 1) = updI (lowC f c q m) q (lowC f c q m q % p4 (m - 1)) := by
    show (if 0 ≤ m - 1 ∧ m - 1 < lowH f q m q then _ else _) = _
    rw [low_at (by omega) h1, if_pos ⟨by omega, by omega⟩]
  have e2 : lowC f c q (m - 1) = updI c q (c q % p4 (m - 1)) := if_pos ⟨by omega, by omega⟩
  rw [e1, e2]
  by_cases e : m < f q
  · have e3 : lowC f c q m = updI c q (c q % p4 m) := if_pos ⟨by omega, e⟩
    rw [e3, updI_u, updI_s, Int.emod_emod_of_dvd _ (p4_dvd (by omega) (by omega))]
  · have e3 : lowC f c q m = c := if_neg (by omega)
    rw [e3]
/-! ===== cutting off, the model's way ===== -/
def ctH (h : Int → Int) (v k : Int) : Int → Int := fun j => if 0 ≤ j ∧ j < k ∧ v < h j then v else h j
def ctC (h c : Int → Int) (v k : Int) : Int → Int := fun j => if 0 ≤ j ∧ j < k ∧ v < h j then c j % p4 v else c j
def ctN (h : Int → Int) (v k : Int) : Int := sm (fun j => if v < h j then h j - v else 0) k
theorem ctN_s {h : Int → Int} {v k : Int} (h0 : 0 ≤ k) : ctN h v (k + 1) = ctN h v k + if v < h k then h k - v else 0 := sm_s h0
theorem ctH_q {h : Int → Int} {v k : Int} : ctH h v k k = h k := if_neg (by omega)
theorem ctC_q {h c : Int → Int} {v k : Int} : ctC h c v k k = c k := if_neg (by omega)
theorem ctH_0 (h : Int → Int) (v j : Int) : ctH h v 0 j = h j := if_neg (by omega)
theorem ctC_0 (h c : Int → Int) (v j : Int) : ctC h c v 0 j = c j := if_neg (by omega)
theorem ctH_no {h : Int → Int} {v k : Int} (h0 : ¬ v < h k) (j : Int) : ctH h v k j = ctH h v (k + 1) j := by
  unfold ctH
  by_cases e : j = k
  · subst e; rw [if_neg (by omega), if_neg (by omega)]
  · by_cases a : 0 ≤ j ∧ j < k ∧ v < h j
    · rw [if_pos a, if_pos ⟨a.1, by omega, a.2.2⟩]
    · rw [if_neg a, if_neg (fun q => a ⟨q.1, by omega, q.2.2⟩)]
theorem ctC_no {h c : Int → Int} {v k : Int} (h0 : ¬ v < h k) (j : Int) : ctC h c v k j = ctC h c v (k + 1) j := by
  unfold ctC
  by_cases e : j = k
  · subst e; rw [if_neg (by omega), if_neg (by omega)]
  · by_cases a : 0 ≤ j ∧ j < k ∧ v < h j
    · rw [if_pos a, if_pos ⟨a.1, by omega, a.2.2⟩]
    · rw [if_neg a, if_neg (fun q => a ⟨q.1, by omega, q.2.2⟩)]
theorem ctH_s {h : Int → Int} {v k : Int} (hv : 0 ≤ v) (hk : 0 ≤ k) (h0 : v < h k) (j : Int) : lowH (ctH h v k) k v j = ctH h v (k + 1) j := by
  have e1 : lowH (ctH h v k) k v = updI (ctH h v k) k v := if_pos ⟨hv, by rw [ctH_q]; exact h0⟩
  rw [e1]
  unfold updI ctH
  by_cases e : j = k
  · subst e; rw [if_pos rfl, if_pos ⟨hk, by omega, h0⟩]
  · rw [if_neg e]
    by_cases a : 0 ≤ j ∧ j < k ∧ v < h j
    · rw [if_pos a, if_pos ⟨a.1, by omega, a.2.2⟩]
    · rw [if_neg a, if_neg (fun q => a ⟨q.1, by omega, q.2.2⟩)]
theorem ctC_s {h c : Int → Int} {v k : Int} (hv : 0 ≤ v) (hk : 0 ≤ k) (h0 : v < h k) (j : Int) : lowC (ctH h v k) (ctC h c v k) k v j = ctC h c v (k + 1) j := by
  have e1 : lowC (ctH h v k) (ctC h c v k) k v = updI (ctC h c v k) k (ctC h c v k k % p4 v) := if_pos ⟨hv, by rw [ctH_q]; exact h0⟩
  rw [e1, ctC_q]
  unfold updI ctC
  by_cases e : j = k
  · subst e; rw [if_pos rfl, if_pos ⟨hk, by omega, h0⟩]
  · rw [if_neg e]
    by_cases a : 0 ≤ j ∧ j < k ∧ v < h j
    · rw [if_pos a, if_pos ⟨a.1, by omega, a.2.2⟩]
    · rw [if_neg a, if_neg (fun q => a ⟨q.1, by omega, q.2.2⟩)]
theorem YOk.ct {n ho : Int} {h c : Int → Int} (H : YOk n ho h c) {v : Int} (hv : 0 ≤ v) (k : Int) : YOk n ho (ctH h v k) (ctC h c v k) := by
  refine ⟨H.n, H.hr, fun j => ?_, fun j => ?_, fun j hj => ?_⟩
  · have := H.h j
    unfold ctH; split <;> omega
  · have := H.c j
    unfold ctH ctC
    by_cases a : 0 ≤ j ∧ j < k ∧ v < h j
    · rw [if_pos a, if_pos a]; exact mod4 _ _
    · rw [if_neg a, if_neg a]; exact this
  · have := H.o hj
    unfold ctH
    rw [if_neg (by omega), this]
theorem ct_cond {n ho : Int} {h c : Int → Int} (H : YOk n ho h c) {v : Int} (hv : 0 ≤ v) (j : Int) : (sqIn n j ∧ (j / 6 < n ∨ (j / 6 = n ∧ j % 6 < 0)) ∧ v < h j) ↔ (0 ≤ j ∧ j < 36 ∧ v < h j) := by
  have hn := H.n
  constructor
  · rintro ⟨⟨a, b, d⟩, e, f⟩
    exact ⟨a, by omega, f⟩
  · rintro ⟨a, b, d⟩
    have s : sqIn n j := Decidable.byContradiction fun q => by have := H.o q; omega
    exact ⟨s, Or.inl s.2.2, d⟩
theorem ctH_all {n ho : Int} {h c : Int → Int} (H : YOk n ho h c) {v : Int} (hv : 0 ≤ v) (j : Int) : ctH h v 36 j = cutH n h v n 0 j := by
  have q := ct_cond H hv j
  unfold ctH cutH
  by_cases a : 0 ≤ j ∧ j < 36 ∧ v < h j
  · rw [if_pos a, if_pos (q.mpr a)]
  · rw [if_neg a, if_neg (fun r => a (q.mp r))]
theorem ctC_all {n ho : Int} {h c : Int → Int} (H : YOk n ho h c) {v : Int} (hv : 0 ≤ v) (j : Int) : ctC h c v 36 j = cutC n h c v n 0 j := by
  have q := ct_cond H hv j
  unfold ctC cutC
  by_cases a : 0 ≤ j ∧ j < 36 ∧ v < h j
  · rw [if_pos a, if_pos (q.mpr a)]
  · rw [if_neg a, if_neg (fun r => a (q.mp r))]
theorem ctN_all {n ho : Int} {h c : Int → Int} (H : YOk n ho h c) {v : Int} (hv : 0 ≤ v ∧ v ≤ 8) : ctN h v 36 = countK n h n - countK n (cutH n h v n 0) n := by
  rw [← count_36 H, ← count_36 (YOk.cut H hv n 0)]
  have e : sm h 36 = sm (fun j => (if v < h j then h j - v else 0) + cutH n h v n 0 j) 36 := by
    refine sm_cg (fun j a b => ?_)
    show h j = (if v < h j then h j - v else 0) + cutH n h v n 0 j
    rw [← ctH_all H hv.1 j]
    unfold ctH
    by_cases d : v < h j
    · rw [if_pos d, if_pos ⟨a, b, d⟩]; omega
    · rw [if_neg d, if_neg (fun q => d q.2.2)]; omega
  rw [e, sm_add _ _ (by decide)]
  unfold ctN
  omega
theorem ctN_rg {h : Int → Int} (H : ∀ j, 0 ≤ h j ∧ h j ≤ 8) {v : Int} (hv : 0 ≤ v) {k : Int} (hk : 0 ≤ k) : 0 ≤ ctN h v k ∧ ctN h v k ≤ k * 8 := by
  have := itI_lin (F := fun j s => s + (if v < h j then h j - v else 0)) (a := 0) (c := 8) (fun j x _ => by have := H j; show x ≤ x + _ ∧ x + _ ≤ x + 8; split <;> omega) hk
  rw [Int.zero_add] at this
  exact this
theorem sq_of {n ho : Int} {h c : Int → Int} (H : YOk n ho h c) {k : Int} (hk : 0 < h k) : sqIn n k := Decidable.byContradiction fun q => by have := H.o q; omega

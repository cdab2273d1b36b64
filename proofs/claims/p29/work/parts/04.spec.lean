/-! ===== what the methods answer, in whole numbers ===== -/
abbrev okS (n x y : Int) : Prop := (0 ≤ x ∧ x < n) ∧ 0 ≤ y ∧ y < n
def sqA (n x y : Int) : Int := if okS n x y then y * 6 + x else -1
/-- a square's number, of a yard of n columns -/
abbrev sqIn (n j : Int) : Prop := 0 ≤ j ∧ j % 6 < n ∧ j / 6 < n
/-- 4 to the z -/
def p4 (z : Int) : Int := 2 ^ (2 * z).toNat
theorem p4_0 : p4 0 = 1 := rfl
theorem p4_s {z : Int} (h : 0 ≤ z) : p4 (z + 1) = 4 * p4 z := by
  unfold p4
  have e : (2 * (z + 1)).toNat = (2 * z).toNat + 2 := by omega
  rw [e, Int.pow_add]
  omega
theorem p4_pos (z : Int) : 0 < p4 z := by
  unfold p4
  exact Int.pow_pos (by decide)
theorem p4_le8 {z : Int} (h0 : 0 ≤ z) (h : z ≤ 8) : p4 z ≤ 65536 := by
  rcases (show z = 0 ∨ z = 1 ∨ z = 2 ∨ z = 3 ∨ z = 4 ∨ z = 5 ∨ z = 6 ∨ z = 7 ∨ z = 8 by omega) with h | h | h | h | h | h | h | h | h <;> subst h <;> decide
theorem p4_mono {a b : Int} (h0 : 0 ≤ a) (h : a ≤ b) : p4 a ≤ p4 b := by
  obtain ⟨d, rfl⟩ := Int.le.dest h
  induction d with
  | zero => simp
  | succ d ih =>
    have e : a + ((d + 1 : Nat) : Int) = (a + d) + 1 := by omega
    have := ih (by omega)
    rw [e, p4_s (by omega)]
    have := p4_pos (a + d)
    omega
theorem shl4 {c z : Int} (hc : 0 ≤ c ∧ c ≤ 3) (hz : 0 ≤ z ∧ z ≤ 8) : iI c <<< (iI (2 * z) &&& 31) = iI (c * p4 z) := by
  have h1 := p4_le8 hz.1 hz.2
  have h2 := p4_pos z
  have h3 : c * p4 z ≤ 3 * p4 z := Int.mul_le_mul_of_nonneg_right hc.2 (by omega)
  exact iI_shl c hc.1 (by omega) (by omega) (by show c * p4 z < _; omega)
theorem shr4 {v z : Int} (h0 : 0 ≤ v) (h1 : v < 2147483648) (hz : 0 ≤ z ∧ z ≤ 8) : iI v >>> (iI (2 * z) &&& 31) = iI (v / p4 z) := iI_shr v h0 h1 (by omega) (by omega)
theorem or4 {v c z : Int} (h0 : 0 ≤ v) (h1 : v < p4 z) (hc : 0 ≤ c) : iI v ||| iI (c * p4 z) = iI (v + c * p4 z) := iI_or (2 * z).toNat h0 h1 hc
theorem and3 {v : Int} (h0 : 0 ≤ v) : iI v &&& iI 3 = iI (v % 4) := iI_mask h0 2
theorem and4 {v z : Int} (h0 : 0 ≤ v) : iI v &&& iI (p4 z - 1) = iI (v % p4 z) := iI_mask h0 (2 * z).toNat
/-- the colour of a block out of a stack's number -/
def colZ (v z : Int) : Int := v / p4 z % 4
theorem colZ_rg (v z : Int) : 0 ≤ colZ v z ∧ colZ v z ≤ 3 := by
  unfold colZ
  omega
/-- a yard that can be: its columns, its hour, its heights and colours by squares -/
def YOk (n hr : Int) (h c : Int → Int) : Prop := (2 ≤ n ∧ n ≤ 6) ∧ (0 ≤ hr ∧ hr ≤ 7) ∧ (∀ j, 0 ≤ h j ∧ h j ≤ 8) ∧ (∀ j, 0 ≤ c j ∧ c j < p4 (h j)) ∧ ∀ j, ¬ sqIn n j → h j = 0
theorem YOk.n {n hr : Int} {h c : Int → Int} (H : YOk n hr h c) : 2 ≤ n ∧ n ≤ 6 := H.1
theorem YOk.hr {n hr : Int} {h c : Int → Int} (H : YOk n hr h c) : 0 ≤ hr ∧ hr ≤ 7 := H.2.1
theorem YOk.h {n hr : Int} {h c : Int → Int} (H : YOk n hr h c) (j : Int) : 0 ≤ h j ∧ h j ≤ 8 := H.2.2.1 j
theorem YOk.c {n hr : Int} {h c : Int → Int} (H : YOk n hr h c) (j : Int) : 0 ≤ c j ∧ c j < p4 (h j) := H.2.2.2.1 j
theorem YOk.c8 {n hr : Int} {h c : Int → Int} (H : YOk n hr h c) (j : Int) : 0 ≤ c j ∧ c j < 65536 := by
  have h1 := H.c j
  have h2 := H.h j
  have h3 := p4_le8 h2.1 h2.2
  omega
theorem YOk.o {n hr : Int} {h c : Int → Int} (H : YOk n hr h c) {j : Int} (hj : ¬ sqIn n j) : h j = 0 := H.2.2.2.2 j hj
theorem YOk.set {n hr : Int} {h c : Int → Int} (H : YOk n hr h c) {q v w : Int} (hq : sqIn n q) (hv : 0 ≤ v ∧ v ≤ 8) (hw : 0 ≤ w ∧ w < p4 v) : YOk n hr (updI h q v) (updI c q w) := by
  refine ⟨H.1, H.2.1, fun j => ?_, fun j => ?_, fun j hj => ?_⟩
  · unfold updI; split
    · exact hv
    · exact H.h j
  · unfold updI; split
    · exact hw
    · exact H.c j
  · unfold updI
    rw [if_neg (fun e : j = q => hj (by rw [e]; exact hq))]
    exact H.o hj
theorem add4 {v c z : Int} (h0 : 0 ≤ v) (h1 : v < p4 z) (hc : 0 ≤ c ∧ c ≤ 3) (hz : 0 ≤ z) : 0 ≤ v + c * p4 z ∧ v + c * p4 z < p4 (z + 1) := by
  rw [p4_s hz]
  have h2 := p4_pos z
  have h3 : c * p4 z ≤ 3 * p4 z := Int.mul_le_mul_of_nonneg_right hc.2 (by omega)
  have h4 : 0 ≤ c * p4 z := Int.mul_nonneg hc.1 (by omega)
  omega
theorem mod4 (v z : Int) : 0 ≤ v % p4 z ∧ v % p4 z < p4 z := ⟨Int.emod_nonneg _ (by have := p4_pos z; omega), Int.emod_lt_of_pos _ (p4_pos z)⟩
/-- the k-th stack of a row (0) or a column (1) -/
def hA (h : Int → Int) (s a k : Int) : Int := if s = 0 then h (a * 6 + k) else h (k * 6 + a)
def greatK (h : Int → Int) (s a k : Int) : Int := itI (fun k m => maxI m (hA h s a k)) 0 k
def greatI (n : Int) (h : Int → Int) (s a : Int) : Int := greatK h s a n
theorem greatK_s {h : Int → Int} {s a k : Int} (h0 : 0 ≤ k) : maxI (greatK h s a k) (hA h s a k) = greatK h s a (k + 1) := by symm; exact itI_s _ _ h0
def stacksK (h : Int → Int) (s a v k : Int) : Int := itI (fun k m => m + bI (hA h s a k = v)) 0 k
theorem stacksK_s {h : Int → Int} {s a v k : Int} (h0 : 0 ≤ k) : stacksK h s a v (k + 1) = stacksK h s a v k + bI (hA h s a k = v) := itI_s _ _ h0
def blocksK (h : Int → Int) (s a k : Int) : Int := itI (fun k m => m + hA h s a k) 0 k
theorem blocksK_s {h : Int → Int} {s a k : Int} (h0 : 0 ≤ k) : blocksK h s a k + hA h s a k = blocksK h s a (k + 1) := by symm; exact itI_s _ _ h0
def countK (n : Int) (h : Int → Int) (k : Int) : Int := itI (fun y m => m + blocksK h 0 y n) 0 k
theorem countK_s {n : Int} {h : Int → Int} {k : Int} (h0 : 0 ≤ k) : countK n h k + blocksK h 0 k n = countK n h (k + 1) := by symm; exact itI_s _ _ h0
def greatHK (n : Int) (h : Int → Int) (k : Int) : Int := itI (fun y m => maxI m (greatK h 0 y n)) 0 k
theorem greatHK_s {n : Int} {h : Int → Int} {k : Int} (h0 : 0 ≤ k) : maxI (greatHK n h k) (greatK h 0 k n) = greatHK n h (k + 1) := by symm; exact itI_s _ _ h0
def linesK (n : Int) (h : Int → Int) (s v k : Int) : Int := itI (fun a m => m + bI (greatK h s a n = v)) 0 k
theorem linesK_s {n : Int} {h : Int → Int} {s v k : Int} (h0 : 0 ≤ k) : linesK n h s v (k + 1) = linesK n h s v k + bI (greatK h s k n = v) := itI_s _ _ h0
def fewestK (n : Int) (h : Int → Int) (k : Int) : Int := itI (fun k m => m + (k + 1) * maxI (linesK n h 0 (k + 1) n) (linesK n h 1 (k + 1) n)) 0 k
theorem fewestK_s {n : Int} {h : Int → Int} {k : Int} (h0 : 0 ≤ k) : fewestK n h k + (k + 1) * maxI (linesK n h 0 (k + 1) n) (linesK n h 1 (k + 1) n) = fewestK n h (k + 1) := by symm; exact itI_s _ _ h0
def mostR (n : Int) (h : Int → Int) (y a k : Int) : Int := itI (fun x m => m + minI (greatK h 0 y n) (greatK h 1 x n)) a k
theorem mostR_s {n : Int} {h : Int → Int} {y a k : Int} (h0 : 0 ≤ k) : mostR n h y a k + minI (greatK h 0 y n) (greatK h 1 k n) = mostR n h y a (k + 1) := by symm; exact itI_s _ _ h0
def mostK (n : Int) (h : Int → Int) (k : Int) : Int := itI (fun y m => mostR n h y m n) 0 k
theorem mostK_s {n : Int} {h : Int → Int} {k : Int} (h0 : 0 ≤ k) : mostR n h k (mostK n h k) n = mostK n h (k + 1) := by symm; exact itI_s _ _ h0
theorem hA_rg {h : Int → Int} (H : ∀ j, 0 ≤ h j ∧ h j ≤ 8) (s a k : Int) : 0 ≤ hA h s a k ∧ hA h s a k ≤ 8 := by unfold hA; split <;> exact H _
theorem bI_rg1 (P : Prop) [Decidable P] : 0 ≤ bI P ∧ bI P ≤ 1 := bI_rg P
/-- a number of steps, each of which adds 0 to c -/
theorem itI_lin {F : Int → Int → Int} {a c : Int} (hF : ∀ k x, 0 ≤ k → x ≤ F k x ∧ F k x ≤ x + c) {n : Int} (hn : 0 ≤ n) : a ≤ itI F a n ∧ itI F a n ≤ a + n * c := by
  refine itI_ind (fun k x => a ≤ x ∧ x ≤ a + k * c) (by simp) hn (fun k x h0 h1 hx => ?_)
  have := hF k x h0
  have e : (k + 1) * c = k * c + c := by rw [Int.add_mul]; omega
  rw [e]
  omega
theorem greatK_rg {h : Int → Int} (H : ∀ j, 0 ≤ h j ∧ h j ≤ 8) (s a : Int) {k : Int} (hk : 0 ≤ k) : 0 ≤ greatK h s a k ∧ greatK h s a k ≤ 8 := by
  refine itI_ind (fun _ x => 0 ≤ x ∧ x ≤ 8) (by decide) hk (fun k x _ _ hx => ?_)
  have := hA_rg H s a k
  unfold maxI; split <;> omega
theorem stacksK_rg {h : Int → Int} (s a v : Int) {k : Int} (hk : 0 ≤ k) : 0 ≤ stacksK h s a v k ∧ stacksK h s a v k ≤ k := by
  have := itI_lin (F := fun k m => m + bI (hA h s a k = v)) (a := 0) (c := 1) (fun k x _ => by have := bI_rg (hA h s a k = v); omega) hk
  unfold stacksK; omega
theorem blocksK_rg {h : Int → Int} (H : ∀ j, 0 ≤ h j ∧ h j ≤ 8) (s a : Int) {k : Int} (hk : 0 ≤ k) : 0 ≤ blocksK h s a k ∧ blocksK h s a k ≤ k * 8 := by
  have := itI_lin (F := fun k m => m + hA h s a k) (a := 0) (c := 8) (fun k x _ => by have := hA_rg H s a k; omega) hk
  unfold blocksK; omega
theorem countK_rg {n : Int} {h : Int → Int} (H : ∀ j, 0 ≤ h j ∧ h j ≤ 8) (hn : 0 ≤ n ∧ n ≤ 6) {k : Int} (hk : 0 ≤ k) : 0 ≤ countK n h k ∧ countK n h k ≤ k * 48 := by
  have := itI_lin (F := fun y m => m + blocksK h 0 y n) (a := 0) (c := 48) (fun k x _ => by have := blocksK_rg H 0 k (k := n) hn.1; omega) hk
  unfold countK; omega
theorem greatHK_rg {n : Int} {h : Int → Int} (H : ∀ j, 0 ≤ h j ∧ h j ≤ 8) (hn : 0 ≤ n) {k : Int} (hk : 0 ≤ k) : 0 ≤ greatHK n h k ∧ greatHK n h k ≤ 8 := by
  refine itI_ind (fun _ x => 0 ≤ x ∧ x ≤ 8) (by decide) hk (fun k x _ _ hx => ?_)
  have := greatK_rg H 0 k hn
  unfold maxI; split <;> omega
theorem linesK_rg {n : Int} {h : Int → Int} (s v : Int) {k : Int} (hk : 0 ≤ k) : 0 ≤ linesK n h s v k ∧ linesK n h s v k ≤ k := by
  have := itI_lin (F := fun a m => m + bI (greatK h s a n = v)) (a := 0) (c := 1) (fun k x _ => by have := bI_rg (greatK h s k n = v); omega) hk
  unfold linesK; omega
theorem mostR_rg {n : Int} {h : Int → Int} (H : ∀ j, 0 ≤ h j ∧ h j ≤ 8) (hn : 0 ≤ n) (y a : Int) {k : Int} (hk : 0 ≤ k) : a ≤ mostR n h y a k ∧ mostR n h y a k ≤ a + k * 8 := by
  have := itI_lin (F := fun x m => m + minI (greatK h 0 y n) (greatK h 1 x n)) (a := a) (c := 8) (fun k x _ => by
    have := greatK_rg H 0 y hn
    have := greatK_rg H 1 k hn
    unfold minI; split <;> omega) hk
  unfold mostR; omega
def sunX (t : Int) : Int := atI [1, 1, 0, -1, -1, -1, 0, 1] t
def sunY (t : Int) : Int := atI [0, 1, 1, 1, 0, -1, -1, -1] t
def sunS (t : Int) : Int := atI [1, 2, 3, 3, 2, 1, 1, 1] t
theorem sun_rg (t : Int) (h : 0 ≤ t ∧ t ≤ 7) : (-1 ≤ sunX t ∧ sunX t ≤ 1) ∧ (-1 ≤ sunY t ∧ sunY t ≤ 1) ∧ 1 ≤ sunS t ∧ sunS t ≤ 3 := by
  rcases (show t = 0 ∨ t = 1 ∨ t = 2 ∨ t = 3 ∨ t = 4 ∨ t = 5 ∨ t = 6 ∨ t = 7 by omega) with h | h | h | h | h | h | h | h <;> subst h <;> decide
/-- the stack k steps towards the sun stands in the light -/
def shP (n : Int) (h : Int → Int) (t x y k : Int) : Prop := okS n (x + k * sunX t) (y + k * sunY t) ∧ k * sunS t ≤ h ((y + k * sunY t) * 6 + (x + k * sunX t)) - h (y * 6 + x)
def shD (n : Int) (h : Int → Int) (t x y k : Int) : Decidable (shP n h t x y k) := by unfold shP; exact inferInstance
/-- 1 where one of the first i holds -/
def orI (P : Int → Prop) (D : ∀ k, Decidable (P k)) (i : Int) : Int := itI (fun k b => if P k then 1 else b) 0 i
theorem orI_01 {P : Int → Prop} {D : ∀ k, Decidable (P k)} {i : Int} : orI P D i = 0 ∨ orI P D i = 1 := by
  by_cases h : 0 ≤ i
  · exact itI_ind (fun _ b => b = 0 ∨ b = 1) (Or.inl rfl) h (fun k x _ _ hx => by split <;> simp [hx])
  · unfold orI; rw [itI_neg _ _ (by omega)]; exact Or.inl rfl
theorem orI_one {P : Int → Prop} {D : ∀ k, Decidable (P k)} {i k : Int} (h0 : 0 ≤ k) (h1 : k < i) (hk : P k) : orI P D i = 1 := by
  have key : ∀ j, 0 ≤ j → (k < j → orI P D j = 1) := fun j hj => by
    refine itI_ind (F := fun k b => if P k then 1 else b) (a := (0 : Int)) (fun j b => k < j → b = 1) (fun q => by omega) hj (fun m x hm _ hx q => ?_)
    by_cases e : m = k
    · subst e; exact if_pos hk
    · by_cases hp : P m
      · exact if_pos hp
      · rw [if_neg hp]; exact hx (by omega)
  exact key i (by omega) h1
theorem orI_s {P : Int → Prop} {D : ∀ k, Decidable (P k)} {k : Int} (h0 : 0 ≤ k) : orI P D (k + 1) = if P k then 1 else orI P D k := itI_s _ _ h0
def shadeK (n : Int) (h : Int → Int) (t x y k : Int) : Int := orI (fun k => shP n h t x y (k + 1)) (fun k => shD n h t x y (k + 1)) k
def shadeI (n : Int) (h : Int → Int) (t x y : Int) : Int := shadeK n h t x y (n - 1)
theorem shadeK_s {n : Int} {h : Int → Int} {t x y k : Int} (h0 : 1 ≤ k) (hp : ¬ shP n h t x y k) : shadeK n h t x y k = shadeK n h t x y (k - 1) := by
  have e : k = (k - 1) + 1 := by omega
  unfold shadeK
  rw [e, orI_s (by omega), if_neg (by rw [show k - 1 + 1 = k by omega]; exact hp), show k - 1 + 1 - 1 = k - 1 by omega]
theorem shadeI_1 {n : Int} {h : Int → Int} {t x y k : Int} (h0 : 1 ≤ k) (h1 : k < n) (hp : shP n h t x y k) : shadeI n h t x y = 1 := by
  unfold shadeI shadeK
  exact orI_one (k := k - 1) (by omega) (by omega) (by rw [show k - 1 + 1 = k by omega]; exact hp)
theorem shadeI_01 (n : Int) (h : Int → Int) (t x y : Int) : shadeI n h t x y = 0 ∨ shadeI n h t x y = 1 := by unfold shadeI shadeK; exact orI_01
def shR (n : Int) (h : Int → Int) (t y a k : Int) : Int := itI (fun x m => m + shadeI n h t x y) a k
theorem shR_s {n : Int} {h : Int → Int} {t y a k : Int} (h0 : 0 ≤ k) : shR n h t y a (k + 1) = shR n h t y a k + shadeI n h t k y := itI_s _ _ h0
def shK (n : Int) (h : Int → Int) (t k : Int) : Int := itI (fun y m => shR n h t y m n) 0 k
theorem shK_s {n : Int} {h : Int → Int} {t k : Int} (h0 : 0 ≤ k) : shR n h t k (shK n h t k) n = shK n h t (k + 1) := by symm; exact itI_s _ _ h0
theorem shR_rg {n : Int} {h : Int → Int} (t y a : Int) {k : Int} (hk : 0 ≤ k) : a ≤ shR n h t y a k ∧ shR n h t y a k ≤ a + k := by
  have := itI_lin (F := fun x m => m + shadeI n h t x y) (a := a) (c := 1) (fun k x _ => by rcases shadeI_01 n h t k y with e | e <;> omega) hk
  unfold shR; omega
theorem shK_rg {n : Int} {h : Int → Int} (t : Int) (hn : 0 ≤ n ∧ n ≤ 6) {k : Int} (hk : 0 ≤ k) : 0 ≤ shK n h t k ∧ shK n h t k ≤ k * 6 := by
  have := itI_lin (F := fun y m => shR n h t y m n) (a := 0) (c := 6) (fun k x _ => by have := shR_rg (h := h) (n := n) t k x hn.1; omega) hk
  unfold shK; omega
theorem mostK_rg {n : Int} {h : Int → Int} (H : ∀ j, 0 ≤ h j ∧ h j ≤ 8) (hn : 0 ≤ n ∧ n ≤ 6) {k : Int} (hk : 0 ≤ k) : 0 ≤ mostK n h k ∧ mostK n h k ≤ k * 48 := by
  have := itI_lin (F := fun y m => mostR n h y m n) (a := 0) (c := 48) (fun k x _ => by have := mostR_rg H hn.1 k x hn.1; omega) hk
  unfold mostK; omega
theorem fewestK_rg {n : Int} {h : Int → Int} (hn : 0 ≤ n ∧ n ≤ 6) {k : Int} (hk : 0 ≤ k) (hk8 : k ≤ 8) : 0 ≤ fewestK n h k ∧ fewestK n h k ≤ k * 48 := by
  refine itI_ind (F := fun k m => m + (k + 1) * maxI (linesK n h 0 (k + 1) n) (linesK n h 1 (k + 1) n)) (a := 0) (fun j x => 0 ≤ x ∧ x ≤ j * 48) (by decide) hk (fun j x h0 h1 hx => ?_)
  have a1 := linesK_rg (n := n) (h := h) 0 (j + 1) hn.1
  have a2 := linesK_rg (n := n) (h := h) 1 (j + 1) hn.1
  have a3 : 0 ≤ maxI (linesK n h 0 (j + 1) n) (linesK n h 1 (j + 1) n) ∧ maxI (linesK n h 0 (j + 1) n) (linesK n h 1 (j + 1) n) ≤ 6 := by unfold maxI; split <;> omega
  generalize maxI (linesK n h 0 (j + 1) n) (linesK n h 1 (j + 1) n) = M at a3
  have a4 : (j + 1) * M ≤ 8 * 6 := Int.mul_le_mul (by omega) a3.2 a3.1 (by omega)
  have a5 : 0 ≤ (j + 1) * M := Int.mul_nonneg (by omega) a3.1
  omega
theorem mulsun {k m : Int} (hk : 0 ≤ k ∧ k ≤ 6) (h : -1 ≤ m ∧ m ≤ 1) : -6 ≤ k * m ∧ k * m ≤ 6 := by
  rcases (show m = -1 ∨ m = 0 ∨ m = 1 by omega) with e | e | e <;> subst e <;> omega
theorem mulsun3 {k m : Int} (hk : 0 ≤ k ∧ k ≤ 6) (h : 1 ≤ m ∧ m ≤ 3) : -6 ≤ k * m ∧ k * m ≤ 18 := by
  rcases (show m = 1 ∨ m = 2 ∨ m = 3 by omega) with e | e | e <;> subst e <;> omega

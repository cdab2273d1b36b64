abbrev vwCl : List vw_C := [(RX0, TX0, 2), (RX1, TX1, 3), (RX2, TX2, 6), (RX3, TX3, 4), (RX4, TX4, 8)]
/-! ===== ints by their numbers ===== -/
def iI (z : Int) : Int32 := Int32.ofInt z
abbrev Rg (z : Int) : Prop := -2147483648 ≤ z ∧ z < 2147483648
theorem iI_toInt {z : Int} (h : Rg z) : (iI z).toInt = z := Int32.toInt_ofInt_of_le (by have := h.1; omega) (by have := h.2; omega)
theorem iI_of (x : Int32) : x = iI x.toInt := (Int32.ofInt_toInt x).symm
theorem rg_toInt (x : Int32) : Rg x.toInt := ⟨by have := Int32.le_toInt x; omega, by have := Int32.toInt_lt x; omega⟩
theorem iI_ex (x : Int32) : ∃ z : Int, Rg z ∧ x = iI z := ⟨x.toInt, rg_toInt x, iI_of x⟩
theorem iI_add (a b : Int) : iI a + iI b = iI (a + b) := (Int32.ofInt_add a b).symm
theorem iI_sub (a b : Int) : iI a - iI b = iI (a - b) := (Int32.ofInt_sub a b).symm
theorem iI_mul (a b : Int) : iI a * iI b = iI (a * b) := (Int32.ofInt_mul a b).symm
theorem iI_lt {a b : Int} (ha : Rg a) (hb : Rg b) : iI a < iI b ↔ a < b := by rw [Int32.lt_iff_toInt_lt, iI_toInt ha, iI_toInt hb]
theorem iI_le {a b : Int} (ha : Rg a) (hb : Rg b) : iI a ≤ iI b ↔ a ≤ b := by rw [Int32.le_iff_toInt_le, iI_toInt ha, iI_toInt hb]
theorem iI_eq {a b : Int} (ha : Rg a) (hb : Rg b) : iI a = iI b ↔ a = b := by rw [← Int32.toInt_inj, iI_toInt ha, iI_toInt hb]
theorem iI_nat (n : Nat) : Int32.ofNat n = iI (n : Int) := Int32.ofInt_eq_ofNat.symm
theorem iI_zero : iI 0 = 0 := rfl
theorem iI_clamp {z : Int} (h0 : 0 ≤ z) (h1 : z < 2147483648) : (iI z).toNatClampNeg = z.toNat := Int32.toNatClampNeg_ofInt_of_le (by omega) (by omega)
theorem iI_in {z : Int} {n : Nat} (h0 : 0 ≤ z) (h1 : z < n) (hn : n < 2147483648) : vp_in (iI z) n := by
  rw [vp_in_iff, iI_toInt ⟨by omega, by omega⟩]
  exact ⟨h0, h1⟩
theorem iI_ne0 {z : Int} (h : Rg z) (h0 : z ≠ 0) : ¬ iI z = 0 := by
  rw [← iI_zero, iI_eq h ⟨by decide, by decide⟩]
  exact h0
theorem iI_tdiv {a b : Int} (ha : Rg a) (hb : 0 < b) (hb2 : b < 2147483648) : iI a / iI b = iI (a.tdiv b) := by
  have hr : Rg (a.tdiv b) := by
    have h1 := Int.natAbs_tdiv_le_natAbs a b
    have h2 := ha.1
    have h3 := ha.2
    refine ⟨?_, ?_⟩
    · omega
    · rcases Int.lt_or_le (a.tdiv b) 2147483648 with q | q
      · exact q
      · exfalso
        have h4 : a.natAbs = 2147483648 := by omega
        have h5 : a = -2147483648 := by omega
        have h6 : a.tdiv b ≤ 0 := by
          rw [h5]
          have h7 : (-2147483648 : Int).tdiv b = -((2147483648 : Int).tdiv b) := Int.neg_tdiv ..
          have h8 : 0 ≤ (2147483648 : Int).tdiv b := Int.tdiv_nonneg (by decide) (by omega)
          omega
        omega
  have hb3 : iI b ≠ -1 := by
    intro q
    have := congrArg Int32.toInt q
    rw [iI_toInt ⟨by omega, by omega⟩, show (-1 : Int32).toInt = -1 from rfl] at this
    omega
  rw [← Int32.toInt_inj, Int32.toInt_div_of_ne_right _ _ hb3, iI_toInt ha, iI_toInt (z := b) ⟨by omega, by omega⟩, iI_toInt hr]
theorem iI_div {a b : Int} (h0 : 0 ≤ a) (ha : a < 2147483648) (hb : 0 < b) (hb2 : b < 2147483648) : iI a / iI b = iI (a / b) := by
  rw [iI_tdiv ⟨by omega, ha⟩ hb hb2, Int.tdiv_eq_ediv_of_nonneg h0]
theorem iI_rem {a b : Int} (h0 : 0 ≤ a) (ha : a < 2147483648) (hb : 0 < b) (hb2 : b < 2147483648) : iI a - iI a / iI b * iI b = iI (a % b) := by
  rw [iI_div h0 ha hb hb2, iI_mul, iI_sub, Int.emod_def, Int.mul_comm]
theorem iI_natI {z : Int} (h : 0 ≤ z) : iI z = nI z.toNat := by
  show iI z = Int32.ofNat z.toNat
  rw [iI_nat, Int.toNat_of_nonneg h]
theorem iI_shl (a : Int) {s : Int} (h0 : 0 ≤ a) (hs0 : 0 ≤ s) (hs : s < 31) (h : a * 2 ^ s.toNat < 2147483648) : iI a <<< (iI s &&& 31) = iI (a * 2 ^ s.toNat) := by
  obtain ⟨n, rfl⟩ := Int.eq_ofNat_of_zero_le h0
  obtain ⟨k, rfl⟩ := Int.eq_ofNat_of_zero_le hs0
  have hk : k < 31 := by omega
  have e : ∀ k : Nat, k < 31 → ((iI (k : Int) &&& 31).toBitVec.smod 32).toNat = k := by decide +kernel
  have h9 : (n : Int) * 2 ^ k < 2147483648 := by simpa using h
  have h8 : n * 2 ^ k < 2 ^ 32 := by
    have : ((n * 2 ^ k : Nat) : Int) < 2147483648 := by push_cast; exact h9
    omega
  rw [show iI (n : Int) = nI n from (iI_nat n).symm, pk_shlN _ k (e k hk) h8]
  show Int32.ofNat _ = _
  rw [iI_nat]
  simp
theorem iI_shr (a : Int) {s : Int} (h0 : 0 ≤ a) (ha : a < 2147483648) (hs0 : 0 ≤ s) (hs : s < 31) : iI a >>> (iI s &&& 31) = iI (a / 2 ^ s.toNat) := by
  obtain ⟨n, rfl⟩ := Int.eq_ofNat_of_zero_le h0
  obtain ⟨k, rfl⟩ := Int.eq_ofNat_of_zero_le hs0
  have hk : k < 31 := by omega
  have e : ∀ k : Nat, k < 31 → ((iI (k : Int) &&& 31).toBitVec.smod 32).toNat = k := by decide +kernel
  rw [show iI (n : Int) = nI n from (iI_nat n).symm, pk_shrN (by omega) _ k (e k hk)]
  show Int32.ofNat _ = _
  rw [iI_nat]
  simp
theorem iI_andN (a b : Nat) : Int32.ofNat a &&& Int32.ofNat b = Int32.ofNat (a &&& b) := by
  rw [← Int32.toBitVec_inj, Int32.toBitVec_and]
  show BitVec.ofNat 32 a &&& BitVec.ofNat 32 b = BitVec.ofNat 32 (a &&& b)
  apply BitVec.eq_of_toNat_eq
  rw [BitVec.toNat_and, BitVec.toNat_ofNat, BitVec.toNat_ofNat, BitVec.toNat_ofNat]
  exact (Nat.and_mod_two_pow ..).symm
theorem iI_orN (a b : Nat) : Int32.ofNat a ||| Int32.ofNat b = Int32.ofNat (a ||| b) := by
  rw [← Int32.toBitVec_inj, Int32.toBitVec_or]
  show BitVec.ofNat 32 a ||| BitVec.ofNat 32 b = BitVec.ofNat 32 (a ||| b)
  apply BitVec.eq_of_toNat_eq
  rw [BitVec.toNat_or, BitVec.toNat_ofNat, BitVec.toNat_ofNat, BitVec.toNat_ofNat]
  exact (Nat.or_mod_two_pow ..).symm
theorem iI_mask {a : Int} (h : 0 ≤ a) (k : Nat) : iI a &&& iI (2 ^ k - 1) = iI (a % 2 ^ k) := by
  obtain ⟨n, rfl⟩ := Int.eq_ofNat_of_zero_le h
  have e : (2 : Int) ^ k - 1 = ((2 ^ k - 1 : Nat) : Int) := by
    have := Nat.two_pow_pos k
    rw [Int.natCast_sub this]
    simp
  have e2 : (n : Int) % 2 ^ k = ((n % 2 ^ k : Nat) : Int) := by simp
  rw [e, e2, ← iI_nat, ← iI_nat, ← iI_nat, iI_andN, Nat.and_two_pow_sub_one_eq_mod]
theorem iI_or {a b : Int} (k : Nat) (h : 0 ≤ a) (hk : a < 2 ^ k) (hb : 0 ≤ b) : iI a ||| iI (b * 2 ^ k) = iI (a + b * 2 ^ k) := by
  obtain ⟨n, rfl⟩ := Int.eq_ofNat_of_zero_le h
  obtain ⟨j, rfl⟩ := Int.eq_ofNat_of_zero_le hb
  have hn : n < 2 ^ k := by
    have : ((n : Nat) : Int) < ((2 ^ k : Nat) : Int) := by simpa using hk
    omega
  have e : (j : Int) * 2 ^ k = ((2 ^ k * j : Nat) : Int) := by
    rw [Nat.mul_comm]
    simp
  have e2 : (n : Int) + ((2 ^ k * j : Nat) : Int) = ((2 ^ k * j + n : Nat) : Int) := by
    rw [Int.natCast_add]
    omega
  rw [e, e2, ← iI_nat, ← iI_nat, ← iI_nat, iI_orN, Nat.two_pow_add_eq_or_of_lt hn, Nat.or_comm]
/-- a boolean as the machine has it -/
def bI (P : Prop) [Decidable P] : Int := if P then 1 else 0
theorem bI_t {P : Prop} [Decidable P] (h : P) : bI P = 1 := if_pos h
theorem bI_f {P : Prop} [Decidable P] (h : ¬ P) : bI P = 0 := if_neg h
theorem bI_rg (P : Prop) [Decidable P] : 0 ≤ bI P ∧ bI P ≤ 1 := by unfold bI; split <;> decide
theorem bI_c {P Q : Prop} [Decidable P] [Decidable Q] (h : P ↔ Q) : bI P = bI Q := by unfold bI; simp only [h]
/-- a row of ints, by a function of whole numbers -/
def aI (f : Int → Int) : Nat → Int32 := fun j => iI (f (j : Int))
def updI (f : Int → Int) (i v : Int) : Int → Int := fun j => if j = i then v else f j
theorem updI_s {f : Int → Int} {i v : Int} : updI f i v i = v := if_pos rfl
theorem updI_n {f : Int → Int} {i v j : Int} (h : j ≠ i) : updI f i v j = f j := if_neg h
theorem aI_at (f : Int → Int) {i : Int} (h0 : 0 ≤ i) (h1 : i < 2147483648) : aI f (iI i).toNatClampNeg = iI (f i) := by
  rw [iI_clamp h0 h1]
  show iI (f ((i.toNat : Nat) : Int)) = _
  rw [Int.toNat_of_nonneg h0]
theorem cell_eq {cA : ClassId} {n : Nat} {f g : Nat → Int32} (h : ∀ j, j < n → f j = g j) : vp_cell cA (n, .inl f) = vp_cell cA (n, .inl g) := by
  rw [vp_cell_i, vp_cell_i]
  unfold arrV
  congr 1
  apply Array.ext
  · simp
  · intro i h1 h2
    simp only [Array.size_ofFn] at h1
    simp [h i h1]
theorem fit_z {x : Int} (h : x = 0 ∨ x = 1) : fits .boolean (.int (iI x)) = true := by rcases h with rfl | rfl <;> rfl
theorem va_P_nil (g : va_G) {cl : List vw_C} (H : Heap) : va_P g cl [] H := fun k q h => by simp at h
def maxI (a b : Int) : Int := if a < b then b else a
def minI (a b : Int) : Int := if b < a then b else a
theorem maxI_row {x y : Int} (hx : Rg x) (hy : Rg y) : Value.int (if iI x < iI y then iI y else iI x) = .int (iI (maxI x y)) := by
  unfold maxI
  by_cases h : x < y
  · rw [if_pos h, if_pos ((iI_lt hx hy).mpr h)]
  · rw [if_neg h, if_neg (fun q => h ((iI_lt hx hy).mp q))]
theorem minI_row {x y : Int} (hx : Rg x) (hy : Rg y) : Value.int (if iI y < iI x then iI y else iI x) = .int (iI (minI x y)) := by
  unfold minI
  by_cases h : y < x
  · rw [if_pos h, if_pos ((iI_lt hy hx).mpr h)]
  · rw [if_neg h, if_neg (fun q => h ((iI_lt hy hx).mp q))]
theorem maxI_comm (a b : Int) : maxI a b = maxI b a := by unfold maxI; split <;> split <;> omega
/-- so many steps, from the value a, the k-th one by F k -/
def itI {α : Type} (F : Int → α → α) (a : α) (i : Int) : α := Nat.rec a (fun k x => F (k : Int) x) i.toNat
theorem itI_0 {α : Type} (F : Int → α → α) (a : α) : itI F a 0 = a := rfl
theorem itI_neg {α : Type} (F : Int → α → α) (a : α) {i : Int} (h : i ≤ 0) : itI F a i = a := by
  unfold itI
  rw [Int.toNat_of_nonpos h]
  rfl
theorem itI_s {α : Type} (F : Int → α → α) (a : α) {i : Int} (h : 0 ≤ i) : itI F a (i + 1) = F i (itI F a i) := by
  obtain ⟨n, rfl⟩ := Int.eq_ofNat_of_zero_le h
  rfl
theorem itI_ind {α : Type} {F : Int → α → α} {a : α} (P : Int → α → Prop) (h0 : P 0 a) {n : Int} (hn : 0 ≤ n) (hs : ∀ k x, 0 ≤ k → k < n → P k x → P (k + 1) (F k x)) : P n (itI F a n) := by
  obtain ⟨m, rfl⟩ := Int.eq_ofNat_of_zero_le hn
  have key : ∀ j : Nat, j ≤ m → P (j : Int) (itI F a (j : Int)) := by
    intro j
    induction j with
    | zero => intro _; exact h0
    | succ j ih =>
      intro hj
      have e : ((j + 1 : Nat) : Int) = (j : Int) + 1 := by omega
      rw [e, itI_s F a (by omega)]
      exact hs _ _ (by omega) (by omega) (ih (by omega))
  exact key m (Nat.le_refl _)
theorem itI_congr {α : Type} {F G : Int → α → α} {a : α} {n : Int} (h : ∀ k x, 0 ≤ k → k < n → F k x = G k x) : itI F a n = itI G a n := by
  by_cases hn : 0 ≤ n
  · exact itI_ind (fun k x => x = itI G a k) rfl hn (fun k x h0 h1 hx => by
      show F k x = itI G a (k + 1)
      rw [itI_s G a h0, ← hx, h k x h0 h1])
  · rw [itI_neg F a (by omega), itI_neg G a (by omega)]
theorem lv_re {ls : Array Slot} {nL : Nat} {l : List (Nat × Value)} (h : lv_has ls nL l) (k : Nat) {i : Nat} {v : Value} (hk : l[k]? = some (i, v)) (w : Value) (e : v = w) : lv_has ls nL (l.set k (i, w)) := by
  subst e
  have : l.set k (i, v) = l := by
    apply List.ext_getElem?
    intro j
    by_cases hj : k = j
    · subst hj
      rw [List.getElem?_set_self (List.getElem?_eq_some_iff.mp hk).1, hk]
    · rw [List.getElem?_set_ne hj]
  rw [this]
  exact h
theorem va_P.recl {D : va_G} {cl : List vw_C} {ws : va_W} {H : Heap} (hP : va_P D cl ws H) (q0 : Nat) {a : Nat} {e : va_E} (hq : ws[q0]? = some (a, e)) (e' : va_E) (h : e = e') : va_P D cl (ws.set q0 (a, e')) H := by
  subst h
  have : ws.set q0 (a, e) = ws := by
    apply List.ext_getElem?
    intro j
    by_cases hj : q0 = j
    · subst hj
      rw [List.getElem?_set_self (List.getElem?_eq_some_iff.mp hq).1, hq]
    · rw [List.getElem?_set_ne hj]
  rw [this]
  exact hP

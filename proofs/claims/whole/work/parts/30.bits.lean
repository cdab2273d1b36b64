/-! ===== the bits, the digest ===== -/
theorem cmpN_c (a b : Nat) : (a < b ∧ cmpN a b = -1) ∨ (a = b ∧ cmpN a b = 0) ∨ (b < a ∧ cmpN a b = 1) := by
  unfold cmpN
  by_cases h : a < b
  · exact Or.inl ⟨h, if_pos h⟩
  · by_cases q : a = b
    · exact Or.inr (Or.inl ⟨q, by rw [if_neg h, if_pos q]⟩)
    · exact Or.inr (Or.inr ⟨by omega, by rw [if_neg h, if_neg q]⟩)
theorem fp_dbl {r : UInt64} (h0 : 4503599627370496 ≤ r.toNat) (h1 : r.toNat < 4607182418800017408) : (FP.dmul r 0x4000000000000000).toNat = r.toNat + 4503599627370496 := by
  have := fp_mul2 (d := r) (E := r.toNat / 4503599627370496) (T := r.toNat % 4503599627370496) (by omega) (by omega) (by omega) (by omega)
  omega
def cmpI (k m : Int) : Int := if m < k then 1 else if k = m then 0 else -1
theorem cmpI_c (k m : Int) : (k < m ∧ cmpI k m = -1) ∨ (k = m ∧ cmpI k m = 0) ∨ (m < k ∧ cmpI k m = 1) := by
  unfold cmpI
  by_cases h : m < k
  · exact Or.inr (Or.inr ⟨h, if_pos h⟩)
  · by_cases q : k = m
    · exact Or.inr (Or.inl ⟨q, by rw [if_neg h, if_pos q]⟩)
    · exact Or.inl ⟨by omega, by rw [if_neg h, if_neg q]⟩
theorem lcmp_k {k : Int} (h : Rg k) : (if (iI k).toInt64 > 1023 then (1 : Int32) else if (iI k).toInt64 = 1023 then 0 else -1) = iI (cmpI k 1023) := by
  have e : (iI k).toInt64.toInt = k := by rw [Int32.toInt_toInt64]; exact iI_toInt h
  have e2 : (1023 : Int64).toInt = 1023 := by decide
  unfold cmpI
  by_cases q : 1023 < k
  · rw [if_pos q, if_pos (show (1023 : Int64) < _ from Int64.lt_iff_toInt_lt.mpr (by rw [e, e2]; exact q))]; rfl
  · rw [if_neg q, if_neg (fun r => q (by have := Int64.lt_iff_toInt_lt.mp r; rw [e, e2] at this; exact this))]
    by_cases r : k = 1023
    · rw [if_pos r, if_pos (Int64.toInt_inj.mp (by rw [e, e2]; exact r))]; rfl
    · rw [if_neg r, if_neg (fun w => r (by have := congrArg Int64.toInt w; rw [e, e2] at this; exact this))]; rfl
theorem shl52F : ∀ e : Fin 1024, Int64.ofInt (e.val : Int) <<< ((iI 52).toInt64 &&& 63) = Int64.ofInt ((e.val : Int) * 4503599627370496) := by decide +kernel
theorem shl52 {e : Int} (h0 : 0 ≤ e) (h1 : e ≤ 1023) : Int64.ofInt e <<< ((iI 52).toInt64 &&& 63) = Int64.ofInt (e * 4503599627370496) := by
  have := shl52F ⟨e.toNat, by omega⟩
  simpa [Int.toNat_of_nonneg h0] using this
theorem ex_dec (k : Int) : Int64.ofInt (1023 - k) - 1 = Int64.ofInt (1023 - (k + 1)) := by
  rw [show (1 : Int64) = Int64.ofInt 1 by decide, ← Int64.ofInt_sub]
  congr 1
  omega
theorem bits_sum {k : Int} {d T : Nat} (h : (d : Int) + k * 4503599627370496 = 4607182418800017408 + T) : Int64.ofInt ((1023 - k) * 4503599627370496) + Int64.ofNat T = Int64.ofNat d := by
  rw [show Int64.ofNat T = Int64.ofInt (T : Int) from (Int64.ofInt_eq_ofNat).symm, show Int64.ofNat d = Int64.ofInt (d : Int) from (Int64.ofInt_eq_ofNat).symm, ← Int64.ofInt_add]
  congr 1
  omega
theorem fp_fin {r : UInt64} (h0 : 4607182418800017408 ≤ r.toNat) (h1 : r.toNat < 4611686018427387904) : vf_n64 (FP.dsub r 0x3ff0000000000000) ∧ vf_n64 (FP.dmul (FP.dsub r 0x3ff0000000000000) 0x4330000000000000) ∧ FP.d2l (FP.dmul (FP.dsub r 0x3ff0000000000000) 0x4330000000000000) = Int64.ofNat (r.toNat - 4607182418800017408) := fp_frac (by omega) (by omega)
/-- the digest, part by part -/
def dg1 (n ho : Int) (h c : Int → Int) (hn : Int) : Int64 := cwM n ho h c hn 2789 13
def dg2 (n ho : Int) (h c : Int → Int) (hn : Int) : Int64 := syM n ho h c (dg1 n ho h c hn) n
def dg3 (n ho : Int) (h c : Int → Int) (hn : Int) : Int64 := piM n h c (dg2 n ho h c hn) 16
def dg4 (n ho : Int) (h c : Int → Int) (hn : Int) : Int64 := esM n h (dg3 n ho h c hn) 2
def dg5 (n ho : Int) (h c : Int → Int) (hn : Int) : Int64 := czM n h (dg4 n ho h c hn) 2
def dg6 (n ho : Int) (h c : Int → Int) (hn : Int) : Int64 := htM n h (dg5 n ho h c hn) 8
def dg7 (n ho : Int) (h c : Int → Int) (hn : Int) : Int64 := mixI (mixI (mixI (mixI (dg6 n ho h c hn) (brK n h 7)) (fewestK n h 8)) (mostK n h n)) (btK n h 3)
def dg8 (n ho : Int) (h c : Int → Int) (hn : Int) : Int64 := mixL (dg7 n ho h c hn) (Int64.ofNat (shareD (seenD n h) (countK n h n)).toNat)
def digV (n ho : Int) (h c : Int → Int) (hn : Int) (b : Int → Int) (L : Int) : Int64 := cdM b (mixI (dg8 n ho h c hn) L) L

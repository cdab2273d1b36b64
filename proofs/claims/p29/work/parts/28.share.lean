/-! ===== the share that is seen, and its bits ===== -/
theorem fp_i2d {A : Nat} (hA : A < 1000) : ∃ c q, FP.Core.val64 (FP.i2d (iI (A : Int))) = .fin false c q ∧ c * 2 ^ (q - -1074).toNat = A * 2 ^ 1074 ∧ -1074 ≤ q := by
  have k : (2 : Nat) ^ FP.Core.b64.p = 9007199254740992 := by decide
  have e : (iI (A : Int)).toInt = (A : Int) := iI_toInt ⟨by omega, by omega⟩
  obtain ⟨c, q, r1, r2⟩ := FP.Core.round_exact FP.Core.good_b64 false (c := A) (q := 0) (by rw [k]; omega) (by decide) (by decide)
  have hv : FP.Core.val64 (FP.i2d (iI (A : Int))) = .fin false c q := by
    rw [FP.Core.val64_i2d, e, ← r1]
    show FP.Core.round FP.Core.b64 (.fin (decide ((A : Int) < 0)) (A : Int).natAbs 0) = _
    rw [decide_eq_false (by omega), Int.natAbs_natCast]
  refine ⟨c, q, hv, ?_, ?_⟩
  · unfold FP.Core.inUnits at r2
    rw [FP.Core.qmin_b64, show (0 - (-1074) : Int).toNat = 1074 by decide] at r2
    exact r2
  · have := FP.Core.val64_fits (FP.i2d (iI (A : Int)))
    rw [hv] at this
    have := this.2.1
    rw [FP.Core.qmin_b64] at this
    exact this
theorem fp_pow {c A q : Nat} (h : c * 2 ^ q = A * 2 ^ 1074) (hA : 0 < A) : c ≠ 0 := by
  intro e
  rw [e, Nat.zero_mul] at h
  have := Nat.mul_pos hA (Nat.two_pow_pos 1074)
  omega
theorem fp_quot {A B : Nat} (hA : A < 1000) (hB : B < 1000) (h0 : 0 < B) : FP.Core.val64 (FP.ddiv (FP.i2d (iI (A : Int))) (FP.i2d (iI (B : Int)))) = FP.Core.roundRatio FP.Core.b64 false A B 0 := by
  obtain ⟨c1, q1, v1, u1, l1⟩ := fp_i2d hA
  obtain ⟨c2, q2, v2, u2, l2⟩ := fp_i2d hB
  have n2 := fp_pow u2 h0
  rw [FP.Core.val64_ddiv, v1, v2]
  show (if c2 = 0 then _ else FP.Core.roundRatio FP.Core.b64 (false != false) c1 c2 (q1 - q2)) = _
  rw [if_neg n2]
  refine FP.Core.roundRatio_congr (by omega) h0 ?_
  generalize hx : (q1 - -1074).toNat = x1 at u1
  generalize hy : (q2 - -1074).toNat = x2 at u2
  have p : 0 < 2 ^ 1074 := Nat.two_pow_pos _
  generalize (2 : Nat) ^ 1074 = P at u1 u2 p
  have key : c1 * B * 2 ^ x1 = A * c2 * 2 ^ x2 := by
    refine Nat.eq_of_mul_eq_mul_right p ?_
    calc c1 * B * 2 ^ x1 * P = (c1 * 2 ^ x1) * (B * P) := by ac_rfl
      _ = (A * P) * (c2 * 2 ^ x2) := by rw [u1, u2]
      _ = A * c2 * 2 ^ x2 * P := by ac_rfl
  rcases (show x2 ≤ x1 ∨ x1 < x2 by omega) with r | r
  · obtain ⟨d, rfl⟩ := Nat.le.dest r
    rw [show (q1 - q2 - 0).toNat = d by omega, show (0 - (q1 - q2)).toNat = 0 by omega]
    refine Nat.eq_of_mul_eq_mul_right (Nat.two_pow_pos x2) ?_
    rw [Nat.pow_add] at key
    calc c1 * B * 2 ^ d * 2 ^ x2 = c1 * B * (2 ^ x2 * 2 ^ d) := by ac_rfl
      _ = A * c2 * 2 ^ x2 := key
      _ = A * c2 * 2 ^ 0 * 2 ^ x2 := by rw [Nat.pow_zero, Nat.mul_one]
  · obtain ⟨d, rfl⟩ := Nat.le.dest (Nat.le_of_lt r)
    rw [show (q1 - q2 - 0).toNat = 0 by omega, show (0 - (q1 - q2)).toNat = d by omega]
    refine Nat.eq_of_mul_eq_mul_right (Nat.two_pow_pos x1) ?_
    rw [Nat.pow_add] at key
    calc c1 * B * 2 ^ 0 * 2 ^ x1 = c1 * B * 2 ^ x1 := by rw [Nat.pow_zero, Nat.mul_one]
      _ = A * c2 * (2 ^ x1 * 2 ^ d) := key
      _ = A * c2 * 2 ^ d * 2 ^ x1 := by ac_rfl
theorem fp_u1 : FP.Core.unitsOf FP.Core.b64 4607182418800017408 = 2 ^ 1074 := by decide +kernel
theorem fp_u9 : FP.Core.unitsOf FP.Core.b64 4566650022153682944 = 2 ^ 1065 := by decide +kernel
theorem fp_share {A B : Nat} (h1 : 1 ≤ A) (hAB : A ≤ B) (hB : B ≤ 288) : 4566650022153682944 ≤ (FP.ddiv (FP.i2d (iI (A : Int))) (FP.i2d (iI (B : Int)))).toNat ∧ (FP.ddiv (FP.i2d (iI (A : Int))) (FP.i2d (iI (B : Int)))).toNat ≤ 4607182418800017408 := by
  have hv := fp_quot (A := A) (B := B) (by omega) (by omega) (by omega)
  generalize FP.ddiv (FP.i2d (iI (A : Int))) (FP.i2d (iI (B : Int))) = d at hv ⊢
  have hn : FP.Core.decode FP.Core.b64 d.toNat = FP.Core.roundRatio FP.Core.b64 false A B 0 := hv
  have iu : FP.Core.inUnits A 0 (-1074) = A * 2 ^ 1074 := by
    unfold FP.Core.inUnits
    rw [show (0 - (-1074) : Int).toNat = 1074 by decide]
  have z : (FP.Core.b64.qmin - (-1074)).toNat = 0 := by rw [FP.Core.qmin_b64]; decide
  have a := FP.Core.mag_le FP.Core.good_b64 (m := 4607182418800017408) (e0 := -1074) hn (by omega) (by rw [FP.Core.qmin_b64]; decide) (by decide) (by
    rw [iu, z, fp_u1, Nat.pow_zero, Nat.mul_one, Nat.mul_comm]
    exact Nat.mul_le_mul_left _ hAB)
  have b := FP.Core.mag_ge FP.Core.good_b64 (m := 4566650022153682944) (e0 := -1074) hn (by omega) (by rw [FP.Core.qmin_b64]; decide) (by decide) (by rw [FP.Core.infBits_b64]; omega) (by
    rw [iu, z, fp_u9, Nat.pow_zero, Nat.mul_one, show (1074 : Nat) = 1065 + 9 by decide, Nat.pow_add, Nat.mul_comm, ← Nat.mul_assoc, Nat.mul_right_comm]
    refine Nat.mul_le_mul_right _ ?_
    have : (2 : Nat) ^ 9 = 512 := by decide
    omega)
  have s : d.toNat < 2 ^ 63 := by
    have lt := FP.Core.lt_full64 d
    have sg := FP.Core.sgn_roundRatio FP.Core.b64 false A B 0
    rw [← hn] at sg
    have nn : FP.Core.decode FP.Core.b64 d.toNat ≠ .nan := by rw [hn]; exact FP.Core.roundRatio_ne_nan _ _ _ _ _
    have fs := FP.Core.fieldS_mag FP.Core.b64 lt
    rcases (show d.toNat < 2 ^ 63 ∨ 2 ^ 63 ≤ d.toNat by omega) with q | q
    · exact q
    · rw [decide_eq_true (by rw [FP.Core.half_b64]; exact q)] at fs
      exfalso
      unfold FP.Core.decode at sg nn
      rw [fs] at sg nn
      split at sg
      · split at sg
        · exact Bool.noConfusion sg
        · rename_i w1 w2
          rw [if_pos w1, if_neg w2] at nn
          exact nn rfl
      · split at sg <;> exact Bool.noConfusion sg
  rw [FP.Core.mag_of_lt (by rw [FP.Core.half_b64]; exact s)] at a b
  exact ⟨b, a⟩
theorem fp_share0 {B : Nat} (h0 : 0 < B) (hB : B ≤ 288) : (FP.ddiv (FP.i2d (iI ((0 : Nat) : Int))) (FP.i2d (iI (B : Int)))).toNat = 0 := by
  have hv := fp_quot (A := 0) (B := B) (by omega) (by omega) (by omega)
  generalize FP.ddiv (FP.i2d (iI ((0 : Nat) : Int))) (FP.i2d (iI (B : Int))) = d at hv ⊢
  have hv : FP.Core.val64 d = .fin false 0 FP.Core.b64.qmin := hv
  have a := FP.Core.of64_val64 (a := d) (by rw [hv]; exact FP.Core.Datum.noConfusion)
  have f := FP.Core.val64_fits d
  rw [hv] at a f
  have b := FP.Core.toNat_of64 f
  rw [a] at b
  rw [b]
  decide +kernel
def shareD (a b : Int) : UInt64 := if b = 0 then FP.dconst1 else FP.ddiv (FP.i2d (iI a)) (FP.i2d (iI b))
def dOk (d : UInt64) : Prop := d.toNat = 0 ∨ (4503599627370496 ≤ d.toNat ∧ d.toNat ≤ 4607182418800017408)
theorem div_ok {a b : Int} (h0 : 0 ≤ a) (hab : a ≤ b) (hb : b ≤ 288) (hz : b ≠ 0) : dOk (FP.ddiv (FP.i2d (iI a)) (FP.i2d (iI b))) := by
  obtain ⟨A, rfl⟩ := Int.eq_ofNat_of_zero_le h0
  obtain ⟨B, rfl⟩ := Int.eq_ofNat_of_zero_le (show 0 ≤ b by omega)
  unfold dOk
  rcases (show A = 0 ∨ 1 ≤ A by omega) with q | q
  · subst q
    exact Or.inl (fp_share0 (by omega) (by omega))
  · have := fp_share q (show A ≤ B by omega) (by omega)
    omega
theorem share_ok {a b : Int} (h0 : 0 ≤ a) (hab : a ≤ b) (hb : b ≤ 288) : dOk (shareD a b) := by
  unfold shareD
  by_cases q : b = 0
  · rw [if_pos q]
    exact Or.inr (by decide +kernel)
  · rw [if_neg q]
    exact div_ok h0 hab hb q
theorem dOk.nn {d : UInt64} (h : dOk d) : vf_n64 d := fp_nn (by unfold dOk at h; omega)

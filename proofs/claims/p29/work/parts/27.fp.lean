/-! ===== doubles from 0 to 2 ===== -/
section FPQ
theorem fpT : FP.Core.b64.tails = 4503599627370496 := by decide
theorem fpE : FP.Core.b64.exps = 2048 := by decide
theorem fp_fits {E T : Nat} (hT : T < 4503599627370496) (h1 : 1 ≤ E) (h2 : E ≤ 2046) : FP.Core.fits FP.Core.b64 (.fin false (4503599627370496 + T) ((E : Int) - 1075)) := by
  have a : (2 : Nat) ^ FP.Core.b64.p = 9007199254740992 := by decide
  have b : FP.Core.b64.qmax = 971 := by decide
  refine ⟨by rw [a]; omega, by rw [FP.Core.qmin_b64]; omega, by rw [b]; omega, Or.inr ?_⟩
  rw [fpT]; omega
theorem fp_enc {E T : Nat} (h1 : 1 ≤ E) : FP.Core.encode FP.Core.b64 (.fin false (4503599627370496 + T) ((E : Int) - 1075)) = E * 4503599627370496 + T := by
  show (if 4503599627370496 + T < FP.Core.b64.tails then FP.Core.assemble FP.Core.b64 false 0 (4503599627370496 + T) else FP.Core.assemble FP.Core.b64 false (((E : Int) - 1075 - FP.Core.b64.qmin).toNat + 1) (4503599627370496 + T - FP.Core.b64.tails)) = _
  unfold FP.Core.assemble
  rw [if_neg (by rw [fpT]; omega), fpT, fpE, FP.Core.qmin_b64]
  have e : ((E : Int) - 1075 - (-1074)).toNat + 1 = E := by omega
  rw [e, show (4503599627370496 + T) - 4503599627370496 = T by omega]
  simp
theorem fp_val {d : UInt64} {E T : Nat} (hd : d.toNat = E * 4503599627370496 + T) (hT : T < 4503599627370496) (h1 : 1 ≤ E) (h2 : E ≤ 2046) : FP.Core.val64 d = .fin false (4503599627370496 + T) ((E : Int) - 1075) := by
  have fe : FP.Core.fieldE FP.Core.b64 d.toNat = E := by unfold FP.Core.fieldE; rw [fpT, fpE, hd]; omega
  have ft : FP.Core.fieldT FP.Core.b64 d.toNat = T := by unfold FP.Core.fieldT; rw [fpT, hd]; omega
  have fs : FP.Core.fieldS FP.Core.b64 d.toNat = false := by
    unfold FP.Core.fieldS
    rw [fpT, fpE, hd, show (E * 4503599627370496 + T) / 4503599627370496 / 2048 = 0 by omega]
    rfl
  unfold FP.Core.val64 FP.Core.decode
  rw [fe, ft, fs, fpE, fpT, FP.Core.qmin_b64, if_neg (by omega), if_neg (by omega)]
  congr 1
  omega
theorem fp_nat {d : UInt64} {E T : Nat} (hv : FP.Core.val64 d = .fin false (4503599627370496 + T) ((E : Int) - 1075)) (hT : T < 4503599627370496) (h1 : 1 ≤ E) (h2 : E ≤ 2046) : d.toNat = E * 4503599627370496 + T := by
  have a := FP.Core.of64_val64 (a := d) (by rw [hv]; exact FP.Core.Datum.noConfusion)
  rw [hv] at a
  have b := FP.Core.toNat_of64 (fp_fits hT h1 h2)
  rw [a] at b
  rw [b, fp_enc h1]
theorem fp_two : FP.Core.val64 0x4000000000000000 = .fin false 4503599627370496 (-51) := by decide +kernel
theorem fp_one : FP.Core.val64 0x3ff0000000000000 = .fin false 4503599627370496 (-52) := by decide +kernel
theorem fp_big : FP.Core.val64 0x4330000000000000 = .fin false 4503599627370496 0 := by decide +kernel
theorem fp_mul2 {d : UInt64} {E T : Nat} (hd : d.toNat = E * 4503599627370496 + T) (hT : T < 4503599627370496) (h1 : 1 ≤ E) (h2 : E ≤ 2045) : (FP.dmul d 0x4000000000000000).toNat = (E + 1) * 4503599627370496 + T := by
  refine fp_nat ?_ hT (by omega) (by omega)
  rw [FP.Core.val64_dmul, fp_val hd hT h1 (by omega), fp_two]
  show FP.Core.roundRatio FP.Core.b64 (false != false) ((4503599627370496 + T) * 4503599627370496) 1 ((E : Int) - 1075 + -51) = _
  refine FP.Core.roundRatio_exact FP.Core.good_b64 (by decide) (fp_fits hT (by omega) (by omega)) ?_
  rw [show ((E : Int) - 1075 + -51 - (((E + 1 : Nat) : Int) - 1075)).toNat = 0 by omega, show (((E + 1 : Nat) : Int) - 1075 - ((E : Int) - 1075 + -51)).toNat = 52 by omega]
  simp
theorem fp_nn {d : UInt64} (h : d.toNat ≤ 0x7ff0000000000000) : vf_n64 d := by
  unfold vf_n64
  rw [UInt64.le_iff_toNat_le, UInt64.toNat_and]
  have := @Nat.and_le_left d.toNat (0x7fffffffffffffff : UInt64).toNat
  have e : (0x7ff0000000000000 : UInt64).toNat = 0x7ff0000000000000 := by decide
  omega
/-- the order of two doubles that are not negative, as a number -/
def cmpN (a b : Nat) : Int := if a < b then -1 else if a = b then 0 else 1
theorem fp_cmp {a b : UInt64} (ha : a.toNat < 0x7ff0000000000000) (hb : b.toNat < 0x7ff0000000000000) (op : CmpOp) : Op.cmpValue (FP.dcmp a b) op = iI (cmpN a.toNat b.toNat) := by
  have na : FP.Core.val64 a ≠ .nan := fun q => by
    have q := (FP.Core.decode_nan a.toNat).mp q
    rw [FP.Core.infBits_b64, FP.Core.mag_of_lt (by rw [FP.Core.half_b64]; omega)] at q
    omega
  have nb : FP.Core.val64 b ≠ .nan := fun q => by
    have q := (FP.Core.decode_nan b.toNat).mp q
    rw [FP.Core.infBits_b64, FP.Core.mag_of_lt (by rw [FP.Core.half_b64]; omega)] at q
    omega
  show Op.cmpValue (FP.Core.dcmp a b) op = _
  rw [FP.Core.dcmp_key na nb]
  have ka : FP.Core.dkey a = (a.toNat : Int) := by unfold FP.Core.dkey; rw [if_neg (by omega)]
  have kb : FP.Core.dkey b = (b.toNat : Int) := by unfold FP.Core.dkey; rw [if_neg (by omega)]
  rw [ka, kb]
  unfold cmpN
  by_cases q : a.toNat < b.toNat
  · rw [if_pos q, (FP.Core.compare_lt_iff _ _).mpr (by omega)]; rfl
  · rw [if_neg q]
    by_cases r : a.toNat = b.toNat
    · rw [if_pos r, (FP.Core.compare_eq_iff _ _).mpr (by omega)]; rfl
    · rw [if_neg r, (FP.Core.compare_gt_iff _ _).mpr (by omega)]; rfl
theorem fp_int {d : UInt64} {s : Bool} {c : Nat} {q : Int} {T : Nat} (h : FP.Core.val64 d = FP.Core.round FP.Core.b64 (.fin s c q)) (hw : FP.Core.Whole (T : Int) (.fin s c q)) (hT : T < 9007199254740992) : FP.d2l d = Int64.ofNat T ∧ FP.Core.val64 d ≠ .nan := by
  have w : FP.Core.DInt ((Int64.ofNat T).toInt) d := by
    have e : (Int64.ofNat T).toInt = (T : Int) := by
      rw [show Int64.ofNat T = Int64.ofInt (T : Int) from (Int64.ofInt_eq_ofNat).symm, Int64.toInt_ofInt_of_le (by omega) (by omega)]
    unfold FP.Core.DInt
    rw [h, e]
    have k : (2 : Nat) ^ FP.Core.b64.p = 9007199254740992 := by decide
    exact FP.Core.whole_round FP.Core.good_b64 FP.Core.wide_b64 (i := (T : Int)) (by rw [k]; omega) hw
  refine ⟨FP.Core.d2l_int w, fun n => ?_⟩
  unfold FP.Core.DInt at w
  rw [n] at w
  exact w
theorem fp_nnv {d : UInt64} (h : FP.Core.val64 d ≠ .nan) : vf_n64 d := by
  have q : ¬ FP.Core.infBits FP.Core.b64 < FP.Core.mag FP.Core.b64 d.toNat := fun q => h ((FP.Core.decode_nan d.toNat).mpr q)
  have e : FP.Core.mag FP.Core.b64 d.toNat = d.toNat % 2 ^ 63 := by unfold FP.Core.mag; rw [FP.Core.half_b64]
  rw [FP.Core.infBits_b64, e] at q
  unfold vf_n64
  rw [UInt64.le_iff_toNat_le, UInt64.toNat_and, show (0x7fffffffffffffff : UInt64).toNat = 2 ^ 63 - 1 by decide, Nat.and_two_pow_sub_one_eq_mod]
  have e : (0x7ff0000000000000 : UInt64).toNat = 9218868437227405312 := by decide
  omega
/-- the last places of a double from 1 to 2, and with the first one -/
theorem fp_last {d : UInt64} {T : Nat} (hd : d.toNat = 1023 * 4503599627370496 + T) (hT : T < 4503599627370496) : vf_n64 (FP.dmul d 0x4330000000000000) ∧ FP.d2l (FP.dmul d 0x4330000000000000) = Int64.ofNat (4503599627370496 + T) := by
  have h := fp_int (d := FP.dmul d 0x4330000000000000) (s := false) (c := (4503599627370496 + T) * 4503599627370496) (q := -52) (T := 4503599627370496 + T) (by
    rw [FP.Core.val64_dmul, fp_val hd hT (by omega) (by omega), fp_big]
    rfl) (by
    show (((4503599627370496 + T) * 4503599627370496 * 1 : Nat) : Int) = ((4503599627370496 + T : Nat) : Int) * ((4503599627370496 : Nat) : Int)
    rw [Nat.mul_one, Int.natCast_mul]) (by omega)
  exact ⟨fp_nnv h.2, h.1⟩
theorem fp_frac {d : UInt64} {T : Nat} (hd : d.toNat = 1023 * 4503599627370496 + T) (hT : T < 4503599627370496) : vf_n64 (FP.dsub d 0x3ff0000000000000) ∧ vf_n64 (FP.dmul (FP.dsub d 0x3ff0000000000000) 0x4330000000000000) ∧ FP.d2l (FP.dmul (FP.dsub d 0x3ff0000000000000) 0x4330000000000000) = Int64.ofNat T := by
  have hs : FP.Core.exactSum (.fin false (4503599627370496 + T) (-52)) (FP.Core.negate (.fin false 4503599627370496 (-52))) = .fin false T (-52) := by
    show FP.Core.Datum.fin (FP.Core.sumSign false true (FP.Core.sumUnits false (4503599627370496 + T) (-52) true 4503599627370496 (-52) (min (-52) (-52)))) (FP.Core.sumUnits false (4503599627370496 + T) (-52) true 4503599627370496 (-52) (min (-52) (-52))).natAbs (min (-52) (-52)) = _
    have e : FP.Core.sumUnits false (4503599627370496 + T) (-52) true 4503599627370496 (-52) (min (-52) (-52)) = (T : Int) := by
      show (((4503599627370496 + T) * 1 : Nat) : Int) + -((4503599627370496 * 1 : Nat) : Int) = (T : Int)
      omega
    rw [e]
    have f : FP.Core.sumSign false true (T : Int) = false := by
      unfold FP.Core.sumSign
      by_cases q : (T : Int) = 0
      · rw [if_pos q]; rfl
      · rw [if_neg q]; exact decide_eq_false (by omega)
    rw [f]
    rfl
  have k : (2 : Nat) ^ FP.Core.b64.p = 9007199254740992 := by decide
  obtain ⟨c', q', r1, r2⟩ := FP.Core.round_exact FP.Core.good_b64 false (c := T) (q := -52) (by rw [k]; omega) (by decide) (by decide)
  have hv : FP.Core.val64 (FP.dsub d 0x3ff0000000000000) = .fin false c' q' := by
    rw [FP.Core.val64_dsub, fp_val hd hT (by omega) (by omega), fp_one, ← r1]
    exact congrArg (FP.Core.round FP.Core.b64) hs
  have hq : FP.Core.b64.qmin ≤ q' := by
    have := FP.Core.val64_fits (FP.dsub d 0x3ff0000000000000)
    rw [hv] at this
    exact this.2.1
  rw [FP.Core.qmin_b64] at hq
  unfold FP.Core.inUnits at r2
  rw [FP.Core.qmin_b64, show (-52 - (-1074) : Int).toNat = 1022 by decide] at r2
  have hw : FP.Core.Whole (T : Int) (.fin false (c' * 4503599627370496) (q' + 0)) := by
    show (((c' * 4503599627370496) * 2 ^ (q' + 0).toNat : Nat) : Int) = (T : Int) * ((2 ^ (-(q' + 0)).toNat : Nat) : Int)
    rw [← Int.natCast_mul]
    congr 1
    rw [Int.add_zero]
    have p : 0 < 2 ^ 1022 := Nat.two_pow_pos _
    refine Nat.eq_of_mul_eq_mul_right p ?_
    have e1 : (q' - (-1074)).toNat + (-q').toNat = 1074 + q'.toNat := by omega
    calc c' * 4503599627370496 * 2 ^ q'.toNat * 2 ^ 1022 = c' * 2 ^ (1074 + q'.toNat) := by
          rw [show (4503599627370496 : Nat) = 2 ^ 52 by decide, Nat.mul_assoc, Nat.mul_assoc, ← Nat.pow_add, ← Nat.pow_add]
          rw [show 52 + (q'.toNat + 1022) = 1074 + q'.toNat by omega]
      _ = c' * 2 ^ (q' - (-1074)).toNat * 2 ^ (-q').toNat := by rw [Nat.mul_assoc, ← Nat.pow_add, e1]
      _ = T * 2 ^ (-q').toNat * 2 ^ 1022 := by rw [r2, Nat.mul_assoc, Nat.mul_assoc, Nat.mul_comm (2 ^ 1022)]
  have h := fp_int (d := FP.dmul (FP.dsub d 0x3ff0000000000000) 0x4330000000000000) (s := false) (c := c' * 4503599627370496) (q := q' + 0) (T := T) (by
    rw [FP.Core.val64_dmul, hv, fp_big]
    rfl) hw (by omega)
  exact ⟨fp_nnv (by rw [hv]; exact FP.Core.Datum.noConfusion), fp_nnv h.2, h.1⟩
end FPQ

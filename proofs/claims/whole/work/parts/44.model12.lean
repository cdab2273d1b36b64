set_option maxHeartbeats 800000 in
set_option maxRecDepth 100000 in
theorem c_X5_bitsOf (l : Launch) (g : GT) (d : UInt64) (hd : dOk d) : MetL l yX5_bitsOf wsX5_bitsOf ({ frames := 0, cells := 0, slots := 0, locals := 0 }) g [] [.double d] (Int64.ofNat d.toNat) := by
  refine pure_of (cc := cX5_bitsOf) (maxL := 6) (ret := (some .long)) (by decide) rfl (Nat.le_of_ble_eq_true rfl) ?_
  intro pZ eZ sZ mZ bZ meZ cZ F hP hE hS ls hl
  obtain ⟨hx, hb, hr, hml, hts, hown, hlk⟩ := F
  have hown : sZ.vm.findClass RX5 = some mZ.cls := hown
  have hl : lv_has ls 6 [(0, .double d)] := hl
  have w0 := hts (.constantLong RX5 224 (1023)) (by decide +kernel)
  have w1 := hts (.constantDouble RX5 226 (4611686018427387904)) (by decide +kernel)
  have w2 := hts (.constantDouble RX5 228 (4841369599423283200)) (by decide +kernel)
  have w3 := hts (.constantLong RX5 230 (4503599627370496)) (by decide +kernel)
  have hd9 := hd
  unfold dOk at hd9
  refine lv_dload_n hx hb dX5_bitsOf_0 rfl (lv_at hl 0 rfl) ?_
  refine lv_dconst0 hx hb dX5_bitsOf_1 ?_
  refine lv_dcmp hx hb dX5_bitsOf_2 ?_
  refine ln_topv (w := .int (iI (cmpN d.toNat 0))) (congrArg Value.int (fp_cmp (a := d) (by omega) (by decide) _)) ?_
  have hk_1 := cmpN_c d.toNat 0
  refine ln_if_ne (tgt := 8) hx hb dX5_bitsOf_3 (by decide) ⟨by omega, by omega⟩ (fun c_2 => ?_) (fun c_2 => ?_)
  · skip
    refine lv_dload_n hx hb dX5_bitsOf_8 rfl (lv_at hl 0 rfl) ?_
    refine lv_dstore_n (lv' := [(2, .double d), (0, .double d)]) hx hb dX5_bitsOf_9 rfl hl (by decide) rfl (fun ls hl => ?_)
    refine lv_ldc2 hx hb hown w0 dX5_bitsOf_10 ?_
    refine lv_lstore (lv' := [(4, .long 1023), (2, .double d), (0, .double d)]) hx hb dX5_bitsOf_13 hl (by decide) rfl (fun ls hl => ?_)
    refine lv_dload_n hx hb dX5_bitsOf_15 rfl (lv_at hl 1 rfl) ?_
    refine lv_ldc2d hx hb hown w1 dX5_bitsOf_16 ?_
    refine lv_dcmp hx hb dX5_bitsOf_19 ?_
    refine ln_topv (w := .int (iI (cmpN d.toNat 4611686018427387904))) (congrArg Value.int (fp_cmp (a := d) (by omega) (by decide) _)) ?_
    have hk_3 := cmpN_c d.toNat 4611686018427387904
    refine ln_if_lt (tgt := 38) hx hb dX5_bitsOf_20 (by decide) ⟨by omega, by omega⟩ (fun c_4 => ?_) (fun c_4 => ?_)
    · skip
      have L38 : ∀ (k_5 : Nat) (k : Int) (r : UInt64) (gk : 0 ≤ k) (gl : k ≤ 1023) (ge : (r.toNat : Int) = (d.toNat : Int) + k * 4503599627370496) (gm : 4503599627370496 ≤ r.toNat ∧ r.toNat < 4611686018427387904) (ls : Array Slot), lv_has ls 6 [(0, .double d), (2, .double r), (4, .long ((Int64.ofInt (1023 - k))))] → (1023 - k).toNat < k_5 → W pZ l eZ ({ frames := 0, cells := 0, slots := 0, locals := 0 } : Room) sZ mZ [.double d].toArray bZ meZ cZ sZ.heap [] 0 0 (MQ bZ (vp_Sl (fun y9 => y9 = (Int64.ofNat d.toNat))) [.double d].toArray sZ 0 0 (fun _ => False)) (F0 mZ 38 ls []) := by
        intro k_5
        induction k_5 with
        | zero => intro k r gk gl ge gm ls hl hm_7; exact absurd hm_7 (Nat.not_lt_zero _)
        | succ k_5 ih_6 =>
          intro k r gk gl ge gm ls hl hm_7
          refine lv_dload_n hx hb dX5_bitsOf_38 rfl (lv_at hl 1 rfl) ?_
          refine lv_dconst1 hx hb dX5_bitsOf_39 ?_
          refine lv_dcmp hx hb dX5_bitsOf_40 ?_
          refine ln_topv (w := .int (iI (cmpN r.toNat 4607182418800017408))) (congrArg Value.int (fp_cmp (a := r) (by omega) (by decide) _)) ?_
          have hk_8 := cmpN_c r.toNat 4607182418800017408
          refine ln_if_ge (tgt := 59) hx hb dX5_bitsOf_41 (by decide) ⟨by omega, by omega⟩ (fun c_9 => ?_) (fun c_9 => ?_)
          · skip
            have hf9 := fp_last (d := r) (T := r.toNat - 4607182418800017408) (by omega) (by omega)
            refine lv_lload hx hb dX5_bitsOf_59 (lv_at hl 2 rfl) ?_
            refine lv_bipush (v := iI 52) hx hb dX5_bitsOf_61 (by decide) ?_
            refine lv_lshl (v := Int64.ofInt ((1023 - k) * 4503599627370496)) hx hb dX5_bitsOf_63 (shl52 (by omega) (by omega)) ?_
            refine lv_dload_n hx hb dX5_bitsOf_64 rfl (lv_at hl 1 rfl) ?_
            refine lv_ldc2d hx hb hown w2 dX5_bitsOf_65 ?_
            refine lv_dmul hx hb dX5_bitsOf_68 (hf9.1) ?_
            refine lv_d2l hx hb dX5_bitsOf_69 ?_
            refine ln_topv (w := .long (Int64.ofNat (4503599627370496 + (r.toNat - 4607182418800017408)))) (congrArg Value.long (hf9.2)) ?_
            refine lv_ladd hx hb dX5_bitsOf_70 ?_
            refine lv_ldc2 hx hb hown w3 dX5_bitsOf_71 ?_
            refine lv_lsub hx hb dX5_bitsOf_74 ?_
            exact pend_l hx hb hr hlk hS rfl (by exact bits_sum2 (by omega)) dX5_bitsOf_75
          · skip
            refine lv_dload_n hx hb dX5_bitsOf_44 rfl (lv_at hl 1 rfl) ?_
            refine lv_ldc2d hx hb hown w1 dX5_bitsOf_45 ?_
            refine lv_dmul hx hb dX5_bitsOf_48 (fp_nn (by rw [fp_dbl gm.1 (by omega)]; omega)) ?_
            refine lv_dstore_n (lv' := [(2, .double (FP.dmul r 4611686018427387904)), (0, .double d), (4, .long ((Int64.ofInt (1023 - k))))]) hx hb dX5_bitsOf_49 rfl hl (by decide) rfl (fun ls hl => ?_)
            refine lv_lload hx hb dX5_bitsOf_50 (lv_at hl 2 rfl) ?_
            refine lv_lconst (v := 1) hx hb dX5_bitsOf_52 (by decide) ?_
            refine lv_lsub hx hb dX5_bitsOf_53 ?_
            refine lv_lstore (lv' := [(4, .long (((Int64.ofInt (1023 - k))) - 1)), (2, .double (FP.dmul r 4611686018427387904)), (0, .double d)]) hx hb dX5_bitsOf_54 hl (by decide) rfl (fun ls hl => ?_)
            refine lv_goto (tgt := 38) hx hb dX5_bitsOf_56 (by decide) ?_
            have hl := lv_re hl 1 rfl (.double (FP.dmul r 0x4000000000000000)) (congrArg (fun z => Value.double z) (show (FP.dmul r 4611686018427387904) = (FP.dmul r 0x4000000000000000) from by first | rfl | omega))
            have hl := lv_re hl 0 rfl (.long ((Int64.ofInt (1023 - (k + 1))))) (congrArg (fun z => Value.long z) (show ((Int64.ofInt (1023 - k))) - 1 = (Int64.ofInt (1023 - (k + 1))) from ex_dec k))
            have hl : lv_has ls 6 [(4, .long ((Int64.ofInt (1023 - (k + 1))))), (2, .double (FP.dmul r 0x4000000000000000)), (0, .double d)] := hl
            exact ih_6 (k + 1) (FP.dmul r 0x4000000000000000) (by omega) (by omega) (by rw [fp_dbl gm.1 (by omega)]; omega) (by rw [fp_dbl gm.1 (by omega)]; omega) _ (lv_sub hl [2, 1, 0] rfl) (by omega)
      have hl := lv_re hl 0 rfl (.long ((Int64.ofInt (1023 - 0)))) (congrArg (fun z => Value.long z) (show 1023 = (Int64.ofInt (1023 - 0)) from by decide))
      have hl : lv_has ls 6 [(4, .long ((Int64.ofInt (1023 - 0)))), (2, .double d), (0, .double d)] := hl
      exact L38 _ 0 d (by omega) (by omega) (by omega) (by omega) _ (lv_sub hl [2, 1, 0] rfl) (Nat.lt_succ_self _)
    · exfalso; omega
  · skip
    refine lv_lconst (v := 0) hx hb dX5_bitsOf_6 (by decide) ?_
    exact pend_l hx hb hr hlk hS rfl (by (rw [show d.toNat = 0 by omega]; rfl)) dX5_bitsOf_7
set_option maxHeartbeats 800000 in
set_option maxRecDepth 100000 in
theorem c_X5_mix (l : Launch) (g : GT) (qm : Nat) (th : Int) (mz : Nat) (ms : Nat) (hn : Int) (mp : Nat) (mb : Nat) (L : Int) (m1 : Nat) (m2 : Nat) (m3 : Nat) (mB : Nat) (mF : Nat) (mN : Nat) (mS : Nat) (sT : Int) (mW : Nat) (acc : Int64) (v : Int64) : MutV l yX5_mix wsX5_mix ({ frames := 0, cells := 0, slots := 0, locals := 0 }) 0 0 g [(qm, .inr (5, [.int (iI th), .ref mz, .ref ms, .int (iI hn), .ref mp, .ref mb, .int (iI L), .ref m1, .ref m2, .ref m3, .ref mB, .ref mF, .ref mN, .ref mS, .int (iI sT), .ref mW, .long acc]))] [.ref qm, .long v] (S := Unit) (fun _ => True) (fun _ => [(qm, .inr (5, [.int (iI th), .ref mz, .ref ms, .int (iI hn), .ref mp, .ref mb, .int (iI L), .ref m1, .ref m2, .ref m3, .ref mB, .ref mF, .ref mN, .ref mS, .int (iI sT), .ref mW, .long (mixL acc v)]))]) := by
  refine mut_of (y := yX5_mix) (ws := wsX5_mix) (av := [.ref qm, .long v]) (w := [(qm, .inr (5, [.int (iI th), .ref mz, .ref ms, .int (iI hn), .ref mp, .ref mb, .int (iI L), .ref m1, .ref m2, .ref m3, .ref mB, .ref mF, .ref mN, .ref mS, .int (iI sT), .ref mW, .long acc]))]) (Qc := fun A => va_Qv (fun (u9 : Unit) => (fun _ => True) u9) (fun u9 t9 => MB g ((fun _ => [(qm, .inr (5, [.int (iI th), .ref mz, .ref ms, .int (iI hn), .ref mp, .ref mb, .int (iI L), .ref m1, .ref m2, .ref m3, .ref mB, .ref mF, .ref mN, .ref mS, .int (iI sT), .ref mW, .long (mixL acc v)]))]) u9) A t9) A) (cc := cX5_mix) (maxL := 3) (ret := none) (by decide) rfl (Nat.le_of_ble_eq_true rfl) ?_
  intro pZ eZ sZ mZ bZ meZ cZ A F hin hA hP hD hE hS ls hl
  obtain ⟨hx, hb, hr, hml, hts, hown, hlk⟩ := F
  skip
  have hown : sZ.vm.findClass RX5 = some mZ.cls := hown
  have hl : lv_has ls 3 [(0, .ref qm), (1, .long v)] := hl
  skip
  have w0 := hts (.constantLong RX5 232 (31)) (by decide +kernel)
  have w1 := hts (.fieldLink RX5 234 "SlantYardModel" "hash" "J") (by decide +kernel)
  have in5 : ∀ w ∈ u_ws RX5 TX5 17, w ∈ wsX5_mix := by decide +kernel
  refine lv_aload_n hx hb dX5_mix_0 rfl (lv_at hl 0 rfl) ?_
  refine lv_ldc2 hx hb hown w0 dX5_mix_1 ?_
  refine lv_aload_n hx hb dX5_mix_4 rfl (lv_at hl 0 rfl) ?_
  refine va_get (D := g.1) (ci := 5) (v := .long acc) (C := RX5) (T := TX5) (N := 17) hx hb hts in5 hown hE.1 hP 0 rfl rfl 16 (by decide) w1 (fun _ h9 => h9) rfl dX5_mix_5 ?_
  refine lv_lmul hx hb dX5_mix_8 ?_
  refine lv_lload_n hx hb dX5_mix_9 rfl (lv_at hl 1 rfl) ?_
  refine lv_ladd hx hb dX5_mix_10 ?_
  refine va_put (D := g.1) (ci := 5) (v := .long (31 * acc + v)) (ty := .long) (C := RX5) (T := TX5) (N := 17) hx hb hts in5 tyX5 tyX5_ok nmX5 hown hE.1 hP hD hS 0 rfl rfl 16 (by decide) w1 (fun _ h9 => h9) rfl (by decide +kernel) rfl rfl (Nat.le_of_ble_eq_true rfl) dX5_mix_11 (fun H locs hP hD hS => ?_)
  have hP : va_P g.1 vwCl [(qm, .inr (5, [.int (iI th), .ref mz, .ref ms, .int (iI hn), .ref mp, .ref mb, .int (iI L), .ref m1, .ref m2, .ref m3, .ref mB, .ref mF, .ref mN, .ref mS, .int (iI sT), .ref mW, .long (31 * acc + v)]))] H := hP
  have hD : va_D A [(qm, .inr (5, [.int (iI th), .ref mz, .ref ms, .int (iI hn), .ref mp, .ref mb, .int (iI L), .ref m1, .ref m2, .ref m3, .ref mB, .ref mF, .ref mN, .ref mS, .int (iI sT), .ref mW, .long (31 * acc + v)]))] := hD
  have hf_1 : 31 * acc + v = (mixL acc v) := rfl
  have hP := hP.recl 0 rfl (.inr (5, [.int (iI th), .ref mz, .ref ms, .int (iI hn), .ref mp, .ref mb, .int (iI L), .ref m1, .ref m2, .ref m3, .ref mB, .ref mF, .ref mN, .ref mS, .int (iI sT), .ref mW, .long (mixL acc v)])) (congrArg (fun z9 => (Sum.inr (5, [.int (iI th), .ref mz, .ref ms, .int (iI hn), .ref mp, .ref mb, .int (iI L), .ref m1, .ref m2, .ref m3, .ref mB, .ref mF, .ref mN, .ref mS, .int (iI sT), .ref mW, .long z9]) : va_E)) hf_1)
  have hD := hD.set (p := 0) (e := .inr (5, [.int (iI th), .ref mz, .ref ms, .int (iI hn), .ref mp, .ref mb, .int (iI L), .ref m1, .ref m2, .ref m3, .ref mB, .ref mF, .ref mN, .ref mS, .int (iI sT), .ref mW, .long (mixL acc v)])) rfl
  have hP : va_P g.1 vwCl [(qm, .inr (5, [.int (iI th), .ref mz, .ref ms, .int (iI hn), .ref mp, .ref mb, .int (iI L), .ref m1, .ref m2, .ref m3, .ref mB, .ref mF, .ref mN, .ref mS, .int (iI sT), .ref mW, .long (mixL acc v)]))] _ := hP
  have hD : va_D A [(qm, .inr (5, [.int (iI th), .ref mz, .ref ms, .int (iI hn), .ref mp, .ref mb, .int (iI L), .ref m1, .ref m2, .ref m3, .ref mB, .ref mF, .ref mN, .ref mS, .int (iI sT), .ref mW, .long (mixL acc v)]))] := hD
  exact mend_v (S := Unit) (w' := (fun _ => [(qm, .inr (5, [.int (iI th), .ref mz, .ref ms, .int (iI hn), .ref mp, .ref mb, .int (iI L), .ref m1, .ref m2, .ref m3, .ref mB, .ref mF, .ref mN, .ref mS, .int (iI sT), .ref mW, .long (mixL acc v)]))])) (post := (fun _ => True)) hx hb hr hlk hS () hP hD (trivial) (Nat.le_of_ble_eq_true rfl) (Nat.le_of_ble_eq_true rfl) dX5_mix_14
set_option maxHeartbeats 800000 in
set_option maxRecDepth 100000 in
theorem c_X5_endOf (l : Launch) (g : GT) (qm : Nat) (th : Int) (mz : Nat) (ms : Nat) (hn : Int) (mp : Nat) (mb : Nat) (L : Int) (m1 : Nat) (m2 : Nat) (m3 : Nat) (mB : Nat) (mF : Nat) (mN : Nat) (mS : Nat) (sT : Int) (mW : Nat) (acc : Int64) (b : Int → Int) (s : Int) (hB : BOk b L) (gs : 0 ≤ s) (gt : s ≤ L) : MetI l yX5_endOf wsX5_endOf ({ frames := 0, cells := 0, slots := 0, locals := 0 }) g [(qm, .inr (5, [.int (iI th), .ref mz, .ref ms, .int (iI hn), .ref mp, .ref mb, .int (iI L), .ref m1, .ref m2, .ref m3, .ref mB, .ref mF, .ref mN, .ref mS, .int (iI sT), .ref mW, .long acc])), (mb, .inl (gI g, 60, .inl (aI b)))] [.ref qm, .int (iI s)] (endI b L s) := by
  refine pure_of (cc := cX5_endOf) (maxL := 3) (ret := (some .int)) (by decide) rfl (Nat.le_of_ble_eq_true rfl) ?_
  intro pZ eZ sZ mZ bZ meZ cZ F hP hE hS ls hl
  obtain ⟨hx, hb, hr, hml, hts, hown, hlk⟩ := F
  have hown : sZ.vm.findClass RX5 = some mZ.cls := hown
  have hl : lv_has ls 3 [(0, .ref qm), (1, .int (iI s))] := hl
  have w0 := hts (.fieldLink RX5 120 "SlantYardModel" "typed" "I") (by decide +kernel)
  have w1 := hts (.fieldLink RX5 19 "SlantYardModel" "buffer" "[I") (by decide +kernel)
  have in5 : ∀ w ∈ u_ws RX5 TX5 17, w ∈ wsX5_endOf := by decide +kernel
  have hLb := hB.1
  have hbr9 := hB.2
  refine lv_iload_n hx hb dX5_endOf_0 rfl (lv_at hl 1 rfl) ?_
  refine lv_istore_n (lv' := [(2, .int (iI s)), (0, .ref qm), (1, .int (iI s))]) hx hb dX5_endOf_1 rfl hl (by decide) rfl (fun ls hl => ?_)
  have L2 : ∀ (k_1 : Nat) (k : Int) (gk : s ≤ k) (gl : k ≤ L) (ge : endK b s (k - s) = s + (k - s)) (ls : Array Slot), lv_has ls 3 [(0, .ref qm), (1, .int (iI s)), (2, .int (iI k))] → (L - k).toNat < k_1 → W pZ l eZ ({ frames := 0, cells := 0, slots := 0, locals := 0 } : Room) sZ mZ [.ref qm, .int (iI s)].toArray bZ meZ cZ sZ.heap [] 0 0 (MQ bZ (vp_Si (fun y9 => y9 = iI (endI b L s))) [.ref qm, .int (iI s)].toArray sZ 0 0 (fun _ => False)) (F0 mZ 2 ls []) := by
    intro k_1
    induction k_1 with
    | zero => intro k gk gl ge ls hl hm_3; exact absurd hm_3 (Nat.not_lt_zero _)
    | succ k_1 ih_2 =>
      intro k gk gl ge ls hl hm_3
      refine lv_iload_n hx hb dX5_endOf_2 rfl (lv_at hl 2 rfl) ?_
      refine lv_aload_n hx hb dX5_endOf_3 rfl (lv_at hl 0 rfl) ?_
      refine va_get (D := g.1) (ci := 5) (v := .int (iI L)) (C := RX5) (T := TX5) (N := 17) hx hb hts in5 hown hE.1 hP 0 rfl rfl 6 (by decide) w0 (fun _ h9 => h9) rfl dX5_endOf_4 ?_
      refine ln_icmp_ge (tgt := 27) hx hb dX5_endOf_7 (by decide) ⟨by omega, by omega⟩ ⟨by omega, by omega⟩ (fun c_4 => ?_) (fun c_4 => ?_)
      · skip
        refine lv_iload_n hx hb dX5_endOf_27 rfl (lv_at hl 2 rfl) ?_
        exact pend_i hx hb hr hlk hS rfl (by (first | (unfold endI; rw [show L - s = k - s by omega, ge]; omega) | (unfold endI; rw [endK_stop (k := k - s) (by omega) ge (by rw [show s + (k - s) = k by omega]; omega) (by omega)]; omega))) dX5_endOf_28
      · skip
        refine lv_aload_n hx hb dX5_endOf_10 rfl (lv_at hl 0 rfl) ?_
        refine va_get (D := g.1) (ci := 5) (v := .ref mb) (C := RX5) (T := TX5) (N := 17) hx hb hts in5 hown hE.1 hP 0 rfl rfl 5 (by decide) w1 (fun _ h9 => h9) rfl dX5_endOf_11 ?_
        refine lv_iload_n hx hb dX5_endOf_14 rfl (lv_at hl 2 rfl) ?_
        refine ln_iald hx hb hE hP 1 rfl (by omega) (by omega) (Nat.le_of_ble_eq_true rfl) (b k) (rfl) dX5_endOf_15 ?_
        have hbk9 := hbr9 k
        refine lv_bipush (v := iI 59) hx hb dX5_endOf_16 (by decide) ?_
        refine ln_icmp_eq (tgt := 27) hx hb dX5_endOf_18 (by decide) ⟨by omega, by omega⟩ (by decide) (fun c_5 => ?_) (fun c_5 => ?_)
        · skip
          refine lv_iload_n hx hb dX5_endOf_27 rfl (lv_at hl 2 rfl) ?_
          exact pend_i hx hb hr hlk hS rfl (by (first | (unfold endI; rw [show L - s = k - s by omega, ge]; omega) | (unfold endI; rw [endK_stop (k := k - s) (by omega) ge (by rw [show s + (k - s) = k by omega]; omega) (by omega)]; omega))) dX5_endOf_28
        · skip
          refine lv_iinc (v := iI (k + 1)) (lv' := [(2, .int (iI (k + 1))), (0, .ref qm), (1, .int (iI s))]) hx hb dX5_endOf_21 hl (k := 2) rfl (iI_add _ _) (by decide) rfl (fun ls hl => ?_)
          refine lv_goto (tgt := 2) hx hb dX5_endOf_24 (by decide) ?_
          have hl : lv_has ls 3 [(2, .int (iI (k + 1))), (0, .ref qm), (1, .int (iI s))] := hl
          exact ih_2 (k + 1) (by omega) (by omega) (by rw [show k + 1 - s = (k - s) + 1 by omega, endK_s (by omega), if_pos ⟨ge, by rw [show s + (k - s) = k by omega]; omega⟩, ge]; omega) _ (lv_sub hl [1, 2, 0] rfl) (by omega)
  have hl : lv_has ls 3 [(2, .int (iI s)), (0, .ref qm), (1, .int (iI s))] := hl
  exact L2 _ s (by omega) gt (by rw [show s - s = 0 by omega]; exact (Int.add_zero s).symm) _ (lv_sub hl [1, 2, 0] rfl) (Nat.lt_succ_self _)

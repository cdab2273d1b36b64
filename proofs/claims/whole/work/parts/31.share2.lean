set_option maxHeartbeats 800000 in
set_option maxRecDepth 100000 in
theorem c_X4_bitsOf (l : Launch) (g : GT) (d : UInt64) (hd : dOk d) : MetL l yX4_bitsOf wsX4_bitsOf ({ frames := 0, cells := 0, slots := 0, locals := 0 }) g [] [.double d] (Int64.ofNat d.toNat) := by
  refine pure_of (cc := cX4_bitsOf) (maxL := 7) (ret := (some .long)) (by decide) rfl (Nat.le_of_ble_eq_true rfl) ?_
  intro pZ eZ sZ mZ bZ meZ cZ F hP hE hS ls hl
  obtain ⟨hx, hb, hr, hml, hts, hown, hlk⟩ := F
  have hown : sZ.vm.findClass RX4 = some mZ.cls := hown
  have hl : lv_has ls 7 [(0, .double d)] := hl
  have w0 := hts (.constantLong RX4 330 (1023)) (by decide +kernel)
  have w1 := hts (.constantDouble RX4 334 (4841369599423283200)) (by decide +kernel)
  have w2 := hts (.constantDouble RX4 332 (4611686018427387904)) (by decide +kernel)
  have hd9 := hd
  unfold dOk at hd9
  refine lv_dload_n hx hb dX4_bitsOf_0 rfl (lv_at hl 0 rfl) ?_
  refine lv_dconst0 hx hb dX4_bitsOf_1 ?_
  refine lv_dcmp hx hb dX4_bitsOf_2 ?_
  refine ln_topv (w := .int (iI (cmpN d.toNat 0))) (congrArg Value.int (fp_cmp (a := d) (by omega) (by decide) _)) ?_
  have hk_1 := cmpN_c d.toNat 0
  refine ln_if_gt (tgt := 8) hx hb dX4_bitsOf_3 (by decide) ⟨by omega, by omega⟩ (fun c_2 => ?_) (fun c_2 => ?_)
  · skip
    refine lv_dload_n hx hb dX4_bitsOf_8 rfl (lv_at hl 0 rfl) ?_
    refine lv_dstore_n (lv' := [(2, .double d), (0, .double d)]) hx hb dX4_bitsOf_9 rfl hl (by decide) rfl (fun ls hl => ?_)
    refine lv_ldc2 hx hb hown w0 dX4_bitsOf_10 ?_
    refine lv_lstore (lv' := [(4, .long 1023), (2, .double d), (0, .double d)]) hx hb dX4_bitsOf_13 hl (by decide) rfl (fun ls hl => ?_)
    refine lv_iconst (v := iI 0) hx hb dX4_bitsOf_15 rfl ?_
    refine lv_istore (lv' := [(6, .int (iI 0)), (4, .long 1023), (2, .double d), (0, .double d)]) hx hb dX4_bitsOf_16 hl (by decide) rfl (fun ls hl => ?_)
    have L18 : ∀ (k_3 : Nat) (k : Int) (r : UInt64) (gk : 0 ≤ k) (gl : k ≤ 1023) (ge : (r.toNat : Int) = (d.toNat : Int) + k * 4503599627370496) (gm : 4503599627370496 ≤ r.toNat ∧ r.toNat < 4611686018427387904) (ls : Array Slot), lv_has ls 7 [(0, .double d), (2, .double r), (4, .long ((Int64.ofInt (1023 - k)))), (6, .int (iI k))] → (1023 - k).toNat < k_3 → W pZ l eZ ({ frames := 0, cells := 0, slots := 0, locals := 0 } : Room) sZ mZ [.double d].toArray bZ meZ cZ sZ.heap [] 0 0 (MQ bZ (vp_Sl (fun y9 => y9 = (Int64.ofNat d.toNat))) [.double d].toArray sZ 0 0 (fun _ => False)) (F0 mZ 18 ls []) := by
      intro k_3
      induction k_3 with
      | zero => intro k r gk gl ge gm ls hl hm_5; exact absurd hm_5 (Nat.not_lt_zero _)
      | succ k_3 ih_4 =>
        intro k r gk gl ge gm ls hl hm_5
        refine lv_iload hx hb dX4_bitsOf_18 (lv_at hl 3 rfl) ?_
        refine lv_i2l (v := (iI k).toInt64) hx hb dX4_bitsOf_20 rfl ?_
        refine lv_ldc2 hx hb hown w0 dX4_bitsOf_21 ?_
        refine lv_lcmp (v := iI (cmpI k 1023)) hx hb dX4_bitsOf_24 (lcmp_k ⟨by omega, by omega⟩) ?_
        have hk_6 := cmpI_c k 1023
        refine ln_if_ge (tgt := 52) hx hb dX4_bitsOf_25 (by decide) ⟨by omega, by omega⟩ (fun c_7 => ?_) (fun c_7 => ?_)
        · skip
          have hf9 := fp_fin (r := r) (by omega) gm.2
          refine lv_lload hx hb dX4_bitsOf_52 (lv_at hl 2 rfl) ?_
          refine lv_bipush (v := iI 52) hx hb dX4_bitsOf_54 (by decide) ?_
          refine lv_lshl (v := Int64.ofInt ((1023 - k) * 4503599627370496)) hx hb dX4_bitsOf_56 (shl52 (by omega) (by omega)) ?_
          refine lv_dload_n hx hb dX4_bitsOf_57 rfl (lv_at hl 1 rfl) ?_
          refine lv_dconst1 hx hb dX4_bitsOf_58 ?_
          refine lv_dsub hx hb dX4_bitsOf_59 (hf9.1) ?_
          refine lv_ldc2d hx hb hown w1 dX4_bitsOf_60 ?_
          refine lv_dmul hx hb dX4_bitsOf_63 (hf9.2.1) ?_
          refine lv_d2l hx hb dX4_bitsOf_64 ?_
          refine ln_topv (w := .long (Int64.ofNat (r.toNat - 4607182418800017408))) (congrArg Value.long (hf9.2.2)) ?_
          refine lv_ladd hx hb dX4_bitsOf_65 ?_
          exact pend_l hx hb hr hlk hS rfl (by exact bits_sum (by omega)) dX4_bitsOf_66
        · skip
          refine lv_dload_n hx hb dX4_bitsOf_28 rfl (lv_at hl 1 rfl) ?_
          refine lv_dconst1 hx hb dX4_bitsOf_29 ?_
          refine lv_dcmp hx hb dX4_bitsOf_30 ?_
          refine ln_topv (w := .int (iI (cmpN r.toNat 4607182418800017408))) (congrArg Value.int (fp_cmp (a := r) (by omega) (by decide) _)) ?_
          have hk_8 := cmpN_c r.toNat 4607182418800017408
          refine ln_if_ge (tgt := 52) hx hb dX4_bitsOf_31 (by decide) ⟨by omega, by omega⟩ (fun c_9 => ?_) (fun c_9 => ?_)
          · skip
            have hf9 := fp_fin (r := r) (by omega) gm.2
            refine lv_lload hx hb dX4_bitsOf_52 (lv_at hl 2 rfl) ?_
            refine lv_bipush (v := iI 52) hx hb dX4_bitsOf_54 (by decide) ?_
            refine lv_lshl (v := Int64.ofInt ((1023 - k) * 4503599627370496)) hx hb dX4_bitsOf_56 (shl52 (by omega) (by omega)) ?_
            refine lv_dload_n hx hb dX4_bitsOf_57 rfl (lv_at hl 1 rfl) ?_
            refine lv_dconst1 hx hb dX4_bitsOf_58 ?_
            refine lv_dsub hx hb dX4_bitsOf_59 (hf9.1) ?_
            refine lv_ldc2d hx hb hown w1 dX4_bitsOf_60 ?_
            refine lv_dmul hx hb dX4_bitsOf_63 (hf9.2.1) ?_
            refine lv_d2l hx hb dX4_bitsOf_64 ?_
            refine ln_topv (w := .long (Int64.ofNat (r.toNat - 4607182418800017408))) (congrArg Value.long (hf9.2.2)) ?_
            refine lv_ladd hx hb dX4_bitsOf_65 ?_
            exact pend_l hx hb hr hlk hS rfl (by exact bits_sum (by omega)) dX4_bitsOf_66
          · skip
            refine lv_dload_n hx hb dX4_bitsOf_34 rfl (lv_at hl 1 rfl) ?_
            refine lv_ldc2d hx hb hown w2 dX4_bitsOf_35 ?_
            refine lv_dmul hx hb dX4_bitsOf_38 (fp_nn (by rw [fp_dbl gm.1 (by omega)]; omega)) ?_
            refine lv_dstore_n (lv' := [(2, .double (FP.dmul r 4611686018427387904)), (0, .double d), (4, .long ((Int64.ofInt (1023 - k)))), (6, .int (iI k))]) hx hb dX4_bitsOf_39 rfl hl (by decide) rfl (fun ls hl => ?_)
            refine lv_lload hx hb dX4_bitsOf_40 (lv_at hl 2 rfl) ?_
            refine lv_lconst (v := 1) hx hb dX4_bitsOf_42 (by decide) ?_
            refine lv_lsub hx hb dX4_bitsOf_43 ?_
            refine lv_lstore (lv' := [(4, .long (((Int64.ofInt (1023 - k))) - 1)), (2, .double (FP.dmul r 4611686018427387904)), (0, .double d), (6, .int (iI k))]) hx hb dX4_bitsOf_44 hl (by decide) rfl (fun ls hl => ?_)
            refine lv_iinc (v := iI (k + 1)) (lv' := [(6, .int (iI (k + 1))), (4, .long (((Int64.ofInt (1023 - k))) - 1)), (2, .double (FP.dmul r 4611686018427387904)), (0, .double d)]) hx hb dX4_bitsOf_46 hl (k := 3) rfl (iI_add _ _) (by decide) rfl (fun ls hl => ?_)
            refine lv_goto (tgt := 18) hx hb dX4_bitsOf_49 (by decide) ?_
            have hl := lv_re hl 2 rfl (.double (FP.dmul r 0x4000000000000000)) (congrArg (fun z => Value.double z) (show (FP.dmul r 4611686018427387904) = (FP.dmul r 0x4000000000000000) from by first | rfl | omega))
            have hl := lv_re hl 1 rfl (.long ((Int64.ofInt (1023 - (k + 1))))) (congrArg (fun z => Value.long z) (show ((Int64.ofInt (1023 - k))) - 1 = (Int64.ofInt (1023 - (k + 1))) from ex_dec k))
            have hl : lv_has ls 7 [(6, .int (iI (k + 1))), (4, .long ((Int64.ofInt (1023 - (k + 1))))), (2, .double (FP.dmul r 0x4000000000000000)), (0, .double d)] := hl
            exact ih_4 (k + 1) (FP.dmul r 0x4000000000000000) (by omega) (by omega) (by rw [fp_dbl gm.1 (by omega)]; omega) (by rw [fp_dbl gm.1 (by omega)]; omega) _ (lv_sub hl [3, 2, 1, 0] rfl) (by omega)
    have hl := lv_re hl 1 rfl (.long ((Int64.ofInt (1023 - 0)))) (congrArg (fun z => Value.long z) (show 1023 = (Int64.ofInt (1023 - 0)) from by decide))
    have hl : lv_has ls 7 [(6, .int (iI 0)), (4, .long ((Int64.ofInt (1023 - 0)))), (2, .double d), (0, .double d)] := hl
    exact L18 _ 0 d (by omega) (by omega) (by omega) (by omega) _ (lv_sub hl [3, 2, 1, 0] rfl) (Nat.lt_succ_self _)
  · skip
    refine lv_lconst (v := 0) hx hb dX4_bitsOf_6 (by decide) ?_
    exact pend_l hx hb hr hlk hS rfl (by (rw [show d.toNat = 0 by omega]; rfl)) dX4_bitsOf_7

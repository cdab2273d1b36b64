set_option maxHeartbeats 800000 in
set_option maxRecDepth 100000 in
theorem c_X4_bitsOf (l : Launch) (g : GT) (d : UInt64) (hd : dOk d) : MetL l yX4_bitsOf wsX4_bitsOf ({ frames := 0, cells := 0, slots := 0, locals := 0 }) g [] [.double d] (Int64.ofNat d.toNat) := by
  refine pure_of (cc := cX4_bitsOf) (maxL := 7) (ret := (some .long)) (by decide) rfl (Nat.le_of_ble_eq_true rfl) ?_
  intro pZ eZ sZ mZ bZ meZ cZ F hP hE hS ls hl
  obtain ⟨hx, hb, hr, hml, hts, hown, hlk⟩ := F
  have hown : sZ.vm.findClass RX4 = some mZ.cls := hown
  have hl : lv_has ls 7 [(0, .double d)] := hl
  have w0 := hts (.constantLong RX4 330 (1023)) (by decide +kernel)
  have w1 := hts (.constantDouble RX4 334 (4841369599423283200)) (by decide +kernel)
  have w2 := hts (.constantDouble RX4 332 (4611686018427387904)) (by decide +kernel)
  have hd9 := hd
  unfold dOk at hd9
  refine lv_dload_n hx hb dX4_bitsOf_0 rfl (lv_at hl 0 rfl) ?_
  refine lv_dconst0 hx hb dX4_bitsOf_1 ?_
  refine lv_dcmp hx hb dX4_bitsOf_2 ?_
  refine ln_topv (w := .int (iI (cmpN d.toNat 0))) (congrArg Value.int (fp_cmp (a := d) (by omega) (by decide) _)) ?_
  have hk_1 := cmpN_c d.toNat 0
  refine ln_if_gt (tgt := 8) hx hb dX4_bitsOf_3 (by decide) ⟨by omega, by omega⟩ (fun c_2 => ?_) (fun c_2 => ?_)
  · skip
    refine lv_dload_n hx hb dX4_bitsOf_8 rfl (lv_at hl 0 rfl) ?_
    refine lv_dstore_n (lv' := [(2, .double d), (0, .double d)]) hx hb dX4_bitsOf_9 rfl hl (by decide) rfl (fun ls hl => ?_)
    refine lv_ldc2 hx hb hown w0 dX4_bitsOf_10 ?_
    refine lv_lstore (lv' := [(4, .long 1023), (2, .double d), (0, .double d)]) hx hb dX4_bitsOf_13 hl (by decide) rfl (fun ls hl => ?_)
    refine lv_iconst (v := iI 0) hx hb dX4_bitsOf_15 rfl ?_
    refine lv_istore (lv' := [(6, .int (iI 0)), (4, .long 1023), (2, .double d), (0, .double d)]) hx hb dX4_bitsOf_16 hl (by decide) rfl (fun ls hl => ?_)
    have L18 : ∀ (k_3 : Nat) (k : Int) (r : UInt64) (gk : 0 ≤ k) (gl : k ≤ 1023) (ge : (r.toNat : Int) = (d.toNat : Int) + k * 4503599627370496) (gm : 4503599627370496 ≤ r.toNat ∧ r.toNat < 4611686018427387904) (ls : Array Slot), lv_has ls 7 [(0, .double d), (2, .double r), (4, .long ((Int64.ofInt (1023 - k)))), (6, .int (iI k))] → (1023 - k).toNat < k_3 → W pZ l eZ ({ frames := 0, cells := 0, slots := 0, locals := 0 } : Room) sZ mZ [.double d].toArray bZ meZ cZ sZ.heap [] 0 0 (MQ bZ (vp_Sl (fun y9 => y9 = (Int64.ofNat d.toNat))) [.double d].toArray sZ 0 0 (fun _ => False)) (F0 mZ 18 ls []) := by
      intro k_3
      induction k_3 with
      | zero => intro k r gk gl ge gm ls hl hm_5; exact absurd hm_5 (Nat.not_lt_zero _)
      | succ k_3 ih_4 =>
        intro k r gk gl ge gm ls hl hm_5
        refine lv_iload hx hb dX4_bitsOf_18 (lv_at hl 3 rfl) ?_
        refine lv_i2l (v := (iI k).toInt64) hx hb dX4_bitsOf_20 rfl ?_
        refine lv_ldc2 hx hb hown w0 dX4_bitsOf_21 ?_
        refine lv_lcmp (v := iI (cmpI k 1023)) hx hb dX4_bitsOf_24 (lcmp_k ⟨by omega, by omega⟩) ?_
        have hk_6 := cmpI_c k 1023
        refine ln_if_ge (tgt := 52) hx hb dX4_bitsOf_25 (by decide) ⟨by omega, by omega⟩ (fun c_7 => ?_) (fun c_7 => ?_)
        · skip
          have hf9 := fp_fin (r := r) (by omega) gm.2
          refine lv_lload hx hb dX4_bitsOf_52 (lv_at hl 2 rfl) ?_
          refine lv_bipush (v := iI 52) hx hb dX4_bitsOf_54 (by decide) ?_
          refine lv_lshl (v := Int64.ofInt ((1023 - k) * 4503599627370496)) hx hb dX4_bitsOf_56 (shl52 (by omega) (by omega)) ?_
          refine lv_dload_n hx hb dX4_bitsOf_57 rfl (lv_at hl 1 rfl) ?_
          refine lv_dconst1 hx hb dX4_bitsOf_58 ?_
          refine lv_dsub hx hb dX4_bitsOf_59 (hf9.1) ?_
          refine lv_ldc2d hx hb hown w1 dX4_bitsOf_60 ?_
          refine lv_dmul hx hb dX4_bitsOf_63 (hf9.2.1) ?_
          refine lv_d2l hx hb dX4_bitsOf_64 ?_
          refine ln_topv (w := .long (Int64.ofNat (r.toNat - 4607182418800017408))) (congrArg Value.long (hf9.2.2)) ?_
          refine lv_ladd hx hb dX4_bitsOf_65 ?_
          exact pend_l hx hb hr hlk hS rfl (by exact bits_sum (by omega)) dX4_bitsOf_66
        · skip
          refine lv_dload_n hx hb dX4_bitsOf_28 rfl (lv_at hl 1 rfl) ?_
          refine lv_dconst1 hx hb dX4_bitsOf_29 ?_
          refine lv_dcmp hx hb dX4_bitsOf_30 ?_
          refine ln_topv (w := .int (iI (cmpN r.toNat 4607182418800017408))) (congrArg Value.int (fp_cmp (a := r) (by omega) (by decide) _)) ?_
          have hk_8 := cmpN_c r.toNat 4607182418800017408
          refine ln_if_ge (tgt := 52) hx hb dX4_bitsOf_31 (by decide) ⟨by omega, by omega⟩ (fun c_9 => ?_) (fun c_9 => ?_)
          · skip
            have hf9 := fp_fin (r := r) (by omega) gm.2
            refine lv_lload hx hb dX4_bitsOf_52 (lv_at hl 2 rfl) ?_
            refine lv_bipush (v := iI 52) hx hb dX4_bitsOf_54 (by decide) ?_
            refine lv_lshl (v := Int64.ofInt ((1023 - k) * 4503599627370496)) hx hb dX4_bitsOf_56 (shl52 (by omega) (by omega)) ?_
            refine lv_dload_n hx hb dX4_bitsOf_57 rfl (lv_at hl 1 rfl) ?_
            refine lv_dconst1 hx hb dX4_bitsOf_58 ?_
            refine lv_dsub hx hb dX4_bitsOf_59 (hf9.1) ?_
            refine lv_ldc2d hx hb hown w1 dX4_bitsOf_60 ?_
            refine lv_dmul hx hb dX4_bitsOf_63 (hf9.2.1) ?_
            refine lv_d2l hx hb dX4_bitsOf_64 ?_
            refine ln_topv (w := .long (Int64.ofNat (r.toNat - 4607182418800017408))) (congrArg Value.long (hf9.2.2)) ?_
            refine lv_ladd hx hb dX4_bitsOf_65 ?_
            exact pend_l hx hb hr hlk hS rfl (by exact bits_sum (by omega)) dX4_bitsOf_66
          · skip
            refine lv_dload_n hx hb dX4_bitsOf_34 rfl (lv_at hl 1 rfl) ?_
            refine lv_ldc2d hx hb hown w2 dX4_bitsOf_35 ?_
            refine lv_dmul hx hb dX4_bitsOf_38 (fp_nn (by rw [fp_dbl gm.1 (by omega)]; omega)) ?_
            refine lv_dstore_n (lv' := [(2, .double (FP.dmul r 4611686018427387904)), (0, .double d), (4, .long ((Int64.ofInt (1023 - k)))), (6, .int (iI k))]) hx hb dX4_bitsOf_39 rfl hl (by decide) rfl (fun ls hl => ?_)
            refine lv_lload hx hb dX4_bitsOf_40 (lv_at hl 2 rfl) ?_
            refine lv_lconst (v := 1) hx hb dX4_bitsOf_42 (by decide) ?_
            refine lv_lsub hx hb dX4_bitsOf_43 ?_
            refine lv_lstore (lv' := [(4, .long (((Int64.ofInt (1023 - k))) - 1)), (2, .double (FP.dmul r 4611686018427387904)), (0, .double d), (6, .int (iI k))]) hx hb dX4_bitsOf_44 hl (by decide) rfl (fun ls hl => ?_)
            refine lv_iinc (v := iI (k + 1)) (lv' := [(6, .int (iI (k + 1))), (4, .long (((Int64.ofInt (1023 - k))) - 1)), (2, .double (FP.dmul r 4611686018427387904)), (0, .double d)]) hx hb dX4_bitsOf_46 hl (k := 3) rfl (iI_add _ _) (by decide) rfl (fun ls hl => ?_)
            refine lv_goto (tgt := 18) hx hb dX4_bitsOf_49 (by decide) ?_
            have hl := lv_re hl 2 rfl (.double (FP.dmul r 0x4000000000000000)) (congrArg (fun z => Value.double z) (show (FP.dmul r 4611686018427387904) = (FP.dmul r 0x4000000000000000) from by first | rfl | omega))
            have hl := lv_re hl 1 rfl (.long ((Int64.ofInt (1023 - (k + 1))))) (congrArg (fun z => Value.long z) (show ((Int64.ofInt (1023 - k))) - 1 = (Int64.ofInt (1023 - (k + 1))) from ex_dec k))
            have hl : lv_has ls 7 [(6, .int (iI (k + 1))), (4, .long ((Int64.ofInt (1023 - (k + 1))))), (2, .double (FP.dmul r 0x4000000000000000)), (0, .double d)] := hl
            exact ih_4 (k + 1) (FP.dmul r 0x4000000000000000) (by omega) (by omega) (by rw [fp_dbl gm.1 (by omega)]; omega) (by rw [fp_dbl gm.1 (by omega)]; omega) _ (lv_sub hl [3, 2, 1, 0] rfl) (by omega)
    have hl := lv_re hl 1 rfl (.long ((Int64.ofInt (1023 - 0)))) (congrArg (fun z => Value.long z) (show 1023 = (Int64.ofInt (1023 - 0)) from by decide))
    have hl : lv_has ls 7 [(6, .int (iI 0)), (4, .long ((Int64.ofInt (1023 - 0)))), (2, .double d), (0, .double d)] := hl
    exact L18 _ 0 d (by omega) (by omega) (by omega) (by omega) _ (lv_sub hl [3, 2, 1, 0] rfl) (Nat.lt_succ_self _)
  · skip
    refine lv_lconst (v := 0) hx hb dX4_bitsOf_6 (by decide) ?_
    exact pend_l hx hb hr hlk hS rfl (by (rw [show d.toNat = 0 by omega]; rfl)) dX4_bitsOf_7
set_option maxHeartbeats 800000 in
set_option maxRecDepth 100000 in
theorem c_X4_seenShare_ok (l : Launch) (g : GT) (qx : Nat) (qv : Nat) (qi : Nat) (qb : Nat) (ty : Nat) (py : Nat) (tv : Nat) (dr : Int) (qy : Nat) (qs : Nat) (qn : Nat) (qf : Nat) (S9 : Int → Int) (E9 : Int → Int) (F9 : Int → Int) (vb : Int) (vg : Int) (vt : Int) (qh : Nat) (qc : Nat) (n : Int) (ho : Int) (h : Int → Int) (c : Int → Int) (hY : YOk n ho h c) (hV : VOk dr n h S9 E9 F9 vb vg vt) (gdr : dr = 0 ∨ dr = 1) : MutF l yX4_seenShare wsX4_seenShare ({ frames := 5, cells := 0, slots := 0, locals := 117 }) 0 0 g [(qx, .inr (4, [.ref qy, .ref qv, .ref qi, .ref qb, .ref ty, .ref py, .ref tv, .int (iI dr)])), (qv, .inr (2, [.ref qs, .ref qn, .ref qf, .int (iI vb), .int (iI vg), .int (iI vt)])), (qs, .inl (gI g, 512, .inl (aI S9))), (qn, .inl (gI g, 512, .inl (aI E9))), (qf, .inl (gI g, 864, .inl (aI F9))), (qy, .inr (3, [.ref qh, .ref qc, .int (iI n), .int (iI ho)])), (qh, .inl (gI g, 36, .inl (aI h))), (qc, .inl (gI g, 36, .inl (aI c)))] [.ref qx] (S := Int × (Int → Int) × (Int → Int) × (Int → Int) × Int × Int × Int) (fun (u9 : Int × (Int → Int) × (Int → Int) × (Int → Int) × Int × Int × Int) => match u9 with | (r2, S2, E2, F2, b2, g2, t2) => VOk r2 n h S2 E2 F2 b2 g2 t2 ∧ (r2 = 0 ∨ r2 = 1)) (fun (u9 : Int × (Int → Int) × (Int → Int) × (Int → Int) × Int × Int × Int) => match u9 with | (r2, S2, E2, F2, b2, g2, t2) => shareD (seenD n h) (countK n h n)) (fun (u9 : Int × (Int → Int) × (Int → Int) × (Int → Int) × Int × Int × Int) => match u9 with | (r2, S2, E2, F2, b2, g2, t2) => [(qx, .inr (4, [.ref qy, .ref qv, .ref qi, .ref qb, .ref ty, .ref py, .ref tv, .int (iI r2)])), (qv, .inr (2, [.ref qs, .ref qn, .ref qf, .int (iI b2), .int (iI g2), .int (iI t2)])), (qs, .inl (gI g, 512, .inl (aI S2))), (qn, .inl (gI g, 512, .inl (aI E2))), (qf, .inl (gI g, 864, .inl (aI F2))), (qy, .inr (3, [.ref qh, .ref qc, .int (iI n), .int (iI ho)])), (qh, .inl (gI g, 36, .inl (aI h))), (qc, .inl (gI g, 36, .inl (aI c)))]) := by
  refine mut_of (y := yX4_seenShare) (ws := wsX4_seenShare) (av := [.ref qx]) (w := [(qx, .inr (4, [.ref qy, .ref qv, .ref qi, .ref qb, .ref ty, .ref py, .ref tv, .int (iI dr)])), (qv, .inr (2, [.ref qs, .ref qn, .ref qf, .int (iI vb), .int (iI vg), .int (iI vt)])), (qs, .inl (gI g, 512, .inl (aI S9))), (qn, .inl (gI g, 512, .inl (aI E9))), (qf, .inl (gI g, 864, .inl (aI F9))), (qy, .inr (3, [.ref qh, .ref qc, .int (iI n), .int (iI ho)])), (qh, .inl (gI g, 36, .inl (aI h))), (qc, .inl (gI g, 36, .inl (aI c)))]) (Qc := fun A => va_Qd (fun x9 (u9 : Int × (Int → Int) × (Int → Int) × (Int → Int) × Int × Int × Int) => x9 = (fun (u9 : Int × (Int → Int) × (Int → Int) × (Int → Int) × Int × Int × Int) => match u9 with | (r2, S2, E2, F2, b2, g2, t2) => shareD (seenD n h) (countK n h n)) u9 ∧ (fun (u9 : Int × (Int → Int) × (Int → Int) × (Int → Int) × Int × Int × Int) => match u9 with | (r2, S2, E2, F2, b2, g2, t2) => VOk r2 n h S2 E2 F2 b2 g2 t2 ∧ (r2 = 0 ∨ r2 = 1)) u9) (fun u9 t9 => MB g ((fun (u9 : Int × (Int → Int) × (Int → Int) × (Int → Int) × Int × Int × Int) => match u9 with | (r2, S2, E2, F2, b2, g2, t2) => [(qx, .inr (4, [.ref qy, .ref qv, .ref qi, .ref qb, .ref ty, .ref py, .ref tv, .int (iI r2)])), (qv, .inr (2, [.ref qs, .ref qn, .ref qf, .int (iI b2), .int (iI g2), .int (iI t2)])), (qs, .inl (gI g, 512, .inl (aI S2))), (qn, .inl (gI g, 512, .inl (aI E2))), (qf, .inl (gI g, 864, .inl (aI F2))), (qy, .inr (3, [.ref qh, .ref qc, .int (iI n), .int (iI ho)])), (qh, .inl (gI g, 36, .inl (aI h))), (qc, .inl (gI g, 36, .inl (aI c)))]) u9) A t9) A) (cc := cX4_seenShare) (maxL := 2) (ret := (some .double)) (by decide) rfl (Nat.le_of_ble_eq_true rfl) ?_
  intro pZ eZ sZ mZ bZ meZ cZ A F hin hA hP hD hE hS ls hl
  obtain ⟨hx, hb, hr, hml, hts, hown, hlk⟩ := F
  skip
  have hown : sZ.vm.findClass RX4 = some mZ.cls := hown
  have hl : lv_has ls 2 [(0, .ref qx)] := hl
  skip
  have w0 := hts (.fieldLink RX4 12 "SlantYard" "yard" "LSlantYard$Yard;") (by decide +kernel)
  have in4 : ∀ w ∈ u_ws RX4 TX4 8, w ∈ wsX4_seenShare := by decide +kernel
  have in2 : ∀ w ∈ u_ws RX2 TX2 6, w ∈ wsX4_seenShare := by decide +kernel
  have hnn := hY.n
  have hho := hY.hr
  have hM9 : MOk (picM n h) := picM_ok hY
  have hI9 : MIn n h (picM n h) := picM_in hY
  refine lv_aload_n hx hb dX4_seenShare_0 rfl (lv_at hl 0 rfl) ?_
  refine va_get (D := g.1) (ci := 4) (v := .ref qy) (C := RX4) (T := TX4) (N := 8) hx hb hts in4 hown hE.1 hP 0 rfl rfl 0 (by decide) w0 (fun _ h9 => h9) rfl dX4_seenShare_1 ?_
  have hPc_1 := hP.sub (ws' := [(qy, .inr (3, [.ref qh, .ref qc, .int (iI n), .int (iI ho)])), (qh, .inl (gI g, 36, .inl (aI h))), (qc, .inl (gI g, 36, .inl (aI c)))]) [5, 6, 7] rfl
  refine pc_i (va_runV (As := []) (rest := []) ⟨hx, hb, hml, hown, hts⟩ (c_X3_blockCount l g qy qh qc n ho h c hY) (cwV 0 hts gX4_seenShare_X3_blockCount rfl rfl rfl (by decide +kernel) ⟨Nat.le_of_ble_eq_true rfl, Nat.le_of_ble_eq_true rfl⟩) (puV hE hS hPc_1 rfl rfl) rfl rfl hl.1 rfl (lv_room (Nat.le_of_ble_eq_true rfl)) dX4_seenShare_4 ⟨Nat.le_of_ble_eq_true rfl, Nat.le_of_ble_eq_true rfl⟩) ?_
  have r_2 : 0 ≤ countK n h n ∧ countK n h n ≤ 288 := by have := YOk.n hY; have := countK_rg (n := n) (YOk.h hY) (by omega) (k := n) (by omega); omega
  refine lv_istore_n (lv' := [(1, .int (iI (countK n h n))), (0, .ref qx)]) hx hb dX4_seenShare_7 rfl hl (by decide) rfl (fun ls hl => ?_)
  refine lv_iload_n hx hb dX4_seenShare_8 rfl (lv_at hl 0 rfl) ?_
  refine ln_if_ne (tgt := 14) hx hb dX4_seenShare_9 (by decide) ⟨by omega, by omega⟩ (fun c_3 => ?_) (fun c_3 => ?_)
  · skip
    refine lv_aload_n hx hb dX4_seenShare_14 rfl (lv_at hl 1 rfl) ?_
    have hPc_4 := hP.sub (ws' := [(qx, .inr (4, [.ref qy, .ref qv, .ref qi, .ref qb, .ref ty, .ref py, .ref tv, .int (iI dr)])), (qv, .inr (2, [.ref qs, .ref qn, .ref qf, .int (iI vb), .int (iI vg), .int (iI vt)])), (qs, .inl (gI g, 512, .inl (aI S9))), (qn, .inl (gI g, 512, .inl (aI E9))), (qf, .inl (gI g, 864, .inl (aI F9))), (qy, .inr (3, [.ref qh, .ref qc, .int (iI n), .int (iI ho)])), (qh, .inl (gI g, 36, .inl (aI h))), (qc, .inl (gI g, 36, .inl (aI c)))]) [0, 1, 2, 3, 4, 5, 6, 7] rfl
    have hDc_5 := hD.sub (ws' := [(qx, .inr (4, [.ref qy, .ref qv, .ref qi, .ref qb, .ref ty, .ref py, .ref tv, .int (iI dr)])), (qv, .inr (2, [.ref qs, .ref qn, .ref qf, .int (iI vb), .int (iI vg), .int (iI vt)])), (qs, .inl (gI g, 512, .inl (aI S9))), (qn, .inl (gI g, 512, .inl (aI E9))), (qf, .inl (gI g, 864, .inl (aI F9))), (qy, .inr (3, [.ref qh, .ref qc, .int (iI n), .int (iI ho)])), (qh, .inl (gI g, 36, .inl (aI h))), (qc, .inl (gI g, 36, .inl (aI c)))]) [0, 1, 2, 3, 4, 5, 6, 7] (by decide) rfl
    have hFc_6 := va_free (wc := [(qx, .inr (4, [.ref qy, .ref qv, .ref qi, .ref qb, .ref ty, .ref py, .ref tv, .int (iI dr)])), (qv, .inr (2, [.ref qs, .ref qn, .ref qf, .int (iI vb), .int (iI vg), .int (iI vt)])), (qs, .inl (gI g, 512, .inl (aI S9))), (qn, .inl (gI g, 512, .inl (aI E9))), (qf, .inl (gI g, 864, .inl (aI F9))), (qy, .inr (3, [.ref qh, .ref qc, .int (iI n), .int (iI ho)])), (qh, .inl (gI g, 36, .inl (aI h))), (qc, .inl (gI g, 36, .inl (aI c)))]) hD hS hA [0, 1, 2, 3, 4, 5, 6, 7] rfl
    refine mc_q (wr := []) (cells1 := 0) (slots1 := 0) (va_runV (As := []) (rest := []) ⟨hx, hb, hml, hown, hts⟩ (c_X4_drawnView l g qx qv qi qb ty py tv dr qy qs qn qf S9 E9 F9 vb vg vt qh qc n ho h c hY hV gdr sZ.heap.size) (cwV 0 hts gX4_seenShare_X4_drawnView rfl rfl rfl (by decide +kernel) ⟨Nat.le_of_ble_eq_true rfl, Nat.le_of_ble_eq_true rfl⟩) (muV hE hS hPc_4 hDc_5 hFc_6 rfl rfl) rfl rfl hl.1 rfl (lv_room (Nat.le_of_ble_eq_true rfl)) dX4_seenShare_15 ⟨Nat.le_of_ble_eq_true rfl, Nat.le_of_ble_eq_true rfl⟩) hP hD hS hA [0, 1, 2, 3, 4, 5, 6, 7] [] [0, 1, 2, 3, 4, 5, 6, 7] rfl rfl (by decide) (by decide) (fun _ => [(qx, .inr (4, [.ref qy, .ref qv, .ref qi, .ref qb, .ref ty, .ref py, .ref tv, .int (iI 1)])), (qv, .inr (2, [.ref qs, .ref qn, .ref qf, .int (iI ((distL (blkF (picM n h)) 288 512))), .int (iI ((distL (faceF (picM n h)) 864 512))), .int (iI ((litK (picM n h) 512)))])), (qs, .inl (gI g, 512, .inl (aI ((faceF (picM n h)))))), (qn, .inl (gI g, 512, .inl (aI ((nearF (picM n h)))))), (qf, .inl (gI g, 864, .inl (aI ((ofF (picM n h) 512))))), (qy, .inr (3, [.ref qh, .ref qc, .int (iI n), .int (iI ho)])), (qh, .inl (gI g, 36, .inl (aI h))), (qc, .inl (gI g, 36, .inl (aI c)))]) (fun _ => rfl) (by decide) (Nat.le_of_ble_eq_true rfl) (Nat.le_of_ble_eq_true rfl) (fun u9 H locs hu_7 hP hD hS => ?_)
    have hP : va_P g.1 vwCl [(qx, .inr (4, [.ref qy, .ref qv, .ref qi, .ref qb, .ref ty, .ref py, .ref tv, .int (iI 1)])), (qv, .inr (2, [.ref qs, .ref qn, .ref qf, .int (iI ((distL (blkF (picM n h)) 288 512))), .int (iI ((distL (faceF (picM n h)) 864 512))), .int (iI ((litK (picM n h) 512)))])), (qs, .inl (gI g, 512, .inl (aI ((faceF (picM n h)))))), (qn, .inl (gI g, 512, .inl (aI ((nearF (picM n h)))))), (qf, .inl (gI g, 864, .inl (aI ((ofF (picM n h) 512))))), (qy, .inr (3, [.ref qh, .ref qc, .int (iI n), .int (iI ho)])), (qh, .inl (gI g, 36, .inl (aI h))), (qc, .inl (gI g, 36, .inl (aI c)))] H := hP
    have hD : va_D A [(qx, .inr (4, [.ref qy, .ref qv, .ref qi, .ref qb, .ref ty, .ref py, .ref tv, .int (iI 1)])), (qv, .inr (2, [.ref qs, .ref qn, .ref qf, .int (iI ((distL (blkF (picM n h)) 288 512))), .int (iI ((distL (faceF (picM n h)) 864 512))), .int (iI ((litK (picM n h) 512)))])), (qs, .inl (gI g, 512, .inl (aI ((faceF (picM n h)))))), (qn, .inl (gI g, 512, .inl (aI ((nearF (picM n h)))))), (qf, .inl (gI g, 864, .inl (aI ((ofF (picM n h) 512))))), (qy, .inr (3, [.ref qh, .ref qc, .int (iI n), .int (iI ho)])), (qh, .inl (gI g, 36, .inl (aI h))), (qc, .inl (gI g, 36, .inl (aI c)))] := hD
    refine ln_topv (w := .ref qv) rfl ?_
    refine va_getN (D := g.1) (ci := 2) (v := .int (iI ((distL (blkF (picM n h)) 288 512)))) (C := RX2) (T := TX2) (N := 6) hx hb hts in2 hown hE.1 hP 1 rfl rfl 3 (by decide) (va_Nw.use rfl (hE.2.1.2.1 (RX4, 110, "SlantYard$View", "blocks", "I", RX4) (by decide +kernel))) (fun _ h9 => h9) rfl dX4_seenShare_18 ?_
    refine lv_i2d hx hb dX4_seenShare_21 ?_
    refine lv_iload_n hx hb dX4_seenShare_22 rfl (lv_at hl 0 rfl) ?_
    refine lv_i2d hx hb dX4_seenShare_23 ?_
    refine lv_ddiv hx hb dX4_seenShare_24 (dOk.nn (div_ok (seenD_rg n h).1 (seen_le hY) (count_le hY).2 (by omega))) ?_
    have hf_8 : (distL (blkF (picM n h)) 288 512) = ((distL (blkF (picM n h)) 288 512)) := by omega
    have hP := hP.recl 1 rfl (.inr (2, [.ref qs, .ref qn, .ref qf, .int (iI (((distL (blkF (picM n h)) 288 512)))), .int (iI ((distL (faceF (picM n h)) 864 512))), .int (iI ((litK (picM n h) 512)))])) (congrArg (fun z9 => (Sum.inr (2, [.ref qs, .ref qn, .ref qf, .int (iI z9), .int (iI ((distL (faceF (picM n h)) 864 512))), .int (iI ((litK (picM n h) 512)))]) : va_E)) hf_8)
    have hD := hD.set (p := 1) (e := .inr (2, [.ref qs, .ref qn, .ref qf, .int (iI (((distL (blkF (picM n h)) 288 512)))), .int (iI ((distL (faceF (picM n h)) 864 512))), .int (iI ((litK (picM n h) 512)))])) rfl
    have hf_9 : (distL (faceF (picM n h)) 864 512) = ((distL (faceF (picM n h)) 864 512)) := by omega
    have hP := hP.recl 1 rfl (.inr (2, [.ref qs, .ref qn, .ref qf, .int (iI (((distL (blkF (picM n h)) 288 512)))), .int (iI (((distL (faceF (picM n h)) 864 512)))), .int (iI ((litK (picM n h) 512)))])) (congrArg (fun z9 => (Sum.inr (2, [.ref qs, .ref qn, .ref qf, .int (iI (((distL (blkF (picM n h)) 288 512)))), .int (iI z9), .int (iI ((litK (picM n h) 512)))]) : va_E)) hf_9)
    have hD := hD.set (p := 1) (e := .inr (2, [.ref qs, .ref qn, .ref qf, .int (iI (((distL (blkF (picM n h)) 288 512)))), .int (iI (((distL (faceF (picM n h)) 864 512)))), .int (iI ((litK (picM n h) 512)))])) rfl
    have hf_10 : (litK (picM n h) 512) = ((litK (picM n h) 512)) := by omega
    have hP := hP.recl 1 rfl (.inr (2, [.ref qs, .ref qn, .ref qf, .int (iI (((distL (blkF (picM n h)) 288 512)))), .int (iI (((distL (faceF (picM n h)) 864 512)))), .int (iI (((litK (picM n h) 512))))])) (congrArg (fun z9 => (Sum.inr (2, [.ref qs, .ref qn, .ref qf, .int (iI (((distL (blkF (picM n h)) 288 512)))), .int (iI (((distL (faceF (picM n h)) 864 512)))), .int (iI z9)]) : va_E)) hf_10)
    have hD := hD.set (p := 1) (e := .inr (2, [.ref qs, .ref qn, .ref qf, .int (iI (((distL (blkF (picM n h)) 288 512)))), .int (iI (((distL (faceF (picM n h)) 864 512)))), .int (iI (((litK (picM n h) 512))))])) rfl
    have hP := hP.recell 2 rfl (((faceF (picM n h)))) (fun j h0 h1 => by omega)
    have hD := hD.set (p := 2) (e := .inl (gI g, 512, .inl (aI (((faceF (picM n h))))))) rfl
    have hP := hP.recell 3 rfl (((nearF (picM n h)))) (fun j h0 h1 => by omega)
    have hD := hD.set (p := 3) (e := .inl (gI g, 512, .inl (aI (((nearF (picM n h))))))) rfl
    have hP := hP.recell 4 rfl (((ofF (picM n h) 512))) (fun j h0 h1 => by omega)
    have hD := hD.set (p := 4) (e := .inl (gI g, 864, .inl (aI (((ofF (picM n h) 512)))))) rfl
    have hP : va_P g.1 vwCl [(qx, .inr (4, [.ref qy, .ref qv, .ref qi, .ref qb, .ref ty, .ref py, .ref tv, .int (iI 1)])), (qv, .inr (2, [.ref qs, .ref qn, .ref qf, .int (iI (((distL (blkF (picM n h)) 288 512)))), .int (iI (((distL (faceF (picM n h)) 864 512)))), .int (iI (((litK (picM n h) 512))))])), (qs, .inl (gI g, 512, .inl (aI (((faceF (picM n h))))))), (qn, .inl (gI g, 512, .inl (aI (((nearF (picM n h))))))), (qf, .inl (gI g, 864, .inl (aI (((ofF (picM n h) 512)))))), (qy, .inr (3, [.ref qh, .ref qc, .int (iI n), .int (iI ho)])), (qh, .inl (gI g, 36, .inl (aI h))), (qc, .inl (gI g, 36, .inl (aI c)))] _ := hP
    have hD : va_D A [(qx, .inr (4, [.ref qy, .ref qv, .ref qi, .ref qb, .ref ty, .ref py, .ref tv, .int (iI 1)])), (qv, .inr (2, [.ref qs, .ref qn, .ref qf, .int (iI (((distL (blkF (picM n h)) 288 512)))), .int (iI (((distL (faceF (picM n h)) 864 512)))), .int (iI (((litK (picM n h) 512))))])), (qs, .inl (gI g, 512, .inl (aI (((faceF (picM n h))))))), (qn, .inl (gI g, 512, .inl (aI (((nearF (picM n h))))))), (qf, .inl (gI g, 864, .inl (aI (((ofF (picM n h) 512)))))), (qy, .inr (3, [.ref qh, .ref qc, .int (iI n), .int (iI ho)])), (qh, .inl (gI g, 36, .inl (aI h))), (qc, .inl (gI g, 36, .inl (aI c)))] := hD
    exact mend_d (S := Int × (Int → Int) × (Int → Int) × (Int → Int) × Int × Int × Int) (w' := (fun (u9 : Int × (Int → Int) × (Int → Int) × (Int → Int) × Int × Int × Int) => match u9 with | (r2, S2, E2, F2, b2, g2, t2) => [(qx, .inr (4, [.ref qy, .ref qv, .ref qi, .ref qb, .ref ty, .ref py, .ref tv, .int (iI r2)])), (qv, .inr (2, [.ref qs, .ref qn, .ref qf, .int (iI b2), .int (iI g2), .int (iI t2)])), (qs, .inl (gI g, 512, .inl (aI S2))), (qn, .inl (gI g, 512, .inl (aI E2))), (qf, .inl (gI g, 864, .inl (aI F2))), (qy, .inr (3, [.ref qh, .ref qc, .int (iI n), .int (iI ho)])), (qh, .inl (gI g, 36, .inl (aI h))), (qc, .inl (gI g, 36, .inl (aI c)))])) (post := (fun (u9 : Int × (Int → Int) × (Int → Int) × (Int → Int) × Int × Int × Int) => match u9 with | (r2, S2, E2, F2, b2, g2, t2) => VOk r2 n h S2 E2 F2 b2 g2 t2 ∧ (r2 = 0 ∨ r2 = 1))) (r := (fun (u9 : Int × (Int → Int) × (Int → Int) × (Int → Int) × Int × Int × Int) => match u9 with | (r2, S2, E2, F2, b2, g2, t2) => shareD (seenD n h) (countK n h n))) hx hb hr hlk hS (1, ((faceF (picM n h))), ((nearF (picM n h))), ((ofF (picM n h) 512)), ((distL (blkF (picM n h)) 288 512)), ((distL (faceF (picM n h)) 864 512)), ((litK (picM n h) 512))) hP hD (⟨by first | exact hV | exact VOk.pic _ _ _, by first | exact gdr | exact Or.inr rfl⟩) (by (show _ = shareD (seenD n h) (countK n h n); unfold shareD; first | (rw [if_pos (by omega)]) | (rw [if_neg (by omega)]; rfl))) (Nat.le_of_ble_eq_true rfl) (Nat.le_of_ble_eq_true rfl) dX4_seenShare_25
  · skip
    refine lv_dconst1 hx hb dX4_seenShare_12 ?_
    have hP : va_P g.1 vwCl [(qx, .inr (4, [.ref qy, .ref qv, .ref qi, .ref qb, .ref ty, .ref py, .ref tv, .int (iI dr)])), (qv, .inr (2, [.ref qs, .ref qn, .ref qf, .int (iI vb), .int (iI vg), .int (iI vt)])), (qs, .inl (gI g, 512, .inl (aI S9))), (qn, .inl (gI g, 512, .inl (aI E9))), (qf, .inl (gI g, 864, .inl (aI F9))), (qy, .inr (3, [.ref qh, .ref qc, .int (iI n), .int (iI ho)])), (qh, .inl (gI g, 36, .inl (aI h))), (qc, .inl (gI g, 36, .inl (aI c)))] _ := hP
    have hD : va_D A [(qx, .inr (4, [.ref qy, .ref qv, .ref qi, .ref qb, .ref ty, .ref py, .ref tv, .int (iI dr)])), (qv, .inr (2, [.ref qs, .ref qn, .ref qf, .int (iI vb), .int (iI vg), .int (iI vt)])), (qs, .inl (gI g, 512, .inl (aI S9))), (qn, .inl (gI g, 512, .inl (aI E9))), (qf, .inl (gI g, 864, .inl (aI F9))), (qy, .inr (3, [.ref qh, .ref qc, .int (iI n), .int (iI ho)])), (qh, .inl (gI g, 36, .inl (aI h))), (qc, .inl (gI g, 36, .inl (aI c)))] := hD
    exact mend_d (S := Int × (Int → Int) × (Int → Int) × (Int → Int) × Int × Int × Int) (w' := (fun (u9 : Int × (Int → Int) × (Int → Int) × (Int → Int) × Int × Int × Int) => match u9 with | (r2, S2, E2, F2, b2, g2, t2) => [(qx, .inr (4, [.ref qy, .ref qv, .ref qi, .ref qb, .ref ty, .ref py, .ref tv, .int (iI r2)])), (qv, .inr (2, [.ref qs, .ref qn, .ref qf, .int (iI b2), .int (iI g2), .int (iI t2)])), (qs, .inl (gI g, 512, .inl (aI S2))), (qn, .inl (gI g, 512, .inl (aI E2))), (qf, .inl (gI g, 864, .inl (aI F2))), (qy, .inr (3, [.ref qh, .ref qc, .int (iI n), .int (iI ho)])), (qh, .inl (gI g, 36, .inl (aI h))), (qc, .inl (gI g, 36, .inl (aI c)))])) (post := (fun (u9 : Int × (Int → Int) × (Int → Int) × (Int → Int) × Int × Int × Int) => match u9 with | (r2, S2, E2, F2, b2, g2, t2) => VOk r2 n h S2 E2 F2 b2 g2 t2 ∧ (r2 = 0 ∨ r2 = 1))) (r := (fun (u9 : Int × (Int → Int) × (Int → Int) × (Int → Int) × Int × Int × Int) => match u9 with | (r2, S2, E2, F2, b2, g2, t2) => shareD (seenD n h) (countK n h n))) hx hb hr hlk hS (dr, S9, E9, F9, vb, vg, vt) hP hD (⟨by first | exact hV | exact VOk.pic _ _ _, by first | exact gdr | exact Or.inr rfl⟩) (by (show _ = shareD (seenD n h) (countK n h n); unfold shareD; first | (rw [if_pos (by omega)]) | (rw [if_neg (by omega)]; rfl))) (Nat.le_of_ble_eq_true rfl) (Nat.le_of_ble_eq_true rfl) dX4_seenShare_13

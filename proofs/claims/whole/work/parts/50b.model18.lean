set_option maxHeartbeats 800000 in
set_option maxRecDepth 100000 in
theorem c_X5_put_ok (l : Launch) (g : GT) (qm : Nat) (th : Int) (mz : Nat) (ms : Nat) (hn : Int) (mp : Nat) (mb : Nat) (L : Int) (m1 : Nat) (m2 : Nat) (m3 : Nat) (mB : Nat) (mF : Nat) (mN : Nat) (mS : Nat) (sT : Int) (mW : Nat) (acc : Int64) (n : Int) (ho : Int) (h : Int → Int) (c : Int → Int) (f : Int → Int) (x : Int) (y : Int) (d : Int) (hY : YOk n ho h c) (hh : 0 ≤ hn ∧ hn ≤ 6) (h1 : 0 ≤ x) (h2 : x < n) (h3 : 0 ≤ y) (h4 : y < n) (gd : 0 ≤ d ∧ d ≤ 3) (g8 : h (y * 6 + x) < 8) : MutI l yX5_put wsX5_put ({ frames := 2, cells := 0, slots := 0, locals := 45 }) 0 0 g [(qm, .inr (5, [.int (iI th), .ref mz, .ref ms, .int (iI hn), .ref mp, .ref mb, .int (iI L), .ref m1, .ref m2, .ref m3, .ref mB, .ref mF, .ref mN, .ref mS, .int (iI sT), .ref mW, .long acc])), (mz, .inl (gI g, 326, .inl (aI (zF n ho h c)))), (ms, .inl (gI g, 1956, .inl (aI f)))] [.ref qm, .int (iI x), .int (iI y), .int (iI d)] (S := Unit) (fun _ => True) (fun _ => h (y * 6 + x) + 1) (fun _ => [(qm, .inr (5, [.int (iI 0), .ref mz, .ref ms, .int (iI (svL hn + 1)), .ref mp, .ref mb, .int (iI L), .ref m1, .ref m2, .ref m3, .ref mB, .ref mF, .ref mN, .ref mS, .int (iI sT), .ref mW, .long acc])), (mz, .inl (gI g, 326, .inl (aI ((zF n ho (updI h (y * 6 + x) (h (y * 6 + x) + 1)) (updI c (y * 6 + x) (c (y * 6 + x) + d * p4 (h (y * 6 + x))))))))), (ms, .inl (gI g, 1956, .inl (aI ((svM (olF f hn) (svL hn) (zF n ho h c) 326)))))]) := by
  refine mut_of (y := yX5_put) (ws := wsX5_put) (av := [.ref qm, .int (iI x), .int (iI y), .int (iI d)]) (w := [(qm, .inr (5, [.int (iI th), .ref mz, .ref ms, .int (iI hn), .ref mp, .ref mb, .int (iI L), .ref m1, .ref m2, .ref m3, .ref mB, .ref mF, .ref mN, .ref mS, .int (iI sT), .ref mW, .long acc])), (mz, .inl (gI g, 326, .inl (aI (zF n ho h c)))), (ms, .inl (gI g, 1956, .inl (aI f)))]) (Qc := fun A => va_Qi (fun x9 (u9 : Unit) => x9 = iI ((fun _ => h (y * 6 + x) + 1) u9) ∧ (fun _ => True) u9) (fun u9 t9 => MB g ((fun _ => [(qm, .inr (5, [.int (iI 0), .ref mz, .ref ms, .int (iI (svL hn + 1)), .ref mp, .ref mb, .int (iI L), .ref m1, .ref m2, .ref m3, .ref mB, .ref mF, .ref mN, .ref mS, .int (iI sT), .ref mW, .long acc])), (mz, .inl (gI g, 326, .inl (aI ((zF n ho (updI h (y * 6 + x) (h (y * 6 + x) + 1)) (updI c (y * 6 + x) (c (y * 6 + x) + d * p4 (h (y * 6 + x))))))))), (ms, .inl (gI g, 1956, .inl (aI ((svM (olF f hn) (svL hn) (zF n ho h c) 326)))))]) u9) A t9) A) (cc := cX5_put) (maxL := 4) (ret := (some .int)) (by decide) rfl (Nat.le_of_ble_eq_true rfl) ?_
  intro pZ eZ sZ mZ bZ meZ cZ A F hin hA hP hD hE hS ls hl
  obtain ⟨hx, hb, hr, hml, hts, hown, hlk⟩ := F
  skip
  have hown : sZ.vm.findClass RX5 = some mZ.cls := hown
  have hl : lv_has ls 4 [(0, .ref qm), (1, .int (iI x)), (2, .int (iI y)), (3, .int (iI d))] := hl
  skip
  have w0 := hts (.fieldLink RX5 47 "SlantYardModel" "thrown" "I") (by decide +kernel)
  have in5 : ∀ w ∈ u_ws RX5 TX5 17, w ∈ wsX5_put := by decide +kernel
  have hnn := hY.n
  have hho := hY.hr
  have hh9 := YOk.h hY (y * 6 + x)
  refine lv_aload_n hx hb dX5_put_0 rfl (lv_at hl 0 rfl) ?_
  refine lv_aload_n hx hb dX5_put_1 rfl (lv_at hl 0 rfl) ?_
  refine lv_iload_n hx hb dX5_put_2 rfl (lv_at hl 1 rfl) ?_
  refine lv_iload_n hx hb dX5_put_3 rfl (lv_at hl 2 rfl) ?_
  have hPc_1 := hP.sub (ws' := [(qm, .inr (5, [.int (iI th), .ref mz, .ref ms, .int (iI hn), .ref mp, .ref mb, .int (iI L), .ref m1, .ref m2, .ref m3, .ref mB, .ref mF, .ref mN, .ref mS, .int (iI sT), .ref mW, .long acc])), (mz, .inl (gI g, 326, .inl (aI (zF n ho h c))))]) [0, 1] rfl
  refine pc_i (va_runV (As := [.int (iI x), .int (iI y)]) (rest := [.ref qm]) ⟨hx, hb, hml, hown, hts⟩ (c_X5_isSquare l g qm th mz ms hn mp mb L m1 m2 m3 mB mF mN mS sT mW acc n ho h c x y hY (by omega) (by omega)) (cwV 2 hts gX5_put_X5_isSquare rfl rfl rfl (by decide +kernel) ⟨Nat.le_of_ble_eq_true rfl, Nat.le_of_ble_eq_true rfl⟩) (puV hE hS hPc_1 rfl rfl) rfl rfl hl.1 rfl (lv_room (Nat.le_of_ble_eq_true rfl)) dX5_put_4 ⟨Nat.le_of_ble_eq_true rfl, Nat.le_of_ble_eq_true rfl⟩) ?_
  refine lb_if_ne (tgt := 14) hx hb dX5_put_7 (by decide) (fun c_2 => ?_) (fun c_2 => ?_)
  · skip
    refine lv_iload_n hx hb dX5_put_14 rfl (lv_at hl 3 rfl) ?_
    refine pc_i (va_runS (As := [.int (iI d)]) (rest := [.ref qm]) ⟨hx, hb, hml, hown, hts⟩ (c_X5_isColour l g d (by omega)) (va_cwS 1 hts gX5_put_X5_isColour rfl rfl rfl (by decide +kernel) ⟨Nat.le_of_ble_eq_true rfl, Nat.le_of_ble_eq_true rfl⟩) (puS hE hS (va_P_nil g.1 _)) rfl rfl hl.1 rfl (lv_room (Nat.le_of_ble_eq_true rfl)) dX5_put_15 ⟨Nat.le_of_ble_eq_true rfl, Nat.le_of_ble_eq_true rfl⟩) ?_
    refine lb_if_ne (tgt := 25) hx hb dX5_put_18 (by decide) (fun c_3 => ?_) (fun c_3 => ?_)
    · skip
      refine lv_aload_n hx hb dX5_put_25 rfl (lv_at hl 0 rfl) ?_
      refine lv_iload_n hx hb dX5_put_26 rfl (lv_at hl 1 rfl) ?_
      refine lv_iload_n hx hb dX5_put_27 rfl (lv_at hl 2 rfl) ?_
      have hPc_4 := hP.sub (ws' := [(qm, .inr (5, [.int (iI th), .ref mz, .ref ms, .int (iI hn), .ref mp, .ref mb, .int (iI L), .ref m1, .ref m2, .ref m3, .ref mB, .ref mF, .ref mN, .ref mS, .int (iI sT), .ref mW, .long acc])), (mz, .inl (gI g, 326, .inl (aI (zF n ho h c))))]) [0, 1] rfl
      refine pc_i (va_runV (As := [.int (iI x), .int (iI y)]) (rest := [.ref qm]) ⟨hx, hb, hml, hown, hts⟩ (c_X5_height l g qm th mz ms hn mp mb L m1 m2 m3 mB mF mN mS sT mW acc n ho h c x y hY h1 h2 h3 h4) (cwV 2 hts gX5_put_X5_height rfl rfl rfl (by decide +kernel) ⟨Nat.le_of_ble_eq_true rfl, Nat.le_of_ble_eq_true rfl⟩) (puV hE hS hPc_4 rfl rfl) rfl rfl hl.1 rfl (lv_room (Nat.le_of_ble_eq_true rfl)) dX5_put_28 ⟨Nat.le_of_ble_eq_true rfl, Nat.le_of_ble_eq_true rfl⟩) ?_
      have r_5 : 0 ≤ h (y * 6 + x) ∧ h (y * 6 + x) ≤ 8 := YOk.h hY (y * 6 + x)
      refine lv_bipush (v := iI 8) hx hb dX5_put_31 (by decide) ?_
      refine ln_icmp_ne (tgt := 40) hx hb dX5_put_33 (by decide) ⟨by omega, by omega⟩ (by decide) (fun c_6 => ?_) (fun c_6 => ?_)
      · skip
        refine lv_iconst (v := iI 0) hx hb dX5_put_40 rfl ?_
        refine va_put (D := g.1) (ci := 5) (v := .int (iI 0)) (ty := .int) (C := RX5) (T := TX5) (N := 17) hx hb hts in5 tyX5 tyX5_ok nmX5 hown hE.1 hP hD hS 0 rfl rfl 0 (by decide) w0 (fun _ h9 => h9) rfl (by decide +kernel) rfl rfl (Nat.le_of_ble_eq_true rfl) dX5_put_41 (fun H locs hP hD hS => ?_)
        have hP : va_P g.1 vwCl [(qm, .inr (5, [.int (iI 0), .ref mz, .ref ms, .int (iI hn), .ref mp, .ref mb, .int (iI L), .ref m1, .ref m2, .ref m3, .ref mB, .ref mF, .ref mN, .ref mS, .int (iI sT), .ref mW, .long acc])), (mz, .inl (gI g, 326, .inl (aI (zF n ho h c)))), (ms, .inl (gI g, 1956, .inl (aI f)))] H := hP
        have hD : va_D A [(qm, .inr (5, [.int (iI 0), .ref mz, .ref ms, .int (iI hn), .ref mp, .ref mb, .int (iI L), .ref m1, .ref m2, .ref m3, .ref mB, .ref mF, .ref mN, .ref mS, .int (iI sT), .ref mW, .long acc])), (mz, .inl (gI g, 326, .inl (aI (zF n ho h c)))), (ms, .inl (gI g, 1956, .inl (aI f)))] := hD
        refine lv_aload_n hx hb dX5_put_44 rfl (lv_at hl 0 rfl) ?_
        refine va_get (D := g.1) (ci := 5) (v := .int (iI 0)) (C := RX5) (T := TX5) (N := 17) hx hb hts in5 hown hE.1 hP 0 rfl rfl 0 (by decide) w0 (fun _ h9 => h9) rfl dX5_put_45 ?_
        refine ln_if_le (tgt := 53) hx hb dX5_put_48 (by decide) (by decide) (fun c_7 => ?_) (fun c_7 => ?_)
        · skip
          refine lv_aload_n hx hb dX5_put_53 rfl (lv_at hl 0 rfl) ?_
          have hPc_8 := hP.sub (ws' := [(qm, .inr (5, [.int (iI 0), .ref mz, .ref ms, .int (iI hn), .ref mp, .ref mb, .int (iI L), .ref m1, .ref m2, .ref m3, .ref mB, .ref mF, .ref mN, .ref mS, .int (iI sT), .ref mW, .long acc])), (mz, .inl (gI g, 326, .inl (aI (zF n ho h c)))), (ms, .inl (gI g, 1956, .inl (aI f)))]) [0, 1, 2] rfl
          have hDc_9 := hD.sub (ws' := [(qm, .inr (5, [.int (iI 0), .ref mz, .ref ms, .int (iI hn), .ref mp, .ref mb, .int (iI L), .ref m1, .ref m2, .ref m3, .ref mB, .ref mF, .ref mN, .ref mS, .int (iI sT), .ref mW, .long acc])), (mz, .inl (gI g, 326, .inl (aI (zF n ho h c)))), (ms, .inl (gI g, 1956, .inl (aI f)))]) [0, 1, 2] (by decide) rfl
          have hFc_10 := va_free (wc := [(qm, .inr (5, [.int (iI 0), .ref mz, .ref ms, .int (iI hn), .ref mp, .ref mb, .int (iI L), .ref m1, .ref m2, .ref m3, .ref mB, .ref mF, .ref mN, .ref mS, .int (iI sT), .ref mW, .long acc])), (mz, .inl (gI g, 326, .inl (aI (zF n ho h c)))), (ms, .inl (gI g, 1956, .inl (aI f)))]) hD hS hA [0, 1, 2] rfl
          refine mc_v (wr := []) (cells1 := 0) (slots1 := 0) (va_runV (As := []) (rest := []) ⟨hx, hb, hml, hown, hts⟩ (c_X5_save l g qm 0 mz ms hn mp mb L m1 m2 m3 mB mF mN mS sT mW acc n ho h c f hh H.size) (cwV 0 hts gX5_put_X5_save rfl rfl rfl (by decide +kernel) ⟨Nat.le_of_ble_eq_true rfl, Nat.le_of_ble_eq_true rfl⟩) (muV hE hS hPc_8 hDc_9 hFc_10 rfl rfl) rfl rfl hl.1 rfl (lv_room (Nat.le_of_ble_eq_true rfl)) dX5_put_54 ⟨Nat.le_of_ble_eq_true rfl, Nat.le_of_ble_eq_true rfl⟩) hP hD hS hA [0, 1, 2] [] [0, 1, 2] rfl rfl (by decide) (by decide) (fun _ => [(qm, .inr (5, [.int (iI 0), .ref mz, .ref ms, .int (iI (svL hn + 1)), .ref mp, .ref mb, .int (iI L), .ref m1, .ref m2, .ref m3, .ref mB, .ref mF, .ref mN, .ref mS, .int (iI sT), .ref mW, .long acc])), (mz, .inl (gI g, 326, .inl (aI (zF n ho h c)))), (ms, .inl (gI g, 1956, .inl (aI ((svM (olF f hn) (svL hn) (zF n ho h c) 326)))))]) (fun _ => rfl) (by decide) (Nat.le_of_ble_eq_true rfl) (Nat.le_of_ble_eq_true rfl) (fun u9 H locs hu_11 hP hD hS => ?_)
          have hP : va_P g.1 vwCl [(qm, .inr (5, [.int (iI 0), .ref mz, .ref ms, .int (iI (svL hn + 1)), .ref mp, .ref mb, .int (iI L), .ref m1, .ref m2, .ref m3, .ref mB, .ref mF, .ref mN, .ref mS, .int (iI sT), .ref mW, .long acc])), (mz, .inl (gI g, 326, .inl (aI (zF n ho h c)))), (ms, .inl (gI g, 1956, .inl (aI ((svM (olF f hn) (svL hn) (zF n ho h c) 326)))))] H := hP
          have hD : va_D A [(qm, .inr (5, [.int (iI 0), .ref mz, .ref ms, .int (iI (svL hn + 1)), .ref mp, .ref mb, .int (iI L), .ref m1, .ref m2, .ref m3, .ref mB, .ref mF, .ref mN, .ref mS, .int (iI sT), .ref mW, .long acc])), (mz, .inl (gI g, 326, .inl (aI (zF n ho h c)))), (ms, .inl (gI g, 1956, .inl (aI ((svM (olF f hn) (svL hn) (zF n ho h c) 326)))))] := hD
          refine lv_aload_n hx hb dX5_put_57 rfl (lv_at hl 0 rfl) ?_
          refine lv_iload_n hx hb dX5_put_58 rfl (lv_at hl 1 rfl) ?_
          refine lv_iload_n hx hb dX5_put_59 rfl (lv_at hl 2 rfl) ?_
          refine lv_iload_n hx hb dX5_put_60 rfl (lv_at hl 3 rfl) ?_
          have hPc_12 := hP.sub (ws' := [(qm, .inr (5, [.int (iI 0), .ref mz, .ref ms, .int (iI (svL hn + 1)), .ref mp, .ref mb, .int (iI L), .ref m1, .ref m2, .ref m3, .ref mB, .ref mF, .ref mN, .ref mS, .int (iI sT), .ref mW, .long acc])), (mz, .inl (gI g, 326, .inl (aI (zF n ho h c))))]) [0, 1] rfl
          have hDc_13 := hD.sub (ws' := [(qm, .inr (5, [.int (iI 0), .ref mz, .ref ms, .int (iI (svL hn + 1)), .ref mp, .ref mb, .int (iI L), .ref m1, .ref m2, .ref m3, .ref mB, .ref mF, .ref mN, .ref mS, .int (iI sT), .ref mW, .long acc])), (mz, .inl (gI g, 326, .inl (aI (zF n ho h c))))]) [0, 1] (by decide) rfl
          have hFc_14 := va_free (wc := [(qm, .inr (5, [.int (iI 0), .ref mz, .ref ms, .int (iI (svL hn + 1)), .ref mp, .ref mb, .int (iI L), .ref m1, .ref m2, .ref m3, .ref mB, .ref mF, .ref mN, .ref mS, .int (iI sT), .ref mW, .long acc])), (mz, .inl (gI g, 326, .inl (aI (zF n ho h c))))]) hD hS hA [0, 1] rfl
          refine mc_v (wr := [(ms, .inl (gI g, 1956, .inl (aI ((svM (olF f hn) (svL hn) (zF n ho h c) 326)))))]) (cells1 := 0) (slots1 := 0) (va_runV (As := [.int (iI x), .int (iI y), .int (iI d)]) (rest := []) ⟨hx, hb, hml, hown, hts⟩ (c_X5_putOn l g qm 0 mz ms (svL hn + 1) mp mb L m1 m2 m3 mB mF mN mS sT mW acc n ho h c x y d hY h1 h2 h3 h4 gd g8 H.size) (cwV 3 hts gX5_put_X5_putOn rfl rfl rfl (by decide +kernel) ⟨Nat.le_of_ble_eq_true rfl, Nat.le_of_ble_eq_true rfl⟩) (muV hE hS hPc_12 hDc_13 hFc_14 rfl rfl) rfl rfl hl.1 rfl (lv_room (Nat.le_of_ble_eq_true rfl)) dX5_put_61 ⟨Nat.le_of_ble_eq_true rfl, Nat.le_of_ble_eq_true rfl⟩) hP hD hS hA [0, 1] [2] [1, 2, 0] rfl rfl (by decide) (by decide) (fun _ => [(qm, .inr (5, [.int (iI 0), .ref mz, .ref ms, .int (iI (svL hn + 1)), .ref mp, .ref mb, .int (iI L), .ref m1, .ref m2, .ref m3, .ref mB, .ref mF, .ref mN, .ref mS, .int (iI sT), .ref mW, .long acc])), (mz, .inl (gI g, 326, .inl (aI ((zF n ho (updI h (y * 6 + x) (h (y * 6 + x) + 1)) (updI c (y * 6 + x) (c (y * 6 + x) + d * p4 (h (y * 6 + x))))))))), (ms, .inl (gI g, 1956, .inl (aI ((svM (olF f hn) (svL hn) (zF n ho h c) 326)))))]) (fun _ => rfl) (by decide) (Nat.le_of_ble_eq_true rfl) (Nat.le_of_ble_eq_true rfl) (fun u9 H locs hu_15 hP hD hS => ?_)
          have hP : va_P g.1 vwCl [(qm, .inr (5, [.int (iI 0), .ref mz, .ref ms, .int (iI (svL hn + 1)), .ref mp, .ref mb, .int (iI L), .ref m1, .ref m2, .ref m3, .ref mB, .ref mF, .ref mN, .ref mS, .int (iI sT), .ref mW, .long acc])), (mz, .inl (gI g, 326, .inl (aI ((zF n ho (updI h (y * 6 + x) (h (y * 6 + x) + 1)) (updI c (y * 6 + x) (c (y * 6 + x) + d * p4 (h (y * 6 + x))))))))), (ms, .inl (gI g, 1956, .inl (aI ((svM (olF f hn) (svL hn) (zF n ho h c) 326)))))] H := hP
          have hD : va_D A [(qm, .inr (5, [.int (iI 0), .ref mz, .ref ms, .int (iI (svL hn + 1)), .ref mp, .ref mb, .int (iI L), .ref m1, .ref m2, .ref m3, .ref mB, .ref mF, .ref mN, .ref mS, .int (iI sT), .ref mW, .long acc])), (mz, .inl (gI g, 326, .inl (aI ((zF n ho (updI h (y * 6 + x) (h (y * 6 + x) + 1)) (updI c (y * 6 + x) (c (y * 6 + x) + d * p4 (h (y * 6 + x))))))))), (ms, .inl (gI g, 1956, .inl (aI ((svM (olF f hn) (svL hn) (zF n ho h c) 326)))))] := hD
          have hY2 : YOk n ho (updI h (y * 6 + x) (h (y * 6 + x) + 1)) (updI c (y * 6 + x) (c (y * 6 + x) + d * p4 (h (y * 6 + x)))) := YOk.add hY (sq_in (by omega) h1 h2 h3 h4) (by omega) gd
          refine lv_aload_n hx hb dX5_put_64 rfl (lv_at hl 0 rfl) ?_
          refine lv_iload_n hx hb dX5_put_65 rfl (lv_at hl 1 rfl) ?_
          refine lv_iload_n hx hb dX5_put_66 rfl (lv_at hl 2 rfl) ?_
          have hPc_16 := hP.sub (ws' := [(qm, .inr (5, [.int (iI 0), .ref mz, .ref ms, .int (iI (svL hn + 1)), .ref mp, .ref mb, .int (iI L), .ref m1, .ref m2, .ref m3, .ref mB, .ref mF, .ref mN, .ref mS, .int (iI sT), .ref mW, .long acc])), (mz, .inl (gI g, 326, .inl (aI ((zF n ho (updI h (y * 6 + x) (h (y * 6 + x) + 1)) (updI c (y * 6 + x) (c (y * 6 + x) + d * p4 (h (y * 6 + x)))))))))]) [0, 1] rfl
          refine pc_i (va_runV (As := [.int (iI x), .int (iI y)]) (rest := []) ⟨hx, hb, hml, hown, hts⟩ (c_X5_height l g qm 0 mz ms (svL hn + 1) mp mb L m1 m2 m3 mB mF mN mS sT mW acc n ho ((updI h (y * 6 + x) (h (y * 6 + x) + 1))) ((updI c (y * 6 + x) (c (y * 6 + x) + d * p4 (h (y * 6 + x))))) x y hY2 h1 h2 h3 h4) (cwV 2 hts gX5_put_X5_height rfl rfl rfl (by decide +kernel) ⟨Nat.le_of_ble_eq_true rfl, Nat.le_of_ble_eq_true rfl⟩) (puV hE hS hPc_16 rfl rfl) rfl rfl hl.1 rfl (lv_room (Nat.le_of_ble_eq_true rfl)) dX5_put_67 ⟨Nat.le_of_ble_eq_true rfl, Nat.le_of_ble_eq_true rfl⟩) ?_
          have r_17 : 0 ≤ ((updI h (y * 6 + x) (h (y * 6 + x) + 1))) (y * 6 + x) ∧ ((updI h (y * 6 + x) (h (y * 6 + x) + 1))) (y * 6 + x) ≤ 8 := YOk.h hY2 (y * 6 + x)
          have hP : va_P g.1 vwCl [(qm, .inr (5, [.int (iI 0), .ref mz, .ref ms, .int (iI (svL hn + 1)), .ref mp, .ref mb, .int (iI L), .ref m1, .ref m2, .ref m3, .ref mB, .ref mF, .ref mN, .ref mS, .int (iI sT), .ref mW, .long acc])), (mz, .inl (gI g, 326, .inl (aI ((zF n ho (updI h (y * 6 + x) (h (y * 6 + x) + 1)) (updI c (y * 6 + x) (c (y * 6 + x) + d * p4 (h (y * 6 + x))))))))), (ms, .inl (gI g, 1956, .inl (aI ((svM (olF f hn) (svL hn) (zF n ho h c) 326)))))] _ := hP
          have hD : va_D A [(qm, .inr (5, [.int (iI 0), .ref mz, .ref ms, .int (iI (svL hn + 1)), .ref mp, .ref mb, .int (iI L), .ref m1, .ref m2, .ref m3, .ref mB, .ref mF, .ref mN, .ref mS, .int (iI sT), .ref mW, .long acc])), (mz, .inl (gI g, 326, .inl (aI ((zF n ho (updI h (y * 6 + x) (h (y * 6 + x) + 1)) (updI c (y * 6 + x) (c (y * 6 + x) + d * p4 (h (y * 6 + x))))))))), (ms, .inl (gI g, 1956, .inl (aI ((svM (olF f hn) (svL hn) (zF n ho h c) 326)))))] := hD
          exact mend_i (S := Unit) (w' := (fun _ => [(qm, .inr (5, [.int (iI 0), .ref mz, .ref ms, .int (iI (svL hn + 1)), .ref mp, .ref mb, .int (iI L), .ref m1, .ref m2, .ref m3, .ref mB, .ref mF, .ref mN, .ref mS, .int (iI sT), .ref mW, .long acc])), (mz, .inl (gI g, 326, .inl (aI ((zF n ho (updI h (y * 6 + x) (h (y * 6 + x) + 1)) (updI c (y * 6 + x) (c (y * 6 + x) + d * p4 (h (y * 6 + x))))))))), (ms, .inl (gI g, 1956, .inl (aI ((svM (olF f hn) (svL hn) (zF n ho h c) 326)))))])) (post := (fun _ => True)) (r := (fun _ => h (y * 6 + x) + 1)) hx hb hr hlk hS () hP hD (trivial) (by exact updI_s) (Nat.le_of_ble_eq_true rfl) (Nat.le_of_ble_eq_true rfl) dX5_put_70
        · exfalso; omega
      · exfalso; omega
    · exfalso; omega
  · exfalso; omega
set_option maxHeartbeats 800000 in
set_option maxRecDepth 100000 in
theorem c_X5_put_x1 (l : Launch) (g : GT) (qm : Nat) (th : Int) (mz : Nat) (ms : Nat) (hn : Int) (mp : Nat) (mb : Nat) (L : Int) (m1 : Nat) (m2 : Nat) (m3 : Nat) (mB : Nat) (mF : Nat) (mN : Nat) (mS : Nat) (sT : Int) (mW : Nat) (acc : Int64) (n : Int) (ho : Int) (h : Int → Int) (c : Int → Int) (x : Int) (y : Int) (d : Int) (hY : YOk n ho h c) (gx : Rg x) (gy : Rg y) (g1 : ¬ okS n x y) : MutI l yX5_put wsX5_put ({ frames := 2, cells := 0, slots := 0, locals := 44 }) 0 0 g [(qm, .inr (5, [.int (iI th), .ref mz, .ref ms, .int (iI hn), .ref mp, .ref mb, .int (iI L), .ref m1, .ref m2, .ref m3, .ref mB, .ref mF, .ref mN, .ref mS, .int (iI sT), .ref mW, .long acc])), (mz, .inl (gI g, 326, .inl (aI (zF n ho h c))))] [.ref qm, .int (iI x), .int (iI y), .int (iI d)] (S := Unit) (fun _ => True) (fun _ => 0) (fun _ => [(qm, .inr (5, [.int (iI 1), .ref mz, .ref ms, .int (iI hn), .ref mp, .ref mb, .int (iI L), .ref m1, .ref m2, .ref m3, .ref mB, .ref mF, .ref mN, .ref mS, .int (iI sT), .ref mW, .long acc])), (mz, .inl (gI g, 326, .inl (aI (zF n ho h c))))]) := by
  refine mut_of (y := yX5_put) (ws := wsX5_put) (av := [.ref qm, .int (iI x), .int (iI y), .int (iI d)]) (w := [(qm, .inr (5, [.int (iI th), .ref mz, .ref ms, .int (iI hn), .ref mp, .ref mb, .int (iI L), .ref m1, .ref m2, .ref m3, .ref mB, .ref mF, .ref mN, .ref mS, .int (iI sT), .ref mW, .long acc])), (mz, .inl (gI g, 326, .inl (aI (zF n ho h c))))]) (Qc := fun A => va_Qi (fun x9 (u9 : Unit) => x9 = iI ((fun _ => 0) u9) ∧ (fun _ => True) u9) (fun u9 t9 => MB g ((fun _ => [(qm, .inr (5, [.int (iI 1), .ref mz, .ref ms, .int (iI hn), .ref mp, .ref mb, .int (iI L), .ref m1, .ref m2, .ref m3, .ref mB, .ref mF, .ref mN, .ref mS, .int (iI sT), .ref mW, .long acc])), (mz, .inl (gI g, 326, .inl (aI (zF n ho h c))))]) u9) A t9) A) (cc := cX5_put) (maxL := 4) (ret := (some .int)) (by decide) rfl (Nat.le_of_ble_eq_true rfl) ?_
  intro pZ eZ sZ mZ bZ meZ cZ A F hin hA hP hD hE hS ls hl
  obtain ⟨hx, hb, hr, hml, hts, hown, hlk⟩ := F
  skip
  have hown : sZ.vm.findClass RX5 = some mZ.cls := hown
  have hl : lv_has ls 4 [(0, .ref qm), (1, .int (iI x)), (2, .int (iI y)), (3, .int (iI d))] := hl
  skip
  have w0 := hts (.fieldLink RX5 47 "SlantYardModel" "thrown" "I") (by decide +kernel)
  have in5 : ∀ w ∈ u_ws RX5 TX5 17, w ∈ wsX5_put := by decide +kernel
  have hnn := hY.n
  have hho := hY.hr
  refine lv_aload_n hx hb dX5_put_0 rfl (lv_at hl 0 rfl) ?_
  refine lv_aload_n hx hb dX5_put_1 rfl (lv_at hl 0 rfl) ?_
  refine lv_iload_n hx hb dX5_put_2 rfl (lv_at hl 1 rfl) ?_
  refine lv_iload_n hx hb dX5_put_3 rfl (lv_at hl 2 rfl) ?_
  have hPc_1 := hP.sub (ws' := [(qm, .inr (5, [.int (iI th), .ref mz, .ref ms, .int (iI hn), .ref mp, .ref mb, .int (iI L), .ref m1, .ref m2, .ref m3, .ref mB, .ref mF, .ref mN, .ref mS, .int (iI sT), .ref mW, .long acc])), (mz, .inl (gI g, 326, .inl (aI (zF n ho h c))))]) [0, 1] rfl
  refine pc_i (va_runV (As := [.int (iI x), .int (iI y)]) (rest := [.ref qm]) ⟨hx, hb, hml, hown, hts⟩ (c_X5_isSquare l g qm th mz ms hn mp mb L m1 m2 m3 mB mF mN mS sT mW acc n ho h c x y hY gx gy) (cwV 2 hts gX5_put_X5_isSquare rfl rfl rfl (by decide +kernel) ⟨Nat.le_of_ble_eq_true rfl, Nat.le_of_ble_eq_true rfl⟩) (puV hE hS hPc_1 rfl rfl) rfl rfl hl.1 rfl (lv_room (Nat.le_of_ble_eq_true rfl)) dX5_put_4 ⟨Nat.le_of_ble_eq_true rfl, Nat.le_of_ble_eq_true rfl⟩) ?_
  refine lb_if_ne (tgt := 14) hx hb dX5_put_7 (by decide) (fun c_2 => ?_) (fun c_2 => ?_)
  · exact absurd c_2 (g1)
  · skip
    refine lv_iconst (v := iI 1) hx hb dX5_put_10 rfl ?_
    refine lv_goto (tgt := 41) hx hb dX5_put_11 (by decide) ?_
    refine va_put (D := g.1) (ci := 5) (v := .int (iI 1)) (ty := .int) (C := RX5) (T := TX5) (N := 17) hx hb hts in5 tyX5 tyX5_ok nmX5 hown hE.1 hP hD hS 0 rfl rfl 0 (by decide) w0 (fun _ h9 => h9) rfl (by decide +kernel) rfl rfl (Nat.le_of_ble_eq_true rfl) dX5_put_41 (fun H locs hP hD hS => ?_)
    have hP : va_P g.1 vwCl [(qm, .inr (5, [.int (iI 1), .ref mz, .ref ms, .int (iI hn), .ref mp, .ref mb, .int (iI L), .ref m1, .ref m2, .ref m3, .ref mB, .ref mF, .ref mN, .ref mS, .int (iI sT), .ref mW, .long acc])), (mz, .inl (gI g, 326, .inl (aI (zF n ho h c))))] H := hP
    have hD : va_D A [(qm, .inr (5, [.int (iI 1), .ref mz, .ref ms, .int (iI hn), .ref mp, .ref mb, .int (iI L), .ref m1, .ref m2, .ref m3, .ref mB, .ref mF, .ref mN, .ref mS, .int (iI sT), .ref mW, .long acc])), (mz, .inl (gI g, 326, .inl (aI (zF n ho h c))))] := hD
    refine lv_aload_n hx hb dX5_put_44 rfl (lv_at hl 0 rfl) ?_
    refine va_get (D := g.1) (ci := 5) (v := .int (iI 1)) (C := RX5) (T := TX5) (N := 17) hx hb hts in5 hown hE.1 hP 0 rfl rfl 0 (by decide) w0 (fun _ h9 => h9) rfl dX5_put_45 ?_
    refine ln_if_le (tgt := 53) hx hb dX5_put_48 (by decide) (by decide) (fun c_3 => ?_) (fun c_3 => ?_)
    · exfalso; omega
    · skip
      refine lv_iconst (v := iI 0) hx hb dX5_put_51 rfl ?_
      have hP : va_P g.1 vwCl [(qm, .inr (5, [.int (iI 1), .ref mz, .ref ms, .int (iI hn), .ref mp, .ref mb, .int (iI L), .ref m1, .ref m2, .ref m3, .ref mB, .ref mF, .ref mN, .ref mS, .int (iI sT), .ref mW, .long acc])), (mz, .inl (gI g, 326, .inl (aI (zF n ho h c))))] _ := hP
      have hD : va_D A [(qm, .inr (5, [.int (iI 1), .ref mz, .ref ms, .int (iI hn), .ref mp, .ref mb, .int (iI L), .ref m1, .ref m2, .ref m3, .ref mB, .ref mF, .ref mN, .ref mS, .int (iI sT), .ref mW, .long acc])), (mz, .inl (gI g, 326, .inl (aI (zF n ho h c))))] := hD
      exact mend_i (S := Unit) (w' := (fun _ => [(qm, .inr (5, [.int (iI 1), .ref mz, .ref ms, .int (iI hn), .ref mp, .ref mb, .int (iI L), .ref m1, .ref m2, .ref m3, .ref mB, .ref mF, .ref mN, .ref mS, .int (iI sT), .ref mW, .long acc])), (mz, .inl (gI g, 326, .inl (aI (zF n ho h c))))])) (post := (fun _ => True)) (r := (fun _ => 0)) hx hb hr hlk hS () hP hD (trivial) (by rfl) (Nat.le_of_ble_eq_true rfl) (Nat.le_of_ble_eq_true rfl) dX5_put_52
set_option maxHeartbeats 800000 in
set_option maxRecDepth 100000 in
theorem c_X5_put_x2 (l : Launch) (g : GT) (qm : Nat) (th : Int) (mz : Nat) (ms : Nat) (hn : Int) (mp : Nat) (mb : Nat) (L : Int) (m1 : Nat) (m2 : Nat) (m3 : Nat) (mB : Nat) (mF : Nat) (mN : Nat) (mS : Nat) (sT : Int) (mW : Nat) (acc : Int64) (n : Int) (ho : Int) (h : Int → Int) (c : Int → Int) (x : Int) (y : Int) (d : Int) (hY : YOk n ho h c) (h1 : 0 ≤ x) (h2 : x < n) (h3 : 0 ≤ y) (h4 : y < n) (gd : Rg d) (g1 : d < 0 ∨ 3 < d) : MutI l yX5_put wsX5_put ({ frames := 2, cells := 0, slots := 0, locals := 44 }) 0 0 g [(qm, .inr (5, [.int (iI th), .ref mz, .ref ms, .int (iI hn), .ref mp, .ref mb, .int (iI L), .ref m1, .ref m2, .ref m3, .ref mB, .ref mF, .ref mN, .ref mS, .int (iI sT), .ref mW, .long acc])), (mz, .inl (gI g, 326, .inl (aI (zF n ho h c))))] [.ref qm, .int (iI x), .int (iI y), .int (iI d)] (S := Unit) (fun _ => True) (fun _ => 0) (fun _ => [(qm, .inr (5, [.int (iI 2), .ref mz, .ref ms, .int (iI hn), .ref mp, .ref mb, .int (iI L), .ref m1, .ref m2, .ref m3, .ref mB, .ref mF, .ref mN, .ref mS, .int (iI sT), .ref mW, .long acc])), (mz, .inl (gI g, 326, .inl (aI (zF n ho h c))))]) := by
  refine mut_of (y := yX5_put) (ws := wsX5_put) (av := [.ref qm, .int (iI x), .int (iI y), .int (iI d)]) (w := [(qm, .inr (5, [.int (iI th), .ref mz, .ref ms, .int (iI hn), .ref mp, .ref mb, .int (iI L), .ref m1, .ref m2, .ref m3, .ref mB, .ref mF, .ref mN, .ref mS, .int (iI sT), .ref mW, .long acc])), (mz, .inl (gI g, 326, .inl (aI (zF n ho h c))))]) (Qc := fun A => va_Qi (fun x9 (u9 : Unit) => x9 = iI ((fun _ => 0) u9) ∧ (fun _ => True) u9) (fun u9 t9 => MB g ((fun _ => [(qm, .inr (5, [.int (iI 2), .ref mz, .ref ms, .int (iI hn), .ref mp, .ref mb, .int (iI L), .ref m1, .ref m2, .ref m3, .ref mB, .ref mF, .ref mN, .ref mS, .int (iI sT), .ref mW, .long acc])), (mz, .inl (gI g, 326, .inl (aI (zF n ho h c))))]) u9) A t9) A) (cc := cX5_put) (maxL := 4) (ret := (some .int)) (by decide) rfl (Nat.le_of_ble_eq_true rfl) ?_
  intro pZ eZ sZ mZ bZ meZ cZ A F hin hA hP hD hE hS ls hl
  obtain ⟨hx, hb, hr, hml, hts, hown, hlk⟩ := F
  skip
  have hown : sZ.vm.findClass RX5 = some mZ.cls := hown
  have hl : lv_has ls 4 [(0, .ref qm), (1, .int (iI x)), (2, .int (iI y)), (3, .int (iI d))] := hl
  skip
  have w0 := hts (.fieldLink RX5 47 "SlantYardModel" "thrown" "I") (by decide +kernel)
  have in5 : ∀ w ∈ u_ws RX5 TX5 17, w ∈ wsX5_put := by decide +kernel
  have hnn := hY.n
  have hho := hY.hr
  refine lv_aload_n hx hb dX5_put_0 rfl (lv_at hl 0 rfl) ?_
  refine lv_aload_n hx hb dX5_put_1 rfl (lv_at hl 0 rfl) ?_
  refine lv_iload_n hx hb dX5_put_2 rfl (lv_at hl 1 rfl) ?_
  refine lv_iload_n hx hb dX5_put_3 rfl (lv_at hl 2 rfl) ?_
  have hPc_1 := hP.sub (ws' := [(qm, .inr (5, [.int (iI th), .ref mz, .ref ms, .int (iI hn), .ref mp, .ref mb, .int (iI L), .ref m1, .ref m2, .ref m3, .ref mB, .ref mF, .ref mN, .ref mS, .int (iI sT), .ref mW, .long acc])), (mz, .inl (gI g, 326, .inl (aI (zF n ho h c))))]) [0, 1] rfl
  refine pc_i (va_runV (As := [.int (iI x), .int (iI y)]) (rest := [.ref qm]) ⟨hx, hb, hml, hown, hts⟩ (c_X5_isSquare l g qm th mz ms hn mp mb L m1 m2 m3 mB mF mN mS sT mW acc n ho h c x y hY (by omega) (by omega)) (cwV 2 hts gX5_put_X5_isSquare rfl rfl rfl (by decide +kernel) ⟨Nat.le_of_ble_eq_true rfl, Nat.le_of_ble_eq_true rfl⟩) (puV hE hS hPc_1 rfl rfl) rfl rfl hl.1 rfl (lv_room (Nat.le_of_ble_eq_true rfl)) dX5_put_4 ⟨Nat.le_of_ble_eq_true rfl, Nat.le_of_ble_eq_true rfl⟩) ?_
  refine lb_if_ne (tgt := 14) hx hb dX5_put_7 (by decide) (fun c_2 => ?_) (fun c_2 => ?_)
  · skip
    refine lv_iload_n hx hb dX5_put_14 rfl (lv_at hl 3 rfl) ?_
    refine pc_i (va_runS (As := [.int (iI d)]) (rest := [.ref qm]) ⟨hx, hb, hml, hown, hts⟩ (c_X5_isColour l g d gd) (va_cwS 1 hts gX5_put_X5_isColour rfl rfl rfl (by decide +kernel) ⟨Nat.le_of_ble_eq_true rfl, Nat.le_of_ble_eq_true rfl⟩) (puS hE hS (va_P_nil g.1 _)) rfl rfl hl.1 rfl (lv_room (Nat.le_of_ble_eq_true rfl)) dX5_put_15 ⟨Nat.le_of_ble_eq_true rfl, Nat.le_of_ble_eq_true rfl⟩) ?_
    refine lb_if_ne (tgt := 25) hx hb dX5_put_18 (by decide) (fun c_3 => ?_) (fun c_3 => ?_)
    · exfalso; omega
    · skip
      refine lv_iconst (v := iI 2) hx hb dX5_put_21 rfl ?_
      refine lv_goto (tgt := 41) hx hb dX5_put_22 (by decide) ?_
      refine va_put (D := g.1) (ci := 5) (v := .int (iI 2)) (ty := .int) (C := RX5) (T := TX5) (N := 17) hx hb hts in5 tyX5 tyX5_ok nmX5 hown hE.1 hP hD hS 0 rfl rfl 0 (by decide) w0 (fun _ h9 => h9) rfl (by decide +kernel) rfl rfl (Nat.le_of_ble_eq_true rfl) dX5_put_41 (fun H locs hP hD hS => ?_)
      have hP : va_P g.1 vwCl [(qm, .inr (5, [.int (iI 2), .ref mz, .ref ms, .int (iI hn), .ref mp, .ref mb, .int (iI L), .ref m1, .ref m2, .ref m3, .ref mB, .ref mF, .ref mN, .ref mS, .int (iI sT), .ref mW, .long acc])), (mz, .inl (gI g, 326, .inl (aI (zF n ho h c))))] H := hP
      have hD : va_D A [(qm, .inr (5, [.int (iI 2), .ref mz, .ref ms, .int (iI hn), .ref mp, .ref mb, .int (iI L), .ref m1, .ref m2, .ref m3, .ref mB, .ref mF, .ref mN, .ref mS, .int (iI sT), .ref mW, .long acc])), (mz, .inl (gI g, 326, .inl (aI (zF n ho h c))))] := hD
      refine lv_aload_n hx hb dX5_put_44 rfl (lv_at hl 0 rfl) ?_
      refine va_get (D := g.1) (ci := 5) (v := .int (iI 2)) (C := RX5) (T := TX5) (N := 17) hx hb hts in5 hown hE.1 hP 0 rfl rfl 0 (by decide) w0 (fun _ h9 => h9) rfl dX5_put_45 ?_
      refine ln_if_le (tgt := 53) hx hb dX5_put_48 (by decide) (by decide) (fun c_4 => ?_) (fun c_4 => ?_)
      · exfalso; omega
      · skip
        refine lv_iconst (v := iI 0) hx hb dX5_put_51 rfl ?_
        have hP : va_P g.1 vwCl [(qm, .inr (5, [.int (iI 2), .ref mz, .ref ms, .int (iI hn), .ref mp, .ref mb, .int (iI L), .ref m1, .ref m2, .ref m3, .ref mB, .ref mF, .ref mN, .ref mS, .int (iI sT), .ref mW, .long acc])), (mz, .inl (gI g, 326, .inl (aI (zF n ho h c))))] _ := hP
        have hD : va_D A [(qm, .inr (5, [.int (iI 2), .ref mz, .ref ms, .int (iI hn), .ref mp, .ref mb, .int (iI L), .ref m1, .ref m2, .ref m3, .ref mB, .ref mF, .ref mN, .ref mS, .int (iI sT), .ref mW, .long acc])), (mz, .inl (gI g, 326, .inl (aI (zF n ho h c))))] := hD
        exact mend_i (S := Unit) (w' := (fun _ => [(qm, .inr (5, [.int (iI 2), .ref mz, .ref ms, .int (iI hn), .ref mp, .ref mb, .int (iI L), .ref m1, .ref m2, .ref m3, .ref mB, .ref mF, .ref mN, .ref mS, .int (iI sT), .ref mW, .long acc])), (mz, .inl (gI g, 326, .inl (aI (zF n ho h c))))])) (post := (fun _ => True)) (r := (fun _ => 0)) hx hb hr hlk hS () hP hD (trivial) (by rfl) (Nat.le_of_ble_eq_true rfl) (Nat.le_of_ble_eq_true rfl) dX5_put_52
  · exfalso; omega
set_option maxHeartbeats 800000 in
set_option maxRecDepth 100000 in
theorem c_X5_put_x3 (l : Launch) (g : GT) (qm : Nat) (th : Int) (mz : Nat) (ms : Nat) (hn : Int) (mp : Nat) (mb : Nat) (L : Int) (m1 : Nat) (m2 : Nat) (m3 : Nat) (mB : Nat) (mF : Nat) (mN : Nat) (mS : Nat) (sT : Int) (mW : Nat) (acc : Int64) (n : Int) (ho : Int) (h : Int → Int) (c : Int → Int) (x : Int) (y : Int) (d : Int) (hY : YOk n ho h c) (h1 : 0 ≤ x) (h2 : x < n) (h3 : 0 ≤ y) (h4 : y < n) (gd : 0 ≤ d ∧ d ≤ 3) (g8 : h (y * 6 + x) = 8) : MutI l yX5_put wsX5_put ({ frames := 2, cells := 0, slots := 0, locals := 44 }) 0 0 g [(qm, .inr (5, [.int (iI th), .ref mz, .ref ms, .int (iI hn), .ref mp, .ref mb, .int (iI L), .ref m1, .ref m2, .ref m3, .ref mB, .ref mF, .ref mN, .ref mS, .int (iI sT), .ref mW, .long acc])), (mz, .inl (gI g, 326, .inl (aI (zF n ho h c))))] [.ref qm, .int (iI x), .int (iI y), .int (iI d)] (S := Unit) (fun _ => True) (fun _ => 0) (fun _ => [(qm, .inr (5, [.int (iI 3), .ref mz, .ref ms, .int (iI hn), .ref mp, .ref mb, .int (iI L), .ref m1, .ref m2, .ref m3, .ref mB, .ref mF, .ref mN, .ref mS, .int (iI sT), .ref mW, .long acc])), (mz, .inl (gI g, 326, .inl (aI (zF n ho h c))))]) := by
  refine mut_of (y := yX5_put) (ws := wsX5_put) (av := [.ref qm, .int (iI x), .int (iI y), .int (iI d)]) (w := [(qm, .inr (5, [.int (iI th), .ref mz, .ref ms, .int (iI hn), .ref mp, .ref mb, .int (iI L), .ref m1, .ref m2, .ref m3, .ref mB, .ref mF, .ref mN, .ref mS, .int (iI sT), .ref mW, .long acc])), (mz, .inl (gI g, 326, .inl (aI (zF n ho h c))))]) (Qc := fun A => va_Qi (fun x9 (u9 : Unit) => x9 = iI ((fun _ => 0) u9) ∧ (fun _ => True) u9) (fun u9 t9 => MB g ((fun _ => [(qm, .inr (5, [.int (iI 3), .ref mz, .ref ms, .int (iI hn), .ref mp, .ref mb, .int (iI L), .ref m1, .ref m2, .ref m3, .ref mB, .ref mF, .ref mN, .ref mS, .int (iI sT), .ref mW, .long acc])), (mz, .inl (gI g, 326, .inl (aI (zF n ho h c))))]) u9) A t9) A) (cc := cX5_put) (maxL := 4) (ret := (some .int)) (by decide) rfl (Nat.le_of_ble_eq_true rfl) ?_
  intro pZ eZ sZ mZ bZ meZ cZ A F hin hA hP hD hE hS ls hl
  obtain ⟨hx, hb, hr, hml, hts, hown, hlk⟩ := F
  skip
  have hown : sZ.vm.findClass RX5 = some mZ.cls := hown
  have hl : lv_has ls 4 [(0, .ref qm), (1, .int (iI x)), (2, .int (iI y)), (3, .int (iI d))] := hl
  skip
  have w0 := hts (.fieldLink RX5 47 "SlantYardModel" "thrown" "I") (by decide +kernel)
  have in5 : ∀ w ∈ u_ws RX5 TX5 17, w ∈ wsX5_put := by decide +kernel
  have hnn := hY.n
  have hho := hY.hr
  refine lv_aload_n hx hb dX5_put_0 rfl (lv_at hl 0 rfl) ?_
  refine lv_aload_n hx hb dX5_put_1 rfl (lv_at hl 0 rfl) ?_
  refine lv_iload_n hx hb dX5_put_2 rfl (lv_at hl 1 rfl) ?_
  refine lv_iload_n hx hb dX5_put_3 rfl (lv_at hl 2 rfl) ?_
  have hPc_1 := hP.sub (ws' := [(qm, .inr (5, [.int (iI th), .ref mz, .ref ms, .int (iI hn), .ref mp, .ref mb, .int (iI L), .ref m1, .ref m2, .ref m3, .ref mB, .ref mF, .ref mN, .ref mS, .int (iI sT), .ref mW, .long acc])), (mz, .inl (gI g, 326, .inl (aI (zF n ho h c))))]) [0, 1] rfl
  refine pc_i (va_runV (As := [.int (iI x), .int (iI y)]) (rest := [.ref qm]) ⟨hx, hb, hml, hown, hts⟩ (c_X5_isSquare l g qm th mz ms hn mp mb L m1 m2 m3 mB mF mN mS sT mW acc n ho h c x y hY (by omega) (by omega)) (cwV 2 hts gX5_put_X5_isSquare rfl rfl rfl (by decide +kernel) ⟨Nat.le_of_ble_eq_true rfl, Nat.le_of_ble_eq_true rfl⟩) (puV hE hS hPc_1 rfl rfl) rfl rfl hl.1 rfl (lv_room (Nat.le_of_ble_eq_true rfl)) dX5_put_4 ⟨Nat.le_of_ble_eq_true rfl, Nat.le_of_ble_eq_true rfl⟩) ?_
  refine lb_if_ne (tgt := 14) hx hb dX5_put_7 (by decide) (fun c_2 => ?_) (fun c_2 => ?_)
  · skip
    refine lv_iload_n hx hb dX5_put_14 rfl (lv_at hl 3 rfl) ?_
    refine pc_i (va_runS (As := [.int (iI d)]) (rest := [.ref qm]) ⟨hx, hb, hml, hown, hts⟩ (c_X5_isColour l g d (by omega)) (va_cwS 1 hts gX5_put_X5_isColour rfl rfl rfl (by decide +kernel) ⟨Nat.le_of_ble_eq_true rfl, Nat.le_of_ble_eq_true rfl⟩) (puS hE hS (va_P_nil g.1 _)) rfl rfl hl.1 rfl (lv_room (Nat.le_of_ble_eq_true rfl)) dX5_put_15 ⟨Nat.le_of_ble_eq_true rfl, Nat.le_of_ble_eq_true rfl⟩) ?_
    refine lb_if_ne (tgt := 25) hx hb dX5_put_18 (by decide) (fun c_3 => ?_) (fun c_3 => ?_)
    · skip
      refine lv_aload_n hx hb dX5_put_25 rfl (lv_at hl 0 rfl) ?_
      refine lv_iload_n hx hb dX5_put_26 rfl (lv_at hl 1 rfl) ?_
      refine lv_iload_n hx hb dX5_put_27 rfl (lv_at hl 2 rfl) ?_
      have hPc_4 := hP.sub (ws' := [(qm, .inr (5, [.int (iI th), .ref mz, .ref ms, .int (iI hn), .ref mp, .ref mb, .int (iI L), .ref m1, .ref m2, .ref m3, .ref mB, .ref mF, .ref mN, .ref mS, .int (iI sT), .ref mW, .long acc])), (mz, .inl (gI g, 326, .inl (aI (zF n ho h c))))]) [0, 1] rfl
      refine pc_i (va_runV (As := [.int (iI x), .int (iI y)]) (rest := [.ref qm]) ⟨hx, hb, hml, hown, hts⟩ (c_X5_height l g qm th mz ms hn mp mb L m1 m2 m3 mB mF mN mS sT mW acc n ho h c x y hY h1 h2 h3 h4) (cwV 2 hts gX5_put_X5_height rfl rfl rfl (by decide +kernel) ⟨Nat.le_of_ble_eq_true rfl, Nat.le_of_ble_eq_true rfl⟩) (puV hE hS hPc_4 rfl rfl) rfl rfl hl.1 rfl (lv_room (Nat.le_of_ble_eq_true rfl)) dX5_put_28 ⟨Nat.le_of_ble_eq_true rfl, Nat.le_of_ble_eq_true rfl⟩) ?_
      have r_5 : 0 ≤ h (y * 6 + x) ∧ h (y * 6 + x) ≤ 8 := YOk.h hY (y * 6 + x)
      refine lv_bipush (v := iI 8) hx hb dX5_put_31 (by decide) ?_
      refine ln_icmp_ne (tgt := 40) hx hb dX5_put_33 (by decide) ⟨by omega, by omega⟩ (by decide) (fun c_6 => ?_) (fun c_6 => ?_)
      · exfalso; omega
      · skip
        refine lv_iconst (v := iI 3) hx hb dX5_put_36 rfl ?_
        refine lv_goto (tgt := 41) hx hb dX5_put_37 (by decide) ?_
        refine va_put (D := g.1) (ci := 5) (v := .int (iI 3)) (ty := .int) (C := RX5) (T := TX5) (N := 17) hx hb hts in5 tyX5 tyX5_ok nmX5 hown hE.1 hP hD hS 0 rfl rfl 0 (by decide) w0 (fun _ h9 => h9) rfl (by decide +kernel) rfl rfl (Nat.le_of_ble_eq_true rfl) dX5_put_41 (fun H locs hP hD hS => ?_)
        have hP : va_P g.1 vwCl [(qm, .inr (5, [.int (iI 3), .ref mz, .ref ms, .int (iI hn), .ref mp, .ref mb, .int (iI L), .ref m1, .ref m2, .ref m3, .ref mB, .ref mF, .ref mN, .ref mS, .int (iI sT), .ref mW, .long acc])), (mz, .inl (gI g, 326, .inl (aI (zF n ho h c))))] H := hP
        have hD : va_D A [(qm, .inr (5, [.int (iI 3), .ref mz, .ref ms, .int (iI hn), .ref mp, .ref mb, .int (iI L), .ref m1, .ref m2, .ref m3, .ref mB, .ref mF, .ref mN, .ref mS, .int (iI sT), .ref mW, .long acc])), (mz, .inl (gI g, 326, .inl (aI (zF n ho h c))))] := hD
        refine lv_aload_n hx hb dX5_put_44 rfl (lv_at hl 0 rfl) ?_
        refine va_get (D := g.1) (ci := 5) (v := .int (iI 3)) (C := RX5) (T := TX5) (N := 17) hx hb hts in5 hown hE.1 hP 0 rfl rfl 0 (by decide) w0 (fun _ h9 => h9) rfl dX5_put_45 ?_
        refine ln_if_le (tgt := 53) hx hb dX5_put_48 (by decide) (by decide) (fun c_7 => ?_) (fun c_7 => ?_)
        · exfalso; omega
        · skip
          refine lv_iconst (v := iI 0) hx hb dX5_put_51 rfl ?_
          have hP : va_P g.1 vwCl [(qm, .inr (5, [.int (iI 3), .ref mz, .ref ms, .int (iI hn), .ref mp, .ref mb, .int (iI L), .ref m1, .ref m2, .ref m3, .ref mB, .ref mF, .ref mN, .ref mS, .int (iI sT), .ref mW, .long acc])), (mz, .inl (gI g, 326, .inl (aI (zF n ho h c))))] _ := hP
          have hD : va_D A [(qm, .inr (5, [.int (iI 3), .ref mz, .ref ms, .int (iI hn), .ref mp, .ref mb, .int (iI L), .ref m1, .ref m2, .ref m3, .ref mB, .ref mF, .ref mN, .ref mS, .int (iI sT), .ref mW, .long acc])), (mz, .inl (gI g, 326, .inl (aI (zF n ho h c))))] := hD
          exact mend_i (S := Unit) (w' := (fun _ => [(qm, .inr (5, [.int (iI 3), .ref mz, .ref ms, .int (iI hn), .ref mp, .ref mb, .int (iI L), .ref m1, .ref m2, .ref m3, .ref mB, .ref mF, .ref mN, .ref mS, .int (iI sT), .ref mW, .long acc])), (mz, .inl (gI g, 326, .inl (aI (zF n ho h c))))])) (post := (fun _ => True)) (r := (fun _ => 0)) hx hb hr hlk hS () hP hD (trivial) (by rfl) (Nat.le_of_ble_eq_true rfl) (Nat.le_of_ble_eq_true rfl) dX5_put_52
    · exfalso; omega
  · exfalso; omega
set_option maxHeartbeats 800000 in
set_option maxRecDepth 100000 in
theorem c_X5_take_ok (l : Launch) (g : GT) (qm : Nat) (th : Int) (mz : Nat) (ms : Nat) (hn : Int) (mp : Nat) (mb : Nat) (L : Int) (m1 : Nat) (m2 : Nat) (m3 : Nat) (mB : Nat) (mF : Nat) (mN : Nat) (mS : Nat) (sT : Int) (mW : Nat) (acc : Int64) (n : Int) (ho : Int) (h : Int → Int) (c : Int → Int) (f : Int → Int) (x : Int) (y : Int) (hY : YOk n ho h c) (hh : 0 ≤ hn ∧ hn ≤ 6) (h1 : 0 ≤ x) (h2 : x < n) (h3 : 0 ≤ y) (h4 : y < n) (g5 : h (y * 6 + x) ≠ 0) : MutI l yX5_take wsX5_take ({ frames := 2, cells := 0, slots := 0, locals := 46 }) 0 0 g [(qm, .inr (5, [.int (iI th), .ref mz, .ref ms, .int (iI hn), .ref mp, .ref mb, .int (iI L), .ref m1, .ref m2, .ref m3, .ref mB, .ref mF, .ref mN, .ref mS, .int (iI sT), .ref mW, .long acc])), (mz, .inl (gI g, 326, .inl (aI (zF n ho h c)))), (ms, .inl (gI g, 1956, .inl (aI f)))] [.ref qm, .int (iI x), .int (iI y)] (S := Unit) (fun _ => True) (fun _ => colZ (c (y * 6 + x)) (h (y * 6 + x) - 1)) (fun _ => [(qm, .inr (5, [.int (iI 0), .ref mz, .ref ms, .int (iI (svL hn + 1)), .ref mp, .ref mb, .int (iI L), .ref m1, .ref m2, .ref m3, .ref mB, .ref mF, .ref mN, .ref mS, .int (iI sT), .ref mW, .long acc])), (mz, .inl (gI g, 326, .inl (aI ((zF n ho (lowH h (y * 6 + x) (h (y * 6 + x) - 1)) (lowC h c (y * 6 + x) (h (y * 6 + x) - 1))))))), (ms, .inl (gI g, 1956, .inl (aI ((svM (olF f hn) (svL hn) (zF n ho h c) 326)))))]) := by
  refine mut_of (y := yX5_take) (ws := wsX5_take) (av := [.ref qm, .int (iI x), .int (iI y)]) (w := [(qm, .inr (5, [.int (iI th), .ref mz, .ref ms, .int (iI hn), .ref mp, .ref mb, .int (iI L), .ref m1, .ref m2, .ref m3, .ref mB, .ref mF, .ref mN, .ref mS, .int (iI sT), .ref mW, .long acc])), (mz, .inl (gI g, 326, .inl (aI (zF n ho h c)))), (ms, .inl (gI g, 1956, .inl (aI f)))]) (Qc := fun A => va_Qi (fun x9 (u9 : Unit) => x9 = iI ((fun _ => colZ (c (y * 6 + x)) (h (y * 6 + x) - 1)) u9) ∧ (fun _ => True) u9) (fun u9 t9 => MB g ((fun _ => [(qm, .inr (5, [.int (iI 0), .ref mz, .ref ms, .int (iI (svL hn + 1)), .ref mp, .ref mb, .int (iI L), .ref m1, .ref m2, .ref m3, .ref mB, .ref mF, .ref mN, .ref mS, .int (iI sT), .ref mW, .long acc])), (mz, .inl (gI g, 326, .inl (aI ((zF n ho (lowH h (y * 6 + x) (h (y * 6 + x) - 1)) (lowC h c (y * 6 + x) (h (y * 6 + x) - 1))))))), (ms, .inl (gI g, 1956, .inl (aI ((svM (olF f hn) (svL hn) (zF n ho h c) 326)))))]) u9) A t9) A) (cc := cX5_take) (maxL := 3) (ret := (some .int)) (by decide) rfl (Nat.le_of_ble_eq_true rfl) ?_
  intro pZ eZ sZ mZ bZ meZ cZ A F hin hA hP hD hE hS ls hl
  obtain ⟨hx, hb, hr, hml, hts, hown, hlk⟩ := F
  skip
  have hown : sZ.vm.findClass RX5 = some mZ.cls := hown
  have hl : lv_has ls 3 [(0, .ref qm), (1, .int (iI x)), (2, .int (iI y))] := hl
  skip
  have w0 := hts (.fieldLink RX5 47 "SlantYardModel" "thrown" "I") (by decide +kernel)
  have in5 : ∀ w ∈ u_ws RX5 TX5 17, w ∈ wsX5_take := by decide +kernel
  have hnn := hY.n
  have hho := hY.hr
  have hh9 := YOk.h hY (y * 6 + x)
  refine lv_aload_n hx hb dX5_take_0 rfl (lv_at hl 0 rfl) ?_
  refine lv_aload_n hx hb dX5_take_1 rfl (lv_at hl 0 rfl) ?_
  refine lv_iload_n hx hb dX5_take_2 rfl (lv_at hl 1 rfl) ?_
  refine lv_iload_n hx hb dX5_take_3 rfl (lv_at hl 2 rfl) ?_
  have hPc_1 := hP.sub (ws' := [(qm, .inr (5, [.int (iI th), .ref mz, .ref ms, .int (iI hn), .ref mp, .ref mb, .int (iI L), .ref m1, .ref m2, .ref m3, .ref mB, .ref mF, .ref mN, .ref mS, .int (iI sT), .ref mW, .long acc])), (mz, .inl (gI g, 326, .inl (aI (zF n ho h c))))]) [0, 1] rfl
  refine pc_i (va_runV (As := [.int (iI x), .int (iI y)]) (rest := [.ref qm]) ⟨hx, hb, hml, hown, hts⟩ (c_X5_isSquare l g qm th mz ms hn mp mb L m1 m2 m3 mB mF mN mS sT mW acc n ho h c x y hY (by omega) (by omega)) (cwV 2 hts gX5_take_X5_isSquare rfl rfl rfl (by decide +kernel) ⟨Nat.le_of_ble_eq_true rfl, Nat.le_of_ble_eq_true rfl⟩) (puV hE hS hPc_1 rfl rfl) rfl rfl hl.1 rfl (lv_room (Nat.le_of_ble_eq_true rfl)) dX5_take_4 ⟨Nat.le_of_ble_eq_true rfl, Nat.le_of_ble_eq_true rfl⟩) ?_
  refine lb_if_ne (tgt := 14) hx hb dX5_take_7 (by decide) (fun c_2 => ?_) (fun c_2 => ?_)
  · skip
    refine lv_aload_n hx hb dX5_take_14 rfl (lv_at hl 0 rfl) ?_
    refine lv_iload_n hx hb dX5_take_15 rfl (lv_at hl 1 rfl) ?_
    refine lv_iload_n hx hb dX5_take_16 rfl (lv_at hl 2 rfl) ?_
    have hPc_3 := hP.sub (ws' := [(qm, .inr (5, [.int (iI th), .ref mz, .ref ms, .int (iI hn), .ref mp, .ref mb, .int (iI L), .ref m1, .ref m2, .ref m3, .ref mB, .ref mF, .ref mN, .ref mS, .int (iI sT), .ref mW, .long acc])), (mz, .inl (gI g, 326, .inl (aI (zF n ho h c))))]) [0, 1] rfl
    refine pc_i (va_runV (As := [.int (iI x), .int (iI y)]) (rest := [.ref qm]) ⟨hx, hb, hml, hown, hts⟩ (c_X5_height l g qm th mz ms hn mp mb L m1 m2 m3 mB mF mN mS sT mW acc n ho h c x y hY h1 h2 h3 h4) (cwV 2 hts gX5_take_X5_height rfl rfl rfl (by decide +kernel) ⟨Nat.le_of_ble_eq_true rfl, Nat.le_of_ble_eq_true rfl⟩) (puV hE hS hPc_3 rfl rfl) rfl rfl hl.1 rfl (lv_room (Nat.le_of_ble_eq_true rfl)) dX5_take_17 ⟨Nat.le_of_ble_eq_true rfl, Nat.le_of_ble_eq_true rfl⟩) ?_
    have r_4 : 0 ≤ h (y * 6 + x) ∧ h (y * 6 + x) ≤ 8 := YOk.h hY (y * 6 + x)
    refine ln_if_ne (tgt := 27) hx hb dX5_take_20 (by decide) ⟨by omega, by omega⟩ (fun c_5 => ?_) (fun c_5 => ?_)
    · skip
      refine lv_iconst (v := iI 0) hx hb dX5_take_27 rfl ?_
      refine va_put (D := g.1) (ci := 5) (v := .int (iI 0)) (ty := .int) (C := RX5) (T := TX5) (N := 17) hx hb hts in5 tyX5 tyX5_ok nmX5 hown hE.1 hP hD hS 0 rfl rfl 0 (by decide) w0 (fun _ h9 => h9) rfl (by decide +kernel) rfl rfl (Nat.le_of_ble_eq_true rfl) dX5_take_28 (fun H locs hP hD hS => ?_)
      have hP : va_P g.1 vwCl [(qm, .inr (5, [.int (iI 0), .ref mz, .ref ms, .int (iI hn), .ref mp, .ref mb, .int (iI L), .ref m1, .ref m2, .ref m3, .ref mB, .ref mF, .ref mN, .ref mS, .int (iI sT), .ref mW, .long acc])), (mz, .inl (gI g, 326, .inl (aI (zF n ho h c)))), (ms, .inl (gI g, 1956, .inl (aI f)))] H := hP
      have hD : va_D A [(qm, .inr (5, [.int (iI 0), .ref mz, .ref ms, .int (iI hn), .ref mp, .ref mb, .int (iI L), .ref m1, .ref m2, .ref m3, .ref mB, .ref mF, .ref mN, .ref mS, .int (iI sT), .ref mW, .long acc])), (mz, .inl (gI g, 326, .inl (aI (zF n ho h c)))), (ms, .inl (gI g, 1956, .inl (aI f)))] := hD
      refine lv_aload_n hx hb dX5_take_31 rfl (lv_at hl 0 rfl) ?_
      refine va_get (D := g.1) (ci := 5) (v := .int (iI 0)) (C := RX5) (T := TX5) (N := 17) hx hb hts in5 hown hE.1 hP 0 rfl rfl 0 (by decide) w0 (fun _ h9 => h9) rfl dX5_take_32 ?_
      refine ln_if_le (tgt := 40) hx hb dX5_take_35 (by decide) (by decide) (fun c_6 => ?_) (fun c_6 => ?_)
      · skip
        refine lv_aload_n hx hb dX5_take_40 rfl (lv_at hl 0 rfl) ?_
        have hPc_7 := hP.sub (ws' := [(qm, .inr (5, [.int (iI 0), .ref mz, .ref ms, .int (iI hn), .ref mp, .ref mb, .int (iI L), .ref m1, .ref m2, .ref m3, .ref mB, .ref mF, .ref mN, .ref mS, .int (iI sT), .ref mW, .long acc])), (mz, .inl (gI g, 326, .inl (aI (zF n ho h c)))), (ms, .inl (gI g, 1956, .inl (aI f)))]) [0, 1, 2] rfl
        have hDc_8 := hD.sub (ws' := [(qm, .inr (5, [.int (iI 0), .ref mz, .ref ms, .int (iI hn), .ref mp, .ref mb, .int (iI L), .ref m1, .ref m2, .ref m3, .ref mB, .ref mF, .ref mN, .ref mS, .int (iI sT), .ref mW, .long acc])), (mz, .inl (gI g, 326, .inl (aI (zF n ho h c)))), (ms, .inl (gI g, 1956, .inl (aI f)))]) [0, 1, 2] (by decide) rfl
        have hFc_9 := va_free (wc := [(qm, .inr (5, [.int (iI 0), .ref mz, .ref ms, .int (iI hn), .ref mp, .ref mb, .int (iI L), .ref m1, .ref m2, .ref m3, .ref mB, .ref mF, .ref mN, .ref mS, .int (iI sT), .ref mW, .long acc])), (mz, .inl (gI g, 326, .inl (aI (zF n ho h c)))), (ms, .inl (gI g, 1956, .inl (aI f)))]) hD hS hA [0, 1, 2] rfl
        refine mc_v (wr := []) (cells1 := 0) (slots1 := 0) (va_runV (As := []) (rest := []) ⟨hx, hb, hml, hown, hts⟩ (c_X5_save l g qm 0 mz ms hn mp mb L m1 m2 m3 mB mF mN mS sT mW acc n ho h c f hh H.size) (cwV 0 hts gX5_take_X5_save rfl rfl rfl (by decide +kernel) ⟨Nat.le_of_ble_eq_true rfl, Nat.le_of_ble_eq_true rfl⟩) (muV hE hS hPc_7 hDc_8 hFc_9 rfl rfl) rfl rfl hl.1 rfl (lv_room (Nat.le_of_ble_eq_true rfl)) dX5_take_41 ⟨Nat.le_of_ble_eq_true rfl, Nat.le_of_ble_eq_true rfl⟩) hP hD hS hA [0, 1, 2] [] [0, 1, 2] rfl rfl (by decide) (by decide) (fun _ => [(qm, .inr (5, [.int (iI 0), .ref mz, .ref ms, .int (iI (svL hn + 1)), .ref mp, .ref mb, .int (iI L), .ref m1, .ref m2, .ref m3, .ref mB, .ref mF, .ref mN, .ref mS, .int (iI sT), .ref mW, .long acc])), (mz, .inl (gI g, 326, .inl (aI (zF n ho h c)))), (ms, .inl (gI g, 1956, .inl (aI ((svM (olF f hn) (svL hn) (zF n ho h c) 326)))))]) (fun _ => rfl) (by decide) (Nat.le_of_ble_eq_true rfl) (Nat.le_of_ble_eq_true rfl) (fun u9 H locs hu_10 hP hD hS => ?_)
        have hP : va_P g.1 vwCl [(qm, .inr (5, [.int (iI 0), .ref mz, .ref ms, .int (iI (svL hn + 1)), .ref mp, .ref mb, .int (iI L), .ref m1, .ref m2, .ref m3, .ref mB, .ref mF, .ref mN, .ref mS, .int (iI sT), .ref mW, .long acc])), (mz, .inl (gI g, 326, .inl (aI (zF n ho h c)))), (ms, .inl (gI g, 1956, .inl (aI ((svM (olF f hn) (svL hn) (zF n ho h c) 326)))))] H := hP
        have hD : va_D A [(qm, .inr (5, [.int (iI 0), .ref mz, .ref ms, .int (iI (svL hn + 1)), .ref mp, .ref mb, .int (iI L), .ref m1, .ref m2, .ref m3, .ref mB, .ref mF, .ref mN, .ref mS, .int (iI sT), .ref mW, .long acc])), (mz, .inl (gI g, 326, .inl (aI (zF n ho h c)))), (ms, .inl (gI g, 1956, .inl (aI ((svM (olF f hn) (svL hn) (zF n ho h c) 326)))))] := hD
        refine lv_aload_n hx hb dX5_take_44 rfl (lv_at hl 0 rfl) ?_
        refine lv_iload_n hx hb dX5_take_45 rfl (lv_at hl 1 rfl) ?_
        refine lv_iload_n hx hb dX5_take_46 rfl (lv_at hl 2 rfl) ?_
        have hPc_11 := hP.sub (ws' := [(qm, .inr (5, [.int (iI 0), .ref mz, .ref ms, .int (iI (svL hn + 1)), .ref mp, .ref mb, .int (iI L), .ref m1, .ref m2, .ref m3, .ref mB, .ref mF, .ref mN, .ref mS, .int (iI sT), .ref mW, .long acc])), (mz, .inl (gI g, 326, .inl (aI (zF n ho h c))))]) [0, 1] rfl
        have hDc_12 := hD.sub (ws' := [(qm, .inr (5, [.int (iI 0), .ref mz, .ref ms, .int (iI (svL hn + 1)), .ref mp, .ref mb, .int (iI L), .ref m1, .ref m2, .ref m3, .ref mB, .ref mF, .ref mN, .ref mS, .int (iI sT), .ref mW, .long acc])), (mz, .inl (gI g, 326, .inl (aI (zF n ho h c))))]) [0, 1] (by decide) rfl
        have hFc_13 := va_free (wc := [(qm, .inr (5, [.int (iI 0), .ref mz, .ref ms, .int (iI (svL hn + 1)), .ref mp, .ref mb, .int (iI L), .ref m1, .ref m2, .ref m3, .ref mB, .ref mF, .ref mN, .ref mS, .int (iI sT), .ref mW, .long acc])), (mz, .inl (gI g, 326, .inl (aI (zF n ho h c))))]) hD hS hA [0, 1] rfl
        refine mc_i (wr := [(ms, .inl (gI g, 1956, .inl (aI ((svM (olF f hn) (svL hn) (zF n ho h c) 326)))))]) (cells1 := 0) (slots1 := 0) (va_runV (As := [.int (iI x), .int (iI y)]) (rest := []) ⟨hx, hb, hml, hown, hts⟩ (c_X5_takeFrom l g qm 0 mz ms (svL hn + 1) mp mb L m1 m2 m3 mB mF mN mS sT mW acc n ho h c x y hY h1 h2 h3 h4 g5 H.size) (cwV 2 hts gX5_take_X5_takeFrom rfl rfl rfl (by decide +kernel) ⟨Nat.le_of_ble_eq_true rfl, Nat.le_of_ble_eq_true rfl⟩) (muV hE hS hPc_11 hDc_12 hFc_13 rfl rfl) rfl rfl hl.1 rfl (lv_room (Nat.le_of_ble_eq_true rfl)) dX5_take_47 ⟨Nat.le_of_ble_eq_true rfl, Nat.le_of_ble_eq_true rfl⟩) hP hD hS hA [0, 1] [2] [1, 2, 0] rfl rfl (by decide) (by decide) (fun _ => [(qm, .inr (5, [.int (iI 0), .ref mz, .ref ms, .int (iI (svL hn + 1)), .ref mp, .ref mb, .int (iI L), .ref m1, .ref m2, .ref m3, .ref mB, .ref mF, .ref mN, .ref mS, .int (iI sT), .ref mW, .long acc])), (mz, .inl (gI g, 326, .inl (aI ((zF n ho (lowH h (y * 6 + x) (h (y * 6 + x) - 1)) (lowC h c (y * 6 + x) (h (y * 6 + x) - 1))))))), (ms, .inl (gI g, 1956, .inl (aI ((svM (olF f hn) (svL hn) (zF n ho h c) 326)))))]) (fun _ => rfl) (by decide) (Nat.le_of_ble_eq_true rfl) (Nat.le_of_ble_eq_true rfl) (fun u9 H locs hu_14 hP hD hS => ?_)
        have hP : va_P g.1 vwCl [(qm, .inr (5, [.int (iI 0), .ref mz, .ref ms, .int (iI (svL hn + 1)), .ref mp, .ref mb, .int (iI L), .ref m1, .ref m2, .ref m3, .ref mB, .ref mF, .ref mN, .ref mS, .int (iI sT), .ref mW, .long acc])), (mz, .inl (gI g, 326, .inl (aI ((zF n ho (lowH h (y * 6 + x) (h (y * 6 + x) - 1)) (lowC h c (y * 6 + x) (h (y * 6 + x) - 1))))))), (ms, .inl (gI g, 1956, .inl (aI ((svM (olF f hn) (svL hn) (zF n ho h c) 326)))))] H := hP
        have hD : va_D A [(qm, .inr (5, [.int (iI 0), .ref mz, .ref ms, .int (iI (svL hn + 1)), .ref mp, .ref mb, .int (iI L), .ref m1, .ref m2, .ref m3, .ref mB, .ref mF, .ref mN, .ref mS, .int (iI sT), .ref mW, .long acc])), (mz, .inl (gI g, 326, .inl (aI ((zF n ho (lowH h (y * 6 + x) (h (y * 6 + x) - 1)) (lowC h c (y * 6 + x) (h (y * 6 + x) - 1))))))), (ms, .inl (gI g, 1956, .inl (aI ((svM (olF f hn) (svL hn) (zF n ho h c) 326)))))] := hD
        refine ln_topv (w := .int (iI (colZ (c (y * 6 + x)) (h (y * 6 + x) - 1)))) rfl ?_
        have hP : va_P g.1 vwCl [(qm, .inr (5, [.int (iI 0), .ref mz, .ref ms, .int (iI (svL hn + 1)), .ref mp, .ref mb, .int (iI L), .ref m1, .ref m2, .ref m3, .ref mB, .ref mF, .ref mN, .ref mS, .int (iI sT), .ref mW, .long acc])), (mz, .inl (gI g, 326, .inl (aI ((zF n ho (lowH h (y * 6 + x) (h (y * 6 + x) - 1)) (lowC h c (y * 6 + x) (h (y * 6 + x) - 1))))))), (ms, .inl (gI g, 1956, .inl (aI ((svM (olF f hn) (svL hn) (zF n ho h c) 326)))))] _ := hP
        have hD : va_D A [(qm, .inr (5, [.int (iI 0), .ref mz, .ref ms, .int (iI (svL hn + 1)), .ref mp, .ref mb, .int (iI L), .ref m1, .ref m2, .ref m3, .ref mB, .ref mF, .ref mN, .ref mS, .int (iI sT), .ref mW, .long acc])), (mz, .inl (gI g, 326, .inl (aI ((zF n ho (lowH h (y * 6 + x) (h (y * 6 + x) - 1)) (lowC h c (y * 6 + x) (h (y * 6 + x) - 1))))))), (ms, .inl (gI g, 1956, .inl (aI ((svM (olF f hn) (svL hn) (zF n ho h c) 326)))))] := hD
        exact mend_i (S := Unit) (w' := (fun _ => [(qm, .inr (5, [.int (iI 0), .ref mz, .ref ms, .int (iI (svL hn + 1)), .ref mp, .ref mb, .int (iI L), .ref m1, .ref m2, .ref m3, .ref mB, .ref mF, .ref mN, .ref mS, .int (iI sT), .ref mW, .long acc])), (mz, .inl (gI g, 326, .inl (aI ((zF n ho (lowH h (y * 6 + x) (h (y * 6 + x) - 1)) (lowC h c (y * 6 + x) (h (y * 6 + x) - 1))))))), (ms, .inl (gI g, 1956, .inl (aI ((svM (olF f hn) (svL hn) (zF n ho h c) 326)))))])) (post := (fun _ => True)) (r := (fun _ => colZ (c (y * 6 + x)) (h (y * 6 + x) - 1))) hx hb hr hlk hS () hP hD (trivial) (by rfl) (Nat.le_of_ble_eq_true rfl) (Nat.le_of_ble_eq_true rfl) dX5_take_50
      · exfalso; omega
    · exfalso; omega
  · exfalso; omega
set_option maxHeartbeats 800000 in
set_option maxRecDepth 100000 in
theorem c_X5_take_x1 (l : Launch) (g : GT) (qm : Nat) (th : Int) (mz : Nat) (ms : Nat) (hn : Int) (mp : Nat) (mb : Nat) (L : Int) (m1 : Nat) (m2 : Nat) (m3 : Nat) (mB : Nat) (mF : Nat) (mN : Nat) (mS : Nat) (sT : Int) (mW : Nat) (acc : Int64) (n : Int) (ho : Int) (h : Int → Int) (c : Int → Int) (x : Int) (y : Int) (hY : YOk n ho h c) (gx : Rg x) (gy : Rg y) (g1 : ¬ okS n x y) : MutI l yX5_take wsX5_take ({ frames := 2, cells := 0, slots := 0, locals := 44 }) 0 0 g [(qm, .inr (5, [.int (iI th), .ref mz, .ref ms, .int (iI hn), .ref mp, .ref mb, .int (iI L), .ref m1, .ref m2, .ref m3, .ref mB, .ref mF, .ref mN, .ref mS, .int (iI sT), .ref mW, .long acc])), (mz, .inl (gI g, 326, .inl (aI (zF n ho h c))))] [.ref qm, .int (iI x), .int (iI y)] (S := Unit) (fun _ => True) (fun _ => 0) (fun _ => [(qm, .inr (5, [.int (iI 1), .ref mz, .ref ms, .int (iI hn), .ref mp, .ref mb, .int (iI L), .ref m1, .ref m2, .ref m3, .ref mB, .ref mF, .ref mN, .ref mS, .int (iI sT), .ref mW, .long acc])), (mz, .inl (gI g, 326, .inl (aI (zF n ho h c))))]) := by
  refine mut_of (y := yX5_take) (ws := wsX5_take) (av := [.ref qm, .int (iI x), .int (iI y)]) (w := [(qm, .inr (5, [.int (iI th), .ref mz, .ref ms, .int (iI hn), .ref mp, .ref mb, .int (iI L), .ref m1, .ref m2, .ref m3, .ref mB, .ref mF, .ref mN, .ref mS, .int (iI sT), .ref mW, .long acc])), (mz, .inl (gI g, 326, .inl (aI (zF n ho h c))))]) (Qc := fun A => va_Qi (fun x9 (u9 : Unit) => x9 = iI ((fun _ => 0) u9) ∧ (fun _ => True) u9) (fun u9 t9 => MB g ((fun _ => [(qm, .inr (5, [.int (iI 1), .ref mz, .ref ms, .int (iI hn), .ref mp, .ref mb, .int (iI L), .ref m1, .ref m2, .ref m3, .ref mB, .ref mF, .ref mN, .ref mS, .int (iI sT), .ref mW, .long acc])), (mz, .inl (gI g, 326, .inl (aI (zF n ho h c))))]) u9) A t9) A) (cc := cX5_take) (maxL := 3) (ret := (some .int)) (by decide) rfl (Nat.le_of_ble_eq_true rfl) ?_
  intro pZ eZ sZ mZ bZ meZ cZ A F hin hA hP hD hE hS ls hl
  obtain ⟨hx, hb, hr, hml, hts, hown, hlk⟩ := F
  skip
  have hown : sZ.vm.findClass RX5 = some mZ.cls := hown
  have hl : lv_has ls 3 [(0, .ref qm), (1, .int (iI x)), (2, .int (iI y))] := hl
  skip
  have w0 := hts (.fieldLink RX5 47 "SlantYardModel" "thrown" "I") (by decide +kernel)
  have in5 : ∀ w ∈ u_ws RX5 TX5 17, w ∈ wsX5_take := by decide +kernel
  have hnn := hY.n
  have hho := hY.hr
  refine lv_aload_n hx hb dX5_take_0 rfl (lv_at hl 0 rfl) ?_
  refine lv_aload_n hx hb dX5_take_1 rfl (lv_at hl 0 rfl) ?_
  refine lv_iload_n hx hb dX5_take_2 rfl (lv_at hl 1 rfl) ?_
  refine lv_iload_n hx hb dX5_take_3 rfl (lv_at hl 2 rfl) ?_
  have hPc_1 := hP.sub (ws' := [(qm, .inr (5, [.int (iI th), .ref mz, .ref ms, .int (iI hn), .ref mp, .ref mb, .int (iI L), .ref m1, .ref m2, .ref m3, .ref mB, .ref mF, .ref mN, .ref mS, .int (iI sT), .ref mW, .long acc])), (mz, .inl (gI g, 326, .inl (aI (zF n ho h c))))]) [0, 1] rfl
  refine pc_i (va_runV (As := [.int (iI x), .int (iI y)]) (rest := [.ref qm]) ⟨hx, hb, hml, hown, hts⟩ (c_X5_isSquare l g qm th mz ms hn mp mb L m1 m2 m3 mB mF mN mS sT mW acc n ho h c x y hY gx gy) (cwV 2 hts gX5_take_X5_isSquare rfl rfl rfl (by decide +kernel) ⟨Nat.le_of_ble_eq_true rfl, Nat.le_of_ble_eq_true rfl⟩) (puV hE hS hPc_1 rfl rfl) rfl rfl hl.1 rfl (lv_room (Nat.le_of_ble_eq_true rfl)) dX5_take_4 ⟨Nat.le_of_ble_eq_true rfl, Nat.le_of_ble_eq_true rfl⟩) ?_
  refine lb_if_ne (tgt := 14) hx hb dX5_take_7 (by decide) (fun c_2 => ?_) (fun c_2 => ?_)
  · exact absurd c_2 (g1)
  · skip
    refine lv_iconst (v := iI 1) hx hb dX5_take_10 rfl ?_
    refine lv_goto (tgt := 28) hx hb dX5_take_11 (by decide) ?_
    refine va_put (D := g.1) (ci := 5) (v := .int (iI 1)) (ty := .int) (C := RX5) (T := TX5) (N := 17) hx hb hts in5 tyX5 tyX5_ok nmX5 hown hE.1 hP hD hS 0 rfl rfl 0 (by decide) w0 (fun _ h9 => h9) rfl (by decide +kernel) rfl rfl (Nat.le_of_ble_eq_true rfl) dX5_take_28 (fun H locs hP hD hS => ?_)
    have hP : va_P g.1 vwCl [(qm, .inr (5, [.int (iI 1), .ref mz, .ref ms, .int (iI hn), .ref mp, .ref mb, .int (iI L), .ref m1, .ref m2, .ref m3, .ref mB, .ref mF, .ref mN, .ref mS, .int (iI sT), .ref mW, .long acc])), (mz, .inl (gI g, 326, .inl (aI (zF n ho h c))))] H := hP
    have hD : va_D A [(qm, .inr (5, [.int (iI 1), .ref mz, .ref ms, .int (iI hn), .ref mp, .ref mb, .int (iI L), .ref m1, .ref m2, .ref m3, .ref mB, .ref mF, .ref mN, .ref mS, .int (iI sT), .ref mW, .long acc])), (mz, .inl (gI g, 326, .inl (aI (zF n ho h c))))] := hD
    refine lv_aload_n hx hb dX5_take_31 rfl (lv_at hl 0 rfl) ?_
    refine va_get (D := g.1) (ci := 5) (v := .int (iI 1)) (C := RX5) (T := TX5) (N := 17) hx hb hts in5 hown hE.1 hP 0 rfl rfl 0 (by decide) w0 (fun _ h9 => h9) rfl dX5_take_32 ?_
    refine ln_if_le (tgt := 40) hx hb dX5_take_35 (by decide) (by decide) (fun c_3 => ?_) (fun c_3 => ?_)
    · exfalso; omega
    · skip
      refine lv_iconst (v := iI 0) hx hb dX5_take_38 rfl ?_
      have hP : va_P g.1 vwCl [(qm, .inr (5, [.int (iI 1), .ref mz, .ref ms, .int (iI hn), .ref mp, .ref mb, .int (iI L), .ref m1, .ref m2, .ref m3, .ref mB, .ref mF, .ref mN, .ref mS, .int (iI sT), .ref mW, .long acc])), (mz, .inl (gI g, 326, .inl (aI (zF n ho h c))))] _ := hP
      have hD : va_D A [(qm, .inr (5, [.int (iI 1), .ref mz, .ref ms, .int (iI hn), .ref mp, .ref mb, .int (iI L), .ref m1, .ref m2, .ref m3, .ref mB, .ref mF, .ref mN, .ref mS, .int (iI sT), .ref mW, .long acc])), (mz, .inl (gI g, 326, .inl (aI (zF n ho h c))))] := hD
      exact mend_i (S := Unit) (w' := (fun _ => [(qm, .inr (5, [.int (iI 1), .ref mz, .ref ms, .int (iI hn), .ref mp, .ref mb, .int (iI L), .ref m1, .ref m2, .ref m3, .ref mB, .ref mF, .ref mN, .ref mS, .int (iI sT), .ref mW, .long acc])), (mz, .inl (gI g, 326, .inl (aI (zF n ho h c))))])) (post := (fun _ => True)) (r := (fun _ => 0)) hx hb hr hlk hS () hP hD (trivial) (by rfl) (Nat.le_of_ble_eq_true rfl) (Nat.le_of_ble_eq_true rfl) dX5_take_39
set_option maxHeartbeats 800000 in
set_option maxRecDepth 100000 in
theorem c_X5_take_x2 (l : Launch) (g : GT) (qm : Nat) (th : Int) (mz : Nat) (ms : Nat) (hn : Int) (mp : Nat) (mb : Nat) (L : Int) (m1 : Nat) (m2 : Nat) (m3 : Nat) (mB : Nat) (mF : Nat) (mN : Nat) (mS : Nat) (sT : Int) (mW : Nat) (acc : Int64) (n : Int) (ho : Int) (h : Int → Int) (c : Int → Int) (x : Int) (y : Int) (hY : YOk n ho h c) (h1 : 0 ≤ x) (h2 : x < n) (h3 : 0 ≤ y) (h4 : y < n) (g5 : h (y * 6 + x) = 0) : MutI l yX5_take wsX5_take ({ frames := 2, cells := 0, slots := 0, locals := 44 }) 0 0 g [(qm, .inr (5, [.int (iI th), .ref mz, .ref ms, .int (iI hn), .ref mp, .ref mb, .int (iI L), .ref m1, .ref m2, .ref m3, .ref mB, .ref mF, .ref mN, .ref mS, .int (iI sT), .ref mW, .long acc])), (mz, .inl (gI g, 326, .inl (aI (zF n ho h c))))] [.ref qm, .int (iI x), .int (iI y)] (S := Unit) (fun _ => True) (fun _ => 0) (fun _ => [(qm, .inr (5, [.int (iI 2), .ref mz, .ref ms, .int (iI hn), .ref mp, .ref mb, .int (iI L), .ref m1, .ref m2, .ref m3, .ref mB, .ref mF, .ref mN, .ref mS, .int (iI sT), .ref mW, .long acc])), (mz, .inl (gI g, 326, .inl (aI (zF n ho h c))))]) := by
  refine mut_of (y := yX5_take) (ws := wsX5_take) (av := [.ref qm, .int (iI x), .int (iI y)]) (w := [(qm, .inr (5, [.int (iI th), .ref mz, .ref ms, .int (iI hn), .ref mp, .ref mb, .int (iI L), .ref m1, .ref m2, .ref m3, .ref mB, .ref mF, .ref mN, .ref mS, .int (iI sT), .ref mW, .long acc])), (mz, .inl (gI g, 326, .inl (aI (zF n ho h c))))]) (Qc := fun A => va_Qi (fun x9 (u9 : Unit) => x9 = iI ((fun _ => 0) u9) ∧ (fun _ => True) u9) (fun u9 t9 => MB g ((fun _ => [(qm, .inr (5, [.int (iI 2), .ref mz, .ref ms, .int (iI hn), .ref mp, .ref mb, .int (iI L), .ref m1, .ref m2, .ref m3, .ref mB, .ref mF, .ref mN, .ref mS, .int (iI sT), .ref mW, .long acc])), (mz, .inl (gI g, 326, .inl (aI (zF n ho h c))))]) u9) A t9) A) (cc := cX5_take) (maxL := 3) (ret := (some .int)) (by decide) rfl (Nat.le_of_ble_eq_true rfl) ?_
  intro pZ eZ sZ mZ bZ meZ cZ A F hin hA hP hD hE hS ls hl
  obtain ⟨hx, hb, hr, hml, hts, hown, hlk⟩ := F
  skip
  have hown : sZ.vm.findClass RX5 = some mZ.cls := hown
  have hl : lv_has ls 3 [(0, .ref qm), (1, .int (iI x)), (2, .int (iI y))] := hl
  skip
  have w0 := hts (.fieldLink RX5 47 "SlantYardModel" "thrown" "I") (by decide +kernel)
  have in5 : ∀ w ∈ u_ws RX5 TX5 17, w ∈ wsX5_take := by decide +kernel
  have hnn := hY.n
  have hho := hY.hr
  refine lv_aload_n hx hb dX5_take_0 rfl (lv_at hl 0 rfl) ?_
  refine lv_aload_n hx hb dX5_take_1 rfl (lv_at hl 0 rfl) ?_
  refine lv_iload_n hx hb dX5_take_2 rfl (lv_at hl 1 rfl) ?_
  refine lv_iload_n hx hb dX5_take_3 rfl (lv_at hl 2 rfl) ?_
  have hPc_1 := hP.sub (ws' := [(qm, .inr (5, [.int (iI th), .ref mz, .ref ms, .int (iI hn), .ref mp, .ref mb, .int (iI L), .ref m1, .ref m2, .ref m3, .ref mB, .ref mF, .ref mN, .ref mS, .int (iI sT), .ref mW, .long acc])), (mz, .inl (gI g, 326, .inl (aI (zF n ho h c))))]) [0, 1] rfl
  refine pc_i (va_runV (As := [.int (iI x), .int (iI y)]) (rest := [.ref qm]) ⟨hx, hb, hml, hown, hts⟩ (c_X5_isSquare l g qm th mz ms hn mp mb L m1 m2 m3 mB mF mN mS sT mW acc n ho h c x y hY (by omega) (by omega)) (cwV 2 hts gX5_take_X5_isSquare rfl rfl rfl (by decide +kernel) ⟨Nat.le_of_ble_eq_true rfl, Nat.le_of_ble_eq_true rfl⟩) (puV hE hS hPc_1 rfl rfl) rfl rfl hl.1 rfl (lv_room (Nat.le_of_ble_eq_true rfl)) dX5_take_4 ⟨Nat.le_of_ble_eq_true rfl, Nat.le_of_ble_eq_true rfl⟩) ?_
  refine lb_if_ne (tgt := 14) hx hb dX5_take_7 (by decide) (fun c_2 => ?_) (fun c_2 => ?_)
  · skip
    refine lv_aload_n hx hb dX5_take_14 rfl (lv_at hl 0 rfl) ?_
    refine lv_iload_n hx hb dX5_take_15 rfl (lv_at hl 1 rfl) ?_
    refine lv_iload_n hx hb dX5_take_16 rfl (lv_at hl 2 rfl) ?_
    have hPc_3 := hP.sub (ws' := [(qm, .inr (5, [.int (iI th), .ref mz, .ref ms, .int (iI hn), .ref mp, .ref mb, .int (iI L), .ref m1, .ref m2, .ref m3, .ref mB, .ref mF, .ref mN, .ref mS, .int (iI sT), .ref mW, .long acc])), (mz, .inl (gI g, 326, .inl (aI (zF n ho h c))))]) [0, 1] rfl
    refine pc_i (va_runV (As := [.int (iI x), .int (iI y)]) (rest := [.ref qm]) ⟨hx, hb, hml, hown, hts⟩ (c_X5_height l g qm th mz ms hn mp mb L m1 m2 m3 mB mF mN mS sT mW acc n ho h c x y hY h1 h2 h3 h4) (cwV 2 hts gX5_take_X5_height rfl rfl rfl (by decide +kernel) ⟨Nat.le_of_ble_eq_true rfl, Nat.le_of_ble_eq_true rfl⟩) (puV hE hS hPc_3 rfl rfl) rfl rfl hl.1 rfl (lv_room (Nat.le_of_ble_eq_true rfl)) dX5_take_17 ⟨Nat.le_of_ble_eq_true rfl, Nat.le_of_ble_eq_true rfl⟩) ?_
    have r_4 : 0 ≤ h (y * 6 + x) ∧ h (y * 6 + x) ≤ 8 := YOk.h hY (y * 6 + x)
    refine ln_if_ne (tgt := 27) hx hb dX5_take_20 (by decide) ⟨by omega, by omega⟩ (fun c_5 => ?_) (fun c_5 => ?_)
    · exfalso; omega
    · skip
      refine lv_iconst (v := iI 2) hx hb dX5_take_23 rfl ?_
      refine lv_goto (tgt := 28) hx hb dX5_take_24 (by decide) ?_
      refine va_put (D := g.1) (ci := 5) (v := .int (iI 2)) (ty := .int) (C := RX5) (T := TX5) (N := 17) hx hb hts in5 tyX5 tyX5_ok nmX5 hown hE.1 hP hD hS 0 rfl rfl 0 (by decide) w0 (fun _ h9 => h9) rfl (by decide +kernel) rfl rfl (Nat.le_of_ble_eq_true rfl) dX5_take_28 (fun H locs hP hD hS => ?_)
      have hP : va_P g.1 vwCl [(qm, .inr (5, [.int (iI 2), .ref mz, .ref ms, .int (iI hn), .ref mp, .ref mb, .int (iI L), .ref m1, .ref m2, .ref m3, .ref mB, .ref mF, .ref mN, .ref mS, .int (iI sT), .ref mW, .long acc])), (mz, .inl (gI g, 326, .inl (aI (zF n ho h c))))] H := hP
      have hD : va_D A [(qm, .inr (5, [.int (iI 2), .ref mz, .ref ms, .int (iI hn), .ref mp, .ref mb, .int (iI L), .ref m1, .ref m2, .ref m3, .ref mB, .ref mF, .ref mN, .ref mS, .int (iI sT), .ref mW, .long acc])), (mz, .inl (gI g, 326, .inl (aI (zF n ho h c))))] := hD
      refine lv_aload_n hx hb dX5_take_31 rfl (lv_at hl 0 rfl) ?_
      refine va_get (D := g.1) (ci := 5) (v := .int (iI 2)) (C := RX5) (T := TX5) (N := 17) hx hb hts in5 hown hE.1 hP 0 rfl rfl 0 (by decide) w0 (fun _ h9 => h9) rfl dX5_take_32 ?_
      refine ln_if_le (tgt := 40) hx hb dX5_take_35 (by decide) (by decide) (fun c_6 => ?_) (fun c_6 => ?_)
      · exfalso; omega
      · skip
        refine lv_iconst (v := iI 0) hx hb dX5_take_38 rfl ?_
        have hP : va_P g.1 vwCl [(qm, .inr (5, [.int (iI 2), .ref mz, .ref ms, .int (iI hn), .ref mp, .ref mb, .int (iI L), .ref m1, .ref m2, .ref m3, .ref mB, .ref mF, .ref mN, .ref mS, .int (iI sT), .ref mW, .long acc])), (mz, .inl (gI g, 326, .inl (aI (zF n ho h c))))] _ := hP
        have hD : va_D A [(qm, .inr (5, [.int (iI 2), .ref mz, .ref ms, .int (iI hn), .ref mp, .ref mb, .int (iI L), .ref m1, .ref m2, .ref m3, .ref mB, .ref mF, .ref mN, .ref mS, .int (iI sT), .ref mW, .long acc])), (mz, .inl (gI g, 326, .inl (aI (zF n ho h c))))] := hD
        exact mend_i (S := Unit) (w' := (fun _ => [(qm, .inr (5, [.int (iI 2), .ref mz, .ref ms, .int (iI hn), .ref mp, .ref mb, .int (iI L), .ref m1, .ref m2, .ref m3, .ref mB, .ref mF, .ref mN, .ref mS, .int (iI sT), .ref mW, .long acc])), (mz, .inl (gI g, 326, .inl (aI (zF n ho h c))))])) (post := (fun _ => True)) (r := (fun _ => 0)) hx hb hr hlk hS () hP hD (trivial) (by rfl) (Nat.le_of_ble_eq_true rfl) (Nat.le_of_ble_eq_true rfl) dX5_take_39
  · exfalso; omega
set_option maxHeartbeats 800000 in
set_option maxRecDepth 100000 in
theorem c_X5_paint_ok (l : Launch) (g : GT) (qm : Nat) (th : Int) (mz : Nat) (ms : Nat) (hn : Int) (mp : Nat) (mb : Nat) (L : Int) (m1 : Nat) (m2 : Nat) (m3 : Nat) (mB : Nat) (mF : Nat) (mN : Nat) (mS : Nat) (sT : Int) (mW : Nat) (acc : Int64) (n : Int) (ho : Int) (h : Int → Int) (c : Int → Int) (f : Int → Int) (x : Int) (y : Int) (d : Int) (hY : YOk n ho h c) (hh : 0 ≤ hn ∧ hn ≤ 6) (h1 : 0 ≤ x) (h2 : x < n) (h3 : 0 ≤ y) (h4 : y < n) (gd : 0 ≤ d ∧ d ≤ 3) (g5 : h (y * 6 + x) ≠ 0) : MutI l yX5_paint wsX5_paint ({ frames := 2, cells := 0, slots := 0, locals := 46 }) 0 0 g [(qm, .inr (5, [.int (iI th), .ref mz, .ref ms, .int (iI hn), .ref mp, .ref mb, .int (iI L), .ref m1, .ref m2, .ref m3, .ref mB, .ref mF, .ref mN, .ref mS, .int (iI sT), .ref mW, .long acc])), (mz, .inl (gI g, 326, .inl (aI (zF n ho h c)))), (ms, .inl (gI g, 1956, .inl (aI f)))] [.ref qm, .int (iI x), .int (iI y), .int (iI d)] (S := Unit) (fun _ => True) (fun _ => colZ (c (y * 6 + x)) (h (y * 6 + x) - 1)) (fun _ => [(qm, .inr (5, [.int (iI 0), .ref mz, .ref ms, .int (iI (svL hn + 1)), .ref mp, .ref mb, .int (iI L), .ref m1, .ref m2, .ref m3, .ref mB, .ref mF, .ref mN, .ref mS, .int (iI sT), .ref mW, .long acc])), (mz, .inl (gI g, 326, .inl (aI ((zF n ho (updI (lowH h (y * 6 + x) (h (y * 6 + x) - 1)) (y * 6 + x) ((lowH h (y * 6 + x) (h (y * 6 + x) - 1)) (y * 6 + x) + 1)) (updI (lowC h c (y * 6 + x) (h (y * 6 + x) - 1)) (y * 6 + x) ((lowC h c (y * 6 + x) (h (y * 6 + x) - 1)) (y * 6 + x) + d * p4 ((lowH h (y * 6 + x) (h (y * 6 + x) - 1)) (y * 6 + x))))))))), (ms, .inl (gI g, 1956, .inl (aI ((svM (olF f hn) (svL hn) (zF n ho h c) 326)))))]) := by
  refine mut_of (y := yX5_paint) (ws := wsX5_paint) (av := [.ref qm, .int (iI x), .int (iI y), .int (iI d)]) (w := [(qm, .inr (5, [.int (iI th), .ref mz, .ref ms, .int (iI hn), .ref mp, .ref mb, .int (iI L), .ref m1, .ref m2, .ref m3, .ref mB, .ref mF, .ref mN, .ref mS, .int (iI sT), .ref mW, .long acc])), (mz, .inl (gI g, 326, .inl (aI (zF n ho h c)))), (ms, .inl (gI g, 1956, .inl (aI f)))]) (Qc := fun A => va_Qi (fun x9 (u9 : Unit) => x9 = iI ((fun _ => colZ (c (y * 6 + x)) (h (y * 6 + x) - 1)) u9) ∧ (fun _ => True) u9) (fun u9 t9 => MB g ((fun _ => [(qm, .inr (5, [.int (iI 0), .ref mz, .ref ms, .int (iI (svL hn + 1)), .ref mp, .ref mb, .int (iI L), .ref m1, .ref m2, .ref m3, .ref mB, .ref mF, .ref mN, .ref mS, .int (iI sT), .ref mW, .long acc])), (mz, .inl (gI g, 326, .inl (aI ((zF n ho (updI (lowH h (y * 6 + x) (h (y * 6 + x) - 1)) (y * 6 + x) ((lowH h (y * 6 + x) (h (y * 6 + x) - 1)) (y * 6 + x) + 1)) (updI (lowC h c (y * 6 + x) (h (y * 6 + x) - 1)) (y * 6 + x) ((lowC h c (y * 6 + x) (h (y * 6 + x) - 1)) (y * 6 + x) + d * p4 ((lowH h (y * 6 + x) (h (y * 6 + x) - 1)) (y * 6 + x))))))))), (ms, .inl (gI g, 1956, .inl (aI ((svM (olF f hn) (svL hn) (zF n ho h c) 326)))))]) u9) A t9) A) (cc := cX5_paint) (maxL := 5) (ret := (some .int)) (by decide) rfl (Nat.le_of_ble_eq_true rfl) ?_
  intro pZ eZ sZ mZ bZ meZ cZ A F hin hA hP hD hE hS ls hl
  obtain ⟨hx, hb, hr, hml, hts, hown, hlk⟩ := F
  skip
  have hown : sZ.vm.findClass RX5 = some mZ.cls := hown
  have hl : lv_has ls 5 [(0, .ref qm), (1, .int (iI x)), (2, .int (iI y)), (3, .int (iI d))] := hl
  skip
  have w0 := hts (.fieldLink RX5 47 "SlantYardModel" "thrown" "I") (by decide +kernel)
  have in5 : ∀ w ∈ u_ws RX5 TX5 17, w ∈ wsX5_paint := by decide +kernel
  have hnn := hY.n
  have hho := hY.hr
  have hh9 := YOk.h hY (y * 6 + x)
  refine lv_aload_n hx hb dX5_paint_0 rfl (lv_at hl 0 rfl) ?_
  refine lv_aload_n hx hb dX5_paint_1 rfl (lv_at hl 0 rfl) ?_
  refine lv_iload_n hx hb dX5_paint_2 rfl (lv_at hl 1 rfl) ?_
  refine lv_iload_n hx hb dX5_paint_3 rfl (lv_at hl 2 rfl) ?_
  have hPc_1 := hP.sub (ws' := [(qm, .inr (5, [.int (iI th), .ref mz, .ref ms, .int (iI hn), .ref mp, .ref mb, .int (iI L), .ref m1, .ref m2, .ref m3, .ref mB, .ref mF, .ref mN, .ref mS, .int (iI sT), .ref mW, .long acc])), (mz, .inl (gI g, 326, .inl (aI (zF n ho h c))))]) [0, 1] rfl
  refine pc_i (va_runV (As := [.int (iI x), .int (iI y)]) (rest := [.ref qm]) ⟨hx, hb, hml, hown, hts⟩ (c_X5_isSquare l g qm th mz ms hn mp mb L m1 m2 m3 mB mF mN mS sT mW acc n ho h c x y hY (by omega) (by omega)) (cwV 2 hts gX5_paint_X5_isSquare rfl rfl rfl (by decide +kernel) ⟨Nat.le_of_ble_eq_true rfl, Nat.le_of_ble_eq_true rfl⟩) (puV hE hS hPc_1 rfl rfl) rfl rfl hl.1 rfl (lv_room (Nat.le_of_ble_eq_true rfl)) dX5_paint_4 ⟨Nat.le_of_ble_eq_true rfl, Nat.le_of_ble_eq_true rfl⟩) ?_
  refine lb_if_ne (tgt := 14) hx hb dX5_paint_7 (by decide) (fun c_2 => ?_) (fun c_2 => ?_)
  · skip
    refine lv_iload_n hx hb dX5_paint_14 rfl (lv_at hl 3 rfl) ?_
    refine pc_i (va_runS (As := [.int (iI d)]) (rest := [.ref qm]) ⟨hx, hb, hml, hown, hts⟩ (c_X5_isColour l g d (by omega)) (va_cwS 1 hts gX5_paint_X5_isColour rfl rfl rfl (by decide +kernel) ⟨Nat.le_of_ble_eq_true rfl, Nat.le_of_ble_eq_true rfl⟩) (puS hE hS (va_P_nil g.1 _)) rfl rfl hl.1 rfl (lv_room (Nat.le_of_ble_eq_true rfl)) dX5_paint_15 ⟨Nat.le_of_ble_eq_true rfl, Nat.le_of_ble_eq_true rfl⟩) ?_
    refine lb_if_ne (tgt := 25) hx hb dX5_paint_18 (by decide) (fun c_3 => ?_) (fun c_3 => ?_)
    · skip
      refine lv_aload_n hx hb dX5_paint_25 rfl (lv_at hl 0 rfl) ?_
      refine lv_iload_n hx hb dX5_paint_26 rfl (lv_at hl 1 rfl) ?_
      refine lv_iload_n hx hb dX5_paint_27 rfl (lv_at hl 2 rfl) ?_
      have hPc_4 := hP.sub (ws' := [(qm, .inr (5, [.int (iI th), .ref mz, .ref ms, .int (iI hn), .ref mp, .ref mb, .int (iI L), .ref m1, .ref m2, .ref m3, .ref mB, .ref mF, .ref mN, .ref mS, .int (iI sT), .ref mW, .long acc])), (mz, .inl (gI g, 326, .inl (aI (zF n ho h c))))]) [0, 1] rfl
      refine pc_i (va_runV (As := [.int (iI x), .int (iI y)]) (rest := [.ref qm]) ⟨hx, hb, hml, hown, hts⟩ (c_X5_height l g qm th mz ms hn mp mb L m1 m2 m3 mB mF mN mS sT mW acc n ho h c x y hY h1 h2 h3 h4) (cwV 2 hts gX5_paint_X5_height rfl rfl rfl (by decide +kernel) ⟨Nat.le_of_ble_eq_true rfl, Nat.le_of_ble_eq_true rfl⟩) (puV hE hS hPc_4 rfl rfl) rfl rfl hl.1 rfl (lv_room (Nat.le_of_ble_eq_true rfl)) dX5_paint_28 ⟨Nat.le_of_ble_eq_true rfl, Nat.le_of_ble_eq_true rfl⟩) ?_
      have r_5 : 0 ≤ h (y * 6 + x) ∧ h (y * 6 + x) ≤ 8 := YOk.h hY (y * 6 + x)
      refine ln_if_ne (tgt := 38) hx hb dX5_paint_31 (by decide) ⟨by omega, by omega⟩ (fun c_6 => ?_) (fun c_6 => ?_)
      · skip
        refine lv_iconst (v := iI 0) hx hb dX5_paint_38 rfl ?_
        refine va_put (D := g.1) (ci := 5) (v := .int (iI 0)) (ty := .int) (C := RX5) (T := TX5) (N := 17) hx hb hts in5 tyX5 tyX5_ok nmX5 hown hE.1 hP hD hS 0 rfl rfl 0 (by decide) w0 (fun _ h9 => h9) rfl (by decide +kernel) rfl rfl (Nat.le_of_ble_eq_true rfl) dX5_paint_39 (fun H locs hP hD hS => ?_)
        have hP : va_P g.1 vwCl [(qm, .inr (5, [.int (iI 0), .ref mz, .ref ms, .int (iI hn), .ref mp, .ref mb, .int (iI L), .ref m1, .ref m2, .ref m3, .ref mB, .ref mF, .ref mN, .ref mS, .int (iI sT), .ref mW, .long acc])), (mz, .inl (gI g, 326, .inl (aI (zF n ho h c)))), (ms, .inl (gI g, 1956, .inl (aI f)))] H := hP
        have hD : va_D A [(qm, .inr (5, [.int (iI 0), .ref mz, .ref ms, .int (iI hn), .ref mp, .ref mb, .int (iI L), .ref m1, .ref m2, .ref m3, .ref mB, .ref mF, .ref mN, .ref mS, .int (iI sT), .ref mW, .long acc])), (mz, .inl (gI g, 326, .inl (aI (zF n ho h c)))), (ms, .inl (gI g, 1956, .inl (aI f)))] := hD
        refine lv_aload_n hx hb dX5_paint_42 rfl (lv_at hl 0 rfl) ?_
        refine va_get (D := g.1) (ci := 5) (v := .int (iI 0)) (C := RX5) (T := TX5) (N := 17) hx hb hts in5 hown hE.1 hP 0 rfl rfl 0 (by decide) w0 (fun _ h9 => h9) rfl dX5_paint_43 ?_
        refine ln_if_le (tgt := 51) hx hb dX5_paint_46 (by decide) (by decide) (fun c_7 => ?_) (fun c_7 => ?_)
        · skip
          refine lv_aload_n hx hb dX5_paint_51 rfl (lv_at hl 0 rfl) ?_
          have hPc_8 := hP.sub (ws' := [(qm, .inr (5, [.int (iI 0), .ref mz, .ref ms, .int (iI hn), .ref mp, .ref mb, .int (iI L), .ref m1, .ref m2, .ref m3, .ref mB, .ref mF, .ref mN, .ref mS, .int (iI sT), .ref mW, .long acc])), (mz, .inl (gI g, 326, .inl (aI (zF n ho h c)))), (ms, .inl (gI g, 1956, .inl (aI f)))]) [0, 1, 2] rfl
          have hDc_9 := hD.sub (ws' := [(qm, .inr (5, [.int (iI 0), .ref mz, .ref ms, .int (iI hn), .ref mp, .ref mb, .int (iI L), .ref m1, .ref m2, .ref m3, .ref mB, .ref mF, .ref mN, .ref mS, .int (iI sT), .ref mW, .long acc])), (mz, .inl (gI g, 326, .inl (aI (zF n ho h c)))), (ms, .inl (gI g, 1956, .inl (aI f)))]) [0, 1, 2] (by decide) rfl
          have hFc_10 := va_free (wc := [(qm, .inr (5, [.int (iI 0), .ref mz, .ref ms, .int (iI hn), .ref mp, .ref mb, .int (iI L), .ref m1, .ref m2, .ref m3, .ref mB, .ref mF, .ref mN, .ref mS, .int (iI sT), .ref mW, .long acc])), (mz, .inl (gI g, 326, .inl (aI (zF n ho h c)))), (ms, .inl (gI g, 1956, .inl (aI f)))]) hD hS hA [0, 1, 2] rfl
          refine mc_v (wr := []) (cells1 := 0) (slots1 := 0) (va_runV (As := []) (rest := []) ⟨hx, hb, hml, hown, hts⟩ (c_X5_save l g qm 0 mz ms hn mp mb L m1 m2 m3 mB mF mN mS sT mW acc n ho h c f hh H.size) (cwV 0 hts gX5_paint_X5_save rfl rfl rfl (by decide +kernel) ⟨Nat.le_of_ble_eq_true rfl, Nat.le_of_ble_eq_true rfl⟩) (muV hE hS hPc_8 hDc_9 hFc_10 rfl rfl) rfl rfl hl.1 rfl (lv_room (Nat.le_of_ble_eq_true rfl)) dX5_paint_52 ⟨Nat.le_of_ble_eq_true rfl, Nat.le_of_ble_eq_true rfl⟩) hP hD hS hA [0, 1, 2] [] [0, 1, 2] rfl rfl (by decide) (by decide) (fun _ => [(qm, .inr (5, [.int (iI 0), .ref mz, .ref ms, .int (iI (svL hn + 1)), .ref mp, .ref mb, .int (iI L), .ref m1, .ref m2, .ref m3, .ref mB, .ref mF, .ref mN, .ref mS, .int (iI sT), .ref mW, .long acc])), (mz, .inl (gI g, 326, .inl (aI (zF n ho h c)))), (ms, .inl (gI g, 1956, .inl (aI ((svM (olF f hn) (svL hn) (zF n ho h c) 326)))))]) (fun _ => rfl) (by decide) (Nat.le_of_ble_eq_true rfl) (Nat.le_of_ble_eq_true rfl) (fun u9 H locs hu_11 hP hD hS => ?_)
          have hP : va_P g.1 vwCl [(qm, .inr (5, [.int (iI 0), .ref mz, .ref ms, .int (iI (svL hn + 1)), .ref mp, .ref mb, .int (iI L), .ref m1, .ref m2, .ref m3, .ref mB, .ref mF, .ref mN, .ref mS, .int (iI sT), .ref mW, .long acc])), (mz, .inl (gI g, 326, .inl (aI (zF n ho h c)))), (ms, .inl (gI g, 1956, .inl (aI ((svM (olF f hn) (svL hn) (zF n ho h c) 326)))))] H := hP
          have hD : va_D A [(qm, .inr (5, [.int (iI 0), .ref mz, .ref ms, .int (iI (svL hn + 1)), .ref mp, .ref mb, .int (iI L), .ref m1, .ref m2, .ref m3, .ref mB, .ref mF, .ref mN, .ref mS, .int (iI sT), .ref mW, .long acc])), (mz, .inl (gI g, 326, .inl (aI (zF n ho h c)))), (ms, .inl (gI g, 1956, .inl (aI ((svM (olF f hn) (svL hn) (zF n ho h c) 326)))))] := hD
          refine lv_aload_n hx hb dX5_paint_55 rfl (lv_at hl 0 rfl) ?_
          refine lv_iload_n hx hb dX5_paint_56 rfl (lv_at hl 1 rfl) ?_
          refine lv_iload_n hx hb dX5_paint_57 rfl (lv_at hl 2 rfl) ?_
          have hPc_12 := hP.sub (ws' := [(qm, .inr (5, [.int (iI 0), .ref mz, .ref ms, .int (iI (svL hn + 1)), .ref mp, .ref mb, .int (iI L), .ref m1, .ref m2, .ref m3, .ref mB, .ref mF, .ref mN, .ref mS, .int (iI sT), .ref mW, .long acc])), (mz, .inl (gI g, 326, .inl (aI (zF n ho h c))))]) [0, 1] rfl
          have hDc_13 := hD.sub (ws' := [(qm, .inr (5, [.int (iI 0), .ref mz, .ref ms, .int (iI (svL hn + 1)), .ref mp, .ref mb, .int (iI L), .ref m1, .ref m2, .ref m3, .ref mB, .ref mF, .ref mN, .ref mS, .int (iI sT), .ref mW, .long acc])), (mz, .inl (gI g, 326, .inl (aI (zF n ho h c))))]) [0, 1] (by decide) rfl
          have hFc_14 := va_free (wc := [(qm, .inr (5, [.int (iI 0), .ref mz, .ref ms, .int (iI (svL hn + 1)), .ref mp, .ref mb, .int (iI L), .ref m1, .ref m2, .ref m3, .ref mB, .ref mF, .ref mN, .ref mS, .int (iI sT), .ref mW, .long acc])), (mz, .inl (gI g, 326, .inl (aI (zF n ho h c))))]) hD hS hA [0, 1] rfl
          refine mc_i (wr := [(ms, .inl (gI g, 1956, .inl (aI ((svM (olF f hn) (svL hn) (zF n ho h c) 326)))))]) (cells1 := 0) (slots1 := 0) (va_runV (As := [.int (iI x), .int (iI y)]) (rest := []) ⟨hx, hb, hml, hown, hts⟩ (c_X5_takeFrom l g qm 0 mz ms (svL hn + 1) mp mb L m1 m2 m3 mB mF mN mS sT mW acc n ho h c x y hY h1 h2 h3 h4 g5 H.size) (cwV 2 hts gX5_paint_X5_takeFrom rfl rfl rfl (by decide +kernel) ⟨Nat.le_of_ble_eq_true rfl, Nat.le_of_ble_eq_true rfl⟩) (muV hE hS hPc_12 hDc_13 hFc_14 rfl rfl) rfl rfl hl.1 rfl (lv_room (Nat.le_of_ble_eq_true rfl)) dX5_paint_58 ⟨Nat.le_of_ble_eq_true rfl, Nat.le_of_ble_eq_true rfl⟩) hP hD hS hA [0, 1] [2] [1, 2, 0] rfl rfl (by decide) (by decide) (fun _ => [(qm, .inr (5, [.int (iI 0), .ref mz, .ref ms, .int (iI (svL hn + 1)), .ref mp, .ref mb, .int (iI L), .ref m1, .ref m2, .ref m3, .ref mB, .ref mF, .ref mN, .ref mS, .int (iI sT), .ref mW, .long acc])), (mz, .inl (gI g, 326, .inl (aI ((zF n ho (lowH h (y * 6 + x) (h (y * 6 + x) - 1)) (lowC h c (y * 6 + x) (h (y * 6 + x) - 1))))))), (ms, .inl (gI g, 1956, .inl (aI ((svM (olF f hn) (svL hn) (zF n ho h c) 326)))))]) (fun _ => rfl) (by decide) (Nat.le_of_ble_eq_true rfl) (Nat.le_of_ble_eq_true rfl) (fun u9 H locs hu_15 hP hD hS => ?_)
          have hP : va_P g.1 vwCl [(qm, .inr (5, [.int (iI 0), .ref mz, .ref ms, .int (iI (svL hn + 1)), .ref mp, .ref mb, .int (iI L), .ref m1, .ref m2, .ref m3, .ref mB, .ref mF, .ref mN, .ref mS, .int (iI sT), .ref mW, .long acc])), (mz, .inl (gI g, 326, .inl (aI ((zF n ho (lowH h (y * 6 + x) (h (y * 6 + x) - 1)) (lowC h c (y * 6 + x) (h (y * 6 + x) - 1))))))), (ms, .inl (gI g, 1956, .inl (aI ((svM (olF f hn) (svL hn) (zF n ho h c) 326)))))] H := hP
          have hD : va_D A [(qm, .inr (5, [.int (iI 0), .ref mz, .ref ms, .int (iI (svL hn + 1)), .ref mp, .ref mb, .int (iI L), .ref m1, .ref m2, .ref m3, .ref mB, .ref mF, .ref mN, .ref mS, .int (iI sT), .ref mW, .long acc])), (mz, .inl (gI g, 326, .inl (aI ((zF n ho (lowH h (y * 6 + x) (h (y * 6 + x) - 1)) (lowC h c (y * 6 + x) (h (y * 6 + x) - 1))))))), (ms, .inl (gI g, 1956, .inl (aI ((svM (olF f hn) (svL hn) (zF n ho h c) 326)))))] := hD
          refine ln_topv (w := .int (iI (colZ (c (y * 6 + x)) (h (y * 6 + x) - 1)))) rfl ?_
          have hY2 : YOk n ho (lowH h (y * 6 + x) (h (y * 6 + x) - 1)) (lowC h c (y * 6 + x) (h (y * 6 + x) - 1)) := YOk.low hY (sq_in (by omega) h1 h2 h3 h4)
          have hl2 : (lowH h (y * 6 + x) (h (y * 6 + x) - 1)) (y * 6 + x) = h (y * 6 + x) - 1 := by unfold lowH; rw [if_pos ⟨by omega, by omega⟩]; exact updI_s
          refine lv_istore (lv' := [(4, .int (iI (colZ (c (y * 6 + x)) (h (y * 6 + x) - 1)))), (0, .ref qm), (1, .int (iI x)), (2, .int (iI y)), (3, .int (iI d))]) hx hb dX5_paint_61 hl (by decide) rfl (fun ls hl => ?_)
          refine lv_aload_n hx hb dX5_paint_63 rfl (lv_at hl 1 rfl) ?_
          refine lv_iload_n hx hb dX5_paint_64 rfl (lv_at hl 2 rfl) ?_
          refine lv_iload_n hx hb dX5_paint_65 rfl (lv_at hl 3 rfl) ?_
          refine lv_iload_n hx hb dX5_paint_66 rfl (lv_at hl 4 rfl) ?_
          have hPc_16 := hP.sub (ws' := [(qm, .inr (5, [.int (iI 0), .ref mz, .ref ms, .int (iI (svL hn + 1)), .ref mp, .ref mb, .int (iI L), .ref m1, .ref m2, .ref m3, .ref mB, .ref mF, .ref mN, .ref mS, .int (iI sT), .ref mW, .long acc])), (mz, .inl (gI g, 326, .inl (aI ((zF n ho (lowH h (y * 6 + x) (h (y * 6 + x) - 1)) (lowC h c (y * 6 + x) (h (y * 6 + x) - 1)))))))]) [0, 1] rfl
          have hDc_17 := hD.sub (ws' := [(qm, .inr (5, [.int (iI 0), .ref mz, .ref ms, .int (iI (svL hn + 1)), .ref mp, .ref mb, .int (iI L), .ref m1, .ref m2, .ref m3, .ref mB, .ref mF, .ref mN, .ref mS, .int (iI sT), .ref mW, .long acc])), (mz, .inl (gI g, 326, .inl (aI ((zF n ho (lowH h (y * 6 + x) (h (y * 6 + x) - 1)) (lowC h c (y * 6 + x) (h (y * 6 + x) - 1)))))))]) [0, 1] (by decide) rfl
          have hFc_18 := va_free (wc := [(qm, .inr (5, [.int (iI 0), .ref mz, .ref ms, .int (iI (svL hn + 1)), .ref mp, .ref mb, .int (iI L), .ref m1, .ref m2, .ref m3, .ref mB, .ref mF, .ref mN, .ref mS, .int (iI sT), .ref mW, .long acc])), (mz, .inl (gI g, 326, .inl (aI ((zF n ho (lowH h (y * 6 + x) (h (y * 6 + x) - 1)) (lowC h c (y * 6 + x) (h (y * 6 + x) - 1)))))))]) hD hS hA [0, 1] rfl
          refine mc_v (wr := [(ms, .inl (gI g, 1956, .inl (aI ((svM (olF f hn) (svL hn) (zF n ho h c) 326)))))]) (cells1 := 0) (slots1 := 0) (va_runV (As := [.int (iI x), .int (iI y), .int (iI d)]) (rest := []) ⟨hx, hb, hml, hown, hts⟩ (c_X5_putOn l g qm 0 mz ms (svL hn + 1) mp mb L m1 m2 m3 mB mF mN mS sT mW acc n ho ((lowH h (y * 6 + x) (h (y * 6 + x) - 1))) ((lowC h c (y * 6 + x) (h (y * 6 + x) - 1))) x y d hY2 h1 h2 h3 h4 gd (by omega) H.size) (cwV 3 hts gX5_paint_X5_putOn rfl rfl rfl (by decide +kernel) ⟨Nat.le_of_ble_eq_true rfl, Nat.le_of_ble_eq_true rfl⟩) (muV hE hS hPc_16 hDc_17 hFc_18 rfl rfl) rfl rfl hl.1 rfl (lv_room (Nat.le_of_ble_eq_true rfl)) dX5_paint_67 ⟨Nat.le_of_ble_eq_true rfl, Nat.le_of_ble_eq_true rfl⟩) hP hD hS hA [0, 1] [2] [1, 2, 0] rfl rfl (by decide) (by decide) (fun _ => [(qm, .inr (5, [.int (iI 0), .ref mz, .ref ms, .int (iI (svL hn + 1)), .ref mp, .ref mb, .int (iI L), .ref m1, .ref m2, .ref m3, .ref mB, .ref mF, .ref mN, .ref mS, .int (iI sT), .ref mW, .long acc])), (mz, .inl (gI g, 326, .inl (aI ((zF n ho (updI ((lowH h (y * 6 + x) (h (y * 6 + x) - 1))) (y * 6 + x) (((lowH h (y * 6 + x) (h (y * 6 + x) - 1))) (y * 6 + x) + 1)) (updI ((lowC h c (y * 6 + x) (h (y * 6 + x) - 1))) (y * 6 + x) (((lowC h c (y * 6 + x) (h (y * 6 + x) - 1))) (y * 6 + x) + d * p4 (((lowH h (y * 6 + x) (h (y * 6 + x) - 1))) (y * 6 + x))))))))), (ms, .inl (gI g, 1956, .inl (aI ((svM (olF f hn) (svL hn) (zF n ho h c) 326)))))]) (fun _ => rfl) (by decide) (Nat.le_of_ble_eq_true rfl) (Nat.le_of_ble_eq_true rfl) (fun u9 H locs hu_19 hP hD hS => ?_)
          have hP : va_P g.1 vwCl [(qm, .inr (5, [.int (iI 0), .ref mz, .ref ms, .int (iI (svL hn + 1)), .ref mp, .ref mb, .int (iI L), .ref m1, .ref m2, .ref m3, .ref mB, .ref mF, .ref mN, .ref mS, .int (iI sT), .ref mW, .long acc])), (mz, .inl (gI g, 326, .inl (aI ((zF n ho (updI ((lowH h (y * 6 + x) (h (y * 6 + x) - 1))) (y * 6 + x) (((lowH h (y * 6 + x) (h (y * 6 + x) - 1))) (y * 6 + x) + 1)) (updI ((lowC h c (y * 6 + x) (h (y * 6 + x) - 1))) (y * 6 + x) (((lowC h c (y * 6 + x) (h (y * 6 + x) - 1))) (y * 6 + x) + d * p4 (((lowH h (y * 6 + x) (h (y * 6 + x) - 1))) (y * 6 + x))))))))), (ms, .inl (gI g, 1956, .inl (aI ((svM (olF f hn) (svL hn) (zF n ho h c) 326)))))] H := hP
          have hD : va_D A [(qm, .inr (5, [.int (iI 0), .ref mz, .ref ms, .int (iI (svL hn + 1)), .ref mp, .ref mb, .int (iI L), .ref m1, .ref m2, .ref m3, .ref mB, .ref mF, .ref mN, .ref mS, .int (iI sT), .ref mW, .long acc])), (mz, .inl (gI g, 326, .inl (aI ((zF n ho (updI ((lowH h (y * 6 + x) (h (y * 6 + x) - 1))) (y * 6 + x) (((lowH h (y * 6 + x) (h (y * 6 + x) - 1))) (y * 6 + x) + 1)) (updI ((lowC h c (y * 6 + x) (h (y * 6 + x) - 1))) (y * 6 + x) (((lowC h c (y * 6 + x) (h (y * 6 + x) - 1))) (y * 6 + x) + d * p4 (((lowH h (y * 6 + x) (h (y * 6 + x) - 1))) (y * 6 + x))))))))), (ms, .inl (gI g, 1956, .inl (aI ((svM (olF f hn) (svL hn) (zF n ho h c) 326)))))] := hD
          refine lv_iload hx hb dX5_paint_70 (lv_at hl 0 rfl) ?_
          have hP := hP.recell 1 rfl ((zF n ho (updI (lowH h (y * 6 + x) (h (y * 6 + x) - 1)) (y * 6 + x) ((lowH h (y * 6 + x) (h (y * 6 + x) - 1)) (y * 6 + x) + 1)) (updI (lowC h c (y * 6 + x) (h (y * 6 + x) - 1)) (y * 6 + x) ((lowC h c (y * 6 + x) (h (y * 6 + x) - 1)) (y * 6 + x) + d * p4 ((lowH h (y * 6 + x) (h (y * 6 + x) - 1)) (y * 6 + x)))))) (fun j h0 h1 => by omega)
          have hD := hD.set (p := 1) (e := .inl (gI g, 326, .inl (aI ((zF n ho (updI (lowH h (y * 6 + x) (h (y * 6 + x) - 1)) (y * 6 + x) ((lowH h (y * 6 + x) (h (y * 6 + x) - 1)) (y * 6 + x) + 1)) (updI (lowC h c (y * 6 + x) (h (y * 6 + x) - 1)) (y * 6 + x) ((lowC h c (y * 6 + x) (h (y * 6 + x) - 1)) (y * 6 + x) + d * p4 ((lowH h (y * 6 + x) (h (y * 6 + x) - 1)) (y * 6 + x))))))))) rfl
          have hP : va_P g.1 vwCl [(qm, .inr (5, [.int (iI 0), .ref mz, .ref ms, .int (iI (svL hn + 1)), .ref mp, .ref mb, .int (iI L), .ref m1, .ref m2, .ref m3, .ref mB, .ref mF, .ref mN, .ref mS, .int (iI sT), .ref mW, .long acc])), (mz, .inl (gI g, 326, .inl (aI ((zF n ho (updI (lowH h (y * 6 + x) (h (y * 6 + x) - 1)) (y * 6 + x) ((lowH h (y * 6 + x) (h (y * 6 + x) - 1)) (y * 6 + x) + 1)) (updI (lowC h c (y * 6 + x) (h (y * 6 + x) - 1)) (y * 6 + x) ((lowC h c (y * 6 + x) (h (y * 6 + x) - 1)) (y * 6 + x) + d * p4 ((lowH h (y * 6 + x) (h (y * 6 + x) - 1)) (y * 6 + x))))))))), (ms, .inl (gI g, 1956, .inl (aI ((svM (olF f hn) (svL hn) (zF n ho h c) 326)))))] _ := hP
          have hD : va_D A [(qm, .inr (5, [.int (iI 0), .ref mz, .ref ms, .int (iI (svL hn + 1)), .ref mp, .ref mb, .int (iI L), .ref m1, .ref m2, .ref m3, .ref mB, .ref mF, .ref mN, .ref mS, .int (iI sT), .ref mW, .long acc])), (mz, .inl (gI g, 326, .inl (aI ((zF n ho (updI (lowH h (y * 6 + x) (h (y * 6 + x) - 1)) (y * 6 + x) ((lowH h (y * 6 + x) (h (y * 6 + x) - 1)) (y * 6 + x) + 1)) (updI (lowC h c (y * 6 + x) (h (y * 6 + x) - 1)) (y * 6 + x) ((lowC h c (y * 6 + x) (h (y * 6 + x) - 1)) (y * 6 + x) + d * p4 ((lowH h (y * 6 + x) (h (y * 6 + x) - 1)) (y * 6 + x))))))))), (ms, .inl (gI g, 1956, .inl (aI ((svM (olF f hn) (svL hn) (zF n ho h c) 326)))))] := hD
          exact mend_i (S := Unit) (w' := (fun _ => [(qm, .inr (5, [.int (iI 0), .ref mz, .ref ms, .int (iI (svL hn + 1)), .ref mp, .ref mb, .int (iI L), .ref m1, .ref m2, .ref m3, .ref mB, .ref mF, .ref mN, .ref mS, .int (iI sT), .ref mW, .long acc])), (mz, .inl (gI g, 326, .inl (aI ((zF n ho (updI (lowH h (y * 6 + x) (h (y * 6 + x) - 1)) (y * 6 + x) ((lowH h (y * 6 + x) (h (y * 6 + x) - 1)) (y * 6 + x) + 1)) (updI (lowC h c (y * 6 + x) (h (y * 6 + x) - 1)) (y * 6 + x) ((lowC h c (y * 6 + x) (h (y * 6 + x) - 1)) (y * 6 + x) + d * p4 ((lowH h (y * 6 + x) (h (y * 6 + x) - 1)) (y * 6 + x))))))))), (ms, .inl (gI g, 1956, .inl (aI ((svM (olF f hn) (svL hn) (zF n ho h c) 326)))))])) (post := (fun _ => True)) (r := (fun _ => colZ (c (y * 6 + x)) (h (y * 6 + x) - 1))) hx hb hr hlk hS () hP hD (trivial) (by rfl) (Nat.le_of_ble_eq_true rfl) (Nat.le_of_ble_eq_true rfl) dX5_paint_72
        · exfalso; omega
      · exfalso; omega
    · exfalso; omega
  · exfalso; omega
set_option maxHeartbeats 800000 in
set_option maxRecDepth 100000 in
theorem c_X5_paint_x1 (l : Launch) (g : GT) (qm : Nat) (th : Int) (mz : Nat) (ms : Nat) (hn : Int) (mp : Nat) (mb : Nat) (L : Int) (m1 : Nat) (m2 : Nat) (m3 : Nat) (mB : Nat) (mF : Nat) (mN : Nat) (mS : Nat) (sT : Int) (mW : Nat) (acc : Int64) (n : Int) (ho : Int) (h : Int → Int) (c : Int → Int) (x : Int) (y : Int) (d : Int) (hY : YOk n ho h c) (gx : Rg x) (gy : Rg y) (g1 : ¬ okS n x y) : MutI l yX5_paint wsX5_paint ({ frames := 2, cells := 0, slots := 0, locals := 44 }) 0 0 g [(qm, .inr (5, [.int (iI th), .ref mz, .ref ms, .int (iI hn), .ref mp, .ref mb, .int (iI L), .ref m1, .ref m2, .ref m3, .ref mB, .ref mF, .ref mN, .ref mS, .int (iI sT), .ref mW, .long acc])), (mz, .inl (gI g, 326, .inl (aI (zF n ho h c))))] [.ref qm, .int (iI x), .int (iI y), .int (iI d)] (S := Unit) (fun _ => True) (fun _ => 0) (fun _ => [(qm, .inr (5, [.int (iI 1), .ref mz, .ref ms, .int (iI hn), .ref mp, .ref mb, .int (iI L), .ref m1, .ref m2, .ref m3, .ref mB, .ref mF, .ref mN, .ref mS, .int (iI sT), .ref mW, .long acc])), (mz, .inl (gI g, 326, .inl (aI (zF n ho h c))))]) := by
  refine mut_of (y := yX5_paint) (ws := wsX5_paint) (av := [.ref qm, .int (iI x), .int (iI y), .int (iI d)]) (w := [(qm, .inr (5, [.int (iI th), .ref mz, .ref ms, .int (iI hn), .ref mp, .ref mb, .int (iI L), .ref m1, .ref m2, .ref m3, .ref mB, .ref mF, .ref mN, .ref mS, .int (iI sT), .ref mW, .long acc])), (mz, .inl (gI g, 326, .inl (aI (zF n ho h c))))]) (Qc := fun A => va_Qi (fun x9 (u9 : Unit) => x9 = iI ((fun _ => 0) u9) ∧ (fun _ => True) u9) (fun u9 t9 => MB g ((fun _ => [(qm, .inr (5, [.int (iI 1), .ref mz, .ref ms, .int (iI hn), .ref mp, .ref mb, .int (iI L), .ref m1, .ref m2, .ref m3, .ref mB, .ref mF, .ref mN, .ref mS, .int (iI sT), .ref mW, .long acc])), (mz, .inl (gI g, 326, .inl (aI (zF n ho h c))))]) u9) A t9) A) (cc := cX5_paint) (maxL := 5) (ret := (some .int)) (by decide) rfl (Nat.le_of_ble_eq_true rfl) ?_
  intro pZ eZ sZ mZ bZ meZ cZ A F hin hA hP hD hE hS ls hl
  obtain ⟨hx, hb, hr, hml, hts, hown, hlk⟩ := F
  skip
  have hown : sZ.vm.findClass RX5 = some mZ.cls := hown
  have hl : lv_has ls 5 [(0, .ref qm), (1, .int (iI x)), (2, .int (iI y)), (3, .int (iI d))] := hl
  skip
  have w0 := hts (.fieldLink RX5 47 "SlantYardModel" "thrown" "I") (by decide +kernel)
  have in5 : ∀ w ∈ u_ws RX5 TX5 17, w ∈ wsX5_paint := by decide +kernel
  have hnn := hY.n
  have hho := hY.hr
  refine lv_aload_n hx hb dX5_paint_0 rfl (lv_at hl 0 rfl) ?_
  refine lv_aload_n hx hb dX5_paint_1 rfl (lv_at hl 0 rfl) ?_
  refine lv_iload_n hx hb dX5_paint_2 rfl (lv_at hl 1 rfl) ?_
  refine lv_iload_n hx hb dX5_paint_3 rfl (lv_at hl 2 rfl) ?_
  have hPc_1 := hP.sub (ws' := [(qm, .inr (5, [.int (iI th), .ref mz, .ref ms, .int (iI hn), .ref mp, .ref mb, .int (iI L), .ref m1, .ref m2, .ref m3, .ref mB, .ref mF, .ref mN, .ref mS, .int (iI sT), .ref mW, .long acc])), (mz, .inl (gI g, 326, .inl (aI (zF n ho h c))))]) [0, 1] rfl
  refine pc_i (va_runV (As := [.int (iI x), .int (iI y)]) (rest := [.ref qm]) ⟨hx, hb, hml, hown, hts⟩ (c_X5_isSquare l g qm th mz ms hn mp mb L m1 m2 m3 mB mF mN mS sT mW acc n ho h c x y hY gx gy) (cwV 2 hts gX5_paint_X5_isSquare rfl rfl rfl (by decide +kernel) ⟨Nat.le_of_ble_eq_true rfl, Nat.le_of_ble_eq_true rfl⟩) (puV hE hS hPc_1 rfl rfl) rfl rfl hl.1 rfl (lv_room (Nat.le_of_ble_eq_true rfl)) dX5_paint_4 ⟨Nat.le_of_ble_eq_true rfl, Nat.le_of_ble_eq_true rfl⟩) ?_
  refine lb_if_ne (tgt := 14) hx hb dX5_paint_7 (by decide) (fun c_2 => ?_) (fun c_2 => ?_)
  · exact absurd c_2 (g1)
  · skip
    refine lv_iconst (v := iI 1) hx hb dX5_paint_10 rfl ?_
    refine lv_goto (tgt := 39) hx hb dX5_paint_11 (by decide) ?_
    refine va_put (D := g.1) (ci := 5) (v := .int (iI 1)) (ty := .int) (C := RX5) (T := TX5) (N := 17) hx hb hts in5 tyX5 tyX5_ok nmX5 hown hE.1 hP hD hS 0 rfl rfl 0 (by decide) w0 (fun _ h9 => h9) rfl (by decide +kernel) rfl rfl (Nat.le_of_ble_eq_true rfl) dX5_paint_39 (fun H locs hP hD hS => ?_)
    have hP : va_P g.1 vwCl [(qm, .inr (5, [.int (iI 1), .ref mz, .ref ms, .int (iI hn), .ref mp, .ref mb, .int (iI L), .ref m1, .ref m2, .ref m3, .ref mB, .ref mF, .ref mN, .ref mS, .int (iI sT), .ref mW, .long acc])), (mz, .inl (gI g, 326, .inl (aI (zF n ho h c))))] H := hP
    have hD : va_D A [(qm, .inr (5, [.int (iI 1), .ref mz, .ref ms, .int (iI hn), .ref mp, .ref mb, .int (iI L), .ref m1, .ref m2, .ref m3, .ref mB, .ref mF, .ref mN, .ref mS, .int (iI sT), .ref mW, .long acc])), (mz, .inl (gI g, 326, .inl (aI (zF n ho h c))))] := hD
    refine lv_aload_n hx hb dX5_paint_42 rfl (lv_at hl 0 rfl) ?_
    refine va_get (D := g.1) (ci := 5) (v := .int (iI 1)) (C := RX5) (T := TX5) (N := 17) hx hb hts in5 hown hE.1 hP 0 rfl rfl 0 (by decide) w0 (fun _ h9 => h9) rfl dX5_paint_43 ?_
    refine ln_if_le (tgt := 51) hx hb dX5_paint_46 (by decide) (by decide) (fun c_3 => ?_) (fun c_3 => ?_)
    · exfalso; omega
    · skip
      refine lv_iconst (v := iI 0) hx hb dX5_paint_49 rfl ?_
      have hP : va_P g.1 vwCl [(qm, .inr (5, [.int (iI 1), .ref mz, .ref ms, .int (iI hn), .ref mp, .ref mb, .int (iI L), .ref m1, .ref m2, .ref m3, .ref mB, .ref mF, .ref mN, .ref mS, .int (iI sT), .ref mW, .long acc])), (mz, .inl (gI g, 326, .inl (aI (zF n ho h c))))] _ := hP
      have hD : va_D A [(qm, .inr (5, [.int (iI 1), .ref mz, .ref ms, .int (iI hn), .ref mp, .ref mb, .int (iI L), .ref m1, .ref m2, .ref m3, .ref mB, .ref mF, .ref mN, .ref mS, .int (iI sT), .ref mW, .long acc])), (mz, .inl (gI g, 326, .inl (aI (zF n ho h c))))] := hD
      exact mend_i (S := Unit) (w' := (fun _ => [(qm, .inr (5, [.int (iI 1), .ref mz, .ref ms, .int (iI hn), .ref mp, .ref mb, .int (iI L), .ref m1, .ref m2, .ref m3, .ref mB, .ref mF, .ref mN, .ref mS, .int (iI sT), .ref mW, .long acc])), (mz, .inl (gI g, 326, .inl (aI (zF n ho h c))))])) (post := (fun _ => True)) (r := (fun _ => 0)) hx hb hr hlk hS () hP hD (trivial) (by rfl) (Nat.le_of_ble_eq_true rfl) (Nat.le_of_ble_eq_true rfl) dX5_paint_50
set_option maxHeartbeats 800000 in
set_option maxRecDepth 100000 in
theorem c_X5_paint_x2 (l : Launch) (g : GT) (qm : Nat) (th : Int) (mz : Nat) (ms : Nat) (hn : Int) (mp : Nat) (mb : Nat) (L : Int) (m1 : Nat) (m2 : Nat) (m3 : Nat) (mB : Nat) (mF : Nat) (mN : Nat) (mS : Nat) (sT : Int) (mW : Nat) (acc : Int64) (n : Int) (ho : Int) (h : Int → Int) (c : Int → Int) (x : Int) (y : Int) (d : Int) (hY : YOk n ho h c) (h1 : 0 ≤ x) (h2 : x < n) (h3 : 0 ≤ y) (h4 : y < n) (gd : Rg d) (g1 : d < 0 ∨ 3 < d) : MutI l yX5_paint wsX5_paint ({ frames := 2, cells := 0, slots := 0, locals := 44 }) 0 0 g [(qm, .inr (5, [.int (iI th), .ref mz, .ref ms, .int (iI hn), .ref mp, .ref mb, .int (iI L), .ref m1, .ref m2, .ref m3, .ref mB, .ref mF, .ref mN, .ref mS, .int (iI sT), .ref mW, .long acc])), (mz, .inl (gI g, 326, .inl (aI (zF n ho h c))))] [.ref qm, .int (iI x), .int (iI y), .int (iI d)] (S := Unit) (fun _ => True) (fun _ => 0) (fun _ => [(qm, .inr (5, [.int (iI 2), .ref mz, .ref ms, .int (iI hn), .ref mp, .ref mb, .int (iI L), .ref m1, .ref m2, .ref m3, .ref mB, .ref mF, .ref mN, .ref mS, .int (iI sT), .ref mW, .long acc])), (mz, .inl (gI g, 326, .inl (aI (zF n ho h c))))]) := by
  refine mut_of (y := yX5_paint) (ws := wsX5_paint) (av := [.ref qm, .int (iI x), .int (iI y), .int (iI d)]) (w := [(qm, .inr (5, [.int (iI th), .ref mz, .ref ms, .int (iI hn), .ref mp, .ref mb, .int (iI L), .ref m1, .ref m2, .ref m3, .ref mB, .ref mF, .ref mN, .ref mS, .int (iI sT), .ref mW, .long acc])), (mz, .inl (gI g, 326, .inl (aI (zF n ho h c))))]) (Qc := fun A => va_Qi (fun x9 (u9 : Unit) => x9 = iI ((fun _ => 0) u9) ∧ (fun _ => True) u9) (fun u9 t9 => MB g ((fun _ => [(qm, .inr (5, [.int (iI 2), .ref mz, .ref ms, .int (iI hn), .ref mp, .ref mb, .int (iI L), .ref m1, .ref m2, .ref m3, .ref mB, .ref mF, .ref mN, .ref mS, .int (iI sT), .ref mW, .long acc])), (mz, .inl (gI g, 326, .inl (aI (zF n ho h c))))]) u9) A t9) A) (cc := cX5_paint) (maxL := 5) (ret := (some .int)) (by decide) rfl (Nat.le_of_ble_eq_true rfl) ?_
  intro pZ eZ sZ mZ bZ meZ cZ A F hin hA hP hD hE hS ls hl
  obtain ⟨hx, hb, hr, hml, hts, hown, hlk⟩ := F
  skip
  have hown : sZ.vm.findClass RX5 = some mZ.cls := hown
  have hl : lv_has ls 5 [(0, .ref qm), (1, .int (iI x)), (2, .int (iI y)), (3, .int (iI d))] := hl
  skip
  have w0 := hts (.fieldLink RX5 47 "SlantYardModel" "thrown" "I") (by decide +kernel)
  have in5 : ∀ w ∈ u_ws RX5 TX5 17, w ∈ wsX5_paint := by decide +kernel
  have hnn := hY.n
  have hho := hY.hr
  refine lv_aload_n hx hb dX5_paint_0 rfl (lv_at hl 0 rfl) ?_
  refine lv_aload_n hx hb dX5_paint_1 rfl (lv_at hl 0 rfl) ?_
  refine lv_iload_n hx hb dX5_paint_2 rfl (lv_at hl 1 rfl) ?_
  refine lv_iload_n hx hb dX5_paint_3 rfl (lv_at hl 2 rfl) ?_
  have hPc_1 := hP.sub (ws' := [(qm, .inr (5, [.int (iI th), .ref mz, .ref ms, .int (iI hn), .ref mp, .ref mb, .int (iI L), .ref m1, .ref m2, .ref m3, .ref mB, .ref mF, .ref mN, .ref mS, .int (iI sT), .ref mW, .long acc])), (mz, .inl (gI g, 326, .inl (aI (zF n ho h c))))]) [0, 1] rfl
  refine pc_i (va_runV (As := [.int (iI x), .int (iI y)]) (rest := [.ref qm]) ⟨hx, hb, hml, hown, hts⟩ (c_X5_isSquare l g qm th mz ms hn mp mb L m1 m2 m3 mB mF mN mS sT mW acc n ho h c x y hY (by omega) (by omega)) (cwV 2 hts gX5_paint_X5_isSquare rfl rfl rfl (by decide +kernel) ⟨Nat.le_of_ble_eq_true rfl, Nat.le_of_ble_eq_true rfl⟩) (puV hE hS hPc_1 rfl rfl) rfl rfl hl.1 rfl (lv_room (Nat.le_of_ble_eq_true rfl)) dX5_paint_4 ⟨Nat.le_of_ble_eq_true rfl, Nat.le_of_ble_eq_true rfl⟩) ?_
  refine lb_if_ne (tgt := 14) hx hb dX5_paint_7 (by decide) (fun c_2 => ?_) (fun c_2 => ?_)
  · skip
    refine lv_iload_n hx hb dX5_paint_14 rfl (lv_at hl 3 rfl) ?_
    refine pc_i (va_runS (As := [.int (iI d)]) (rest := [.ref qm]) ⟨hx, hb, hml, hown, hts⟩ (c_X5_isColour l g d gd) (va_cwS 1 hts gX5_paint_X5_isColour rfl rfl rfl (by decide +kernel) ⟨Nat.le_of_ble_eq_true rfl, Nat.le_of_ble_eq_true rfl⟩) (puS hE hS (va_P_nil g.1 _)) rfl rfl hl.1 rfl (lv_room (Nat.le_of_ble_eq_true rfl)) dX5_paint_15 ⟨Nat.le_of_ble_eq_true rfl, Nat.le_of_ble_eq_true rfl⟩) ?_
    refine lb_if_ne (tgt := 25) hx hb dX5_paint_18 (by decide) (fun c_3 => ?_) (fun c_3 => ?_)
    · exfalso; omega
    · skip
      refine lv_iconst (v := iI 2) hx hb dX5_paint_21 rfl ?_
      refine lv_goto (tgt := 39) hx hb dX5_paint_22 (by decide) ?_
      refine va_put (D := g.1) (ci := 5) (v := .int (iI 2)) (ty := .int) (C := RX5) (T := TX5) (N := 17) hx hb hts in5 tyX5 tyX5_ok nmX5 hown hE.1 hP hD hS 0 rfl rfl 0 (by decide) w0 (fun _ h9 => h9) rfl (by decide +kernel) rfl rfl (Nat.le_of_ble_eq_true rfl) dX5_paint_39 (fun H locs hP hD hS => ?_)
      have hP : va_P g.1 vwCl [(qm, .inr (5, [.int (iI 2), .ref mz, .ref ms, .int (iI hn), .ref mp, .ref mb, .int (iI L), .ref m1, .ref m2, .ref m3, .ref mB, .ref mF, .ref mN, .ref mS, .int (iI sT), .ref mW, .long acc])), (mz, .inl (gI g, 326, .inl (aI (zF n ho h c))))] H := hP
      have hD : va_D A [(qm, .inr (5, [.int (iI 2), .ref mz, .ref ms, .int (iI hn), .ref mp, .ref mb, .int (iI L), .ref m1, .ref m2, .ref m3, .ref mB, .ref mF, .ref mN, .ref mS, .int (iI sT), .ref mW, .long acc])), (mz, .inl (gI g, 326, .inl (aI (zF n ho h c))))] := hD
      refine lv_aload_n hx hb dX5_paint_42 rfl (lv_at hl 0 rfl) ?_
      refine va_get (D := g.1) (ci := 5) (v := .int (iI 2)) (C := RX5) (T := TX5) (N := 17) hx hb hts in5 hown hE.1 hP 0 rfl rfl 0 (by decide) w0 (fun _ h9 => h9) rfl dX5_paint_43 ?_
      refine ln_if_le (tgt := 51) hx hb dX5_paint_46 (by decide) (by decide) (fun c_4 => ?_) (fun c_4 => ?_)
      · exfalso; omega
      · skip
        refine lv_iconst (v := iI 0) hx hb dX5_paint_49 rfl ?_
        have hP : va_P g.1 vwCl [(qm, .inr (5, [.int (iI 2), .ref mz, .ref ms, .int (iI hn), .ref mp, .ref mb, .int (iI L), .ref m1, .ref m2, .ref m3, .ref mB, .ref mF, .ref mN, .ref mS, .int (iI sT), .ref mW, .long acc])), (mz, .inl (gI g, 326, .inl (aI (zF n ho h c))))] _ := hP
        have hD : va_D A [(qm, .inr (5, [.int (iI 2), .ref mz, .ref ms, .int (iI hn), .ref mp, .ref mb, .int (iI L), .ref m1, .ref m2, .ref m3, .ref mB, .ref mF, .ref mN, .ref mS, .int (iI sT), .ref mW, .long acc])), (mz, .inl (gI g, 326, .inl (aI (zF n ho h c))))] := hD
        exact mend_i (S := Unit) (w' := (fun _ => [(qm, .inr (5, [.int (iI 2), .ref mz, .ref ms, .int (iI hn), .ref mp, .ref mb, .int (iI L), .ref m1, .ref m2, .ref m3, .ref mB, .ref mF, .ref mN, .ref mS, .int (iI sT), .ref mW, .long acc])), (mz, .inl (gI g, 326, .inl (aI (zF n ho h c))))])) (post := (fun _ => True)) (r := (fun _ => 0)) hx hb hr hlk hS () hP hD (trivial) (by rfl) (Nat.le_of_ble_eq_true rfl) (Nat.le_of_ble_eq_true rfl) dX5_paint_50
  · exfalso; omega
set_option maxHeartbeats 800000 in
set_option maxRecDepth 100000 in
theorem c_X5_paint_x3 (l : Launch) (g : GT) (qm : Nat) (th : Int) (mz : Nat) (ms : Nat) (hn : Int) (mp : Nat) (mb : Nat) (L : Int) (m1 : Nat) (m2 : Nat) (m3 : Nat) (mB : Nat) (mF : Nat) (mN : Nat) (mS : Nat) (sT : Int) (mW : Nat) (acc : Int64) (n : Int) (ho : Int) (h : Int → Int) (c : Int → Int) (x : Int) (y : Int) (d : Int) (hY : YOk n ho h c) (h1 : 0 ≤ x) (h2 : x < n) (h3 : 0 ≤ y) (h4 : y < n) (gd : 0 ≤ d ∧ d ≤ 3) (g5 : h (y * 6 + x) = 0) : MutI l yX5_paint wsX5_paint ({ frames := 2, cells := 0, slots := 0, locals := 44 }) 0 0 g [(qm, .inr (5, [.int (iI th), .ref mz, .ref ms, .int (iI hn), .ref mp, .ref mb, .int (iI L), .ref m1, .ref m2, .ref m3, .ref mB, .ref mF, .ref mN, .ref mS, .int (iI sT), .ref mW, .long acc])), (mz, .inl (gI g, 326, .inl (aI (zF n ho h c))))] [.ref qm, .int (iI x), .int (iI y), .int (iI d)] (S := Unit) (fun _ => True) (fun _ => 0) (fun _ => [(qm, .inr (5, [.int (iI 3), .ref mz, .ref ms, .int (iI hn), .ref mp, .ref mb, .int (iI L), .ref m1, .ref m2, .ref m3, .ref mB, .ref mF, .ref mN, .ref mS, .int (iI sT), .ref mW, .long acc])), (mz, .inl (gI g, 326, .inl (aI (zF n ho h c))))]) := by
  refine mut_of (y := yX5_paint) (ws := wsX5_paint) (av := [.ref qm, .int (iI x), .int (iI y), .int (iI d)]) (w := [(qm, .inr (5, [.int (iI th), .ref mz, .ref ms, .int (iI hn), .ref mp, .ref mb, .int (iI L), .ref m1, .ref m2, .ref m3, .ref mB, .ref mF, .ref mN, .ref mS, .int (iI sT), .ref mW, .long acc])), (mz, .inl (gI g, 326, .inl (aI (zF n ho h c))))]) (Qc := fun A => va_Qi (fun x9 (u9 : Unit) => x9 = iI ((fun _ => 0) u9) ∧ (fun _ => True) u9) (fun u9 t9 => MB g ((fun _ => [(qm, .inr (5, [.int (iI 3), .ref mz, .ref ms, .int (iI hn), .ref mp, .ref mb, .int (iI L), .ref m1, .ref m2, .ref m3, .ref mB, .ref mF, .ref mN, .ref mS, .int (iI sT), .ref mW, .long acc])), (mz, .inl (gI g, 326, .inl (aI (zF n ho h c))))]) u9) A t9) A) (cc := cX5_paint) (maxL := 5) (ret := (some .int)) (by decide) rfl (Nat.le_of_ble_eq_true rfl) ?_
  intro pZ eZ sZ mZ bZ meZ cZ A F hin hA hP hD hE hS ls hl
  obtain ⟨hx, hb, hr, hml, hts, hown, hlk⟩ := F
  skip
  have hown : sZ.vm.findClass RX5 = some mZ.cls := hown
  have hl : lv_has ls 5 [(0, .ref qm), (1, .int (iI x)), (2, .int (iI y)), (3, .int (iI d))] := hl
  skip
  have w0 := hts (.fieldLink RX5 47 "SlantYardModel" "thrown" "I") (by decide +kernel)
  have in5 : ∀ w ∈ u_ws RX5 TX5 17, w ∈ wsX5_paint := by decide +kernel
  have hnn := hY.n
  have hho := hY.hr
  refine lv_aload_n hx hb dX5_paint_0 rfl (lv_at hl 0 rfl) ?_
  refine lv_aload_n hx hb dX5_paint_1 rfl (lv_at hl 0 rfl) ?_
  refine lv_iload_n hx hb dX5_paint_2 rfl (lv_at hl 1 rfl) ?_
  refine lv_iload_n hx hb dX5_paint_3 rfl (lv_at hl 2 rfl) ?_
  have hPc_1 := hP.sub (ws' := [(qm, .inr (5, [.int (iI th), .ref mz, .ref ms, .int (iI hn), .ref mp, .ref mb, .int (iI L), .ref m1, .ref m2, .ref m3, .ref mB, .ref mF, .ref mN, .ref mS, .int (iI sT), .ref mW, .long acc])), (mz, .inl (gI g, 326, .inl (aI (zF n ho h c))))]) [0, 1] rfl
  refine pc_i (va_runV (As := [.int (iI x), .int (iI y)]) (rest := [.ref qm]) ⟨hx, hb, hml, hown, hts⟩ (c_X5_isSquare l g qm th mz ms hn mp mb L m1 m2 m3 mB mF mN mS sT mW acc n ho h c x y hY (by omega) (by omega)) (cwV 2 hts gX5_paint_X5_isSquare rfl rfl rfl (by decide +kernel) ⟨Nat.le_of_ble_eq_true rfl, Nat.le_of_ble_eq_true rfl⟩) (puV hE hS hPc_1 rfl rfl) rfl rfl hl.1 rfl (lv_room (Nat.le_of_ble_eq_true rfl)) dX5_paint_4 ⟨Nat.le_of_ble_eq_true rfl, Nat.le_of_ble_eq_true rfl⟩) ?_
  refine lb_if_ne (tgt := 14) hx hb dX5_paint_7 (by decide) (fun c_2 => ?_) (fun c_2 => ?_)
  · skip
    refine lv_iload_n hx hb dX5_paint_14 rfl (lv_at hl 3 rfl) ?_
    refine pc_i (va_runS (As := [.int (iI d)]) (rest := [.ref qm]) ⟨hx, hb, hml, hown, hts⟩ (c_X5_isColour l g d (by omega)) (va_cwS 1 hts gX5_paint_X5_isColour rfl rfl rfl (by decide +kernel) ⟨Nat.le_of_ble_eq_true rfl, Nat.le_of_ble_eq_true rfl⟩) (puS hE hS (va_P_nil g.1 _)) rfl rfl hl.1 rfl (lv_room (Nat.le_of_ble_eq_true rfl)) dX5_paint_15 ⟨Nat.le_of_ble_eq_true rfl, Nat.le_of_ble_eq_true rfl⟩) ?_
    refine lb_if_ne (tgt := 25) hx hb dX5_paint_18 (by decide) (fun c_3 => ?_) (fun c_3 => ?_)
    · skip
      refine lv_aload_n hx hb dX5_paint_25 rfl (lv_at hl 0 rfl) ?_
      refine lv_iload_n hx hb dX5_paint_26 rfl (lv_at hl 1 rfl) ?_
      refine lv_iload_n hx hb dX5_paint_27 rfl (lv_at hl 2 rfl) ?_
      have hPc_4 := hP.sub (ws' := [(qm, .inr (5, [.int (iI th), .ref mz, .ref ms, .int (iI hn), .ref mp, .ref mb, .int (iI L), .ref m1, .ref m2, .ref m3, .ref mB, .ref mF, .ref mN, .ref mS, .int (iI sT), .ref mW, .long acc])), (mz, .inl (gI g, 326, .inl (aI (zF n ho h c))))]) [0, 1] rfl
      refine pc_i (va_runV (As := [.int (iI x), .int (iI y)]) (rest := [.ref qm]) ⟨hx, hb, hml, hown, hts⟩ (c_X5_height l g qm th mz ms hn mp mb L m1 m2 m3 mB mF mN mS sT mW acc n ho h c x y hY h1 h2 h3 h4) (cwV 2 hts gX5_paint_X5_height rfl rfl rfl (by decide +kernel) ⟨Nat.le_of_ble_eq_true rfl, Nat.le_of_ble_eq_true rfl⟩) (puV hE hS hPc_4 rfl rfl) rfl rfl hl.1 rfl (lv_room (Nat.le_of_ble_eq_true rfl)) dX5_paint_28 ⟨Nat.le_of_ble_eq_true rfl, Nat.le_of_ble_eq_true rfl⟩) ?_
      have r_5 : 0 ≤ h (y * 6 + x) ∧ h (y * 6 + x) ≤ 8 := YOk.h hY (y * 6 + x)
      refine ln_if_ne (tgt := 38) hx hb dX5_paint_31 (by decide) ⟨by omega, by omega⟩ (fun c_6 => ?_) (fun c_6 => ?_)
      · exfalso; omega
      · skip
        refine lv_iconst (v := iI 3) hx hb dX5_paint_34 rfl ?_
        refine lv_goto (tgt := 39) hx hb dX5_paint_35 (by decide) ?_
        refine va_put (D := g.1) (ci := 5) (v := .int (iI 3)) (ty := .int) (C := RX5) (T := TX5) (N := 17) hx hb hts in5 tyX5 tyX5_ok nmX5 hown hE.1 hP hD hS 0 rfl rfl 0 (by decide) w0 (fun _ h9 => h9) rfl (by decide +kernel) rfl rfl (Nat.le_of_ble_eq_true rfl) dX5_paint_39 (fun H locs hP hD hS => ?_)
        have hP : va_P g.1 vwCl [(qm, .inr (5, [.int (iI 3), .ref mz, .ref ms, .int (iI hn), .ref mp, .ref mb, .int (iI L), .ref m1, .ref m2, .ref m3, .ref mB, .ref mF, .ref mN, .ref mS, .int (iI sT), .ref mW, .long acc])), (mz, .inl (gI g, 326, .inl (aI (zF n ho h c))))] H := hP
        have hD : va_D A [(qm, .inr (5, [.int (iI 3), .ref mz, .ref ms, .int (iI hn), .ref mp, .ref mb, .int (iI L), .ref m1, .ref m2, .ref m3, .ref mB, .ref mF, .ref mN, .ref mS, .int (iI sT), .ref mW, .long acc])), (mz, .inl (gI g, 326, .inl (aI (zF n ho h c))))] := hD
        refine lv_aload_n hx hb dX5_paint_42 rfl (lv_at hl 0 rfl) ?_
        refine va_get (D := g.1) (ci := 5) (v := .int (iI 3)) (C := RX5) (T := TX5) (N := 17) hx hb hts in5 hown hE.1 hP 0 rfl rfl 0 (by decide) w0 (fun _ h9 => h9) rfl dX5_paint_43 ?_
        refine ln_if_le (tgt := 51) hx hb dX5_paint_46 (by decide) (by decide) (fun c_7 => ?_) (fun c_7 => ?_)
        · exfalso; omega
        · skip
          refine lv_iconst (v := iI 0) hx hb dX5_paint_49 rfl ?_
          have hP : va_P g.1 vwCl [(qm, .inr (5, [.int (iI 3), .ref mz, .ref ms, .int (iI hn), .ref mp, .ref mb, .int (iI L), .ref m1, .ref m2, .ref m3, .ref mB, .ref mF, .ref mN, .ref mS, .int (iI sT), .ref mW, .long acc])), (mz, .inl (gI g, 326, .inl (aI (zF n ho h c))))] _ := hP
          have hD : va_D A [(qm, .inr (5, [.int (iI 3), .ref mz, .ref ms, .int (iI hn), .ref mp, .ref mb, .int (iI L), .ref m1, .ref m2, .ref m3, .ref mB, .ref mF, .ref mN, .ref mS, .int (iI sT), .ref mW, .long acc])), (mz, .inl (gI g, 326, .inl (aI (zF n ho h c))))] := hD
          exact mend_i (S := Unit) (w' := (fun _ => [(qm, .inr (5, [.int (iI 3), .ref mz, .ref ms, .int (iI hn), .ref mp, .ref mb, .int (iI L), .ref m1, .ref m2, .ref m3, .ref mB, .ref mF, .ref mN, .ref mS, .int (iI sT), .ref mW, .long acc])), (mz, .inl (gI g, 326, .inl (aI (zF n ho h c))))])) (post := (fun _ => True)) (r := (fun _ => 0)) hx hb hr hlk hS () hP hD (trivial) (by rfl) (Nat.le_of_ble_eq_true rfl) (Nat.le_of_ble_eq_true rfl) dX5_paint_50
    · exfalso; omega
  · exfalso; omega
set_option maxHeartbeats 800000 in
set_option maxRecDepth 100000 in
theorem c_X5_canCarry (l : Launch) (g : GT) (qm : Nat) (th : Int) (mz : Nat) (ms : Nat) (hn : Int) (mp : Nat) (mb : Nat) (L : Int) (m1 : Nat) (m2 : Nat) (m3 : Nat) (mB : Nat) (mF : Nat) (mN : Nat) (mS : Nat) (sT : Int) (mW : Nat) (acc : Int64) (n : Int) (ho : Int) (h : Int → Int) (c : Int → Int) (x : Int) (y : Int) (u : Int) (v : Int) (hY : YOk n ho h c) (h1 : 0 ≤ x) (h2 : x < n) (h3 : 0 ≤ y) (h4 : y < n) (h5 : 0 ≤ u) (h6 : u < n) (h7 : 0 ≤ v) (h8 : v < n) : MetI l yX5_canCarry wsX5_canCarry ({ frames := 1, cells := 0, slots := 0, locals := 22 }) g [(qm, .inr (5, [.int (iI th), .ref mz, .ref ms, .int (iI hn), .ref mp, .ref mb, .int (iI L), .ref m1, .ref m2, .ref m3, .ref mB, .ref mF, .ref mN, .ref mS, .int (iI sT), .ref mW, .long acc])), (mz, .inl (gI g, 326, .inl (aI (zF n ho h c))))] [.ref qm, .int (iI x), .int (iI y), .int (iI u), .int (iI v)] (bI ((x ≠ u ∨ y ≠ v) ∧ h (y * 6 + x) + h (v * 6 + u) ≤ 8)) := by
  refine pure_of (cc := cX5_canCarry) (maxL := 5) (ret := (some .boolean)) (by decide) rfl (Nat.le_of_ble_eq_true rfl) ?_
  intro pZ eZ sZ mZ bZ meZ cZ F hP hE hS ls hl
  obtain ⟨hx, hb, hr, hml, hts, hown, hlk⟩ := F
  have hown : sZ.vm.findClass RX5 = some mZ.cls := hown
  have hl : lv_has ls 5 [(0, .ref qm), (1, .int (iI x)), (2, .int (iI y)), (3, .int (iI u)), (4, .int (iI v))] := hl
  have hnn := hY.n
  have hho := hY.hr
  refine lv_iload_n hx hb dX5_canCarry_0 rfl (lv_at hl 1 rfl) ?_
  refine lv_iload_n hx hb dX5_canCarry_1 rfl (lv_at hl 3 rfl) ?_
  refine ln_icmp_ne (tgt := 11) hx hb dX5_canCarry_2 (by decide) ⟨by omega, by omega⟩ ⟨by omega, by omega⟩ (fun c_1 => ?_) (fun c_1 => ?_)
  · skip
    refine lv_aload_n hx hb dX5_canCarry_11 rfl (lv_at hl 0 rfl) ?_
    refine lv_iload_n hx hb dX5_canCarry_12 rfl (lv_at hl 1 rfl) ?_
    refine lv_iload_n hx hb dX5_canCarry_13 rfl (lv_at hl 2 rfl) ?_
    have hPc_2 := hP.sub (ws' := [(qm, .inr (5, [.int (iI th), .ref mz, .ref ms, .int (iI hn), .ref mp, .ref mb, .int (iI L), .ref m1, .ref m2, .ref m3, .ref mB, .ref mF, .ref mN, .ref mS, .int (iI sT), .ref mW, .long acc])), (mz, .inl (gI g, 326, .inl (aI (zF n ho h c))))]) [0, 1] rfl
    refine pc_i (va_runV (As := [.int (iI x), .int (iI y)]) (rest := []) ⟨hx, hb, hml, hown, hts⟩ (c_X5_height l g qm th mz ms hn mp mb L m1 m2 m3 mB mF mN mS sT mW acc n ho h c x y hY h1 h2 h3 h4) (cwV 2 hts gX5_canCarry_X5_height rfl rfl rfl (by decide +kernel) ⟨Nat.le_of_ble_eq_true rfl, Nat.le_of_ble_eq_true rfl⟩) (puV hE hS hPc_2 rfl rfl) rfl rfl hl.1 rfl (lv_room (Nat.le_of_ble_eq_true rfl)) dX5_canCarry_14 ⟨Nat.le_of_ble_eq_true rfl, Nat.le_of_ble_eq_true rfl⟩) ?_
    have r_3 : 0 ≤ h (y * 6 + x) ∧ h (y * 6 + x) ≤ 8 := YOk.h hY (y * 6 + x)
    refine lv_aload_n hx hb dX5_canCarry_17 rfl (lv_at hl 0 rfl) ?_
    refine lv_iload_n hx hb dX5_canCarry_18 rfl (lv_at hl 3 rfl) ?_
    refine lv_iload hx hb dX5_canCarry_19 (lv_at hl 4 rfl) ?_
    have hPc_4 := hP.sub (ws' := [(qm, .inr (5, [.int (iI th), .ref mz, .ref ms, .int (iI hn), .ref mp, .ref mb, .int (iI L), .ref m1, .ref m2, .ref m3, .ref mB, .ref mF, .ref mN, .ref mS, .int (iI sT), .ref mW, .long acc])), (mz, .inl (gI g, 326, .inl (aI (zF n ho h c))))]) [0, 1] rfl
    refine pc_i (va_runV (As := [.int (iI u), .int (iI v)]) (rest := [.int (iI (h (y * 6 + x)))]) ⟨hx, hb, hml, hown, hts⟩ (c_X5_height l g qm th mz ms hn mp mb L m1 m2 m3 mB mF mN mS sT mW acc n ho h c u v hY h5 h6 h7 h8) (cwV 2 hts gX5_canCarry_X5_height rfl rfl rfl (by decide +kernel) ⟨Nat.le_of_ble_eq_true rfl, Nat.le_of_ble_eq_true rfl⟩) (puV hE hS hPc_4 rfl rfl) rfl rfl hl.1 rfl (lv_room (Nat.le_of_ble_eq_true rfl)) dX5_canCarry_21 ⟨Nat.le_of_ble_eq_true rfl, Nat.le_of_ble_eq_true rfl⟩) ?_
    have r_5 : 0 ≤ h (v * 6 + u) ∧ h (v * 6 + u) ≤ 8 := YOk.h hY (v * 6 + u)
    refine ln_iadd hx hb (h (y * 6 + x) + h (v * 6 + u)) (rfl) dX5_canCarry_24 ?_
    refine lv_bipush (v := iI 8) hx hb dX5_canCarry_25 (by decide) ?_
    refine ln_icmp_gt (tgt := 34) hx hb dX5_canCarry_27 (by decide) ⟨by omega, by omega⟩ (by decide) (fun c_6 => ?_) (fun c_6 => ?_)
    · skip
      refine lv_iconst (v := iI 0) hx hb dX5_canCarry_34 rfl ?_
      exact pend_z hx hb hr hlk hS rfl (Or.inl rfl) (by (show _ = bI _; first | (rw [bI_t ⟨by omega, by omega⟩]) | (rw [bI_f (by omega)]))) dX5_canCarry_35
    · skip
      refine lv_iconst (v := iI 1) hx hb dX5_canCarry_30 rfl ?_
      refine lv_goto (tgt := 35) hx hb dX5_canCarry_31 (by decide) ?_
      exact pend_z hx hb hr hlk hS rfl (Or.inr rfl) (by (show _ = bI _; first | (rw [bI_t ⟨by omega, by omega⟩]) | (rw [bI_f (by omega)]))) dX5_canCarry_35
  · skip
    refine lv_iload_n hx hb dX5_canCarry_5 rfl (lv_at hl 2 rfl) ?_
    refine lv_iload hx hb dX5_canCarry_6 (lv_at hl 4 rfl) ?_
    refine ln_icmp_eq (tgt := 34) hx hb dX5_canCarry_8 (by decide) ⟨by omega, by omega⟩ ⟨by omega, by omega⟩ (fun c_7 => ?_) (fun c_7 => ?_)
    · skip
      refine lv_iconst (v := iI 0) hx hb dX5_canCarry_34 rfl ?_
      exact pend_z hx hb hr hlk hS rfl (Or.inl rfl) (by (show _ = bI _; first | (rw [bI_t ⟨by omega, by omega⟩]) | (rw [bI_f (by omega)]))) dX5_canCarry_35
    · skip
      refine lv_aload_n hx hb dX5_canCarry_11 rfl (lv_at hl 0 rfl) ?_
      refine lv_iload_n hx hb dX5_canCarry_12 rfl (lv_at hl 1 rfl) ?_
      refine lv_iload_n hx hb dX5_canCarry_13 rfl (lv_at hl 2 rfl) ?_
      have hPc_8 := hP.sub (ws' := [(qm, .inr (5, [.int (iI th), .ref mz, .ref ms, .int (iI hn), .ref mp, .ref mb, .int (iI L), .ref m1, .ref m2, .ref m3, .ref mB, .ref mF, .ref mN, .ref mS, .int (iI sT), .ref mW, .long acc])), (mz, .inl (gI g, 326, .inl (aI (zF n ho h c))))]) [0, 1] rfl
      refine pc_i (va_runV (As := [.int (iI x), .int (iI y)]) (rest := []) ⟨hx, hb, hml, hown, hts⟩ (c_X5_height l g qm th mz ms hn mp mb L m1 m2 m3 mB mF mN mS sT mW acc n ho h c x y hY h1 h2 h3 h4) (cwV 2 hts gX5_canCarry_X5_height rfl rfl rfl (by decide +kernel) ⟨Nat.le_of_ble_eq_true rfl, Nat.le_of_ble_eq_true rfl⟩) (puV hE hS hPc_8 rfl rfl) rfl rfl hl.1 rfl (lv_room (Nat.le_of_ble_eq_true rfl)) dX5_canCarry_14 ⟨Nat.le_of_ble_eq_true rfl, Nat.le_of_ble_eq_true rfl⟩) ?_
      have r_9 : 0 ≤ h (y * 6 + x) ∧ h (y * 6 + x) ≤ 8 := YOk.h hY (y * 6 + x)
      refine lv_aload_n hx hb dX5_canCarry_17 rfl (lv_at hl 0 rfl) ?_
      refine lv_iload_n hx hb dX5_canCarry_18 rfl (lv_at hl 3 rfl) ?_
      refine lv_iload hx hb dX5_canCarry_19 (lv_at hl 4 rfl) ?_
      have hPc_10 := hP.sub (ws' := [(qm, .inr (5, [.int (iI th), .ref mz, .ref ms, .int (iI hn), .ref mp, .ref mb, .int (iI L), .ref m1, .ref m2, .ref m3, .ref mB, .ref mF, .ref mN, .ref mS, .int (iI sT), .ref mW, .long acc])), (mz, .inl (gI g, 326, .inl (aI (zF n ho h c))))]) [0, 1] rfl
      refine pc_i (va_runV (As := [.int (iI u), .int (iI v)]) (rest := [.int (iI (h (y * 6 + x)))]) ⟨hx, hb, hml, hown, hts⟩ (c_X5_height l g qm th mz ms hn mp mb L m1 m2 m3 mB mF mN mS sT mW acc n ho h c u v hY h5 h6 h7 h8) (cwV 2 hts gX5_canCarry_X5_height rfl rfl rfl (by decide +kernel) ⟨Nat.le_of_ble_eq_true rfl, Nat.le_of_ble_eq_true rfl⟩) (puV hE hS hPc_10 rfl rfl) rfl rfl hl.1 rfl (lv_room (Nat.le_of_ble_eq_true rfl)) dX5_canCarry_21 ⟨Nat.le_of_ble_eq_true rfl, Nat.le_of_ble_eq_true rfl⟩) ?_
      have r_11 : 0 ≤ h (v * 6 + u) ∧ h (v * 6 + u) ≤ 8 := YOk.h hY (v * 6 + u)
      refine ln_iadd hx hb (h (y * 6 + x) + h (v * 6 + u)) (rfl) dX5_canCarry_24 ?_
      refine lv_bipush (v := iI 8) hx hb dX5_canCarry_25 (by decide) ?_
      refine ln_icmp_gt (tgt := 34) hx hb dX5_canCarry_27 (by decide) ⟨by omega, by omega⟩ (by decide) (fun c_12 => ?_) (fun c_12 => ?_)
      · skip
        refine lv_iconst (v := iI 0) hx hb dX5_canCarry_34 rfl ?_
        exact pend_z hx hb hr hlk hS rfl (Or.inl rfl) (by (show _ = bI _; first | (rw [bI_t ⟨by omega, by omega⟩]) | (rw [bI_f (by omega)]))) dX5_canCarry_35
      · skip
        refine lv_iconst (v := iI 1) hx hb dX5_canCarry_30 rfl ?_
        refine lv_goto (tgt := 35) hx hb dX5_canCarry_31 (by decide) ?_
        exact pend_z hx hb hr hlk hS rfl (Or.inr rfl) (by (show _ = bI _; first | (rw [bI_t ⟨by omega, by omega⟩]) | (rw [bI_f (by omega)]))) dX5_canCarry_35
set_option maxHeartbeats 800000 in
set_option maxRecDepth 100000 in
theorem c_X5_carry_ok (l : Launch) (g : GT) (qm : Nat) (th : Int) (mz : Nat) (ms : Nat) (hn : Int) (mp : Nat) (mb : Nat) (L : Int) (m1 : Nat) (m2 : Nat) (m3 : Nat) (mB : Nat) (mF : Nat) (mN : Nat) (mS : Nat) (sT : Int) (mW : Nat) (acc : Int64) (n : Int) (ho : Int) (h : Int → Int) (c : Int → Int) (f : Int → Int) (x : Int) (y : Int) (u : Int) (v : Int) (hY : YOk n ho h c) (hh : 0 ≤ hn ∧ hn ≤ 6) (h1 : 0 ≤ x) (h2 : x < n) (h3 : 0 ≤ y) (h4 : y < n) (h5 : 0 ≤ u) (h6 : u < n) (h7 : 0 ≤ v) (h8 : v < n) (gne : ¬ (x = u ∧ y = v)) (gs : h (y * 6 + x) + h (v * 6 + u) ≤ 8) : MutI l yX5_carry wsX5_carry ({ frames := 2, cells := 0, slots := 0, locals := 46 }) 0 0 g [(qm, .inr (5, [.int (iI th), .ref mz, .ref ms, .int (iI hn), .ref mp, .ref mb, .int (iI L), .ref m1, .ref m2, .ref m3, .ref mB, .ref mF, .ref mN, .ref mS, .int (iI sT), .ref mW, .long acc])), (mz, .inl (gI g, 326, .inl (aI (zF n ho h c)))), (ms, .inl (gI g, 1956, .inl (aI f)))] [.ref qm, .int (iI x), .int (iI y), .int (iI u), .int (iI v)] (S := Unit) (fun _ => True) (fun _ => h (v * 6 + u) + h (y * 6 + x)) (fun _ => [(qm, .inr (5, [.int (iI 0), .ref mz, .ref ms, .int (iI (svL hn + 1)), .ref mp, .ref mb, .int (iI L), .ref m1, .ref m2, .ref m3, .ref mB, .ref mF, .ref mN, .ref mS, .int (iI sT), .ref mW, .long acc])), (mz, .inl (gI g, 326, .inl (aI ((zF n ho (lowH (updI h (v * 6 + u) (h (v * 6 + u) + h (y * 6 + x))) (y * 6 + x) 0) (lowC (updI h (v * 6 + u) (h (v * 6 + u) + h (y * 6 + x))) (updI c (v * 6 + u) (carC h c (y * 6 + x) (v * 6 + u) (h (y * 6 + x)))) (y * 6 + x) 0)))))), (ms, .inl (gI g, 1956, .inl (aI ((svM (olF f hn) (svL hn) (zF n ho h c) 326)))))]) := by
  refine mut_of (y := yX5_carry) (ws := wsX5_carry) (av := [.ref qm, .int (iI x), .int (iI y), .int (iI u), .int (iI v)]) (w := [(qm, .inr (5, [.int (iI th), .ref mz, .ref ms, .int (iI hn), .ref mp, .ref mb, .int (iI L), .ref m1, .ref m2, .ref m3, .ref mB, .ref mF, .ref mN, .ref mS, .int (iI sT), .ref mW, .long acc])), (mz, .inl (gI g, 326, .inl (aI (zF n ho h c)))), (ms, .inl (gI g, 1956, .inl (aI f)))]) (Qc := fun A => va_Qi (fun x9 (u9 : Unit) => x9 = iI ((fun _ => h (v * 6 + u) + h (y * 6 + x)) u9) ∧ (fun _ => True) u9) (fun u9 t9 => MB g ((fun _ => [(qm, .inr (5, [.int (iI 0), .ref mz, .ref ms, .int (iI (svL hn + 1)), .ref mp, .ref mb, .int (iI L), .ref m1, .ref m2, .ref m3, .ref mB, .ref mF, .ref mN, .ref mS, .int (iI sT), .ref mW, .long acc])), (mz, .inl (gI g, 326, .inl (aI ((zF n ho (lowH (updI h (v * 6 + u) (h (v * 6 + u) + h (y * 6 + x))) (y * 6 + x) 0) (lowC (updI h (v * 6 + u) (h (v * 6 + u) + h (y * 6 + x))) (updI c (v * 6 + u) (carC h c (y * 6 + x) (v * 6 + u) (h (y * 6 + x)))) (y * 6 + x) 0)))))), (ms, .inl (gI g, 1956, .inl (aI ((svM (olF f hn) (svL hn) (zF n ho h c) 326)))))]) u9) A t9) A) (cc := cX5_carry) (maxL := 7) (ret := (some .int)) (by decide) rfl (Nat.le_of_ble_eq_true rfl) ?_
  intro pZ eZ sZ mZ bZ meZ cZ A F hin hA hP hD hE hS ls hl
  obtain ⟨hx, hb, hr, hml, hts, hown, hlk⟩ := F
  skip
  have hown : sZ.vm.findClass RX5 = some mZ.cls := hown
  have hl : lv_has ls 7 [(0, .ref qm), (1, .int (iI x)), (2, .int (iI y)), (3, .int (iI u)), (4, .int (iI v))] := hl
  skip
  have w0 := hts (.fieldLink RX5 47 "SlantYardModel" "thrown" "I") (by decide +kernel)
  have in5 : ∀ w ∈ u_ws RX5 TX5 17, w ∈ wsX5_carry := by decide +kernel
  have hnn := hY.n
  have hho := hY.hr
  have hh9 := YOk.h hY (y * 6 + x)
  have hh8 := YOk.h hY (v * 6 + u)
  have hqp : y * 6 + x ≠ v * 6 + u := by omega
  have hqp2 : v * 6 + u ≠ y * 6 + x := by omega
  refine lv_aload_n hx hb dX5_carry_0 rfl (lv_at hl 0 rfl) ?_
  refine lv_aload_n hx hb dX5_carry_1 rfl (lv_at hl 0 rfl) ?_
  refine lv_iload_n hx hb dX5_carry_2 rfl (lv_at hl 1 rfl) ?_
  refine lv_iload_n hx hb dX5_carry_3 rfl (lv_at hl 2 rfl) ?_
  have hPc_1 := hP.sub (ws' := [(qm, .inr (5, [.int (iI th), .ref mz, .ref ms, .int (iI hn), .ref mp, .ref mb, .int (iI L), .ref m1, .ref m2, .ref m3, .ref mB, .ref mF, .ref mN, .ref mS, .int (iI sT), .ref mW, .long acc])), (mz, .inl (gI g, 326, .inl (aI (zF n ho h c))))]) [0, 1] rfl
  refine pc_i (va_runV (As := [.int (iI x), .int (iI y)]) (rest := [.ref qm]) ⟨hx, hb, hml, hown, hts⟩ (c_X5_isSquare l g qm th mz ms hn mp mb L m1 m2 m3 mB mF mN mS sT mW acc n ho h c x y hY (by omega) (by omega)) (cwV 2 hts gX5_carry_X5_isSquare rfl rfl rfl (by decide +kernel) ⟨Nat.le_of_ble_eq_true rfl, Nat.le_of_ble_eq_true rfl⟩) (puV hE hS hPc_1 rfl rfl) rfl rfl hl.1 rfl (lv_room (Nat.le_of_ble_eq_true rfl)) dX5_carry_4 ⟨Nat.le_of_ble_eq_true rfl, Nat.le_of_ble_eq_true rfl⟩) ?_
  refine lb_if_eq (tgt := 20) hx hb dX5_carry_7 (by decide) (fun c_2 => ?_) (fun c_2 => ?_)
  · exfalso; omega
  · skip
    refine lv_aload_n hx hb dX5_carry_10 rfl (lv_at hl 0 rfl) ?_
    refine lv_iload_n hx hb dX5_carry_11 rfl (lv_at hl 3 rfl) ?_
    refine lv_iload hx hb dX5_carry_12 (lv_at hl 4 rfl) ?_
    have hPc_3 := hP.sub (ws' := [(qm, .inr (5, [.int (iI th), .ref mz, .ref ms, .int (iI hn), .ref mp, .ref mb, .int (iI L), .ref m1, .ref m2, .ref m3, .ref mB, .ref mF, .ref mN, .ref mS, .int (iI sT), .ref mW, .long acc])), (mz, .inl (gI g, 326, .inl (aI (zF n ho h c))))]) [0, 1] rfl
    refine pc_i (va_runV (As := [.int (iI u), .int (iI v)]) (rest := [.ref qm]) ⟨hx, hb, hml, hown, hts⟩ (c_X5_isSquare l g qm th mz ms hn mp mb L m1 m2 m3 mB mF mN mS sT mW acc n ho h c u v hY (by omega) (by omega)) (cwV 2 hts gX5_carry_X5_isSquare rfl rfl rfl (by decide +kernel) ⟨Nat.le_of_ble_eq_true rfl, Nat.le_of_ble_eq_true rfl⟩) (puV hE hS hPc_3 rfl rfl) rfl rfl hl.1 rfl (lv_room (Nat.le_of_ble_eq_true rfl)) dX5_carry_14 ⟨Nat.le_of_ble_eq_true rfl, Nat.le_of_ble_eq_true rfl⟩) ?_
    refine lb_if_ne (tgt := 24) hx hb dX5_carry_17 (by decide) (fun c_4 => ?_) (fun c_4 => ?_)
    · skip
      refine lv_aload_n hx hb dX5_carry_24 rfl (lv_at hl 0 rfl) ?_
      refine lv_iload_n hx hb dX5_carry_25 rfl (lv_at hl 1 rfl) ?_
      refine lv_iload_n hx hb dX5_carry_26 rfl (lv_at hl 2 rfl) ?_
      refine lv_iload_n hx hb dX5_carry_27 rfl (lv_at hl 3 rfl) ?_
      refine lv_iload hx hb dX5_carry_28 (lv_at hl 4 rfl) ?_
      have hPc_5 := hP.sub (ws' := [(qm, .inr (5, [.int (iI th), .ref mz, .ref ms, .int (iI hn), .ref mp, .ref mb, .int (iI L), .ref m1, .ref m2, .ref m3, .ref mB, .ref mF, .ref mN, .ref mS, .int (iI sT), .ref mW, .long acc])), (mz, .inl (gI g, 326, .inl (aI (zF n ho h c))))]) [0, 1] rfl
      refine pc_i (va_runV (As := [.int (iI x), .int (iI y), .int (iI u), .int (iI v)]) (rest := [.ref qm]) ⟨hx, hb, hml, hown, hts⟩ (c_X5_canCarry l g qm th mz ms hn mp mb L m1 m2 m3 mB mF mN mS sT mW acc n ho h c x y u v hY h1 h2 h3 h4 h5 h6 h7 h8) (cwV 4 hts gX5_carry_X5_canCarry rfl rfl rfl (by decide +kernel) ⟨Nat.le_of_ble_eq_true rfl, Nat.le_of_ble_eq_true rfl⟩) (puV hE hS hPc_5 rfl rfl) rfl rfl hl.1 rfl (lv_room (Nat.le_of_ble_eq_true rfl)) dX5_carry_30 ⟨Nat.le_of_ble_eq_true rfl, Nat.le_of_ble_eq_true rfl⟩) ?_
      refine lb_if_eq (tgt := 40) hx hb dX5_carry_33 (by decide) (fun c_6 => ?_) (fun c_6 => ?_)
      · exfalso; omega
      · skip
        refine lv_iconst (v := iI 0) hx hb dX5_carry_36 rfl ?_
        refine lv_goto (tgt := 41) hx hb dX5_carry_37 (by decide) ?_
        refine va_put (D := g.1) (ci := 5) (v := .int (iI 0)) (ty := .int) (C := RX5) (T := TX5) (N := 17) hx hb hts in5 tyX5 tyX5_ok nmX5 hown hE.1 hP hD hS 0 rfl rfl 0 (by decide) w0 (fun _ h9 => h9) rfl (by decide +kernel) rfl rfl (Nat.le_of_ble_eq_true rfl) dX5_carry_41 (fun H locs hP hD hS => ?_)
        have hP : va_P g.1 vwCl [(qm, .inr (5, [.int (iI 0), .ref mz, .ref ms, .int (iI hn), .ref mp, .ref mb, .int (iI L), .ref m1, .ref m2, .ref m3, .ref mB, .ref mF, .ref mN, .ref mS, .int (iI sT), .ref mW, .long acc])), (mz, .inl (gI g, 326, .inl (aI (zF n ho h c)))), (ms, .inl (gI g, 1956, .inl (aI f)))] H := hP
        have hD : va_D A [(qm, .inr (5, [.int (iI 0), .ref mz, .ref ms, .int (iI hn), .ref mp, .ref mb, .int (iI L), .ref m1, .ref m2, .ref m3, .ref mB, .ref mF, .ref mN, .ref mS, .int (iI sT), .ref mW, .long acc])), (mz, .inl (gI g, 326, .inl (aI (zF n ho h c)))), (ms, .inl (gI g, 1956, .inl (aI f)))] := hD
        refine lv_aload_n hx hb dX5_carry_44 rfl (lv_at hl 0 rfl) ?_
        refine va_get (D := g.1) (ci := 5) (v := .int (iI 0)) (C := RX5) (T := TX5) (N := 17) hx hb hts in5 hown hE.1 hP 0 rfl rfl 0 (by decide) w0 (fun _ h9 => h9) rfl dX5_carry_45 ?_
        refine ln_if_le (tgt := 53) hx hb dX5_carry_48 (by decide) (by decide) (fun c_7 => ?_) (fun c_7 => ?_)
        · skip
          refine lv_aload_n hx hb dX5_carry_53 rfl (lv_at hl 0 rfl) ?_
          have hPc_8 := hP.sub (ws' := [(qm, .inr (5, [.int (iI 0), .ref mz, .ref ms, .int (iI hn), .ref mp, .ref mb, .int (iI L), .ref m1, .ref m2, .ref m3, .ref mB, .ref mF, .ref mN, .ref mS, .int (iI sT), .ref mW, .long acc])), (mz, .inl (gI g, 326, .inl (aI (zF n ho h c)))), (ms, .inl (gI g, 1956, .inl (aI f)))]) [0, 1, 2] rfl
          have hDc_9 := hD.sub (ws' := [(qm, .inr (5, [.int (iI 0), .ref mz, .ref ms, .int (iI hn), .ref mp, .ref mb, .int (iI L), .ref m1, .ref m2, .ref m3, .ref mB, .ref mF, .ref mN, .ref mS, .int (iI sT), .ref mW, .long acc])), (mz, .inl (gI g, 326, .inl (aI (zF n ho h c)))), (ms, .inl (gI g, 1956, .inl (aI f)))]) [0, 1, 2] (by decide) rfl
          have hFc_10 := va_free (wc := [(qm, .inr (5, [.int (iI 0), .ref mz, .ref ms, .int (iI hn), .ref mp, .ref mb, .int (iI L), .ref m1, .ref m2, .ref m3, .ref mB, .ref mF, .ref mN, .ref mS, .int (iI sT), .ref mW, .long acc])), (mz, .inl (gI g, 326, .inl (aI (zF n ho h c)))), (ms, .inl (gI g, 1956, .inl (aI f)))]) hD hS hA [0, 1, 2] rfl
          refine mc_v (wr := []) (cells1 := 0) (slots1 := 0) (va_runV (As := []) (rest := []) ⟨hx, hb, hml, hown, hts⟩ (c_X5_save l g qm 0 mz ms hn mp mb L m1 m2 m3 mB mF mN mS sT mW acc n ho h c f hh H.size) (cwV 0 hts gX5_carry_X5_save rfl rfl rfl (by decide +kernel) ⟨Nat.le_of_ble_eq_true rfl, Nat.le_of_ble_eq_true rfl⟩) (muV hE hS hPc_8 hDc_9 hFc_10 rfl rfl) rfl rfl hl.1 rfl (lv_room (Nat.le_of_ble_eq_true rfl)) dX5_carry_54 ⟨Nat.le_of_ble_eq_true rfl, Nat.le_of_ble_eq_true rfl⟩) hP hD hS hA [0, 1, 2] [] [0, 1, 2] rfl rfl (by decide) (by decide) (fun _ => [(qm, .inr (5, [.int (iI 0), .ref mz, .ref ms, .int (iI (svL hn + 1)), .ref mp, .ref mb, .int (iI L), .ref m1, .ref m2, .ref m3, .ref mB, .ref mF, .ref mN, .ref mS, .int (iI sT), .ref mW, .long acc])), (mz, .inl (gI g, 326, .inl (aI (zF n ho h c)))), (ms, .inl (gI g, 1956, .inl (aI ((svM (olF f hn) (svL hn) (zF n ho h c) 326)))))]) (fun _ => rfl) (by decide) (Nat.le_of_ble_eq_true rfl) (Nat.le_of_ble_eq_true rfl) (fun u9 H locs hu_11 hP hD hS => ?_)
          have hP : va_P g.1 vwCl [(qm, .inr (5, [.int (iI 0), .ref mz, .ref ms, .int (iI (svL hn + 1)), .ref mp, .ref mb, .int (iI L), .ref m1, .ref m2, .ref m3, .ref mB, .ref mF, .ref mN, .ref mS, .int (iI sT), .ref mW, .long acc])), (mz, .inl (gI g, 326, .inl (aI (zF n ho h c)))), (ms, .inl (gI g, 1956, .inl (aI ((svM (olF f hn) (svL hn) (zF n ho h c) 326)))))] H := hP
          have hD : va_D A [(qm, .inr (5, [.int (iI 0), .ref mz, .ref ms, .int (iI (svL hn + 1)), .ref mp, .ref mb, .int (iI L), .ref m1, .ref m2, .ref m3, .ref mB, .ref mF, .ref mN, .ref mS, .int (iI sT), .ref mW, .long acc])), (mz, .inl (gI g, 326, .inl (aI (zF n ho h c)))), (ms, .inl (gI g, 1956, .inl (aI ((svM (olF f hn) (svL hn) (zF n ho h c) 326)))))] := hD
          refine lv_aload_n hx hb dX5_carry_57 rfl (lv_at hl 0 rfl) ?_
          refine lv_iload_n hx hb dX5_carry_58 rfl (lv_at hl 1 rfl) ?_
          refine lv_iload_n hx hb dX5_carry_59 rfl (lv_at hl 2 rfl) ?_
          have hPc_12 := hP.sub (ws' := [(qm, .inr (5, [.int (iI 0), .ref mz, .ref ms, .int (iI (svL hn + 1)), .ref mp, .ref mb, .int (iI L), .ref m1, .ref m2, .ref m3, .ref mB, .ref mF, .ref mN, .ref mS, .int (iI sT), .ref mW, .long acc])), (mz, .inl (gI g, 326, .inl (aI (zF n ho h c))))]) [0, 1] rfl
          refine pc_i (va_runV (As := [.int (iI x), .int (iI y)]) (rest := []) ⟨hx, hb, hml, hown, hts⟩ (c_X5_height l g qm 0 mz ms (svL hn + 1) mp mb L m1 m2 m3 mB mF mN mS sT mW acc n ho h c x y hY h1 h2 h3 h4) (cwV 2 hts gX5_carry_X5_height rfl rfl rfl (by decide +kernel) ⟨Nat.le_of_ble_eq_true rfl, Nat.le_of_ble_eq_true rfl⟩) (puV hE hS hPc_12 rfl rfl) rfl rfl hl.1 rfl (lv_room (Nat.le_of_ble_eq_true rfl)) dX5_carry_60 ⟨Nat.le_of_ble_eq_true rfl, Nat.le_of_ble_eq_true rfl⟩) ?_
          have r_13 : 0 ≤ h (y * 6 + x) ∧ h (y * 6 + x) ≤ 8 := YOk.h hY (y * 6 + x)
          refine lv_istore (lv' := [(5, .int (iI (h (y * 6 + x)))), (0, .ref qm), (1, .int (iI x)), (2, .int (iI y)), (3, .int (iI u)), (4, .int (iI v))]) hx hb dX5_carry_63 hl (by decide) rfl (fun ls hl => ?_)
          refine lv_iconst (v := iI 0) hx hb dX5_carry_65 rfl ?_
          refine lv_istore (lv' := [(6, .int (iI 0)), (5, .int (iI (h (y * 6 + x)))), (0, .ref qm), (1, .int (iI x)), (2, .int (iI y)), (3, .int (iI u)), (4, .int (iI v))]) hx hb dX5_carry_66 hl (by decide) rfl (fun ls hl => ?_)
          have L68 : ∀ (k_14 : Nat) (z : Int) (gz : 0 ≤ z) (gl : z ≤ h (y * 6 + x)) (H : Heap) (locs : List Loc), va_P g.1 vwCl [(qm, .inr (5, [.int (iI 0), .ref mz, .ref ms, .int (iI (svL hn + 1)), .ref mp, .ref mb, .int (iI L), .ref m1, .ref m2, .ref m3, .ref mB, .ref mF, .ref mN, .ref mS, .int (iI sT), .ref mW, .long acc])), (mz, .inl (gI g, 326, .inl (aI ((zF n ho (updI h (v * 6 + u) (h (v * 6 + u) + z)) (updI c (v * 6 + u) (carC h c (y * 6 + x) (v * 6 + u) z))))))), (ms, .inl (gI g, 1956, .inl (aI ((svM (olF f hn) (svL hn) (zF n ho h c) 326)))))] H → va_D A [(qm, .inr (5, [.int (iI 0), .ref mz, .ref ms, .int (iI (svL hn + 1)), .ref mp, .ref mb, .int (iI L), .ref m1, .ref m2, .ref m3, .ref mB, .ref mF, .ref mN, .ref mS, .int (iI sT), .ref mW, .long acc])), (mz, .inl (gI g, 326, .inl (aI ((zF n ho (updI h (v * 6 + u) (h (v * 6 + u) + z)) (updI c (v * 6 + u) (carC h c (y * 6 + x) (v * 6 + u) z))))))), (ms, .inl (gI g, 1956, .inl (aI ((svM (olF f hn) (svL hn) (zF n ho h c) 326)))))] → va_S A sZ.heap H locs → ∀ (ls : Array Slot), lv_has ls 7 [(0, .ref qm), (1, .int (iI x)), (2, .int (iI y)), (3, .int (iI u)), (4, .int (iI v)), (5, .int (iI (h (y * 6 + x)))), (6, .int (iI z))] → (h (y * 6 + x) - z).toNat < k_14 → W pZ l eZ ({ frames := 2, cells := 0, slots := 0, locals := 46 } : Room) sZ mZ [.ref qm, .int (iI x), .int (iI y), .int (iI u), .int (iI v)].toArray bZ meZ cZ H locs 0 0 (MQ bZ (va_Qi (fun x9 (u9 : Unit) => x9 = iI ((fun _ => h (v * 6 + u) + h (y * 6 + x)) u9) ∧ (fun _ => True) u9) (fun u9 t9 => MB g ((fun _ => [(qm, .inr (5, [.int (iI 0), .ref mz, .ref ms, .int (iI (svL hn + 1)), .ref mp, .ref mb, .int (iI L), .ref m1, .ref m2, .ref m3, .ref mB, .ref mF, .ref mN, .ref mS, .int (iI sT), .ref mW, .long acc])), (mz, .inl (gI g, 326, .inl (aI ((zF n ho (lowH (updI h (v * 6 + u) (h (v * 6 + u) + h (y * 6 + x))) (y * 6 + x) 0) (lowC (updI h (v * 6 + u) (h (v * 6 + u) + h (y * 6 + x))) (updI c (v * 6 + u) (carC h c (y * 6 + x) (v * 6 + u) (h (y * 6 + x)))) (y * 6 + x) 0)))))), (ms, .inl (gI g, 1956, .inl (aI ((svM (olF f hn) (svL hn) (zF n ho h c) 326)))))]) u9) A t9) A) [.ref qm, .int (iI x), .int (iI y), .int (iI u), .int (iI v)].toArray sZ 0 0 A) (F0 mZ 68 ls []) := by
            intro k_14
            induction k_14 with
            | zero => intro z gz gl H locs hP hD hS ls hl hm_16; exact absurd hm_16 (Nat.not_lt_zero _)
            | succ k_14 ih_15 =>
              intro z gz gl H locs hP hD hS ls hl hm_16
              have b_17 : YOk n ho (updI h (v * 6 + u) (h (v * 6 + u) + z)) (updI c (v * 6 + u) (carC h c (y * 6 + x) (v * 6 + u) z)) := YOk.car hY (sq_in (by omega) h5 h6 h7 h8) hqp2 gz (by omega)
              refine lv_iload hx hb dX5_carry_68 (lv_at hl 6 rfl) ?_
              refine lv_iload hx hb dX5_carry_70 (lv_at hl 5 rfl) ?_
              refine ln_icmp_ge (tgt := 96) hx hb dX5_carry_72 (by decide) ⟨by omega, by omega⟩ ⟨by omega, by omega⟩ (fun c_18 => ?_) (fun c_18 => ?_)
              · skip
                have hP := hP.recell 1 rfl ((zF n ho (lowH (updI h (v * 6 + u) (h (v * 6 + u) + h (y * 6 + x))) (y * 6 + x) (h (y * 6 + x))) (lowC (updI h (v * 6 + u) (h (v * 6 + u) + h (y * 6 + x))) (updI c (v * 6 + u) (carC h c (y * 6 + x) (v * 6 + u) (h (y * 6 + x)))) (y * 6 + x) (h (y * 6 + x))))) (fun j _ _ => zF_cg (fun i => by rw [show z = h (y * 6 + x) by omega]; have e9 := low_id (f := (updI h (v * 6 + u) (h (v * 6 + u) + h (y * 6 + x)))) (q := y * 6 + x) i; rw [updI_n hqp] at e9; exact e9.symm) (fun i => by rw [show z = h (y * 6 + x) by omega]; have e9 := lowC_id (f := (updI h (v * 6 + u) (h (v * 6 + u) + h (y * 6 + x)))) (c := (updI c (v * 6 + u) (carC h c (y * 6 + x) (v * 6 + u) (h (y * 6 + x))))) (q := y * 6 + x) i; rw [updI_n hqp] at e9; exact e9.symm) j)
                have hD := hD.set (p := 1) (e := .inl (gI g, 326, .inl (aI ((zF n ho (lowH (updI h (v * 6 + u) (h (v * 6 + u) + h (y * 6 + x))) (y * 6 + x) (h (y * 6 + x))) (lowC (updI h (v * 6 + u) (h (v * 6 + u) + h (y * 6 + x))) (updI c (v * 6 + u) (carC h c (y * 6 + x) (v * 6 + u) (h (y * 6 + x)))) (y * 6 + x) (h (y * 6 + x)))))))) rfl
                have hP : va_P g.1 vwCl [(qm, .inr (5, [.int (iI 0), .ref mz, .ref ms, .int (iI (svL hn + 1)), .ref mp, .ref mb, .int (iI L), .ref m1, .ref m2, .ref m3, .ref mB, .ref mF, .ref mN, .ref mS, .int (iI sT), .ref mW, .long acc])), (mz, .inl (gI g, 326, .inl (aI ((zF n ho (lowH (updI h (v * 6 + u) (h (v * 6 + u) + h (y * 6 + x))) (y * 6 + x) (h (y * 6 + x))) (lowC (updI h (v * 6 + u) (h (v * 6 + u) + h (y * 6 + x))) (updI c (v * 6 + u) (carC h c (y * 6 + x) (v * 6 + u) (h (y * 6 + x)))) (y * 6 + x) (h (y * 6 + x)))))))), (ms, .inl (gI g, 1956, .inl (aI ((svM (olF f hn) (svL hn) (zF n ho h c) 326)))))] _ := hP
                have hD : va_D A [(qm, .inr (5, [.int (iI 0), .ref mz, .ref ms, .int (iI (svL hn + 1)), .ref mp, .ref mb, .int (iI L), .ref m1, .ref m2, .ref m3, .ref mB, .ref mF, .ref mN, .ref mS, .int (iI sT), .ref mW, .long acc])), (mz, .inl (gI g, 326, .inl (aI ((zF n ho (lowH (updI h (v * 6 + u) (h (v * 6 + u) + h (y * 6 + x))) (y * 6 + x) (h (y * 6 + x))) (lowC (updI h (v * 6 + u) (h (v * 6 + u) + h (y * 6 + x))) (updI c (v * 6 + u) (carC h c (y * 6 + x) (v * 6 + u) (h (y * 6 + x)))) (y * 6 + x) (h (y * 6 + x)))))))), (ms, .inl (gI g, 1956, .inl (aI ((svM (olF f hn) (svL hn) (zF n ho h c) 326)))))] := hD
                have hH9 : (updI h (v * 6 + u) (h (v * 6 + u) + h (y * 6 + x))) (y * 6 + x) = h (y * 6 + x) := updI_n hqp
                have hY3 : YOk n ho (updI h (v * 6 + u) (h (v * 6 + u) + h (y * 6 + x))) (updI c (v * 6 + u) (carC h c (y * 6 + x) (v * 6 + u) (h (y * 6 + x)))) := YOk.car hY (sq_in (by omega) h5 h6 h7 h8) hqp2 (by omega) (by omega)
                refine lv_iconst (v := iI 0) hx hb dX5_carry_96 rfl ?_
                refine lv_istore (lv' := [(6, .int (iI 0)), (0, .ref qm), (1, .int (iI x)), (2, .int (iI y)), (3, .int (iI u)), (4, .int (iI v)), (5, .int (iI (h (y * 6 + x))))]) hx hb dX5_carry_97 hl (by decide) rfl (fun ls hl => ?_)
                have L99 : ∀ (k_19 : Nat) (k : Int) (gk : 0 ≤ k) (gl : k ≤ h (y * 6 + x)) (H : Heap) (locs : List Loc), va_P g.1 vwCl [(qm, .inr (5, [.int (iI 0), .ref mz, .ref ms, .int (iI (svL hn + 1)), .ref mp, .ref mb, .int (iI L), .ref m1, .ref m2, .ref m3, .ref mB, .ref mF, .ref mN, .ref mS, .int (iI sT), .ref mW, .long acc])), (mz, .inl (gI g, 326, .inl (aI ((zF n ho (lowH (updI h (v * 6 + u) (h (v * 6 + u) + h (y * 6 + x))) (y * 6 + x) (h (y * 6 + x) - k)) (lowC (updI h (v * 6 + u) (h (v * 6 + u) + h (y * 6 + x))) (updI c (v * 6 + u) (carC h c (y * 6 + x) (v * 6 + u) (h (y * 6 + x)))) (y * 6 + x) (h (y * 6 + x) - k))))))), (ms, .inl (gI g, 1956, .inl (aI ((svM (olF f hn) (svL hn) (zF n ho h c) 326)))))] H → va_D A [(qm, .inr (5, [.int (iI 0), .ref mz, .ref ms, .int (iI (svL hn + 1)), .ref mp, .ref mb, .int (iI L), .ref m1, .ref m2, .ref m3, .ref mB, .ref mF, .ref mN, .ref mS, .int (iI sT), .ref mW, .long acc])), (mz, .inl (gI g, 326, .inl (aI ((zF n ho (lowH (updI h (v * 6 + u) (h (v * 6 + u) + h (y * 6 + x))) (y * 6 + x) (h (y * 6 + x) - k)) (lowC (updI h (v * 6 + u) (h (v * 6 + u) + h (y * 6 + x))) (updI c (v * 6 + u) (carC h c (y * 6 + x) (v * 6 + u) (h (y * 6 + x)))) (y * 6 + x) (h (y * 6 + x) - k))))))), (ms, .inl (gI g, 1956, .inl (aI ((svM (olF f hn) (svL hn) (zF n ho h c) 326)))))] → va_S A sZ.heap H locs → ∀ (ls : Array Slot), lv_has ls 7 [(0, .ref qm), (1, .int (iI x)), (2, .int (iI y)), (3, .int (iI u)), (4, .int (iI v)), (5, .int (iI (h (y * 6 + x)))), (6, .int (iI k))] → (h (y * 6 + x) - k).toNat < k_19 → W pZ l eZ ({ frames := 2, cells := 0, slots := 0, locals := 46 } : Room) sZ mZ [.ref qm, .int (iI x), .int (iI y), .int (iI u), .int (iI v)].toArray bZ meZ cZ H locs 0 0 (MQ bZ (va_Qi (fun x9 (u9 : Unit) => x9 = iI ((fun _ => h (v * 6 + u) + h (y * 6 + x)) u9) ∧ (fun _ => True) u9) (fun u9 t9 => MB g ((fun _ => [(qm, .inr (5, [.int (iI 0), .ref mz, .ref ms, .int (iI (svL hn + 1)), .ref mp, .ref mb, .int (iI L), .ref m1, .ref m2, .ref m3, .ref mB, .ref mF, .ref mN, .ref mS, .int (iI sT), .ref mW, .long acc])), (mz, .inl (gI g, 326, .inl (aI ((zF n ho (lowH (updI h (v * 6 + u) (h (v * 6 + u) + h (y * 6 + x))) (y * 6 + x) 0) (lowC (updI h (v * 6 + u) (h (v * 6 + u) + h (y * 6 + x))) (updI c (v * 6 + u) (carC h c (y * 6 + x) (v * 6 + u) (h (y * 6 + x)))) (y * 6 + x) 0)))))), (ms, .inl (gI g, 1956, .inl (aI ((svM (olF f hn) (svL hn) (zF n ho h c) 326)))))]) u9) A t9) A) [.ref qm, .int (iI x), .int (iI y), .int (iI u), .int (iI v)].toArray sZ 0 0 A) (F0 mZ 99 ls []) := by
                  intro k_19
                  induction k_19 with
                  | zero => intro k gk gl H locs hP hD hS ls hl hm_21; exact absurd hm_21 (Nat.not_lt_zero _)
                  | succ k_19 ih_20 =>
                    intro k gk gl H locs hP hD hS ls hl hm_21
                    have b_22 : YOk n ho (lowH (updI h (v * 6 + u) (h (v * 6 + u) + h (y * 6 + x))) (y * 6 + x) (h (y * 6 + x) - k)) (lowC (updI h (v * 6 + u) (h (v * 6 + u) + h (y * 6 + x))) (updI c (v * 6 + u) (carC h c (y * 6 + x) (v * 6 + u) (h (y * 6 + x)))) (y * 6 + x) (h (y * 6 + x) - k)) := YOk.low hY3 (sq_in (by omega) h1 h2 h3 h4)
                    have b_23 : (lowH (updI h (v * 6 + u) (h (v * 6 + u) + h (y * 6 + x))) (y * 6 + x) (h (y * 6 + x) - k)) (y * 6 + x) = h (y * 6 + x) - k := low_at (by omega) (by omega)
                    refine lv_iload hx hb dX5_carry_99 (lv_at hl 6 rfl) ?_
                    refine lv_iload hx hb dX5_carry_101 (lv_at hl 5 rfl) ?_
                    refine ln_icmp_ge (tgt := 119) hx hb dX5_carry_103 (by decide) ⟨by omega, by omega⟩ ⟨by omega, by omega⟩ (fun c_24 => ?_) (fun c_24 => ?_)
                    · skip
                      have hP := hP.recell 1 rfl ((zF n ho (lowH (updI h (v * 6 + u) (h (v * 6 + u) + h (y * 6 + x))) (y * 6 + x) 0) (lowC (updI h (v * 6 + u) (h (v * 6 + u) + h (y * 6 + x))) (updI c (v * 6 + u) (carC h c (y * 6 + x) (v * 6 + u) (h (y * 6 + x)))) (y * 6 + x) 0))) (fun j _ _ => zF_cg (fun i => by rw [show h (y * 6 + x) - k = 0 by omega]) (fun i => by rw [show h (y * 6 + x) - k = 0 by omega]) j)
                      have hD := hD.set (p := 1) (e := .inl (gI g, 326, .inl (aI ((zF n ho (lowH (updI h (v * 6 + u) (h (v * 6 + u) + h (y * 6 + x))) (y * 6 + x) 0) (lowC (updI h (v * 6 + u) (h (v * 6 + u) + h (y * 6 + x))) (updI c (v * 6 + u) (carC h c (y * 6 + x) (v * 6 + u) (h (y * 6 + x)))) (y * 6 + x) 0)))))) rfl
                      have hP : va_P g.1 vwCl [(qm, .inr (5, [.int (iI 0), .ref mz, .ref ms, .int (iI (svL hn + 1)), .ref mp, .ref mb, .int (iI L), .ref m1, .ref m2, .ref m3, .ref mB, .ref mF, .ref mN, .ref mS, .int (iI sT), .ref mW, .long acc])), (mz, .inl (gI g, 326, .inl (aI ((zF n ho (lowH (updI h (v * 6 + u) (h (v * 6 + u) + h (y * 6 + x))) (y * 6 + x) 0) (lowC (updI h (v * 6 + u) (h (v * 6 + u) + h (y * 6 + x))) (updI c (v * 6 + u) (carC h c (y * 6 + x) (v * 6 + u) (h (y * 6 + x)))) (y * 6 + x) 0)))))), (ms, .inl (gI g, 1956, .inl (aI ((svM (olF f hn) (svL hn) (zF n ho h c) 326)))))] _ := hP
                      have hD : va_D A [(qm, .inr (5, [.int (iI 0), .ref mz, .ref ms, .int (iI (svL hn + 1)), .ref mp, .ref mb, .int (iI L), .ref m1, .ref m2, .ref m3, .ref mB, .ref mF, .ref mN, .ref mS, .int (iI sT), .ref mW, .long acc])), (mz, .inl (gI g, 326, .inl (aI ((zF n ho (lowH (updI h (v * 6 + u) (h (v * 6 + u) + h (y * 6 + x))) (y * 6 + x) 0) (lowC (updI h (v * 6 + u) (h (v * 6 + u) + h (y * 6 + x))) (updI c (v * 6 + u) (carC h c (y * 6 + x) (v * 6 + u) (h (y * 6 + x)))) (y * 6 + x) 0)))))), (ms, .inl (gI g, 1956, .inl (aI ((svM (olF f hn) (svL hn) (zF n ho h c) 326)))))] := hD
                      have hY4 : YOk n ho (lowH (updI h (v * 6 + u) (h (v * 6 + u) + h (y * 6 + x))) (y * 6 + x) 0) (lowC (updI h (v * 6 + u) (h (v * 6 + u) + h (y * 6 + x))) (updI c (v * 6 + u) (carC h c (y * 6 + x) (v * 6 + u) (h (y * 6 + x)))) (y * 6 + x) 0) := YOk.low hY3 (sq_in (by omega) h1 h2 h3 h4)
                      refine lv_aload_n hx hb dX5_carry_119 rfl (lv_at hl 0 rfl) ?_
                      refine lv_iload_n hx hb dX5_carry_120 rfl (lv_at hl 3 rfl) ?_
                      refine lv_iload hx hb dX5_carry_121 (lv_at hl 4 rfl) ?_
                      have hPc_25 := hP.sub (ws' := [(qm, .inr (5, [.int (iI 0), .ref mz, .ref ms, .int (iI (svL hn + 1)), .ref mp, .ref mb, .int (iI L), .ref m1, .ref m2, .ref m3, .ref mB, .ref mF, .ref mN, .ref mS, .int (iI sT), .ref mW, .long acc])), (mz, .inl (gI g, 326, .inl (aI ((zF n ho (lowH (updI h (v * 6 + u) (h (v * 6 + u) + h (y * 6 + x))) (y * 6 + x) 0) (lowC (updI h (v * 6 + u) (h (v * 6 + u) + h (y * 6 + x))) (updI c (v * 6 + u) (carC h c (y * 6 + x) (v * 6 + u) (h (y * 6 + x)))) (y * 6 + x) 0))))))]) [0, 1] rfl
                      refine pc_i (va_runV (As := [.int (iI u), .int (iI v)]) (rest := []) ⟨hx, hb, hml, hown, hts⟩ (c_X5_height l g qm 0 mz ms (svL hn + 1) mp mb L m1 m2 m3 mB mF mN mS sT mW acc n ho ((lowH (updI h (v * 6 + u) (h (v * 6 + u) + h (y * 6 + x))) (y * 6 + x) 0)) ((lowC (updI h (v * 6 + u) (h (v * 6 + u) + h (y * 6 + x))) (updI c (v * 6 + u) (carC h c (y * 6 + x) (v * 6 + u) (h (y * 6 + x)))) (y * 6 + x) 0)) u v hY4 h5 h6 h7 h8) (cwV 2 hts gX5_carry_X5_height rfl rfl rfl (by decide +kernel) ⟨Nat.le_of_ble_eq_true rfl, Nat.le_of_ble_eq_true rfl⟩) (puV hE hS hPc_25 rfl rfl) rfl rfl hl.1 rfl (lv_room (Nat.le_of_ble_eq_true rfl)) dX5_carry_123 ⟨Nat.le_of_ble_eq_true rfl, Nat.le_of_ble_eq_true rfl⟩) ?_
                      have r_26 : 0 ≤ ((lowH (updI h (v * 6 + u) (h (v * 6 + u) + h (y * 6 + x))) (y * 6 + x) 0)) (v * 6 + u) ∧ ((lowH (updI h (v * 6 + u) (h (v * 6 + u) + h (y * 6 + x))) (y * 6 + x) 0)) (v * 6 + u) ≤ 8 := YOk.h hY4 (v * 6 + u)
                      have hP : va_P g.1 vwCl [(qm, .inr (5, [.int (iI 0), .ref mz, .ref ms, .int (iI (svL hn + 1)), .ref mp, .ref mb, .int (iI L), .ref m1, .ref m2, .ref m3, .ref mB, .ref mF, .ref mN, .ref mS, .int (iI sT), .ref mW, .long acc])), (mz, .inl (gI g, 326, .inl (aI ((zF n ho (lowH (updI h (v * 6 + u) (h (v * 6 + u) + h (y * 6 + x))) (y * 6 + x) 0) (lowC (updI h (v * 6 + u) (h (v * 6 + u) + h (y * 6 + x))) (updI c (v * 6 + u) (carC h c (y * 6 + x) (v * 6 + u) (h (y * 6 + x)))) (y * 6 + x) 0)))))), (ms, .inl (gI g, 1956, .inl (aI ((svM (olF f hn) (svL hn) (zF n ho h c) 326)))))] _ := hP
                      have hD : va_D A [(qm, .inr (5, [.int (iI 0), .ref mz, .ref ms, .int (iI (svL hn + 1)), .ref mp, .ref mb, .int (iI L), .ref m1, .ref m2, .ref m3, .ref mB, .ref mF, .ref mN, .ref mS, .int (iI sT), .ref mW, .long acc])), (mz, .inl (gI g, 326, .inl (aI ((zF n ho (lowH (updI h (v * 6 + u) (h (v * 6 + u) + h (y * 6 + x))) (y * 6 + x) 0) (lowC (updI h (v * 6 + u) (h (v * 6 + u) + h (y * 6 + x))) (updI c (v * 6 + u) (carC h c (y * 6 + x) (v * 6 + u) (h (y * 6 + x)))) (y * 6 + x) 0)))))), (ms, .inl (gI g, 1956, .inl (aI ((svM (olF f hn) (svL hn) (zF n ho h c) 326)))))] := hD
                      exact mend_i (S := Unit) (w' := (fun _ => [(qm, .inr (5, [.int (iI 0), .ref mz, .ref ms, .int (iI (svL hn + 1)), .ref mp, .ref mb, .int (iI L), .ref m1, .ref m2, .ref m3, .ref mB, .ref mF, .ref mN, .ref mS, .int (iI sT), .ref mW, .long acc])), (mz, .inl (gI g, 326, .inl (aI ((zF n ho (lowH (updI h (v * 6 + u) (h (v * 6 + u) + h (y * 6 + x))) (y * 6 + x) 0) (lowC (updI h (v * 6 + u) (h (v * 6 + u) + h (y * 6 + x))) (updI c (v * 6 + u) (carC h c (y * 6 + x) (v * 6 + u) (h (y * 6 + x)))) (y * 6 + x) 0)))))), (ms, .inl (gI g, 1956, .inl (aI ((svM (olF f hn) (svL hn) (zF n ho h c) 326)))))])) (post := (fun _ => True)) (r := (fun _ => h (v * 6 + u) + h (y * 6 + x))) hx hb hr hlk hS () hP hD (trivial) (by unfold lowH; split <;> (try rw [updI_n hqp2]) <;> exact updI_s) (Nat.le_of_ble_eq_true rfl) (Nat.le_of_ble_eq_true rfl) dX5_carry_126
                    · skip
                      refine lv_aload_n hx hb dX5_carry_106 rfl (lv_at hl 0 rfl) ?_
                      refine lv_iload_n hx hb dX5_carry_107 rfl (lv_at hl 1 rfl) ?_
                      refine lv_iload_n hx hb dX5_carry_108 rfl (lv_at hl 2 rfl) ?_
                      have hPc_27 := hP.sub (ws' := [(qm, .inr (5, [.int (iI 0), .ref mz, .ref ms, .int (iI (svL hn + 1)), .ref mp, .ref mb, .int (iI L), .ref m1, .ref m2, .ref m3, .ref mB, .ref mF, .ref mN, .ref mS, .int (iI sT), .ref mW, .long acc])), (mz, .inl (gI g, 326, .inl (aI ((zF n ho (lowH (updI h (v * 6 + u) (h (v * 6 + u) + h (y * 6 + x))) (y * 6 + x) (h (y * 6 + x) - k)) (lowC (updI h (v * 6 + u) (h (v * 6 + u) + h (y * 6 + x))) (updI c (v * 6 + u) (carC h c (y * 6 + x) (v * 6 + u) (h (y * 6 + x)))) (y * 6 + x) (h (y * 6 + x) - k)))))))]) [0, 1] rfl
                      have hDc_28 := hD.sub (ws' := [(qm, .inr (5, [.int (iI 0), .ref mz, .ref ms, .int (iI (svL hn + 1)), .ref mp, .ref mb, .int (iI L), .ref m1, .ref m2, .ref m3, .ref mB, .ref mF, .ref mN, .ref mS, .int (iI sT), .ref mW, .long acc])), (mz, .inl (gI g, 326, .inl (aI ((zF n ho (lowH (updI h (v * 6 + u) (h (v * 6 + u) + h (y * 6 + x))) (y * 6 + x) (h (y * 6 + x) - k)) (lowC (updI h (v * 6 + u) (h (v * 6 + u) + h (y * 6 + x))) (updI c (v * 6 + u) (carC h c (y * 6 + x) (v * 6 + u) (h (y * 6 + x)))) (y * 6 + x) (h (y * 6 + x) - k)))))))]) [0, 1] (by decide) rfl
                      have hFc_29 := va_free (wc := [(qm, .inr (5, [.int (iI 0), .ref mz, .ref ms, .int (iI (svL hn + 1)), .ref mp, .ref mb, .int (iI L), .ref m1, .ref m2, .ref m3, .ref mB, .ref mF, .ref mN, .ref mS, .int (iI sT), .ref mW, .long acc])), (mz, .inl (gI g, 326, .inl (aI ((zF n ho (lowH (updI h (v * 6 + u) (h (v * 6 + u) + h (y * 6 + x))) (y * 6 + x) (h (y * 6 + x) - k)) (lowC (updI h (v * 6 + u) (h (v * 6 + u) + h (y * 6 + x))) (updI c (v * 6 + u) (carC h c (y * 6 + x) (v * 6 + u) (h (y * 6 + x)))) (y * 6 + x) (h (y * 6 + x) - k)))))))]) hD hS hA [0, 1] rfl
                      refine mc_i (wr := [(ms, .inl (gI g, 1956, .inl (aI ((svM (olF f hn) (svL hn) (zF n ho h c) 326)))))]) (cells1 := 0) (slots1 := 0) (va_runV (As := [.int (iI x), .int (iI y)]) (rest := []) ⟨hx, hb, hml, hown, hts⟩ (c_X5_takeFrom l g qm 0 mz ms (svL hn + 1) mp mb L m1 m2 m3 mB mF mN mS sT mW acc n ho ((lowH (updI h (v * 6 + u) (h (v * 6 + u) + h (y * 6 + x))) (y * 6 + x) (h (y * 6 + x) - k))) ((lowC (updI h (v * 6 + u) (h (v * 6 + u) + h (y * 6 + x))) (updI c (v * 6 + u) (carC h c (y * 6 + x) (v * 6 + u) (h (y * 6 + x)))) (y * 6 + x) (h (y * 6 + x) - k))) x y b_22 h1 h2 h3 h4 (by omega) H.size) (cwV 2 hts gX5_carry_X5_takeFrom rfl rfl rfl (by decide +kernel) ⟨Nat.le_of_ble_eq_true rfl, Nat.le_of_ble_eq_true rfl⟩) (muV hE hS hPc_27 hDc_28 hFc_29 rfl rfl) rfl rfl hl.1 rfl (lv_room (Nat.le_of_ble_eq_true rfl)) dX5_carry_109 ⟨Nat.le_of_ble_eq_true rfl, Nat.le_of_ble_eq_true rfl⟩) hP hD hS hA [0, 1] [2] [1, 2, 0] rfl rfl (by decide) (by decide) (fun _ => [(qm, .inr (5, [.int (iI 0), .ref mz, .ref ms, .int (iI (svL hn + 1)), .ref mp, .ref mb, .int (iI L), .ref m1, .ref m2, .ref m3, .ref mB, .ref mF, .ref mN, .ref mS, .int (iI sT), .ref mW, .long acc])), (mz, .inl (gI g, 326, .inl (aI ((zF n ho (lowH ((lowH (updI h (v * 6 + u) (h (v * 6 + u) + h (y * 6 + x))) (y * 6 + x) (h (y * 6 + x) - k))) (y * 6 + x) (((lowH (updI h (v * 6 + u) (h (v * 6 + u) + h (y * 6 + x))) (y * 6 + x) (h (y * 6 + x) - k))) (y * 6 + x) - 1)) (lowC ((lowH (updI h (v * 6 + u) (h (v * 6 + u) + h (y * 6 + x))) (y * 6 + x) (h (y * 6 + x) - k))) ((lowC (updI h (v * 6 + u) (h (v * 6 + u) + h (y * 6 + x))) (updI c (v * 6 + u) (carC h c (y * 6 + x) (v * 6 + u) (h (y * 6 + x)))) (y * 6 + x) (h (y * 6 + x) - k))) (y * 6 + x) (((lowH (updI h (v * 6 + u) (h (v * 6 + u) + h (y * 6 + x))) (y * 6 + x) (h (y * 6 + x) - k))) (y * 6 + x) - 1))))))), (ms, .inl (gI g, 1956, .inl (aI ((svM (olF f hn) (svL hn) (zF n ho h c) 326)))))]) (fun _ => rfl) (by decide) (Nat.le_of_ble_eq_true rfl) (Nat.le_of_ble_eq_true rfl) (fun u9 H locs hu_30 hP hD hS => ?_)
                      have hP : va_P g.1 vwCl [(qm, .inr (5, [.int (iI 0), .ref mz, .ref ms, .int (iI (svL hn + 1)), .ref mp, .ref mb, .int (iI L), .ref m1, .ref m2, .ref m3, .ref mB, .ref mF, .ref mN, .ref mS, .int (iI sT), .ref mW, .long acc])), (mz, .inl (gI g, 326, .inl (aI ((zF n ho (lowH ((lowH (updI h (v * 6 + u) (h (v * 6 + u) + h (y * 6 + x))) (y * 6 + x) (h (y * 6 + x) - k))) (y * 6 + x) (((lowH (updI h (v * 6 + u) (h (v * 6 + u) + h (y * 6 + x))) (y * 6 + x) (h (y * 6 + x) - k))) (y * 6 + x) - 1)) (lowC ((lowH (updI h (v * 6 + u) (h (v * 6 + u) + h (y * 6 + x))) (y * 6 + x) (h (y * 6 + x) - k))) ((lowC (updI h (v * 6 + u) (h (v * 6 + u) + h (y * 6 + x))) (updI c (v * 6 + u) (carC h c (y * 6 + x) (v * 6 + u) (h (y * 6 + x)))) (y * 6 + x) (h (y * 6 + x) - k))) (y * 6 + x) (((lowH (updI h (v * 6 + u) (h (v * 6 + u) + h (y * 6 + x))) (y * 6 + x) (h (y * 6 + x) - k))) (y * 6 + x) - 1))))))), (ms, .inl (gI g, 1956, .inl (aI ((svM (olF f hn) (svL hn) (zF n ho h c) 326)))))] H := hP
                      have hD : va_D A [(qm, .inr (5, [.int (iI 0), .ref mz, .ref ms, .int (iI (svL hn + 1)), .ref mp, .ref mb, .int (iI L), .ref m1, .ref m2, .ref m3, .ref mB, .ref mF, .ref mN, .ref mS, .int (iI sT), .ref mW, .long acc])), (mz, .inl (gI g, 326, .inl (aI ((zF n ho (lowH ((lowH (updI h (v * 6 + u) (h (v * 6 + u) + h (y * 6 + x))) (y * 6 + x) (h (y * 6 + x) - k))) (y * 6 + x) (((lowH (updI h (v * 6 + u) (h (v * 6 + u) + h (y * 6 + x))) (y * 6 + x) (h (y * 6 + x) - k))) (y * 6 + x) - 1)) (lowC ((lowH (updI h (v * 6 + u) (h (v * 6 + u) + h (y * 6 + x))) (y * 6 + x) (h (y * 6 + x) - k))) ((lowC (updI h (v * 6 + u) (h (v * 6 + u) + h (y * 6 + x))) (updI c (v * 6 + u) (carC h c (y * 6 + x) (v * 6 + u) (h (y * 6 + x)))) (y * 6 + x) (h (y * 6 + x) - k))) (y * 6 + x) (((lowH (updI h (v * 6 + u) (h (v * 6 + u) + h (y * 6 + x))) (y * 6 + x) (h (y * 6 + x) - k))) (y * 6 + x) - 1))))))), (ms, .inl (gI g, 1956, .inl (aI ((svM (olF f hn) (svL hn) (zF n ho h c) 326)))))] := hD
                      refine ln_topv (w := .int (iI (colZ (((lowC (updI h (v * 6 + u) (h (v * 6 + u) + h (y * 6 + x))) (updI c (v * 6 + u) (carC h c (y * 6 + x) (v * 6 + u) (h (y * 6 + x)))) (y * 6 + x) (h (y * 6 + x) - k))) (y * 6 + x)) (((lowH (updI h (v * 6 + u) (h (v * 6 + u) + h (y * 6 + x))) (y * 6 + x) (h (y * 6 + x) - k))) (y * 6 + x) - 1)))) rfl ?_
                      refine lv_pop hx hb dX5_carry_112 rfl ?_
                      refine lv_iinc (v := iI (k + 1)) (lv' := [(6, .int (iI (k + 1))), (0, .ref qm), (1, .int (iI x)), (2, .int (iI y)), (3, .int (iI u)), (4, .int (iI v)), (5, .int (iI (h (y * 6 + x))))]) hx hb dX5_carry_113 hl (k := 6) rfl (iI_add _ _) (by decide) rfl (fun ls hl => ?_)
                      refine lv_goto (tgt := 99) hx hb dX5_carry_116 (by decide) ?_
                      have hl : lv_has ls 7 [(6, .int (iI (k + 1))), (0, .ref qm), (1, .int (iI x)), (2, .int (iI y)), (3, .int (iI u)), (4, .int (iI v)), (5, .int (iI (h (y * 6 + x))))] := hl
                      have hP := hP.recell 1 rfl ((zF n ho (lowH (updI h (v * 6 + u) (h (v * 6 + u) + h (y * 6 + x))) (y * 6 + x) (h (y * 6 + x) - (k + 1))) (lowC (updI h (v * 6 + u) (h (v * 6 + u) + h (y * 6 + x))) (updI c (v * 6 + u) (carC h c (y * 6 + x) (v * 6 + u) (h (y * 6 + x)))) (y * 6 + x) (h (y * 6 + x) - (k + 1))))) (fun j _ _ => zF_cg (fun i => by rw [low_s (by omega) (by omega), show h (y * 6 + x) - k - 1 = h (y * 6 + x) - (k + 1) by omega]) (fun i => by rw [lowC_s (by omega) (by omega), show h (y * 6 + x) - k - 1 = h (y * 6 + x) - (k + 1) by omega]) j)
                      have hD := hD.set (p := 1) (e := .inl (gI g, 326, .inl (aI ((zF n ho (lowH (updI h (v * 6 + u) (h (v * 6 + u) + h (y * 6 + x))) (y * 6 + x) (h (y * 6 + x) - (k + 1))) (lowC (updI h (v * 6 + u) (h (v * 6 + u) + h (y * 6 + x))) (updI c (v * 6 + u) (carC h c (y * 6 + x) (v * 6 + u) (h (y * 6 + x)))) (y * 6 + x) (h (y * 6 + x) - (k + 1)))))))) rfl
                      exact ih_20 (k + 1) (by omega) (by omega) _ _ hP hD hS _ (lv_sub hl [1, 2, 3, 4, 5, 6, 0] rfl) (by omega)
                have hl : lv_has ls 7 [(6, .int (iI 0)), (0, .ref qm), (1, .int (iI x)), (2, .int (iI y)), (3, .int (iI u)), (4, .int (iI v)), (5, .int (iI (h (y * 6 + x))))] := hl
                have hP := hP.recell 1 rfl ((zF n ho (lowH (updI h (v * 6 + u) (h (v * 6 + u) + h (y * 6 + x))) (y * 6 + x) (h (y * 6 + x) - 0)) (lowC (updI h (v * 6 + u) (h (v * 6 + u) + h (y * 6 + x))) (updI c (v * 6 + u) (carC h c (y * 6 + x) (v * 6 + u) (h (y * 6 + x)))) (y * 6 + x) (h (y * 6 + x) - 0)))) (fun j _ _ => zF_cg (fun i => by rw [Int.sub_zero]) (fun i => by rw [Int.sub_zero]) j)
                have hD := hD.set (p := 1) (e := .inl (gI g, 326, .inl (aI ((zF n ho (lowH (updI h (v * 6 + u) (h (v * 6 + u) + h (y * 6 + x))) (y * 6 + x) (h (y * 6 + x) - 0)) (lowC (updI h (v * 6 + u) (h (v * 6 + u) + h (y * 6 + x))) (updI c (v * 6 + u) (carC h c (y * 6 + x) (v * 6 + u) (h (y * 6 + x)))) (y * 6 + x) (h (y * 6 + x) - 0))))))) rfl
                exact L99 _ 0 (by omega) (by omega) _ _ hP hD hS _ (lv_sub hl [1, 2, 3, 4, 5, 6, 0] rfl) (Nat.lt_succ_self _)
              · skip
                refine lv_aload_n hx hb dX5_carry_75 rfl (lv_at hl 0 rfl) ?_
                refine lv_iload_n hx hb dX5_carry_76 rfl (lv_at hl 3 rfl) ?_
                refine lv_iload hx hb dX5_carry_77 (lv_at hl 4 rfl) ?_
                refine lv_aload_n hx hb dX5_carry_79 rfl (lv_at hl 0 rfl) ?_
                refine lv_iload_n hx hb dX5_carry_80 rfl (lv_at hl 1 rfl) ?_
                refine lv_iload_n hx hb dX5_carry_81 rfl (lv_at hl 2 rfl) ?_
                refine lv_iload hx hb dX5_carry_82 (lv_at hl 6 rfl) ?_
                have hPc_31 := hP.sub (ws' := [(qm, .inr (5, [.int (iI 0), .ref mz, .ref ms, .int (iI (svL hn + 1)), .ref mp, .ref mb, .int (iI L), .ref m1, .ref m2, .ref m3, .ref mB, .ref mF, .ref mN, .ref mS, .int (iI sT), .ref mW, .long acc])), (mz, .inl (gI g, 326, .inl (aI ((zF n ho (updI h (v * 6 + u) (h (v * 6 + u) + z)) (updI c (v * 6 + u) (carC h c (y * 6 + x) (v * 6 + u) z)))))))]) [0, 1] rfl
                refine pc_i (va_runV (As := [.int (iI x), .int (iI y), .int (iI z)]) (rest := [.int (iI v), .int (iI u), .ref qm]) ⟨hx, hb, hml, hown, hts⟩ (c_X5_colour l g qm 0 mz ms (svL hn + 1) mp mb L m1 m2 m3 mB mF mN mS sT mW acc n ho ((updI h (v * 6 + u) (h (v * 6 + u) + z))) ((updI c (v * 6 + u) (carC h c (y * 6 + x) (v * 6 + u) z))) x y z b_17 h1 h2 h3 h4 (by omega)) (cwV 3 hts gX5_carry_X5_colour rfl rfl rfl (by decide +kernel) ⟨Nat.le_of_ble_eq_true rfl, Nat.le_of_ble_eq_true rfl⟩) (puV hE hS hPc_31 rfl rfl) rfl rfl hl.1 rfl (lv_room (Nat.le_of_ble_eq_true rfl)) dX5_carry_84 ⟨Nat.le_of_ble_eq_true rfl, Nat.le_of_ble_eq_true rfl⟩) ?_
                refine ln_top (y := colZ (c (y * 6 + x)) z) (by rw [updI_n hqp, updI_n hqp, if_pos (by omega)]) ?_
                have hcz9 := colZ_rg (c (y * 6 + x)) z
                have hPc_32 := hP.sub (ws' := [(qm, .inr (5, [.int (iI 0), .ref mz, .ref ms, .int (iI (svL hn + 1)), .ref mp, .ref mb, .int (iI L), .ref m1, .ref m2, .ref m3, .ref mB, .ref mF, .ref mN, .ref mS, .int (iI sT), .ref mW, .long acc])), (mz, .inl (gI g, 326, .inl (aI ((zF n ho (updI h (v * 6 + u) (h (v * 6 + u) + z)) (updI c (v * 6 + u) (carC h c (y * 6 + x) (v * 6 + u) z)))))))]) [0, 1] rfl
                have hDc_33 := hD.sub (ws' := [(qm, .inr (5, [.int (iI 0), .ref mz, .ref ms, .int (iI (svL hn + 1)), .ref mp, .ref mb, .int (iI L), .ref m1, .ref m2, .ref m3, .ref mB, .ref mF, .ref mN, .ref mS, .int (iI sT), .ref mW, .long acc])), (mz, .inl (gI g, 326, .inl (aI ((zF n ho (updI h (v * 6 + u) (h (v * 6 + u) + z)) (updI c (v * 6 + u) (carC h c (y * 6 + x) (v * 6 + u) z)))))))]) [0, 1] (by decide) rfl
                have hFc_34 := va_free (wc := [(qm, .inr (5, [.int (iI 0), .ref mz, .ref ms, .int (iI (svL hn + 1)), .ref mp, .ref mb, .int (iI L), .ref m1, .ref m2, .ref m3, .ref mB, .ref mF, .ref mN, .ref mS, .int (iI sT), .ref mW, .long acc])), (mz, .inl (gI g, 326, .inl (aI ((zF n ho (updI h (v * 6 + u) (h (v * 6 + u) + z)) (updI c (v * 6 + u) (carC h c (y * 6 + x) (v * 6 + u) z)))))))]) hD hS hA [0, 1] rfl
                refine mc_v (wr := [(ms, .inl (gI g, 1956, .inl (aI ((svM (olF f hn) (svL hn) (zF n ho h c) 326)))))]) (cells1 := 0) (slots1 := 0) (va_runV (As := [.int (iI u), .int (iI v), .int (iI (colZ (c (y * 6 + x)) z))]) (rest := []) ⟨hx, hb, hml, hown, hts⟩ (c_X5_putOn l g qm 0 mz ms (svL hn + 1) mp mb L m1 m2 m3 mB mF mN mS sT mW acc n ho ((updI h (v * 6 + u) (h (v * 6 + u) + z))) ((updI c (v * 6 + u) (carC h c (y * 6 + x) (v * 6 + u) z))) u v (colZ (c (y * 6 + x)) z) b_17 h5 h6 h7 h8 (by omega) (by rw [updI_s]; omega) H.size) (cwV 3 hts gX5_carry_X5_putOn rfl rfl rfl (by decide +kernel) ⟨Nat.le_of_ble_eq_true rfl, Nat.le_of_ble_eq_true rfl⟩) (muV hE hS hPc_32 hDc_33 hFc_34 rfl rfl) rfl rfl hl.1 rfl (lv_room (Nat.le_of_ble_eq_true rfl)) dX5_carry_87 ⟨Nat.le_of_ble_eq_true rfl, Nat.le_of_ble_eq_true rfl⟩) hP hD hS hA [0, 1] [2] [1, 2, 0] rfl rfl (by decide) (by decide) (fun _ => [(qm, .inr (5, [.int (iI 0), .ref mz, .ref ms, .int (iI (svL hn + 1)), .ref mp, .ref mb, .int (iI L), .ref m1, .ref m2, .ref m3, .ref mB, .ref mF, .ref mN, .ref mS, .int (iI sT), .ref mW, .long acc])), (mz, .inl (gI g, 326, .inl (aI ((zF n ho (updI ((updI h (v * 6 + u) (h (v * 6 + u) + z))) (v * 6 + u) (((updI h (v * 6 + u) (h (v * 6 + u) + z))) (v * 6 + u) + 1)) (updI ((updI c (v * 6 + u) (carC h c (y * 6 + x) (v * 6 + u) z))) (v * 6 + u) (((updI c (v * 6 + u) (carC h c (y * 6 + x) (v * 6 + u) z))) (v * 6 + u) + (colZ (c (y * 6 + x)) z) * p4 (((updI h (v * 6 + u) (h (v * 6 + u) + z))) (v * 6 + u))))))))), (ms, .inl (gI g, 1956, .inl (aI ((svM (olF f hn) (svL hn) (zF n ho h c) 326)))))]) (fun _ => rfl) (by decide) (Nat.le_of_ble_eq_true rfl) (Nat.le_of_ble_eq_true rfl) (fun u9 H locs hu_35 hP hD hS => ?_)
                have hP : va_P g.1 vwCl [(qm, .inr (5, [.int (iI 0), .ref mz, .ref ms, .int (iI (svL hn + 1)), .ref mp, .ref mb, .int (iI L), .ref m1, .ref m2, .ref m3, .ref mB, .ref mF, .ref mN, .ref mS, .int (iI sT), .ref mW, .long acc])), (mz, .inl (gI g, 326, .inl (aI ((zF n ho (updI ((updI h (v * 6 + u) (h (v * 6 + u) + z))) (v * 6 + u) (((updI h (v * 6 + u) (h (v * 6 + u) + z))) (v * 6 + u) + 1)) (updI ((updI c (v * 6 + u) (carC h c (y * 6 + x) (v * 6 + u) z))) (v * 6 + u) (((updI c (v * 6 + u) (carC h c (y * 6 + x) (v * 6 + u) z))) (v * 6 + u) + (colZ (c (y * 6 + x)) z) * p4 (((updI h (v * 6 + u) (h (v * 6 + u) + z))) (v * 6 + u))))))))), (ms, .inl (gI g, 1956, .inl (aI ((svM (olF f hn) (svL hn) (zF n ho h c) 326)))))] H := hP
                have hD : va_D A [(qm, .inr (5, [.int (iI 0), .ref mz, .ref ms, .int (iI (svL hn + 1)), .ref mp, .ref mb, .int (iI L), .ref m1, .ref m2, .ref m3, .ref mB, .ref mF, .ref mN, .ref mS, .int (iI sT), .ref mW, .long acc])), (mz, .inl (gI g, 326, .inl (aI ((zF n ho (updI ((updI h (v * 6 + u) (h (v * 6 + u) + z))) (v * 6 + u) (((updI h (v * 6 + u) (h (v * 6 + u) + z))) (v * 6 + u) + 1)) (updI ((updI c (v * 6 + u) (carC h c (y * 6 + x) (v * 6 + u) z))) (v * 6 + u) (((updI c (v * 6 + u) (carC h c (y * 6 + x) (v * 6 + u) z))) (v * 6 + u) + (colZ (c (y * 6 + x)) z) * p4 (((updI h (v * 6 + u) (h (v * 6 + u) + z))) (v * 6 + u))))))))), (ms, .inl (gI g, 1956, .inl (aI ((svM (olF f hn) (svL hn) (zF n ho h c) 326)))))] := hD
                refine lv_iinc (v := iI (z + 1)) (lv' := [(6, .int (iI (z + 1))), (0, .ref qm), (1, .int (iI x)), (2, .int (iI y)), (3, .int (iI u)), (4, .int (iI v)), (5, .int (iI (h (y * 6 + x))))]) hx hb dX5_carry_90 hl (k := 6) rfl (iI_add _ _) (by decide) rfl (fun ls hl => ?_)
                refine lv_goto (tgt := 68) hx hb dX5_carry_93 (by decide) ?_
                have hl : lv_has ls 7 [(6, .int (iI (z + 1))), (0, .ref qm), (1, .int (iI x)), (2, .int (iI y)), (3, .int (iI u)), (4, .int (iI v)), (5, .int (iI (h (y * 6 + x))))] := hl
                have hP := hP.recell 1 rfl ((zF n ho (updI h (v * 6 + u) (h (v * 6 + u) + (z + 1))) (updI c (v * 6 + u) (carC h c (y * 6 + x) (v * 6 + u) (z + 1))))) (fun j _ _ => zF_cg (fun i => by rw [updI_u, updI_s, Int.add_assoc]) (fun i => by rw [updI_u, updI_s, updI_s, carC_s gz]) j)
                have hD := hD.set (p := 1) (e := .inl (gI g, 326, .inl (aI ((zF n ho (updI h (v * 6 + u) (h (v * 6 + u) + (z + 1))) (updI c (v * 6 + u) (carC h c (y * 6 + x) (v * 6 + u) (z + 1)))))))) rfl
                exact ih_15 (z + 1) (by omega) (by omega) _ _ hP hD hS _ (lv_sub hl [1, 2, 3, 4, 5, 6, 0] rfl) (by omega)
          have hl : lv_has ls 7 [(6, .int (iI 0)), (5, .int (iI (h (y * 6 + x)))), (0, .ref qm), (1, .int (iI x)), (2, .int (iI y)), (3, .int (iI u)), (4, .int (iI v))] := hl
          have hP := hP.recell 1 rfl ((zF n ho (updI h (v * 6 + u) (h (v * 6 + u) + 0)) (updI c (v * 6 + u) (carC h c (y * 6 + x) (v * 6 + u) 0)))) (fun j _ _ => zF_cg (fun i => by rw [Int.add_zero]; exact (updI_id _ _ _).symm) (fun i => by exact (updI_id _ _ _).symm) j)
          have hD := hD.set (p := 1) (e := .inl (gI g, 326, .inl (aI ((zF n ho (updI h (v * 6 + u) (h (v * 6 + u) + 0)) (updI c (v * 6 + u) (carC h c (y * 6 + x) (v * 6 + u) 0))))))) rfl
          exact L68 _ 0 (by omega) (by omega) _ _ hP hD hS _ (lv_sub hl [2, 3, 4, 5, 6, 1, 0] rfl) (Nat.lt_succ_self _)
        · exfalso; omega
    · exfalso; omega
set_option maxHeartbeats 800000 in
set_option maxRecDepth 100000 in
theorem c_X5_carry_x1 (l : Launch) (g : GT) (qm : Nat) (th : Int) (mz : Nat) (ms : Nat) (hn : Int) (mp : Nat) (mb : Nat) (L : Int) (m1 : Nat) (m2 : Nat) (m3 : Nat) (mB : Nat) (mF : Nat) (mN : Nat) (mS : Nat) (sT : Int) (mW : Nat) (acc : Int64) (n : Int) (ho : Int) (h : Int → Int) (c : Int → Int) (x : Int) (y : Int) (u : Int) (v : Int) (hY : YOk n ho h c) (gx : Rg x) (gy : Rg y) (g1 : ¬ okS n x y) : MutI l yX5_carry wsX5_carry ({ frames := 2, cells := 0, slots := 0, locals := 44 }) 0 0 g [(qm, .inr (5, [.int (iI th), .ref mz, .ref ms, .int (iI hn), .ref mp, .ref mb, .int (iI L), .ref m1, .ref m2, .ref m3, .ref mB, .ref mF, .ref mN, .ref mS, .int (iI sT), .ref mW, .long acc])), (mz, .inl (gI g, 326, .inl (aI (zF n ho h c))))] [.ref qm, .int (iI x), .int (iI y), .int (iI u), .int (iI v)] (S := Unit) (fun _ => True) (fun _ => 0) (fun _ => [(qm, .inr (5, [.int (iI 1), .ref mz, .ref ms, .int (iI hn), .ref mp, .ref mb, .int (iI L), .ref m1, .ref m2, .ref m3, .ref mB, .ref mF, .ref mN, .ref mS, .int (iI sT), .ref mW, .long acc])), (mz, .inl (gI g, 326, .inl (aI (zF n ho h c))))]) := by
  refine mut_of (y := yX5_carry) (ws := wsX5_carry) (av := [.ref qm, .int (iI x), .int (iI y), .int (iI u), .int (iI v)]) (w := [(qm, .inr (5, [.int (iI th), .ref mz, .ref ms, .int (iI hn), .ref mp, .ref mb, .int (iI L), .ref m1, .ref m2, .ref m3, .ref mB, .ref mF, .ref mN, .ref mS, .int (iI sT), .ref mW, .long acc])), (mz, .inl (gI g, 326, .inl (aI (zF n ho h c))))]) (Qc := fun A => va_Qi (fun x9 (u9 : Unit) => x9 = iI ((fun _ => 0) u9) ∧ (fun _ => True) u9) (fun u9 t9 => MB g ((fun _ => [(qm, .inr (5, [.int (iI 1), .ref mz, .ref ms, .int (iI hn), .ref mp, .ref mb, .int (iI L), .ref m1, .ref m2, .ref m3, .ref mB, .ref mF, .ref mN, .ref mS, .int (iI sT), .ref mW, .long acc])), (mz, .inl (gI g, 326, .inl (aI (zF n ho h c))))]) u9) A t9) A) (cc := cX5_carry) (maxL := 7) (ret := (some .int)) (by decide) rfl (Nat.le_of_ble_eq_true rfl) ?_
  intro pZ eZ sZ mZ bZ meZ cZ A F hin hA hP hD hE hS ls hl
  obtain ⟨hx, hb, hr, hml, hts, hown, hlk⟩ := F
  skip
  have hown : sZ.vm.findClass RX5 = some mZ.cls := hown
  have hl : lv_has ls 7 [(0, .ref qm), (1, .int (iI x)), (2, .int (iI y)), (3, .int (iI u)), (4, .int (iI v))] := hl
  skip
  have w0 := hts (.fieldLink RX5 47 "SlantYardModel" "thrown" "I") (by decide +kernel)
  have in5 : ∀ w ∈ u_ws RX5 TX5 17, w ∈ wsX5_carry := by decide +kernel
  have hnn := hY.n
  have hho := hY.hr
  refine lv_aload_n hx hb dX5_carry_0 rfl (lv_at hl 0 rfl) ?_
  refine lv_aload_n hx hb dX5_carry_1 rfl (lv_at hl 0 rfl) ?_
  refine lv_iload_n hx hb dX5_carry_2 rfl (lv_at hl 1 rfl) ?_
  refine lv_iload_n hx hb dX5_carry_3 rfl (lv_at hl 2 rfl) ?_
  have hPc_1 := hP.sub (ws' := [(qm, .inr (5, [.int (iI th), .ref mz, .ref ms, .int (iI hn), .ref mp, .ref mb, .int (iI L), .ref m1, .ref m2, .ref m3, .ref mB, .ref mF, .ref mN, .ref mS, .int (iI sT), .ref mW, .long acc])), (mz, .inl (gI g, 326, .inl (aI (zF n ho h c))))]) [0, 1] rfl
  refine pc_i (va_runV (As := [.int (iI x), .int (iI y)]) (rest := [.ref qm]) ⟨hx, hb, hml, hown, hts⟩ (c_X5_isSquare l g qm th mz ms hn mp mb L m1 m2 m3 mB mF mN mS sT mW acc n ho h c x y hY gx gy) (cwV 2 hts gX5_carry_X5_isSquare rfl rfl rfl (by decide +kernel) ⟨Nat.le_of_ble_eq_true rfl, Nat.le_of_ble_eq_true rfl⟩) (puV hE hS hPc_1 rfl rfl) rfl rfl hl.1 rfl (lv_room (Nat.le_of_ble_eq_true rfl)) dX5_carry_4 ⟨Nat.le_of_ble_eq_true rfl, Nat.le_of_ble_eq_true rfl⟩) ?_
  refine lb_if_eq (tgt := 20) hx hb dX5_carry_7 (by decide) (fun c_2 => ?_) (fun c_2 => ?_)
  · skip
    refine lv_iconst (v := iI 1) hx hb dX5_carry_20 rfl ?_
    refine lv_goto (tgt := 41) hx hb dX5_carry_21 (by decide) ?_
    refine va_put (D := g.1) (ci := 5) (v := .int (iI 1)) (ty := .int) (C := RX5) (T := TX5) (N := 17) hx hb hts in5 tyX5 tyX5_ok nmX5 hown hE.1 hP hD hS 0 rfl rfl 0 (by decide) w0 (fun _ h9 => h9) rfl (by decide +kernel) rfl rfl (Nat.le_of_ble_eq_true rfl) dX5_carry_41 (fun H locs hP hD hS => ?_)
    have hP : va_P g.1 vwCl [(qm, .inr (5, [.int (iI 1), .ref mz, .ref ms, .int (iI hn), .ref mp, .ref mb, .int (iI L), .ref m1, .ref m2, .ref m3, .ref mB, .ref mF, .ref mN, .ref mS, .int (iI sT), .ref mW, .long acc])), (mz, .inl (gI g, 326, .inl (aI (zF n ho h c))))] H := hP
    have hD : va_D A [(qm, .inr (5, [.int (iI 1), .ref mz, .ref ms, .int (iI hn), .ref mp, .ref mb, .int (iI L), .ref m1, .ref m2, .ref m3, .ref mB, .ref mF, .ref mN, .ref mS, .int (iI sT), .ref mW, .long acc])), (mz, .inl (gI g, 326, .inl (aI (zF n ho h c))))] := hD
    refine lv_aload_n hx hb dX5_carry_44 rfl (lv_at hl 0 rfl) ?_
    refine va_get (D := g.1) (ci := 5) (v := .int (iI 1)) (C := RX5) (T := TX5) (N := 17) hx hb hts in5 hown hE.1 hP 0 rfl rfl 0 (by decide) w0 (fun _ h9 => h9) rfl dX5_carry_45 ?_
    refine ln_if_le (tgt := 53) hx hb dX5_carry_48 (by decide) (by decide) (fun c_3 => ?_) (fun c_3 => ?_)
    · exfalso; omega
    · skip
      refine lv_iconst (v := iI 0) hx hb dX5_carry_51 rfl ?_
      have hP : va_P g.1 vwCl [(qm, .inr (5, [.int (iI 1), .ref mz, .ref ms, .int (iI hn), .ref mp, .ref mb, .int (iI L), .ref m1, .ref m2, .ref m3, .ref mB, .ref mF, .ref mN, .ref mS, .int (iI sT), .ref mW, .long acc])), (mz, .inl (gI g, 326, .inl (aI (zF n ho h c))))] _ := hP
      have hD : va_D A [(qm, .inr (5, [.int (iI 1), .ref mz, .ref ms, .int (iI hn), .ref mp, .ref mb, .int (iI L), .ref m1, .ref m2, .ref m3, .ref mB, .ref mF, .ref mN, .ref mS, .int (iI sT), .ref mW, .long acc])), (mz, .inl (gI g, 326, .inl (aI (zF n ho h c))))] := hD
      exact mend_i (S := Unit) (w' := (fun _ => [(qm, .inr (5, [.int (iI 1), .ref mz, .ref ms, .int (iI hn), .ref mp, .ref mb, .int (iI L), .ref m1, .ref m2, .ref m3, .ref mB, .ref mF, .ref mN, .ref mS, .int (iI sT), .ref mW, .long acc])), (mz, .inl (gI g, 326, .inl (aI (zF n ho h c))))])) (post := (fun _ => True)) (r := (fun _ => 0)) hx hb hr hlk hS () hP hD (trivial) (by rfl) (Nat.le_of_ble_eq_true rfl) (Nat.le_of_ble_eq_true rfl) dX5_carry_52
  · exact absurd c_2 (g1)
set_option maxHeartbeats 800000 in
set_option maxRecDepth 100000 in
theorem c_X5_carry_x2 (l : Launch) (g : GT) (qm : Nat) (th : Int) (mz : Nat) (ms : Nat) (hn : Int) (mp : Nat) (mb : Nat) (L : Int) (m1 : Nat) (m2 : Nat) (m3 : Nat) (mB : Nat) (mF : Nat) (mN : Nat) (mS : Nat) (sT : Int) (mW : Nat) (acc : Int64) (n : Int) (ho : Int) (h : Int → Int) (c : Int → Int) (x : Int) (y : Int) (u : Int) (v : Int) (hY : YOk n ho h c) (h1 : 0 ≤ x) (h2 : x < n) (h3 : 0 ≤ y) (h4 : y < n) (gu : Rg u) (gv : Rg v) (g1 : ¬ okS n u v) : MutI l yX5_carry wsX5_carry ({ frames := 2, cells := 0, slots := 0, locals := 44 }) 0 0 g [(qm, .inr (5, [.int (iI th), .ref mz, .ref ms, .int (iI hn), .ref mp, .ref mb, .int (iI L), .ref m1, .ref m2, .ref m3, .ref mB, .ref mF, .ref mN, .ref mS, .int (iI sT), .ref mW, .long acc])), (mz, .inl (gI g, 326, .inl (aI (zF n ho h c))))] [.ref qm, .int (iI x), .int (iI y), .int (iI u), .int (iI v)] (S := Unit) (fun _ => True) (fun _ => 0) (fun _ => [(qm, .inr (5, [.int (iI 1), .ref mz, .ref ms, .int (iI hn), .ref mp, .ref mb, .int (iI L), .ref m1, .ref m2, .ref m3, .ref mB, .ref mF, .ref mN, .ref mS, .int (iI sT), .ref mW, .long acc])), (mz, .inl (gI g, 326, .inl (aI (zF n ho h c))))]) := by
  refine mut_of (y := yX5_carry) (ws := wsX5_carry) (av := [.ref qm, .int (iI x), .int (iI y), .int (iI u), .int (iI v)]) (w := [(qm, .inr (5, [.int (iI th), .ref mz, .ref ms, .int (iI hn), .ref mp, .ref mb, .int (iI L), .ref m1, .ref m2, .ref m3, .ref mB, .ref mF, .ref mN, .ref mS, .int (iI sT), .ref mW, .long acc])), (mz, .inl (gI g, 326, .inl (aI (zF n ho h c))))]) (Qc := fun A => va_Qi (fun x9 (u9 : Unit) => x9 = iI ((fun _ => 0) u9) ∧ (fun _ => True) u9) (fun u9 t9 => MB g ((fun _ => [(qm, .inr (5, [.int (iI 1), .ref mz, .ref ms, .int (iI hn), .ref mp, .ref mb, .int (iI L), .ref m1, .ref m2, .ref m3, .ref mB, .ref mF, .ref mN, .ref mS, .int (iI sT), .ref mW, .long acc])), (mz, .inl (gI g, 326, .inl (aI (zF n ho h c))))]) u9) A t9) A) (cc := cX5_carry) (maxL := 7) (ret := (some .int)) (by decide) rfl (Nat.le_of_ble_eq_true rfl) ?_
  intro pZ eZ sZ mZ bZ meZ cZ A F hin hA hP hD hE hS ls hl
  obtain ⟨hx, hb, hr, hml, hts, hown, hlk⟩ := F
  skip
  have hown : sZ.vm.findClass RX5 = some mZ.cls := hown
  have hl : lv_has ls 7 [(0, .ref qm), (1, .int (iI x)), (2, .int (iI y)), (3, .int (iI u)), (4, .int (iI v))] := hl
  skip
  have w0 := hts (.fieldLink RX5 47 "SlantYardModel" "thrown" "I") (by decide +kernel)
  have in5 : ∀ w ∈ u_ws RX5 TX5 17, w ∈ wsX5_carry := by decide +kernel
  have hnn := hY.n
  have hho := hY.hr
  refine lv_aload_n hx hb dX5_carry_0 rfl (lv_at hl 0 rfl) ?_
  refine lv_aload_n hx hb dX5_carry_1 rfl (lv_at hl 0 rfl) ?_
  refine lv_iload_n hx hb dX5_carry_2 rfl (lv_at hl 1 rfl) ?_
  refine lv_iload_n hx hb dX5_carry_3 rfl (lv_at hl 2 rfl) ?_
  have hPc_1 := hP.sub (ws' := [(qm, .inr (5, [.int (iI th), .ref mz, .ref ms, .int (iI hn), .ref mp, .ref mb, .int (iI L), .ref m1, .ref m2, .ref m3, .ref mB, .ref mF, .ref mN, .ref mS, .int (iI sT), .ref mW, .long acc])), (mz, .inl (gI g, 326, .inl (aI (zF n ho h c))))]) [0, 1] rfl
  refine pc_i (va_runV (As := [.int (iI x), .int (iI y)]) (rest := [.ref qm]) ⟨hx, hb, hml, hown, hts⟩ (c_X5_isSquare l g qm th mz ms hn mp mb L m1 m2 m3 mB mF mN mS sT mW acc n ho h c x y hY (by omega) (by omega)) (cwV 2 hts gX5_carry_X5_isSquare rfl rfl rfl (by decide +kernel) ⟨Nat.le_of_ble_eq_true rfl, Nat.le_of_ble_eq_true rfl⟩) (puV hE hS hPc_1 rfl rfl) rfl rfl hl.1 rfl (lv_room (Nat.le_of_ble_eq_true rfl)) dX5_carry_4 ⟨Nat.le_of_ble_eq_true rfl, Nat.le_of_ble_eq_true rfl⟩) ?_
  refine lb_if_eq (tgt := 20) hx hb dX5_carry_7 (by decide) (fun c_2 => ?_) (fun c_2 => ?_)
  · exfalso; omega
  · skip
    refine lv_aload_n hx hb dX5_carry_10 rfl (lv_at hl 0 rfl) ?_
    refine lv_iload_n hx hb dX5_carry_11 rfl (lv_at hl 3 rfl) ?_
    refine lv_iload hx hb dX5_carry_12 (lv_at hl 4 rfl) ?_
    have hPc_3 := hP.sub (ws' := [(qm, .inr (5, [.int (iI th), .ref mz, .ref ms, .int (iI hn), .ref mp, .ref mb, .int (iI L), .ref m1, .ref m2, .ref m3, .ref mB, .ref mF, .ref mN, .ref mS, .int (iI sT), .ref mW, .long acc])), (mz, .inl (gI g, 326, .inl (aI (zF n ho h c))))]) [0, 1] rfl
    refine pc_i (va_runV (As := [.int (iI u), .int (iI v)]) (rest := [.ref qm]) ⟨hx, hb, hml, hown, hts⟩ (c_X5_isSquare l g qm th mz ms hn mp mb L m1 m2 m3 mB mF mN mS sT mW acc n ho h c u v hY gu gv) (cwV 2 hts gX5_carry_X5_isSquare rfl rfl rfl (by decide +kernel) ⟨Nat.le_of_ble_eq_true rfl, Nat.le_of_ble_eq_true rfl⟩) (puV hE hS hPc_3 rfl rfl) rfl rfl hl.1 rfl (lv_room (Nat.le_of_ble_eq_true rfl)) dX5_carry_14 ⟨Nat.le_of_ble_eq_true rfl, Nat.le_of_ble_eq_true rfl⟩) ?_
    refine lb_if_ne (tgt := 24) hx hb dX5_carry_17 (by decide) (fun c_4 => ?_) (fun c_4 => ?_)
    · exact absurd c_4 (g1)
    · skip
      refine lv_iconst (v := iI 1) hx hb dX5_carry_20 rfl ?_
      refine lv_goto (tgt := 41) hx hb dX5_carry_21 (by decide) ?_
      refine va_put (D := g.1) (ci := 5) (v := .int (iI 1)) (ty := .int) (C := RX5) (T := TX5) (N := 17) hx hb hts in5 tyX5 tyX5_ok nmX5 hown hE.1 hP hD hS 0 rfl rfl 0 (by decide) w0 (fun _ h9 => h9) rfl (by decide +kernel) rfl rfl (Nat.le_of_ble_eq_true rfl) dX5_carry_41 (fun H locs hP hD hS => ?_)
      have hP : va_P g.1 vwCl [(qm, .inr (5, [.int (iI 1), .ref mz, .ref ms, .int (iI hn), .ref mp, .ref mb, .int (iI L), .ref m1, .ref m2, .ref m3, .ref mB, .ref mF, .ref mN, .ref mS, .int (iI sT), .ref mW, .long acc])), (mz, .inl (gI g, 326, .inl (aI (zF n ho h c))))] H := hP
      have hD : va_D A [(qm, .inr (5, [.int (iI 1), .ref mz, .ref ms, .int (iI hn), .ref mp, .ref mb, .int (iI L), .ref m1, .ref m2, .ref m3, .ref mB, .ref mF, .ref mN, .ref mS, .int (iI sT), .ref mW, .long acc])), (mz, .inl (gI g, 326, .inl (aI (zF n ho h c))))] := hD
      refine lv_aload_n hx hb dX5_carry_44 rfl (lv_at hl 0 rfl) ?_
      refine va_get (D := g.1) (ci := 5) (v := .int (iI 1)) (C := RX5) (T := TX5) (N := 17) hx hb hts in5 hown hE.1 hP 0 rfl rfl 0 (by decide) w0 (fun _ h9 => h9) rfl dX5_carry_45 ?_
      refine ln_if_le (tgt := 53) hx hb dX5_carry_48 (by decide) (by decide) (fun c_5 => ?_) (fun c_5 => ?_)
      · exfalso; omega
      · skip
        refine lv_iconst (v := iI 0) hx hb dX5_carry_51 rfl ?_
        have hP : va_P g.1 vwCl [(qm, .inr (5, [.int (iI 1), .ref mz, .ref ms, .int (iI hn), .ref mp, .ref mb, .int (iI L), .ref m1, .ref m2, .ref m3, .ref mB, .ref mF, .ref mN, .ref mS, .int (iI sT), .ref mW, .long acc])), (mz, .inl (gI g, 326, .inl (aI (zF n ho h c))))] _ := hP
        have hD : va_D A [(qm, .inr (5, [.int (iI 1), .ref mz, .ref ms, .int (iI hn), .ref mp, .ref mb, .int (iI L), .ref m1, .ref m2, .ref m3, .ref mB, .ref mF, .ref mN, .ref mS, .int (iI sT), .ref mW, .long acc])), (mz, .inl (gI g, 326, .inl (aI (zF n ho h c))))] := hD
        exact mend_i (S := Unit) (w' := (fun _ => [(qm, .inr (5, [.int (iI 1), .ref mz, .ref ms, .int (iI hn), .ref mp, .ref mb, .int (iI L), .ref m1, .ref m2, .ref m3, .ref mB, .ref mF, .ref mN, .ref mS, .int (iI sT), .ref mW, .long acc])), (mz, .inl (gI g, 326, .inl (aI (zF n ho h c))))])) (post := (fun _ => True)) (r := (fun _ => 0)) hx hb hr hlk hS () hP hD (trivial) (by rfl) (Nat.le_of_ble_eq_true rfl) (Nat.le_of_ble_eq_true rfl) dX5_carry_52
set_option maxHeartbeats 800000 in
set_option maxRecDepth 100000 in
theorem c_X5_carry_x3 (l : Launch) (g : GT) (qm : Nat) (th : Int) (mz : Nat) (ms : Nat) (hn : Int) (mp : Nat) (mb : Nat) (L : Int) (m1 : Nat) (m2 : Nat) (m3 : Nat) (mB : Nat) (mF : Nat) (mN : Nat) (mS : Nat) (sT : Int) (mW : Nat) (acc : Int64) (n : Int) (ho : Int) (h : Int → Int) (c : Int → Int) (x : Int) (y : Int) (u : Int) (v : Int) (hY : YOk n ho h c) (h1 : 0 ≤ x) (h2 : x < n) (h3 : 0 ≤ y) (h4 : y < n) (h5 : 0 ≤ u) (h6 : u < n) (h7 : 0 ≤ v) (h8 : v < n) (g1 : (x = u ∧ y = v) ∨ 8 < h (y * 6 + x) + h (v * 6 + u)) : MutI l yX5_carry wsX5_carry ({ frames := 2, cells := 0, slots := 0, locals := 46 }) 0 0 g [(qm, .inr (5, [.int (iI th), .ref mz, .ref ms, .int (iI hn), .ref mp, .ref mb, .int (iI L), .ref m1, .ref m2, .ref m3, .ref mB, .ref mF, .ref mN, .ref mS, .int (iI sT), .ref mW, .long acc])), (mz, .inl (gI g, 326, .inl (aI (zF n ho h c))))] [.ref qm, .int (iI x), .int (iI y), .int (iI u), .int (iI v)] (S := Unit) (fun _ => True) (fun _ => 0) (fun _ => [(qm, .inr (5, [.int (iI 2), .ref mz, .ref ms, .int (iI hn), .ref mp, .ref mb, .int (iI L), .ref m1, .ref m2, .ref m3, .ref mB, .ref mF, .ref mN, .ref mS, .int (iI sT), .ref mW, .long acc])), (mz, .inl (gI g, 326, .inl (aI (zF n ho h c))))]) := by
  refine mut_of (y := yX5_carry) (ws := wsX5_carry) (av := [.ref qm, .int (iI x), .int (iI y), .int (iI u), .int (iI v)]) (w := [(qm, .inr (5, [.int (iI th), .ref mz, .ref ms, .int (iI hn), .ref mp, .ref mb, .int (iI L), .ref m1, .ref m2, .ref m3, .ref mB, .ref mF, .ref mN, .ref mS, .int (iI sT), .ref mW, .long acc])), (mz, .inl (gI g, 326, .inl (aI (zF n ho h c))))]) (Qc := fun A => va_Qi (fun x9 (u9 : Unit) => x9 = iI ((fun _ => 0) u9) ∧ (fun _ => True) u9) (fun u9 t9 => MB g ((fun _ => [(qm, .inr (5, [.int (iI 2), .ref mz, .ref ms, .int (iI hn), .ref mp, .ref mb, .int (iI L), .ref m1, .ref m2, .ref m3, .ref mB, .ref mF, .ref mN, .ref mS, .int (iI sT), .ref mW, .long acc])), (mz, .inl (gI g, 326, .inl (aI (zF n ho h c))))]) u9) A t9) A) (cc := cX5_carry) (maxL := 7) (ret := (some .int)) (by decide) rfl (Nat.le_of_ble_eq_true rfl) ?_
  intro pZ eZ sZ mZ bZ meZ cZ A F hin hA hP hD hE hS ls hl
  obtain ⟨hx, hb, hr, hml, hts, hown, hlk⟩ := F
  skip
  have hown : sZ.vm.findClass RX5 = some mZ.cls := hown
  have hl : lv_has ls 7 [(0, .ref qm), (1, .int (iI x)), (2, .int (iI y)), (3, .int (iI u)), (4, .int (iI v))] := hl
  skip
  have w0 := hts (.fieldLink RX5 47 "SlantYardModel" "thrown" "I") (by decide +kernel)
  have in5 : ∀ w ∈ u_ws RX5 TX5 17, w ∈ wsX5_carry := by decide +kernel
  have hnn := hY.n
  have hho := hY.hr
  refine lv_aload_n hx hb dX5_carry_0 rfl (lv_at hl 0 rfl) ?_
  refine lv_aload_n hx hb dX5_carry_1 rfl (lv_at hl 0 rfl) ?_
  refine lv_iload_n hx hb dX5_carry_2 rfl (lv_at hl 1 rfl) ?_
  refine lv_iload_n hx hb dX5_carry_3 rfl (lv_at hl 2 rfl) ?_
  have hPc_1 := hP.sub (ws' := [(qm, .inr (5, [.int (iI th), .ref mz, .ref ms, .int (iI hn), .ref mp, .ref mb, .int (iI L), .ref m1, .ref m2, .ref m3, .ref mB, .ref mF, .ref mN, .ref mS, .int (iI sT), .ref mW, .long acc])), (mz, .inl (gI g, 326, .inl (aI (zF n ho h c))))]) [0, 1] rfl
  refine pc_i (va_runV (As := [.int (iI x), .int (iI y)]) (rest := [.ref qm]) ⟨hx, hb, hml, hown, hts⟩ (c_X5_isSquare l g qm th mz ms hn mp mb L m1 m2 m3 mB mF mN mS sT mW acc n ho h c x y hY (by omega) (by omega)) (cwV 2 hts gX5_carry_X5_isSquare rfl rfl rfl (by decide +kernel) ⟨Nat.le_of_ble_eq_true rfl, Nat.le_of_ble_eq_true rfl⟩) (puV hE hS hPc_1 rfl rfl) rfl rfl hl.1 rfl (lv_room (Nat.le_of_ble_eq_true rfl)) dX5_carry_4 ⟨Nat.le_of_ble_eq_true rfl, Nat.le_of_ble_eq_true rfl⟩) ?_
  refine lb_if_eq (tgt := 20) hx hb dX5_carry_7 (by decide) (fun c_2 => ?_) (fun c_2 => ?_)
  · exfalso; omega
  · skip
    refine lv_aload_n hx hb dX5_carry_10 rfl (lv_at hl 0 rfl) ?_
    refine lv_iload_n hx hb dX5_carry_11 rfl (lv_at hl 3 rfl) ?_
    refine lv_iload hx hb dX5_carry_12 (lv_at hl 4 rfl) ?_
    have hPc_3 := hP.sub (ws' := [(qm, .inr (5, [.int (iI th), .ref mz, .ref ms, .int (iI hn), .ref mp, .ref mb, .int (iI L), .ref m1, .ref m2, .ref m3, .ref mB, .ref mF, .ref mN, .ref mS, .int (iI sT), .ref mW, .long acc])), (mz, .inl (gI g, 326, .inl (aI (zF n ho h c))))]) [0, 1] rfl
    refine pc_i (va_runV (As := [.int (iI u), .int (iI v)]) (rest := [.ref qm]) ⟨hx, hb, hml, hown, hts⟩ (c_X5_isSquare l g qm th mz ms hn mp mb L m1 m2 m3 mB mF mN mS sT mW acc n ho h c u v hY (by omega) (by omega)) (cwV 2 hts gX5_carry_X5_isSquare rfl rfl rfl (by decide +kernel) ⟨Nat.le_of_ble_eq_true rfl, Nat.le_of_ble_eq_true rfl⟩) (puV hE hS hPc_3 rfl rfl) rfl rfl hl.1 rfl (lv_room (Nat.le_of_ble_eq_true rfl)) dX5_carry_14 ⟨Nat.le_of_ble_eq_true rfl, Nat.le_of_ble_eq_true rfl⟩) ?_
    refine lb_if_ne (tgt := 24) hx hb dX5_carry_17 (by decide) (fun c_4 => ?_) (fun c_4 => ?_)
    · skip
      refine lv_aload_n hx hb dX5_carry_24 rfl (lv_at hl 0 rfl) ?_
      refine lv_iload_n hx hb dX5_carry_25 rfl (lv_at hl 1 rfl) ?_
      refine lv_iload_n hx hb dX5_carry_26 rfl (lv_at hl 2 rfl) ?_
      refine lv_iload_n hx hb dX5_carry_27 rfl (lv_at hl 3 rfl) ?_
      refine lv_iload hx hb dX5_carry_28 (lv_at hl 4 rfl) ?_
      have hPc_5 := hP.sub (ws' := [(qm, .inr (5, [.int (iI th), .ref mz, .ref ms, .int (iI hn), .ref mp, .ref mb, .int (iI L), .ref m1, .ref m2, .ref m3, .ref mB, .ref mF, .ref mN, .ref mS, .int (iI sT), .ref mW, .long acc])), (mz, .inl (gI g, 326, .inl (aI (zF n ho h c))))]) [0, 1] rfl
      refine pc_i (va_runV (As := [.int (iI x), .int (iI y), .int (iI u), .int (iI v)]) (rest := [.ref qm]) ⟨hx, hb, hml, hown, hts⟩ (c_X5_canCarry l g qm th mz ms hn mp mb L m1 m2 m3 mB mF mN mS sT mW acc n ho h c x y u v hY h1 h2 h3 h4 h5 h6 h7 h8) (cwV 4 hts gX5_carry_X5_canCarry rfl rfl rfl (by decide +kernel) ⟨Nat.le_of_ble_eq_true rfl, Nat.le_of_ble_eq_true rfl⟩) (puV hE hS hPc_5 rfl rfl) rfl rfl hl.1 rfl (lv_room (Nat.le_of_ble_eq_true rfl)) dX5_carry_30 ⟨Nat.le_of_ble_eq_true rfl, Nat.le_of_ble_eq_true rfl⟩) ?_
      refine lb_if_eq (tgt := 40) hx hb dX5_carry_33 (by decide) (fun c_6 => ?_) (fun c_6 => ?_)
      · skip
        refine lv_iconst (v := iI 2) hx hb dX5_carry_40 rfl ?_
        refine va_put (D := g.1) (ci := 5) (v := .int (iI 2)) (ty := .int) (C := RX5) (T := TX5) (N := 17) hx hb hts in5 tyX5 tyX5_ok nmX5 hown hE.1 hP hD hS 0 rfl rfl 0 (by decide) w0 (fun _ h9 => h9) rfl (by decide +kernel) rfl rfl (Nat.le_of_ble_eq_true rfl) dX5_carry_41 (fun H locs hP hD hS => ?_)
        have hP : va_P g.1 vwCl [(qm, .inr (5, [.int (iI 2), .ref mz, .ref ms, .int (iI hn), .ref mp, .ref mb, .int (iI L), .ref m1, .ref m2, .ref m3, .ref mB, .ref mF, .ref mN, .ref mS, .int (iI sT), .ref mW, .long acc])), (mz, .inl (gI g, 326, .inl (aI (zF n ho h c))))] H := hP
        have hD : va_D A [(qm, .inr (5, [.int (iI 2), .ref mz, .ref ms, .int (iI hn), .ref mp, .ref mb, .int (iI L), .ref m1, .ref m2, .ref m3, .ref mB, .ref mF, .ref mN, .ref mS, .int (iI sT), .ref mW, .long acc])), (mz, .inl (gI g, 326, .inl (aI (zF n ho h c))))] := hD
        refine lv_aload_n hx hb dX5_carry_44 rfl (lv_at hl 0 rfl) ?_
        refine va_get (D := g.1) (ci := 5) (v := .int (iI 2)) (C := RX5) (T := TX5) (N := 17) hx hb hts in5 hown hE.1 hP 0 rfl rfl 0 (by decide) w0 (fun _ h9 => h9) rfl dX5_carry_45 ?_
        refine ln_if_le (tgt := 53) hx hb dX5_carry_48 (by decide) (by decide) (fun c_7 => ?_) (fun c_7 => ?_)
        · exfalso; omega
        · skip
          refine lv_iconst (v := iI 0) hx hb dX5_carry_51 rfl ?_
          have hP : va_P g.1 vwCl [(qm, .inr (5, [.int (iI 2), .ref mz, .ref ms, .int (iI hn), .ref mp, .ref mb, .int (iI L), .ref m1, .ref m2, .ref m3, .ref mB, .ref mF, .ref mN, .ref mS, .int (iI sT), .ref mW, .long acc])), (mz, .inl (gI g, 326, .inl (aI (zF n ho h c))))] _ := hP
          have hD : va_D A [(qm, .inr (5, [.int (iI 2), .ref mz, .ref ms, .int (iI hn), .ref mp, .ref mb, .int (iI L), .ref m1, .ref m2, .ref m3, .ref mB, .ref mF, .ref mN, .ref mS, .int (iI sT), .ref mW, .long acc])), (mz, .inl (gI g, 326, .inl (aI (zF n ho h c))))] := hD
          exact mend_i (S := Unit) (w' := (fun _ => [(qm, .inr (5, [.int (iI 2), .ref mz, .ref ms, .int (iI hn), .ref mp, .ref mb, .int (iI L), .ref m1, .ref m2, .ref m3, .ref mB, .ref mF, .ref mN, .ref mS, .int (iI sT), .ref mW, .long acc])), (mz, .inl (gI g, 326, .inl (aI (zF n ho h c))))])) (post := (fun _ => True)) (r := (fun _ => 0)) hx hb hr hlk hS () hP hD (trivial) (by rfl) (Nat.le_of_ble_eq_true rfl) (Nat.le_of_ble_eq_true rfl) dX5_carry_52
      · exfalso; omega
    · exfalso; omega
set_option maxHeartbeats 800000 in
set_option maxRecDepth 100000 in
theorem c_X5_cutOff_ok (l : Launch) (g : GT) (qm : Nat) (th : Int) (mz : Nat) (ms : Nat) (hn : Int) (mp : Nat) (mb : Nat) (L : Int) (m1 : Nat) (m2 : Nat) (m3 : Nat) (mB : Nat) (mF : Nat) (mN : Nat) (mS : Nat) (sT : Int) (mW : Nat) (acc : Int64) (n : Int) (ho : Int) (h : Int → Int) (c : Int → Int) (f : Int → Int) (v : Int) (hY : YOk n ho h c) (hh : 0 ≤ hn ∧ hn ≤ 6) (g1 : 0 ≤ v ∧ v ≤ 8) : MutI l yX5_cutOff wsX5_cutOff ({ frames := 2, cells := 0, slots := 0, locals := 46 }) 0 0 g [(qm, .inr (5, [.int (iI th), .ref mz, .ref ms, .int (iI hn), .ref mp, .ref mb, .int (iI L), .ref m1, .ref m2, .ref m3, .ref mB, .ref mF, .ref mN, .ref mS, .int (iI sT), .ref mW, .long acc])), (mz, .inl (gI g, 326, .inl (aI (zF n ho h c)))), (ms, .inl (gI g, 1956, .inl (aI f)))] [.ref qm, .int (iI v)] (S := Unit) (fun _ => True) (fun _ => countK n h n - countK n (cutH n h v n 0) n) (fun _ => [(qm, .inr (5, [.int (iI 0), .ref mz, .ref ms, .int (iI (svL hn + 1)), .ref mp, .ref mb, .int (iI L), .ref m1, .ref m2, .ref m3, .ref mB, .ref mF, .ref mN, .ref mS, .int (iI sT), .ref mW, .long acc])), (mz, .inl (gI g, 326, .inl (aI ((zF n ho (cutH n h v n 0) (cutC n h c v n 0)))))), (ms, .inl (gI g, 1956, .inl (aI ((svM (olF f hn) (svL hn) (zF n ho h c) 326)))))]) := by
  refine mut_of (y := yX5_cutOff) (ws := wsX5_cutOff) (av := [.ref qm, .int (iI v)]) (w := [(qm, .inr (5, [.int (iI th), .ref mz, .ref ms, .int (iI hn), .ref mp, .ref mb, .int (iI L), .ref m1, .ref m2, .ref m3, .ref mB, .ref mF, .ref mN, .ref mS, .int (iI sT), .ref mW, .long acc])), (mz, .inl (gI g, 326, .inl (aI (zF n ho h c)))), (ms, .inl (gI g, 1956, .inl (aI f)))]) (Qc := fun A => va_Qi (fun x9 (u9 : Unit) => x9 = iI ((fun _ => countK n h n - countK n (cutH n h v n 0) n) u9) ∧ (fun _ => True) u9) (fun u9 t9 => MB g ((fun _ => [(qm, .inr (5, [.int (iI 0), .ref mz, .ref ms, .int (iI (svL hn + 1)), .ref mp, .ref mb, .int (iI L), .ref m1, .ref m2, .ref m3, .ref mB, .ref mF, .ref mN, .ref mS, .int (iI sT), .ref mW, .long acc])), (mz, .inl (gI g, 326, .inl (aI ((zF n ho (cutH n h v n 0) (cutC n h c v n 0)))))), (ms, .inl (gI g, 1956, .inl (aI ((svM (olF f hn) (svL hn) (zF n ho h c) 326)))))]) u9) A t9) A) (cc := cX5_cutOff) (maxL := 4) (ret := (some .int)) (by decide) rfl (Nat.le_of_ble_eq_true rfl) ?_
  intro pZ eZ sZ mZ bZ meZ cZ A F hin hA hP hD hE hS ls hl
  obtain ⟨hx, hb, hr, hml, hts, hown, hlk⟩ := F
  skip
  have hown : sZ.vm.findClass RX5 = some mZ.cls := hown
  have hl : lv_has ls 4 [(0, .ref qm), (1, .int (iI v))] := hl
  skip
  have w0 := hts (.fieldLink RX5 47 "SlantYardModel" "thrown" "I") (by decide +kernel)
  have w1 := hts (.fieldLink RX5 7 "SlantYardModel" "z" "[I") (by decide +kernel)
  have in5 : ∀ w ∈ u_ws RX5 TX5 17, w ∈ wsX5_cutOff := by decide +kernel
  have hnn := hY.n
  have hho := hY.hr
  refine lv_aload_n hx hb dX5_cutOff_0 rfl (lv_at hl 0 rfl) ?_
  refine lv_iload_n hx hb dX5_cutOff_1 rfl (lv_at hl 1 rfl) ?_
  refine lv_iconst (v := iI 0) hx hb dX5_cutOff_2 rfl ?_
  refine lv_bipush (v := iI 8) hx hb dX5_cutOff_3 (by decide) ?_
  refine pc_i (va_runS (As := [.int (iI v), .int (iI 0), .int (iI 8)]) (rest := [.ref qm]) ⟨hx, hb, hml, hown, hts⟩ (c_X5_in l g v 0 8 (by omega) (by omega) (by omega)) (va_cwS 3 hts gX5_cutOff_X5_in rfl rfl rfl (by decide +kernel) ⟨Nat.le_of_ble_eq_true rfl, Nat.le_of_ble_eq_true rfl⟩) (puS hE hS (va_P_nil g.1 _)) rfl rfl hl.1 rfl (lv_room (Nat.le_of_ble_eq_true rfl)) dX5_cutOff_5 ⟨Nat.le_of_ble_eq_true rfl, Nat.le_of_ble_eq_true rfl⟩) ?_
  refine lb_if_eq (tgt := 15) hx hb dX5_cutOff_8 (by decide) (fun c_1 => ?_) (fun c_1 => ?_)
  · exfalso; omega
  · skip
    refine lv_iconst (v := iI 0) hx hb dX5_cutOff_11 rfl ?_
    refine lv_goto (tgt := 16) hx hb dX5_cutOff_12 (by decide) ?_
    refine va_put (D := g.1) (ci := 5) (v := .int (iI 0)) (ty := .int) (C := RX5) (T := TX5) (N := 17) hx hb hts in5 tyX5 tyX5_ok nmX5 hown hE.1 hP hD hS 0 rfl rfl 0 (by decide) w0 (fun _ h9 => h9) rfl (by decide +kernel) rfl rfl (Nat.le_of_ble_eq_true rfl) dX5_cutOff_16 (fun H locs hP hD hS => ?_)
    have hP : va_P g.1 vwCl [(qm, .inr (5, [.int (iI 0), .ref mz, .ref ms, .int (iI hn), .ref mp, .ref mb, .int (iI L), .ref m1, .ref m2, .ref m3, .ref mB, .ref mF, .ref mN, .ref mS, .int (iI sT), .ref mW, .long acc])), (mz, .inl (gI g, 326, .inl (aI (zF n ho h c)))), (ms, .inl (gI g, 1956, .inl (aI f)))] H := hP
    have hD : va_D A [(qm, .inr (5, [.int (iI 0), .ref mz, .ref ms, .int (iI hn), .ref mp, .ref mb, .int (iI L), .ref m1, .ref m2, .ref m3, .ref mB, .ref mF, .ref mN, .ref mS, .int (iI sT), .ref mW, .long acc])), (mz, .inl (gI g, 326, .inl (aI (zF n ho h c)))), (ms, .inl (gI g, 1956, .inl (aI f)))] := hD
    refine lv_aload_n hx hb dX5_cutOff_19 rfl (lv_at hl 0 rfl) ?_
    refine va_get (D := g.1) (ci := 5) (v := .int (iI 0)) (C := RX5) (T := TX5) (N := 17) hx hb hts in5 hown hE.1 hP 0 rfl rfl 0 (by decide) w0 (fun _ h9 => h9) rfl dX5_cutOff_20 ?_
    refine ln_if_le (tgt := 28) hx hb dX5_cutOff_23 (by decide) (by decide) (fun c_2 => ?_) (fun c_2 => ?_)
    · skip
      refine lv_aload_n hx hb dX5_cutOff_28 rfl (lv_at hl 0 rfl) ?_
      have hPc_3 := hP.sub (ws' := [(qm, .inr (5, [.int (iI 0), .ref mz, .ref ms, .int (iI hn), .ref mp, .ref mb, .int (iI L), .ref m1, .ref m2, .ref m3, .ref mB, .ref mF, .ref mN, .ref mS, .int (iI sT), .ref mW, .long acc])), (mz, .inl (gI g, 326, .inl (aI (zF n ho h c)))), (ms, .inl (gI g, 1956, .inl (aI f)))]) [0, 1, 2] rfl
      have hDc_4 := hD.sub (ws' := [(qm, .inr (5, [.int (iI 0), .ref mz, .ref ms, .int (iI hn), .ref mp, .ref mb, .int (iI L), .ref m1, .ref m2, .ref m3, .ref mB, .ref mF, .ref mN, .ref mS, .int (iI sT), .ref mW, .long acc])), (mz, .inl (gI g, 326, .inl (aI (zF n ho h c)))), (ms, .inl (gI g, 1956, .inl (aI f)))]) [0, 1, 2] (by decide) rfl
      have hFc_5 := va_free (wc := [(qm, .inr (5, [.int (iI 0), .ref mz, .ref ms, .int (iI hn), .ref mp, .ref mb, .int (iI L), .ref m1, .ref m2, .ref m3, .ref mB, .ref mF, .ref mN, .ref mS, .int (iI sT), .ref mW, .long acc])), (mz, .inl (gI g, 326, .inl (aI (zF n ho h c)))), (ms, .inl (gI g, 1956, .inl (aI f)))]) hD hS hA [0, 1, 2] rfl
      refine mc_v (wr := []) (cells1 := 0) (slots1 := 0) (va_runV (As := []) (rest := []) ⟨hx, hb, hml, hown, hts⟩ (c_X5_save l g qm 0 mz ms hn mp mb L m1 m2 m3 mB mF mN mS sT mW acc n ho h c f hh H.size) (cwV 0 hts gX5_cutOff_X5_save rfl rfl rfl (by decide +kernel) ⟨Nat.le_of_ble_eq_true rfl, Nat.le_of_ble_eq_true rfl⟩) (muV hE hS hPc_3 hDc_4 hFc_5 rfl rfl) rfl rfl hl.1 rfl (lv_room (Nat.le_of_ble_eq_true rfl)) dX5_cutOff_29 ⟨Nat.le_of_ble_eq_true rfl, Nat.le_of_ble_eq_true rfl⟩) hP hD hS hA [0, 1, 2] [] [0, 1, 2] rfl rfl (by decide) (by decide) (fun _ => [(qm, .inr (5, [.int (iI 0), .ref mz, .ref ms, .int (iI (svL hn + 1)), .ref mp, .ref mb, .int (iI L), .ref m1, .ref m2, .ref m3, .ref mB, .ref mF, .ref mN, .ref mS, .int (iI sT), .ref mW, .long acc])), (mz, .inl (gI g, 326, .inl (aI (zF n ho h c)))), (ms, .inl (gI g, 1956, .inl (aI ((svM (olF f hn) (svL hn) (zF n ho h c) 326)))))]) (fun _ => rfl) (by decide) (Nat.le_of_ble_eq_true rfl) (Nat.le_of_ble_eq_true rfl) (fun u9 H locs hu_6 hP hD hS => ?_)
      have hP : va_P g.1 vwCl [(qm, .inr (5, [.int (iI 0), .ref mz, .ref ms, .int (iI (svL hn + 1)), .ref mp, .ref mb, .int (iI L), .ref m1, .ref m2, .ref m3, .ref mB, .ref mF, .ref mN, .ref mS, .int (iI sT), .ref mW, .long acc])), (mz, .inl (gI g, 326, .inl (aI (zF n ho h c)))), (ms, .inl (gI g, 1956, .inl (aI ((svM (olF f hn) (svL hn) (zF n ho h c) 326)))))] H := hP
      have hD : va_D A [(qm, .inr (5, [.int (iI 0), .ref mz, .ref ms, .int (iI (svL hn + 1)), .ref mp, .ref mb, .int (iI L), .ref m1, .ref m2, .ref m3, .ref mB, .ref mF, .ref mN, .ref mS, .int (iI sT), .ref mW, .long acc])), (mz, .inl (gI g, 326, .inl (aI (zF n ho h c)))), (ms, .inl (gI g, 1956, .inl (aI ((svM (olF f hn) (svL hn) (zF n ho h c) 326)))))] := hD
      refine lv_iconst (v := iI 0) hx hb dX5_cutOff_32 rfl ?_
      refine lv_istore_n (lv' := [(2, .int (iI 0)), (0, .ref qm), (1, .int (iI v))]) hx hb dX5_cutOff_33 rfl hl (by decide) rfl (fun ls hl => ?_)
      refine lv_iconst (v := iI 0) hx hb dX5_cutOff_34 rfl ?_
      refine lv_istore_n (lv' := [(3, .int (iI 0)), (2, .int (iI 0)), (0, .ref qm), (1, .int (iI v))]) hx hb dX5_cutOff_35 rfl hl (by decide) rfl (fun ls hl => ?_)
      have L36 : ∀ (k_7 : Nat) (k : Int) (gk : 0 ≤ k) (gl : k ≤ 36) (H : Heap) (locs : List Loc), va_P g.1 vwCl [(qm, .inr (5, [.int (iI 0), .ref mz, .ref ms, .int (iI (svL hn + 1)), .ref mp, .ref mb, .int (iI L), .ref m1, .ref m2, .ref m3, .ref mB, .ref mF, .ref mN, .ref mS, .int (iI sT), .ref mW, .long acc])), (mz, .inl (gI g, 326, .inl (aI ((zF n ho (ctH h v k) (ctC h c v k)))))), (ms, .inl (gI g, 1956, .inl (aI ((svM (olF f hn) (svL hn) (zF n ho h c) 326)))))] H → va_D A [(qm, .inr (5, [.int (iI 0), .ref mz, .ref ms, .int (iI (svL hn + 1)), .ref mp, .ref mb, .int (iI L), .ref m1, .ref m2, .ref m3, .ref mB, .ref mF, .ref mN, .ref mS, .int (iI sT), .ref mW, .long acc])), (mz, .inl (gI g, 326, .inl (aI ((zF n ho (ctH h v k) (ctC h c v k)))))), (ms, .inl (gI g, 1956, .inl (aI ((svM (olF f hn) (svL hn) (zF n ho h c) 326)))))] → va_S A sZ.heap H locs → ∀ (ls : Array Slot), lv_has ls 4 [(0, .ref qm), (1, .int (iI v)), (2, .int (iI (ctN h v k))), (3, .int (iI k))] → (36 - k).toNat < k_7 → W pZ l eZ ({ frames := 2, cells := 0, slots := 0, locals := 46 } : Room) sZ mZ [.ref qm, .int (iI v)].toArray bZ meZ cZ H locs 0 0 (MQ bZ (va_Qi (fun x9 (u9 : Unit) => x9 = iI ((fun _ => countK n h n - countK n (cutH n h v n 0) n) u9) ∧ (fun _ => True) u9) (fun u9 t9 => MB g ((fun _ => [(qm, .inr (5, [.int (iI 0), .ref mz, .ref ms, .int (iI (svL hn + 1)), .ref mp, .ref mb, .int (iI L), .ref m1, .ref m2, .ref m3, .ref mB, .ref mF, .ref mN, .ref mS, .int (iI sT), .ref mW, .long acc])), (mz, .inl (gI g, 326, .inl (aI ((zF n ho (cutH n h v n 0) (cutC n h c v n 0)))))), (ms, .inl (gI g, 1956, .inl (aI ((svM (olF f hn) (svL hn) (zF n ho h c) 326)))))]) u9) A t9) A) [.ref qm, .int (iI v)].toArray sZ 0 0 A) (F0 mZ 36 ls []) := by
        intro k_7
        induction k_7 with
        | zero => intro k gk gl H locs hP hD hS ls hl hm_9; exact absurd hm_9 (Nat.not_lt_zero _)
        | succ k_7 ih_8 =>
          intro k gk gl H locs hP hD hS ls hl hm_9
          have b_10 : 0 ≤ ctN h v k ∧ ctN h v k ≤ k * 8 := ctN_rg (YOk.h hY) g1.1 gk
          have b_11 : 0 ≤ h (k) ∧ h (k) ≤ 8 := YOk.h hY (k)
          refine lv_iload_n hx hb dX5_cutOff_36 rfl (lv_at hl 3 rfl) ?_
          refine lv_bipush (v := iI 36) hx hb dX5_cutOff_37 (by decide) ?_
          refine ln_icmp_ge (tgt := 79) hx hb dX5_cutOff_39 (by decide) ⟨by omega, by omega⟩ (by decide) (fun c_12 => ?_) (fun c_12 => ?_)
          · skip
            refine lv_iload_n hx hb dX5_cutOff_79 rfl (lv_at hl 2 rfl) ?_
            have hP := hP.recell 1 rfl ((zF n ho (cutH n h v n 0) (cutC n h c v n 0))) (fun j _ _ => zF_cg (fun i => by rw [show k = 36 by omega]; exact ctH_all hY g1.1 i) (fun i => by rw [show k = 36 by omega]; exact ctC_all hY g1.1 i) j)
            have hD := hD.set (p := 1) (e := .inl (gI g, 326, .inl (aI ((zF n ho (cutH n h v n 0) (cutC n h c v n 0)))))) rfl
            have hP : va_P g.1 vwCl [(qm, .inr (5, [.int (iI 0), .ref mz, .ref ms, .int (iI (svL hn + 1)), .ref mp, .ref mb, .int (iI L), .ref m1, .ref m2, .ref m3, .ref mB, .ref mF, .ref mN, .ref mS, .int (iI sT), .ref mW, .long acc])), (mz, .inl (gI g, 326, .inl (aI ((zF n ho (cutH n h v n 0) (cutC n h c v n 0)))))), (ms, .inl (gI g, 1956, .inl (aI ((svM (olF f hn) (svL hn) (zF n ho h c) 326)))))] _ := hP
            have hD : va_D A [(qm, .inr (5, [.int (iI 0), .ref mz, .ref ms, .int (iI (svL hn + 1)), .ref mp, .ref mb, .int (iI L), .ref m1, .ref m2, .ref m3, .ref mB, .ref mF, .ref mN, .ref mS, .int (iI sT), .ref mW, .long acc])), (mz, .inl (gI g, 326, .inl (aI ((zF n ho (cutH n h v n 0) (cutC n h c v n 0)))))), (ms, .inl (gI g, 1956, .inl (aI ((svM (olF f hn) (svL hn) (zF n ho h c) 326)))))] := hD
            exact mend_i (S := Unit) (w' := (fun _ => [(qm, .inr (5, [.int (iI 0), .ref mz, .ref ms, .int (iI (svL hn + 1)), .ref mp, .ref mb, .int (iI L), .ref m1, .ref m2, .ref m3, .ref mB, .ref mF, .ref mN, .ref mS, .int (iI sT), .ref mW, .long acc])), (mz, .inl (gI g, 326, .inl (aI ((zF n ho (cutH n h v n 0) (cutC n h c v n 0)))))), (ms, .inl (gI g, 1956, .inl (aI ((svM (olF f hn) (svL hn) (zF n ho h c) 326)))))])) (post := (fun _ => True)) (r := (fun _ => countK n h n - countK n (cutH n h v n 0) n)) hx hb hr hlk hS () hP hD (trivial) (by (rw [show k = 36 by omega]; exact ctN_all hY g1)) (Nat.le_of_ble_eq_true rfl) (Nat.le_of_ble_eq_true rfl) dX5_cutOff_80
          · skip
            have L42 : ∀ (k_13 : Nat) (t : Int) (gt : 0 ≤ t) (gm : t = 0 ∨ v ≤ h k - t) (H : Heap) (locs : List Loc), va_P g.1 vwCl [(qm, .inr (5, [.int (iI 0), .ref mz, .ref ms, .int (iI (svL hn + 1)), .ref mp, .ref mb, .int (iI L), .ref m1, .ref m2, .ref m3, .ref mB, .ref mF, .ref mN, .ref mS, .int (iI sT), .ref mW, .long acc])), (mz, .inl (gI g, 326, .inl (aI ((zF n ho (lowH (ctH h v k) k (h k - t)) (lowC (ctH h v k) (ctC h c v k) k (h k - t))))))), (ms, .inl (gI g, 1956, .inl (aI ((svM (olF f hn) (svL hn) (zF n ho h c) 326)))))] H → va_D A [(qm, .inr (5, [.int (iI 0), .ref mz, .ref ms, .int (iI (svL hn + 1)), .ref mp, .ref mb, .int (iI L), .ref m1, .ref m2, .ref m3, .ref mB, .ref mF, .ref mN, .ref mS, .int (iI sT), .ref mW, .long acc])), (mz, .inl (gI g, 326, .inl (aI ((zF n ho (lowH (ctH h v k) k (h k - t)) (lowC (ctH h v k) (ctC h c v k) k (h k - t))))))), (ms, .inl (gI g, 1956, .inl (aI ((svM (olF f hn) (svL hn) (zF n ho h c) 326)))))] → va_S A sZ.heap H locs → ∀ (ls : Array Slot), lv_has ls 4 [(0, .ref qm), (1, .int (iI v)), (2, .int (iI (ctN h v k + t))), (3, .int (iI k))] → (h k - t).toNat < k_13 → W pZ l eZ ({ frames := 2, cells := 0, slots := 0, locals := 46 } : Room) sZ mZ [.ref qm, .int (iI v)].toArray bZ meZ cZ H locs 0 0 (MQ bZ (va_Qi (fun x9 (u9 : Unit) => x9 = iI ((fun _ => countK n h n - countK n (cutH n h v n 0) n) u9) ∧ (fun _ => True) u9) (fun u9 t9 => MB g ((fun _ => [(qm, .inr (5, [.int (iI 0), .ref mz, .ref ms, .int (iI (svL hn + 1)), .ref mp, .ref mb, .int (iI L), .ref m1, .ref m2, .ref m3, .ref mB, .ref mF, .ref mN, .ref mS, .int (iI sT), .ref mW, .long acc])), (mz, .inl (gI g, 326, .inl (aI ((zF n ho (cutH n h v n 0) (cutC n h c v n 0)))))), (ms, .inl (gI g, 1956, .inl (aI ((svM (olF f hn) (svL hn) (zF n ho h c) 326)))))]) u9) A t9) A) [.ref qm, .int (iI v)].toArray sZ 0 0 A) (F0 mZ 42 ls []) := by
              intro k_13
              induction k_13 with
              | zero => intro t gt gm H locs hP hD hS ls hl hm_15; exact absurd hm_15 (Nat.not_lt_zero _)
              | succ k_13 ih_14 =>
                intro t gt gm H locs hP hD hS ls hl hm_15
                have b_16 : (ctH h v k) k = h k := ctH_q
                have b_17 : lowH (ctH h v k) k (h k - t) k = h k - t := low_at (by omega) (by omega)
                refine lv_aload_n hx hb dX5_cutOff_42 rfl (lv_at hl 0 rfl) ?_
                refine va_get (D := g.1) (ci := 5) (v := .ref mz) (C := RX5) (T := TX5) (N := 17) hx hb hts in5 hown hE.1 hP 0 rfl rfl 1 (by decide) w1 (fun _ h9 => h9) rfl dX5_cutOff_43 ?_
                refine lv_iconst (v := iI 2) hx hb dX5_cutOff_46 rfl ?_
                refine lv_iload_n hx hb dX5_cutOff_47 rfl (lv_at hl 3 rfl) ?_
                refine ln_iadd hx hb (2 + k) (rfl) dX5_cutOff_48 ?_
                refine ln_iald hx hb hE hP 1 rfl (by omega) (by omega) (Nat.le_of_ble_eq_true rfl) (h k - t) (by rw [zF_q (by omega) (by omega)]; assumption) dX5_cutOff_49 ?_
                refine lv_iload_n hx hb dX5_cutOff_50 rfl (lv_at hl 1 rfl) ?_
                refine ln_icmp_le (tgt := 73) hx hb dX5_cutOff_51 (by decide) ⟨by omega, by omega⟩ ⟨by omega, by omega⟩ (fun c_18 => ?_) (fun c_18 => ?_)
                · skip
                  refine lv_iinc (v := iI (k + 1)) (lv' := [(3, .int (iI (k + 1))), (0, .ref qm), (1, .int (iI v)), (2, .int (iI (ctN h v k + t)))]) hx hb dX5_cutOff_73 hl (k := 3) rfl (iI_add _ _) (by decide) rfl (fun ls hl => ?_)
                  refine lv_goto (tgt := 36) hx hb dX5_cutOff_76 (by decide) ?_
                  have hl := lv_re hl 3 rfl (.int (iI (ctN h v (k + 1)))) (congrArg (fun z => Value.int (iI z)) (show ctN h v k + t = ctN h v (k + 1) from by rw [ctN_s gk]; rcases (show (v < h k ∧ h k - t = v) ∨ (¬ v < h k ∧ t = 0) by omega) with ⟨a9, e9⟩ | ⟨a9, e9⟩; (rw [if_pos a9]; omega); (rw [if_neg a9]; omega)))
                  have hl : lv_has ls 4 [(3, .int (iI (k + 1))), (0, .ref qm), (1, .int (iI v)), (2, .int (iI (ctN h v (k + 1))))] := hl
                  have hP := hP.recell 1 rfl ((zF n ho (ctH h v (k + 1)) (ctC h c v (k + 1)))) (fun j _ _ => by rcases (show (v < h k ∧ h k - t = v) ∨ (¬ v < h k ∧ h k - t = h k) by omega) with ⟨a9, e9⟩ | ⟨a9, e9⟩; (rw [e9]; exact zF_cg (fun i => ctH_s g1.1 gk a9 i) (fun i => ctC_s g1.1 gk a9 i) j); (rw [e9]; exact zF_cg (fun i => by have q9 := low_id (f := ctH h v k) (q := k) i; rw [ctH_q] at q9; rw [q9]; exact ctH_no a9 i) (fun i => by have q9 := lowC_id (f := ctH h v k) (c := ctC h c v k) (q := k) i; rw [ctH_q] at q9; rw [q9]; exact ctC_no a9 i) j))
                  have hD := hD.set (p := 1) (e := .inl (gI g, 326, .inl (aI ((zF n ho (ctH h v (k + 1)) (ctC h c v (k + 1))))))) rfl
                  exact ih_8 (k + 1) (by omega) (by omega) _ _ hP hD hS _ (lv_sub hl [1, 2, 3, 0] rfl) (by omega)
                · skip
                  have hsq9 := sq_of hY (k := k) (by omega)
                  have hkk9 : k / 6 * 6 + k % 6 = k := by omega
                  have hY5 : YOk n ho (lowH (ctH h v k) k (h k - t)) (lowC (ctH h v k) (ctC h c v k) k (h k - t)) := YOk.low (YOk.ct hY g1.1 k) hsq9
                  refine lv_aload_n hx hb dX5_cutOff_54 rfl (lv_at hl 0 rfl) ?_
                  refine lv_iload_n hx hb dX5_cutOff_55 rfl (lv_at hl 3 rfl) ?_
                  refine lv_bipush (v := iI 6) hx hb dX5_cutOff_56 (by decide) ?_
                  refine ln_irem hx hb (by omega) (by omega) (by decide) (by decide) (k % 6) (rfl) dX5_cutOff_58 ?_
                  refine lv_iload_n hx hb dX5_cutOff_59 rfl (lv_at hl 3 rfl) ?_
                  refine lv_bipush (v := iI 6) hx hb dX5_cutOff_60 (by decide) ?_
                  refine ln_idiv hx hb (by omega) (by omega) (by decide) (by decide) (k / 6) (rfl) dX5_cutOff_62 ?_
                  have hPc_19 := hP.sub (ws' := [(qm, .inr (5, [.int (iI 0), .ref mz, .ref ms, .int (iI (svL hn + 1)), .ref mp, .ref mb, .int (iI L), .ref m1, .ref m2, .ref m3, .ref mB, .ref mF, .ref mN, .ref mS, .int (iI sT), .ref mW, .long acc])), (mz, .inl (gI g, 326, .inl (aI ((zF n ho (lowH (ctH h v k) k (h k - t)) (lowC (ctH h v k) (ctC h c v k) k (h k - t)))))))]) [0, 1] rfl
                  have hDc_20 := hD.sub (ws' := [(qm, .inr (5, [.int (iI 0), .ref mz, .ref ms, .int (iI (svL hn + 1)), .ref mp, .ref mb, .int (iI L), .ref m1, .ref m2, .ref m3, .ref mB, .ref mF, .ref mN, .ref mS, .int (iI sT), .ref mW, .long acc])), (mz, .inl (gI g, 326, .inl (aI ((zF n ho (lowH (ctH h v k) k (h k - t)) (lowC (ctH h v k) (ctC h c v k) k (h k - t)))))))]) [0, 1] (by decide) rfl
                  have hFc_21 := va_free (wc := [(qm, .inr (5, [.int (iI 0), .ref mz, .ref ms, .int (iI (svL hn + 1)), .ref mp, .ref mb, .int (iI L), .ref m1, .ref m2, .ref m3, .ref mB, .ref mF, .ref mN, .ref mS, .int (iI sT), .ref mW, .long acc])), (mz, .inl (gI g, 326, .inl (aI ((zF n ho (lowH (ctH h v k) k (h k - t)) (lowC (ctH h v k) (ctC h c v k) k (h k - t)))))))]) hD hS hA [0, 1] rfl
                  refine mc_i (wr := [(ms, .inl (gI g, 1956, .inl (aI ((svM (olF f hn) (svL hn) (zF n ho h c) 326)))))]) (cells1 := 0) (slots1 := 0) (va_runV (As := [.int (iI (k % 6)), .int (iI (k / 6))]) (rest := []) ⟨hx, hb, hml, hown, hts⟩ (c_X5_takeFrom l g qm 0 mz ms (svL hn + 1) mp mb L m1 m2 m3 mB mF mN mS sT mW acc n ho ((lowH (ctH h v k) k (h k - t))) ((lowC (ctH h v k) (ctC h c v k) k (h k - t))) (k % 6) (k / 6) hY5 (by omega) (by omega) (by omega) (by omega) (by rw [hkk9]; omega) H.size) (cwV 2 hts gX5_cutOff_X5_takeFrom rfl rfl rfl (by decide +kernel) ⟨Nat.le_of_ble_eq_true rfl, Nat.le_of_ble_eq_true rfl⟩) (muV hE hS hPc_19 hDc_20 hFc_21 rfl rfl) rfl rfl hl.1 rfl (lv_room (Nat.le_of_ble_eq_true rfl)) dX5_cutOff_63 ⟨Nat.le_of_ble_eq_true rfl, Nat.le_of_ble_eq_true rfl⟩) hP hD hS hA [0, 1] [2] [1, 2, 0] rfl rfl (by decide) (by decide) (fun _ => [(qm, .inr (5, [.int (iI 0), .ref mz, .ref ms, .int (iI (svL hn + 1)), .ref mp, .ref mb, .int (iI L), .ref m1, .ref m2, .ref m3, .ref mB, .ref mF, .ref mN, .ref mS, .int (iI sT), .ref mW, .long acc])), (mz, .inl (gI g, 326, .inl (aI ((zF n ho (lowH ((lowH (ctH h v k) k (h k - t))) ((k / 6) * 6 + (k % 6)) (((lowH (ctH h v k) k (h k - t))) ((k / 6) * 6 + (k % 6)) - 1)) (lowC ((lowH (ctH h v k) k (h k - t))) ((lowC (ctH h v k) (ctC h c v k) k (h k - t))) ((k / 6) * 6 + (k % 6)) (((lowH (ctH h v k) k (h k - t))) ((k / 6) * 6 + (k % 6)) - 1))))))), (ms, .inl (gI g, 1956, .inl (aI ((svM (olF f hn) (svL hn) (zF n ho h c) 326)))))]) (fun _ => rfl) (by decide) (Nat.le_of_ble_eq_true rfl) (Nat.le_of_ble_eq_true rfl) (fun u9 H locs hu_22 hP hD hS => ?_)
                  have hP : va_P g.1 vwCl [(qm, .inr (5, [.int (iI 0), .ref mz, .ref ms, .int (iI (svL hn + 1)), .ref mp, .ref mb, .int (iI L), .ref m1, .ref m2, .ref m3, .ref mB, .ref mF, .ref mN, .ref mS, .int (iI sT), .ref mW, .long acc])), (mz, .inl (gI g, 326, .inl (aI ((zF n ho (lowH ((lowH (ctH h v k) k (h k - t))) ((k / 6) * 6 + (k % 6)) (((lowH (ctH h v k) k (h k - t))) ((k / 6) * 6 + (k % 6)) - 1)) (lowC ((lowH (ctH h v k) k (h k - t))) ((lowC (ctH h v k) (ctC h c v k) k (h k - t))) ((k / 6) * 6 + (k % 6)) (((lowH (ctH h v k) k (h k - t))) ((k / 6) * 6 + (k % 6)) - 1))))))), (ms, .inl (gI g, 1956, .inl (aI ((svM (olF f hn) (svL hn) (zF n ho h c) 326)))))] H := hP
                  have hD : va_D A [(qm, .inr (5, [.int (iI 0), .ref mz, .ref ms, .int (iI (svL hn + 1)), .ref mp, .ref mb, .int (iI L), .ref m1, .ref m2, .ref m3, .ref mB, .ref mF, .ref mN, .ref mS, .int (iI sT), .ref mW, .long acc])), (mz, .inl (gI g, 326, .inl (aI ((zF n ho (lowH ((lowH (ctH h v k) k (h k - t))) ((k / 6) * 6 + (k % 6)) (((lowH (ctH h v k) k (h k - t))) ((k / 6) * 6 + (k % 6)) - 1)) (lowC ((lowH (ctH h v k) k (h k - t))) ((lowC (ctH h v k) (ctC h c v k) k (h k - t))) ((k / 6) * 6 + (k % 6)) (((lowH (ctH h v k) k (h k - t))) ((k / 6) * 6 + (k % 6)) - 1))))))), (ms, .inl (gI g, 1956, .inl (aI ((svM (olF f hn) (svL hn) (zF n ho h c) 326)))))] := hD
                  refine ln_topv (w := .int (iI (colZ (((lowC (ctH h v k) (ctC h c v k) k (h k - t))) ((k / 6) * 6 + (k % 6))) (((lowH (ctH h v k) k (h k - t))) ((k / 6) * 6 + (k % 6)) - 1)))) rfl ?_
                  refine lv_pop hx hb dX5_cutOff_66 rfl ?_
                  refine lv_iinc (v := iI ((ctN h v k + t) + 1)) (lv' := [(2, .int (iI ((ctN h v k + t) + 1))), (0, .ref qm), (1, .int (iI v)), (3, .int (iI k))]) hx hb dX5_cutOff_67 hl (k := 2) rfl (iI_add _ _) (by decide) rfl (fun ls hl => ?_)
                  refine lv_goto (tgt := 42) hx hb dX5_cutOff_70 (by decide) ?_
                  have hl := lv_re hl 0 rfl (.int (iI (ctN h v k + (t + 1)))) (congrArg (fun z => Value.int (iI z)) (show (ctN h v k + t) + 1 = ctN h v k + (t + 1) from by omega))
                  have hl : lv_has ls 4 [(2, .int (iI (ctN h v k + (t + 1)))), (0, .ref qm), (1, .int (iI v)), (3, .int (iI k))] := hl
                  have hP := hP.recell 1 rfl ((zF n ho (lowH (ctH h v k) k (h k - (t + 1))) (lowC (ctH h v k) (ctC h c v k) k (h k - (t + 1))))) (fun j _ _ => zF_cg (fun i => by rw [show k / 6 * 6 + k % 6 = k by omega, low_s (by omega) (by omega), show h k - t - 1 = h k - (t + 1) by omega]) (fun i => by rw [show k / 6 * 6 + k % 6 = k by omega, lowC_s (by omega) (by omega), show h k - t - 1 = h k - (t + 1) by omega]) j)
                  have hD := hD.set (p := 1) (e := .inl (gI g, 326, .inl (aI ((zF n ho (lowH (ctH h v k) k (h k - (t + 1))) (lowC (ctH h v k) (ctC h c v k) k (h k - (t + 1)))))))) rfl
                  exact ih_14 (t + 1) (by omega) (by omega) _ _ hP hD hS _ (lv_sub hl [1, 2, 0, 3] rfl) (by omega)
            have hl := lv_re hl 2 rfl (.int (iI (ctN h v k + 0))) (congrArg (fun z => Value.int (iI z)) (show ctN h v k = ctN h v k + 0 from by omega))
            have hl : lv_has ls 4 [(0, .ref qm), (1, .int (iI v)), (2, .int (iI (ctN h v k + 0))), (3, .int (iI k))] := hl
            have hP := hP.recell 1 rfl ((zF n ho (lowH (ctH h v k) k (h k - 0)) (lowC (ctH h v k) (ctC h c v k) k (h k - 0)))) (fun j _ _ => zF_cg (fun i => by rw [Int.sub_zero]; have q9 := low_id (f := ctH h v k) (q := k) i; rw [ctH_q] at q9; exact q9.symm) (fun i => by rw [Int.sub_zero]; have q9 := lowC_id (f := ctH h v k) (c := ctC h c v k) (q := k) i; rw [ctH_q] at q9; exact q9.symm) j)
            have hD := hD.set (p := 1) (e := .inl (gI g, 326, .inl (aI ((zF n ho (lowH (ctH h v k) k (h k - 0)) (lowC (ctH h v k) (ctC h c v k) k (h k - 0))))))) rfl
            exact L42 _ 0 (by omega) (by omega) _ _ hP hD hS _ (lv_sub hl [0, 1, 2, 3] rfl) (Nat.lt_succ_self _)
      have hl := lv_re hl 1 rfl (.int (iI (ctN h v 0))) (congrArg (fun z => Value.int (iI z)) (show 0 = ctN h v 0 from rfl))
      have hl : lv_has ls 4 [(3, .int (iI 0)), (2, .int (iI (ctN h v 0))), (0, .ref qm), (1, .int (iI v))] := hl
      have hP := hP.recell 1 rfl ((zF n ho (ctH h v 0) (ctC h c v 0))) (fun j _ _ => zF_cg (fun i => by exact (ctH_0 h v i).symm) (fun i => by exact (ctC_0 h c v i).symm) j)
      have hD := hD.set (p := 1) (e := .inl (gI g, 326, .inl (aI ((zF n ho (ctH h v 0) (ctC h c v 0)))))) rfl
      exact L36 _ 0 (by omega) (by omega) _ _ hP hD hS _ (lv_sub hl [2, 3, 1, 0] rfl) (Nat.lt_succ_self _)
    · exfalso; omega
set_option maxHeartbeats 800000 in
set_option maxRecDepth 100000 in
theorem c_X5_cutOff_x (l : Launch) (g : GT) (qm : Nat) (th : Int) (mz : Nat) (ms : Nat) (hn : Int) (mp : Nat) (mb : Nat) (L : Int) (m1 : Nat) (m2 : Nat) (m3 : Nat) (mB : Nat) (mF : Nat) (mN : Nat) (mS : Nat) (sT : Int) (mW : Nat) (acc : Int64) (v : Int) (gv : Rg v) (g1 : v < 0 ∨ 8 < v) : MutI l yX5_cutOff wsX5_cutOff ({ frames := 1, cells := 0, slots := 0, locals := 22 }) 0 0 g [(qm, .inr (5, [.int (iI th), .ref mz, .ref ms, .int (iI hn), .ref mp, .ref mb, .int (iI L), .ref m1, .ref m2, .ref m3, .ref mB, .ref mF, .ref mN, .ref mS, .int (iI sT), .ref mW, .long acc]))] [.ref qm, .int (iI v)] (S := Unit) (fun _ => True) (fun _ => 0) (fun _ => [(qm, .inr (5, [.int (iI 1), .ref mz, .ref ms, .int (iI hn), .ref mp, .ref mb, .int (iI L), .ref m1, .ref m2, .ref m3, .ref mB, .ref mF, .ref mN, .ref mS, .int (iI sT), .ref mW, .long acc]))]) := by
  refine mut_of (y := yX5_cutOff) (ws := wsX5_cutOff) (av := [.ref qm, .int (iI v)]) (w := [(qm, .inr (5, [.int (iI th), .ref mz, .ref ms, .int (iI hn), .ref mp, .ref mb, .int (iI L), .ref m1, .ref m2, .ref m3, .ref mB, .ref mF, .ref mN, .ref mS, .int (iI sT), .ref mW, .long acc]))]) (Qc := fun A => va_Qi (fun x9 (u9 : Unit) => x9 = iI ((fun _ => 0) u9) ∧ (fun _ => True) u9) (fun u9 t9 => MB g ((fun _ => [(qm, .inr (5, [.int (iI 1), .ref mz, .ref ms, .int (iI hn), .ref mp, .ref mb, .int (iI L), .ref m1, .ref m2, .ref m3, .ref mB, .ref mF, .ref mN, .ref mS, .int (iI sT), .ref mW, .long acc]))]) u9) A t9) A) (cc := cX5_cutOff) (maxL := 4) (ret := (some .int)) (by decide) rfl (Nat.le_of_ble_eq_true rfl) ?_
  intro pZ eZ sZ mZ bZ meZ cZ A F hin hA hP hD hE hS ls hl
  obtain ⟨hx, hb, hr, hml, hts, hown, hlk⟩ := F
  skip
  have hown : sZ.vm.findClass RX5 = some mZ.cls := hown
  have hl : lv_has ls 4 [(0, .ref qm), (1, .int (iI v))] := hl
  skip
  have w0 := hts (.fieldLink RX5 47 "SlantYardModel" "thrown" "I") (by decide +kernel)
  have in5 : ∀ w ∈ u_ws RX5 TX5 17, w ∈ wsX5_cutOff := by decide +kernel
  refine lv_aload_n hx hb dX5_cutOff_0 rfl (lv_at hl 0 rfl) ?_
  refine lv_iload_n hx hb dX5_cutOff_1 rfl (lv_at hl 1 rfl) ?_
  refine lv_iconst (v := iI 0) hx hb dX5_cutOff_2 rfl ?_
  refine lv_bipush (v := iI 8) hx hb dX5_cutOff_3 (by decide) ?_
  refine pc_i (va_runS (As := [.int (iI v), .int (iI 0), .int (iI 8)]) (rest := [.ref qm]) ⟨hx, hb, hml, hown, hts⟩ (c_X5_in l g v 0 8 gv (by omega) (by omega)) (va_cwS 3 hts gX5_cutOff_X5_in rfl rfl rfl (by decide +kernel) ⟨Nat.le_of_ble_eq_true rfl, Nat.le_of_ble_eq_true rfl⟩) (puS hE hS (va_P_nil g.1 _)) rfl rfl hl.1 rfl (lv_room (Nat.le_of_ble_eq_true rfl)) dX5_cutOff_5 ⟨Nat.le_of_ble_eq_true rfl, Nat.le_of_ble_eq_true rfl⟩) ?_
  refine lb_if_eq (tgt := 15) hx hb dX5_cutOff_8 (by decide) (fun c_1 => ?_) (fun c_1 => ?_)
  · skip
    refine lv_iconst (v := iI 1) hx hb dX5_cutOff_15 rfl ?_
    refine va_put (D := g.1) (ci := 5) (v := .int (iI 1)) (ty := .int) (C := RX5) (T := TX5) (N := 17) hx hb hts in5 tyX5 tyX5_ok nmX5 hown hE.1 hP hD hS 0 rfl rfl 0 (by decide) w0 (fun _ h9 => h9) rfl (by decide +kernel) rfl rfl (Nat.le_of_ble_eq_true rfl) dX5_cutOff_16 (fun H locs hP hD hS => ?_)
    have hP : va_P g.1 vwCl [(qm, .inr (5, [.int (iI 1), .ref mz, .ref ms, .int (iI hn), .ref mp, .ref mb, .int (iI L), .ref m1, .ref m2, .ref m3, .ref mB, .ref mF, .ref mN, .ref mS, .int (iI sT), .ref mW, .long acc]))] H := hP
    have hD : va_D A [(qm, .inr (5, [.int (iI 1), .ref mz, .ref ms, .int (iI hn), .ref mp, .ref mb, .int (iI L), .ref m1, .ref m2, .ref m3, .ref mB, .ref mF, .ref mN, .ref mS, .int (iI sT), .ref mW, .long acc]))] := hD
    refine lv_aload_n hx hb dX5_cutOff_19 rfl (lv_at hl 0 rfl) ?_
    refine va_get (D := g.1) (ci := 5) (v := .int (iI 1)) (C := RX5) (T := TX5) (N := 17) hx hb hts in5 hown hE.1 hP 0 rfl rfl 0 (by decide) w0 (fun _ h9 => h9) rfl dX5_cutOff_20 ?_
    refine ln_if_le (tgt := 28) hx hb dX5_cutOff_23 (by decide) (by decide) (fun c_2 => ?_) (fun c_2 => ?_)
    · exfalso; omega
    · skip
      refine lv_iconst (v := iI 0) hx hb dX5_cutOff_26 rfl ?_
      have hP : va_P g.1 vwCl [(qm, .inr (5, [.int (iI 1), .ref mz, .ref ms, .int (iI hn), .ref mp, .ref mb, .int (iI L), .ref m1, .ref m2, .ref m3, .ref mB, .ref mF, .ref mN, .ref mS, .int (iI sT), .ref mW, .long acc]))] _ := hP
      have hD : va_D A [(qm, .inr (5, [.int (iI 1), .ref mz, .ref ms, .int (iI hn), .ref mp, .ref mb, .int (iI L), .ref m1, .ref m2, .ref m3, .ref mB, .ref mF, .ref mN, .ref mS, .int (iI sT), .ref mW, .long acc]))] := hD
      exact mend_i (S := Unit) (w' := (fun _ => [(qm, .inr (5, [.int (iI 1), .ref mz, .ref ms, .int (iI hn), .ref mp, .ref mb, .int (iI L), .ref m1, .ref m2, .ref m3, .ref mB, .ref mF, .ref mN, .ref mS, .int (iI sT), .ref mW, .long acc]))])) (post := (fun _ => True)) (r := (fun _ => 0)) hx hb hr hlk hS () hP hD (trivial) (by first | rfl | omega | (split <;> omega)) (Nat.le_of_ble_eq_true rfl) (Nat.le_of_ble_eq_true rfl) dX5_cutOff_27
  · exfalso; omega

set_option maxHeartbeats 800000 in
set_option maxRecDepth 100000 in
theorem c_X5_ifHour_ok (l : Launch) (g : GT) (qm : Nat) (th : Int) (mz : Nat) (ms : Nat) (hn : Int) (mp : Nat) (mb : Nat) (L : Int) (m1 : Nat) (m2 : Nat) (m3 : Nat) (mB : Nat) (mF : Nat) (mN : Nat) (mS : Nat) (sT : Int) (mW : Nat) (acc : Int64) (n : Int) (ho : Int) (h : Int → Int) (c : Int → Int) (m : Int) (hY : YOk n ho h c) (g1 : 0 ≤ m ∧ m ≤ 7) : MutI l yX5_ifHour wsX5_ifHour ({ frames := 4, cells := 0, slots := 0, locals := 95 }) 0 0 g [(qm, .inr (5, [.int (iI th), .ref mz, .ref ms, .int (iI hn), .ref mp, .ref mb, .int (iI L), .ref m1, .ref m2, .ref m3, .ref mB, .ref mF, .ref mN, .ref mS, .int (iI sT), .ref mW, .long acc])), (mz, .inl (gI g, 326, .inl (aI (zF n ho h c)))), (m1, .inl (gI g, 8, .inl (aI sunX))), (m2, .inl (gI g, 8, .inl (aI sunY))), (m3, .inl (gI g, 8, .inl (aI sunS)))] [.ref qm, .int (iI m)] (S := Unit) (fun _ => True) (fun _ => shK n h m n) (fun _ => [(qm, .inr (5, [.int (iI 0), .ref mz, .ref ms, .int (iI hn), .ref mp, .ref mb, .int (iI L), .ref m1, .ref m2, .ref m3, .ref mB, .ref mF, .ref mN, .ref mS, .int (iI sT), .ref mW, .long acc])), (mz, .inl (gI g, 326, .inl (aI (zF n ho h c)))), (m1, .inl (gI g, 8, .inl (aI sunX))), (m2, .inl (gI g, 8, .inl (aI sunY))), (m3, .inl (gI g, 8, .inl (aI sunS)))]) := by
  refine mut_of (y := yX5_ifHour) (ws := wsX5_ifHour) (av := [.ref qm, .int (iI m)]) (w := [(qm, .inr (5, [.int (iI th), .ref mz, .ref ms, .int (iI hn), .ref mp, .ref mb, .int (iI L), .ref m1, .ref m2, .ref m3, .ref mB, .ref mF, .ref mN, .ref mS, .int (iI sT), .ref mW, .long acc])), (mz, .inl (gI g, 326, .inl (aI (zF n ho h c)))), (m1, .inl (gI g, 8, .inl (aI sunX))), (m2, .inl (gI g, 8, .inl (aI sunY))), (m3, .inl (gI g, 8, .inl (aI sunS)))]) (Qc := fun A => va_Qi (fun x9 (u9 : Unit) => x9 = iI ((fun _ => shK n h m n) u9) ∧ (fun _ => True) u9) (fun u9 t9 => MB g ((fun _ => [(qm, .inr (5, [.int (iI 0), .ref mz, .ref ms, .int (iI hn), .ref mp, .ref mb, .int (iI L), .ref m1, .ref m2, .ref m3, .ref mB, .ref mF, .ref mN, .ref mS, .int (iI sT), .ref mW, .long acc])), (mz, .inl (gI g, 326, .inl (aI (zF n ho h c)))), (m1, .inl (gI g, 8, .inl (aI sunX))), (m2, .inl (gI g, 8, .inl (aI sunY))), (m3, .inl (gI g, 8, .inl (aI sunS)))]) u9) A t9) A) (cc := cX5_ifHour) (maxL := 2) (ret := (some .int)) (by decide) rfl (Nat.le_of_ble_eq_true rfl) ?_
  intro pZ eZ sZ mZ bZ meZ cZ A F hin hA hP hD hE hS ls hl
  obtain ⟨hx, hb, hr, hml, hts, hown, hlk⟩ := F
  skip
  have hown : sZ.vm.findClass RX5 = some mZ.cls := hown
  have hl : lv_has ls 2 [(0, .ref qm), (1, .int (iI m))] := hl
  skip
  have w0 := hts (.fieldLink RX5 47 "SlantYardModel" "thrown" "I") (by decide +kernel)
  have in5 : ∀ w ∈ u_ws RX5 TX5 17, w ∈ wsX5_ifHour := by decide +kernel
  have hnn := hY.n
  have hho := hY.hr
  have hM9 : MOk (picM n h) := picM_ok hY
  have hI9 : MIn n h (picM n h) := picM_in hY
  refine lv_aload_n hx hb dX5_ifHour_0 rfl (lv_at hl 0 rfl) ?_
  refine lv_iload_n hx hb dX5_ifHour_1 rfl (lv_at hl 1 rfl) ?_
  refine lv_iconst (v := iI 0) hx hb dX5_ifHour_2 rfl ?_
  refine lv_bipush (v := iI 7) hx hb dX5_ifHour_3 (by decide) ?_
  refine pc_i (va_runS (As := [.int (iI m), .int (iI 0), .int (iI 7)]) (rest := [.ref qm]) ⟨hx, hb, hml, hown, hts⟩ (c_X5_in l g m 0 7 (by omega) (by omega) (by omega)) (va_cwS 3 hts gX5_ifHour_X5_in rfl rfl rfl (by decide +kernel) ⟨Nat.le_of_ble_eq_true rfl, Nat.le_of_ble_eq_true rfl⟩) (puS hE hS (va_P_nil g.1 _)) rfl rfl hl.1 rfl (lv_room (Nat.le_of_ble_eq_true rfl)) dX5_ifHour_5 ⟨Nat.le_of_ble_eq_true rfl, Nat.le_of_ble_eq_true rfl⟩) ?_
  refine lb_if_eq (tgt := 15) hx hb dX5_ifHour_8 (by decide) (fun c_1 => ?_) (fun c_1 => ?_)
  · exfalso; omega
  · skip
    refine lv_iconst (v := iI 0) hx hb dX5_ifHour_11 rfl ?_
    refine lv_goto (tgt := 16) hx hb dX5_ifHour_12 (by decide) ?_
    refine va_put (D := g.1) (ci := 5) (v := .int (iI 0)) (ty := .int) (C := RX5) (T := TX5) (N := 17) hx hb hts in5 tyX5 tyX5_ok nmX5 hown hE.1 hP hD hS 0 rfl rfl 0 (by decide) w0 (fun _ h9 => h9) rfl (by decide +kernel) rfl rfl (Nat.le_of_ble_eq_true rfl) dX5_ifHour_16 (fun H locs hP hD hS => ?_)
    have hP : va_P g.1 vwCl [(qm, .inr (5, [.int (iI 0), .ref mz, .ref ms, .int (iI hn), .ref mp, .ref mb, .int (iI L), .ref m1, .ref m2, .ref m3, .ref mB, .ref mF, .ref mN, .ref mS, .int (iI sT), .ref mW, .long acc])), (mz, .inl (gI g, 326, .inl (aI (zF n ho h c)))), (m1, .inl (gI g, 8, .inl (aI sunX))), (m2, .inl (gI g, 8, .inl (aI sunY))), (m3, .inl (gI g, 8, .inl (aI sunS)))] H := hP
    have hD : va_D A [(qm, .inr (5, [.int (iI 0), .ref mz, .ref ms, .int (iI hn), .ref mp, .ref mb, .int (iI L), .ref m1, .ref m2, .ref m3, .ref mB, .ref mF, .ref mN, .ref mS, .int (iI sT), .ref mW, .long acc])), (mz, .inl (gI g, 326, .inl (aI (zF n ho h c)))), (m1, .inl (gI g, 8, .inl (aI sunX))), (m2, .inl (gI g, 8, .inl (aI sunY))), (m3, .inl (gI g, 8, .inl (aI sunS)))] := hD
    refine lv_aload_n hx hb dX5_ifHour_19 rfl (lv_at hl 0 rfl) ?_
    refine va_get (D := g.1) (ci := 5) (v := .int (iI 0)) (C := RX5) (T := TX5) (N := 17) hx hb hts in5 hown hE.1 hP 0 rfl rfl 0 (by decide) w0 (fun _ h9 => h9) rfl dX5_ifHour_20 ?_
    refine ln_if_le (tgt := 30) hx hb dX5_ifHour_23 (by decide) (by decide) (fun c_2 => ?_) (fun c_2 => ?_)
    · skip
      refine lv_aload_n hx hb dX5_ifHour_30 rfl (lv_at hl 0 rfl) ?_
      refine lv_iload_n hx hb dX5_ifHour_31 rfl (lv_at hl 1 rfl) ?_
      have hPc_3 := hP.sub (ws' := [(qm, .inr (5, [.int (iI 0), .ref mz, .ref ms, .int (iI hn), .ref mp, .ref mb, .int (iI L), .ref m1, .ref m2, .ref m3, .ref mB, .ref mF, .ref mN, .ref mS, .int (iI sT), .ref mW, .long acc])), (mz, .inl (gI g, 326, .inl (aI (zF n ho h c)))), (m1, .inl (gI g, 8, .inl (aI sunX))), (m2, .inl (gI g, 8, .inl (aI sunY))), (m3, .inl (gI g, 8, .inl (aI sunS)))]) [0, 1, 2, 3, 4] rfl
      refine pc_i (va_runV (As := [.int (iI m)]) (rest := []) ⟨hx, hb, hml, hown, hts⟩ (c_X5_shaded l g qm 0 mz ms hn mp mb L m1 m2 m3 mB mF mN mS sT mW acc n ho h c m hY g1) (cwV 1 hts gX5_ifHour_X5_shaded rfl rfl rfl (by decide +kernel) ⟨Nat.le_of_ble_eq_true rfl, Nat.le_of_ble_eq_true rfl⟩) (puV hE hS hPc_3 rfl rfl) rfl rfl hl.1 rfl (lv_room (Nat.le_of_ble_eq_true rfl)) dX5_ifHour_32 ⟨Nat.le_of_ble_eq_true rfl, Nat.le_of_ble_eq_true rfl⟩) ?_
      have r_4 : 0 ≤ shK n h m n ∧ shK n h m n ≤ 36 := by have := YOk.n hY; have := @shK_rg n h m (by omega) n (by omega); omega
      have hP : va_P g.1 vwCl [(qm, .inr (5, [.int (iI 0), .ref mz, .ref ms, .int (iI hn), .ref mp, .ref mb, .int (iI L), .ref m1, .ref m2, .ref m3, .ref mB, .ref mF, .ref mN, .ref mS, .int (iI sT), .ref mW, .long acc])), (mz, .inl (gI g, 326, .inl (aI (zF n ho h c)))), (m1, .inl (gI g, 8, .inl (aI sunX))), (m2, .inl (gI g, 8, .inl (aI sunY))), (m3, .inl (gI g, 8, .inl (aI sunS)))] _ := hP
      have hD : va_D A [(qm, .inr (5, [.int (iI 0), .ref mz, .ref ms, .int (iI hn), .ref mp, .ref mb, .int (iI L), .ref m1, .ref m2, .ref m3, .ref mB, .ref mF, .ref mN, .ref mS, .int (iI sT), .ref mW, .long acc])), (mz, .inl (gI g, 326, .inl (aI (zF n ho h c)))), (m1, .inl (gI g, 8, .inl (aI sunX))), (m2, .inl (gI g, 8, .inl (aI sunY))), (m3, .inl (gI g, 8, .inl (aI sunS)))] := hD
      exact mend_i (S := Unit) (w' := (fun _ => [(qm, .inr (5, [.int (iI 0), .ref mz, .ref ms, .int (iI hn), .ref mp, .ref mb, .int (iI L), .ref m1, .ref m2, .ref m3, .ref mB, .ref mF, .ref mN, .ref mS, .int (iI sT), .ref mW, .long acc])), (mz, .inl (gI g, 326, .inl (aI (zF n ho h c)))), (m1, .inl (gI g, 8, .inl (aI sunX))), (m2, .inl (gI g, 8, .inl (aI sunY))), (m3, .inl (gI g, 8, .inl (aI sunS)))])) (post := (fun _ => True)) (r := (fun _ => shK n h m n)) hx hb hr hlk hS () hP hD (trivial) (by rfl) (Nat.le_of_ble_eq_true rfl) (Nat.le_of_ble_eq_true rfl) dX5_ifHour_35
    · exfalso; omega
set_option maxHeartbeats 800000 in
set_option maxRecDepth 100000 in
theorem c_X5_ifHour_x (l : Launch) (g : GT) (qm : Nat) (th : Int) (mz : Nat) (ms : Nat) (hn : Int) (mp : Nat) (mb : Nat) (L : Int) (m1 : Nat) (m2 : Nat) (m3 : Nat) (mB : Nat) (mF : Nat) (mN : Nat) (mS : Nat) (sT : Int) (mW : Nat) (acc : Int64) (m : Int) (gm : Rg m) (g1 : m < 0 ∨ 7 < m) : MutI l yX5_ifHour wsX5_ifHour ({ frames := 1, cells := 0, slots := 0, locals := 22 }) 0 0 g [(qm, .inr (5, [.int (iI th), .ref mz, .ref ms, .int (iI hn), .ref mp, .ref mb, .int (iI L), .ref m1, .ref m2, .ref m3, .ref mB, .ref mF, .ref mN, .ref mS, .int (iI sT), .ref mW, .long acc]))] [.ref qm, .int (iI m)] (S := Unit) (fun _ => True) (fun _ => 0) (fun _ => [(qm, .inr (5, [.int (iI 1), .ref mz, .ref ms, .int (iI hn), .ref mp, .ref mb, .int (iI L), .ref m1, .ref m2, .ref m3, .ref mB, .ref mF, .ref mN, .ref mS, .int (iI sT), .ref mW, .long acc]))]) := by
  refine mut_of (y := yX5_ifHour) (ws := wsX5_ifHour) (av := [.ref qm, .int (iI m)]) (w := [(qm, .inr (5, [.int (iI th), .ref mz, .ref ms, .int (iI hn), .ref mp, .ref mb, .int (iI L), .ref m1, .ref m2, .ref m3, .ref mB, .ref mF, .ref mN, .ref mS, .int (iI sT), .ref mW, .long acc]))]) (Qc := fun A => va_Qi (fun x9 (u9 : Unit) => x9 = iI ((fun _ => 0) u9) ∧ (fun _ => True) u9) (fun u9 t9 => MB g ((fun _ => [(qm, .inr (5, [.int (iI 1), .ref mz, .ref ms, .int (iI hn), .ref mp, .ref mb, .int (iI L), .ref m1, .ref m2, .ref m3, .ref mB, .ref mF, .ref mN, .ref mS, .int (iI sT), .ref mW, .long acc]))]) u9) A t9) A) (cc := cX5_ifHour) (maxL := 2) (ret := (some .int)) (by decide) rfl (Nat.le_of_ble_eq_true rfl) ?_
  intro pZ eZ sZ mZ bZ meZ cZ A F hin hA hP hD hE hS ls hl
  obtain ⟨hx, hb, hr, hml, hts, hown, hlk⟩ := F
  skip
  have hown : sZ.vm.findClass RX5 = some mZ.cls := hown
  have hl : lv_has ls 2 [(0, .ref qm), (1, .int (iI m))] := hl
  skip
  have w0 := hts (.fieldLink RX5 47 "SlantYardModel" "thrown" "I") (by decide +kernel)
  have in5 : ∀ w ∈ u_ws RX5 TX5 17, w ∈ wsX5_ifHour := by decide +kernel
  refine lv_aload_n hx hb dX5_ifHour_0 rfl (lv_at hl 0 rfl) ?_
  refine lv_iload_n hx hb dX5_ifHour_1 rfl (lv_at hl 1 rfl) ?_
  refine lv_iconst (v := iI 0) hx hb dX5_ifHour_2 rfl ?_
  refine lv_bipush (v := iI 7) hx hb dX5_ifHour_3 (by decide) ?_
  refine pc_i (va_runS (As := [.int (iI m), .int (iI 0), .int (iI 7)]) (rest := [.ref qm]) ⟨hx, hb, hml, hown, hts⟩ (c_X5_in l g m 0 7 gm (by omega) (by omega)) (va_cwS 3 hts gX5_ifHour_X5_in rfl rfl rfl (by decide +kernel) ⟨Nat.le_of_ble_eq_true rfl, Nat.le_of_ble_eq_true rfl⟩) (puS hE hS (va_P_nil g.1 _)) rfl rfl hl.1 rfl (lv_room (Nat.le_of_ble_eq_true rfl)) dX5_ifHour_5 ⟨Nat.le_of_ble_eq_true rfl, Nat.le_of_ble_eq_true rfl⟩) ?_
  refine lb_if_eq (tgt := 15) hx hb dX5_ifHour_8 (by decide) (fun c_1 => ?_) (fun c_1 => ?_)
  · skip
    refine lv_iconst (v := iI 1) hx hb dX5_ifHour_15 rfl ?_
    refine va_put (D := g.1) (ci := 5) (v := .int (iI 1)) (ty := .int) (C := RX5) (T := TX5) (N := 17) hx hb hts in5 tyX5 tyX5_ok nmX5 hown hE.1 hP hD hS 0 rfl rfl 0 (by decide) w0 (fun _ h9 => h9) rfl (by decide +kernel) rfl rfl (Nat.le_of_ble_eq_true rfl) dX5_ifHour_16 (fun H locs hP hD hS => ?_)
    have hP : va_P g.1 vwCl [(qm, .inr (5, [.int (iI 1), .ref mz, .ref ms, .int (iI hn), .ref mp, .ref mb, .int (iI L), .ref m1, .ref m2, .ref m3, .ref mB, .ref mF, .ref mN, .ref mS, .int (iI sT), .ref mW, .long acc]))] H := hP
    have hD : va_D A [(qm, .inr (5, [.int (iI 1), .ref mz, .ref ms, .int (iI hn), .ref mp, .ref mb, .int (iI L), .ref m1, .ref m2, .ref m3, .ref mB, .ref mF, .ref mN, .ref mS, .int (iI sT), .ref mW, .long acc]))] := hD
    refine lv_aload_n hx hb dX5_ifHour_19 rfl (lv_at hl 0 rfl) ?_
    refine va_get (D := g.1) (ci := 5) (v := .int (iI 1)) (C := RX5) (T := TX5) (N := 17) hx hb hts in5 hown hE.1 hP 0 rfl rfl 0 (by decide) w0 (fun _ h9 => h9) rfl dX5_ifHour_20 ?_
    refine ln_if_le (tgt := 30) hx hb dX5_ifHour_23 (by decide) (by decide) (fun c_2 => ?_) (fun c_2 => ?_)
    · exfalso; omega
    · skip
      refine lv_iconst (v := iI 0) hx hb dX5_ifHour_26 rfl ?_
      refine lv_goto (tgt := 35) hx hb dX5_ifHour_27 (by decide) ?_
      have hP : va_P g.1 vwCl [(qm, .inr (5, [.int (iI 1), .ref mz, .ref ms, .int (iI hn), .ref mp, .ref mb, .int (iI L), .ref m1, .ref m2, .ref m3, .ref mB, .ref mF, .ref mN, .ref mS, .int (iI sT), .ref mW, .long acc]))] _ := hP
      have hD : va_D A [(qm, .inr (5, [.int (iI 1), .ref mz, .ref ms, .int (iI hn), .ref mp, .ref mb, .int (iI L), .ref m1, .ref m2, .ref m3, .ref mB, .ref mF, .ref mN, .ref mS, .int (iI sT), .ref mW, .long acc]))] := hD
      exact mend_i (S := Unit) (w' := (fun _ => [(qm, .inr (5, [.int (iI 1), .ref mz, .ref ms, .int (iI hn), .ref mp, .ref mb, .int (iI L), .ref m1, .ref m2, .ref m3, .ref mB, .ref mF, .ref mN, .ref mS, .int (iI sT), .ref mW, .long acc]))])) (post := (fun _ => True)) (r := (fun _ => 0)) hx hb hr hlk hS () hP hD (trivial) (by first | rfl | omega | (split <;> omega)) (Nat.le_of_ble_eq_true rfl) (Nat.le_of_ble_eq_true rfl) dX5_ifHour_35
  · exfalso; omega
set_option maxHeartbeats 800000 in
set_option maxRecDepth 100000 in
theorem c_X5_same_ok (l : Launch) (g : GT) (qm : Nat) (th : Int) (mz : Nat) (ms : Nat) (hn : Int) (mp : Nat) (mb : Nat) (L : Int) (m1 : Nat) (m2 : Nat) (m3 : Nat) (mB : Nat) (mF : Nat) (mN : Nat) (mS : Nat) (sT : Int) (mW : Nat) (acc : Int64) (n : Int) (ho : Int) (h : Int → Int) (c : Int → Int) (w : Int) (hY : YOk n ho h c) (gw : 0 ≤ w ∧ w ≤ 1) : MutI l yX5_same wsX5_same ({ frames := 5, cells := 0, slots := 0, locals := 115 }) 0 0 g [(qm, .inr (5, [.int (iI th), .ref mz, .ref ms, .int (iI hn), .ref mp, .ref mb, .int (iI L), .ref m1, .ref m2, .ref m3, .ref mB, .ref mF, .ref mN, .ref mS, .int (iI sT), .ref mW, .long acc])), (mz, .inl (gI g, 326, .inl (aI (zF n ho h c))))] [.ref qm, .int (iI w)] (S := Unit) (fun _ => True) (fun _ => sameV n h w) (fun _ => [(qm, .inr (5, [.int (iI 0), .ref mz, .ref ms, .int (iI hn), .ref mp, .ref mb, .int (iI L), .ref m1, .ref m2, .ref m3, .ref mB, .ref mF, .ref mN, .ref mS, .int (iI sT), .ref mW, .long acc])), (mz, .inl (gI g, 326, .inl (aI (zF n ho h c))))]) := by
  refine mut_of (y := yX5_same) (ws := wsX5_same) (av := [.ref qm, .int (iI w)]) (w := [(qm, .inr (5, [.int (iI th), .ref mz, .ref ms, .int (iI hn), .ref mp, .ref mb, .int (iI L), .ref m1, .ref m2, .ref m3, .ref mB, .ref mF, .ref mN, .ref mS, .int (iI sT), .ref mW, .long acc])), (mz, .inl (gI g, 326, .inl (aI (zF n ho h c))))]) (Qc := fun A => va_Qi (fun x9 (u9 : Unit) => x9 = iI ((fun _ => sameV n h w) u9) ∧ (fun _ => True) u9) (fun u9 t9 => MB g ((fun _ => [(qm, .inr (5, [.int (iI 0), .ref mz, .ref ms, .int (iI hn), .ref mp, .ref mb, .int (iI L), .ref m1, .ref m2, .ref m3, .ref mB, .ref mF, .ref mN, .ref mS, .int (iI sT), .ref mW, .long acc])), (mz, .inl (gI g, 326, .inl (aI (zF n ho h c))))]) u9) A t9) A) (cc := cX5_same) (maxL := 2) (ret := (some .int)) (by decide) rfl (Nat.le_of_ble_eq_true rfl) ?_
  intro pZ eZ sZ mZ bZ meZ cZ A F hin hA hP hD hE hS ls hl
  obtain ⟨hx, hb, hr, hml, hts, hown, hlk⟩ := F
  skip
  have hown : sZ.vm.findClass RX5 = some mZ.cls := hown
  have hl : lv_has ls 2 [(0, .ref qm), (1, .int (iI w))] := hl
  skip
  have w0 := hts (.fieldLink RX5 47 "SlantYardModel" "thrown" "I") (by decide +kernel)
  have in5 : ∀ w ∈ u_ws RX5 TX5 17, w ∈ wsX5_same := by decide +kernel
  have hnn := hY.n
  have hho := hY.hr
  have hM9 : MOk (picM n h) := picM_ok hY
  have hI9 : MIn n h (picM n h) := picM_in hY
  refine lv_aload_n hx hb dX5_same_0 rfl (lv_at hl 0 rfl) ?_
  refine lv_iload_n hx hb dX5_same_1 rfl (lv_at hl 1 rfl) ?_
  refine lv_iconst (v := iI 0) hx hb dX5_same_2 rfl ?_
  refine lv_iconst (v := iI 1) hx hb dX5_same_3 rfl ?_
  refine pc_i (va_runS (As := [.int (iI w), .int (iI 0), .int (iI 1)]) (rest := [.ref qm]) ⟨hx, hb, hml, hown, hts⟩ (c_X5_in l g w 0 1 (by omega) (by omega) (by omega)) (va_cwS 3 hts gX5_same_X5_in rfl rfl rfl (by decide +kernel) ⟨Nat.le_of_ble_eq_true rfl, Nat.le_of_ble_eq_true rfl⟩) (puS hE hS (va_P_nil g.1 _)) rfl rfl hl.1 rfl (lv_room (Nat.le_of_ble_eq_true rfl)) dX5_same_4 ⟨Nat.le_of_ble_eq_true rfl, Nat.le_of_ble_eq_true rfl⟩) ?_
  refine lb_if_eq (tgt := 14) hx hb dX5_same_7 (by decide) (fun c_1 => ?_) (fun c_1 => ?_)
  · exfalso; omega
  · skip
    refine lv_iconst (v := iI 0) hx hb dX5_same_10 rfl ?_
    refine lv_goto (tgt := 15) hx hb dX5_same_11 (by decide) ?_
    refine va_put (D := g.1) (ci := 5) (v := .int (iI 0)) (ty := .int) (C := RX5) (T := TX5) (N := 17) hx hb hts in5 tyX5 tyX5_ok nmX5 hown hE.1 hP hD hS 0 rfl rfl 0 (by decide) w0 (fun _ h9 => h9) rfl (by decide +kernel) rfl rfl (Nat.le_of_ble_eq_true rfl) dX5_same_15 (fun H locs hP hD hS => ?_)
    have hP : va_P g.1 vwCl [(qm, .inr (5, [.int (iI 0), .ref mz, .ref ms, .int (iI hn), .ref mp, .ref mb, .int (iI L), .ref m1, .ref m2, .ref m3, .ref mB, .ref mF, .ref mN, .ref mS, .int (iI sT), .ref mW, .long acc])), (mz, .inl (gI g, 326, .inl (aI (zF n ho h c))))] H := hP
    have hD : va_D A [(qm, .inr (5, [.int (iI 0), .ref mz, .ref ms, .int (iI hn), .ref mp, .ref mb, .int (iI L), .ref m1, .ref m2, .ref m3, .ref mB, .ref mF, .ref mN, .ref mS, .int (iI sT), .ref mW, .long acc])), (mz, .inl (gI g, 326, .inl (aI (zF n ho h c))))] := hD
    refine lv_aload_n hx hb dX5_same_18 rfl (lv_at hl 0 rfl) ?_
    refine va_get (D := g.1) (ci := 5) (v := .int (iI 0)) (C := RX5) (T := TX5) (N := 17) hx hb hts in5 hown hE.1 hP 0 rfl rfl 0 (by decide) w0 (fun _ h9 => h9) rfl dX5_same_19 ?_
    refine ln_if_le (tgt := 29) hx hb dX5_same_22 (by decide) (by decide) (fun c_2 => ?_) (fun c_2 => ?_)
    · skip
      refine lv_aload_n hx hb dX5_same_29 rfl (lv_at hl 0 rfl) ?_
      refine lv_iload_n hx hb dX5_same_30 rfl (lv_at hl 1 rfl) ?_
      have hPc_3 := hP.sub (ws' := [(qm, .inr (5, [.int (iI 0), .ref mz, .ref ms, .int (iI hn), .ref mp, .ref mb, .int (iI L), .ref m1, .ref m2, .ref m3, .ref mB, .ref mF, .ref mN, .ref mS, .int (iI sT), .ref mW, .long acc])), (mz, .inl (gI g, 326, .inl (aI (zF n ho h c))))]) [0, 1] rfl
      refine pc_i (va_runV (As := [.int (iI w)]) (rest := []) ⟨hx, hb, hml, hown, hts⟩ (c_X5_alike l g qm 0 mz ms hn mp mb L m1 m2 m3 mB mF mN mS sT mW acc n ho h c w hY gw) (cwV 1 hts gX5_same_X5_alike rfl rfl rfl (by decide +kernel) ⟨Nat.le_of_ble_eq_true rfl, Nat.le_of_ble_eq_true rfl⟩) (puV hE hS hPc_3 rfl rfl) rfl rfl hl.1 rfl (lv_room (Nat.le_of_ble_eq_true rfl)) dX5_same_31 ⟨Nat.le_of_ble_eq_true rfl, Nat.le_of_ble_eq_true rfl⟩) ?_
      have hP : va_P g.1 vwCl [(qm, .inr (5, [.int (iI 0), .ref mz, .ref ms, .int (iI hn), .ref mp, .ref mb, .int (iI L), .ref m1, .ref m2, .ref m3, .ref mB, .ref mF, .ref mN, .ref mS, .int (iI sT), .ref mW, .long acc])), (mz, .inl (gI g, 326, .inl (aI (zF n ho h c))))] _ := hP
      have hD : va_D A [(qm, .inr (5, [.int (iI 0), .ref mz, .ref ms, .int (iI hn), .ref mp, .ref mb, .int (iI L), .ref m1, .ref m2, .ref m3, .ref mB, .ref mF, .ref mN, .ref mS, .int (iI sT), .ref mW, .long acc])), (mz, .inl (gI g, 326, .inl (aI (zF n ho h c))))] := hD
      exact mend_i (S := Unit) (w' := (fun _ => [(qm, .inr (5, [.int (iI 0), .ref mz, .ref ms, .int (iI hn), .ref mp, .ref mb, .int (iI L), .ref m1, .ref m2, .ref m3, .ref mB, .ref mF, .ref mN, .ref mS, .int (iI sT), .ref mW, .long acc])), (mz, .inl (gI g, 326, .inl (aI (zF n ho h c))))])) (post := (fun _ => True)) (r := (fun _ => sameV n h w)) hx hb hr hlk hS () hP hD (trivial) (by rfl) (Nat.le_of_ble_eq_true rfl) (Nat.le_of_ble_eq_true rfl) dX5_same_34
    · exfalso; omega
set_option maxHeartbeats 800000 in
set_option maxRecDepth 100000 in
theorem c_X5_same_x (l : Launch) (g : GT) (qm : Nat) (th : Int) (mz : Nat) (ms : Nat) (hn : Int) (mp : Nat) (mb : Nat) (L : Int) (m1 : Nat) (m2 : Nat) (m3 : Nat) (mB : Nat) (mF : Nat) (mN : Nat) (mS : Nat) (sT : Int) (mW : Nat) (acc : Int64) (w : Int) (gw : Rg w) (g1 : w < 0 ∨ 1 < w) : MutI l yX5_same wsX5_same ({ frames := 1, cells := 0, slots := 0, locals := 22 }) 0 0 g [(qm, .inr (5, [.int (iI th), .ref mz, .ref ms, .int (iI hn), .ref mp, .ref mb, .int (iI L), .ref m1, .ref m2, .ref m3, .ref mB, .ref mF, .ref mN, .ref mS, .int (iI sT), .ref mW, .long acc]))] [.ref qm, .int (iI w)] (S := Unit) (fun _ => True) (fun _ => 0) (fun _ => [(qm, .inr (5, [.int (iI 1), .ref mz, .ref ms, .int (iI hn), .ref mp, .ref mb, .int (iI L), .ref m1, .ref m2, .ref m3, .ref mB, .ref mF, .ref mN, .ref mS, .int (iI sT), .ref mW, .long acc]))]) := by
  refine mut_of (y := yX5_same) (ws := wsX5_same) (av := [.ref qm, .int (iI w)]) (w := [(qm, .inr (5, [.int (iI th), .ref mz, .ref ms, .int (iI hn), .ref mp, .ref mb, .int (iI L), .ref m1, .ref m2, .ref m3, .ref mB, .ref mF, .ref mN, .ref mS, .int (iI sT), .ref mW, .long acc]))]) (Qc := fun A => va_Qi (fun x9 (u9 : Unit) => x9 = iI ((fun _ => 0) u9) ∧ (fun _ => True) u9) (fun u9 t9 => MB g ((fun _ => [(qm, .inr (5, [.int (iI 1), .ref mz, .ref ms, .int (iI hn), .ref mp, .ref mb, .int (iI L), .ref m1, .ref m2, .ref m3, .ref mB, .ref mF, .ref mN, .ref mS, .int (iI sT), .ref mW, .long acc]))]) u9) A t9) A) (cc := cX5_same) (maxL := 2) (ret := (some .int)) (by decide) rfl (Nat.le_of_ble_eq_true rfl) ?_
  intro pZ eZ sZ mZ bZ meZ cZ A F hin hA hP hD hE hS ls hl
  obtain ⟨hx, hb, hr, hml, hts, hown, hlk⟩ := F
  skip
  have hown : sZ.vm.findClass RX5 = some mZ.cls := hown
  have hl : lv_has ls 2 [(0, .ref qm), (1, .int (iI w))] := hl
  skip
  have w0 := hts (.fieldLink RX5 47 "SlantYardModel" "thrown" "I") (by decide +kernel)
  have in5 : ∀ w ∈ u_ws RX5 TX5 17, w ∈ wsX5_same := by decide +kernel
  refine lv_aload_n hx hb dX5_same_0 rfl (lv_at hl 0 rfl) ?_
  refine lv_iload_n hx hb dX5_same_1 rfl (lv_at hl 1 rfl) ?_
  refine lv_iconst (v := iI 0) hx hb dX5_same_2 rfl ?_
  refine lv_iconst (v := iI 1) hx hb dX5_same_3 rfl ?_
  refine pc_i (va_runS (As := [.int (iI w), .int (iI 0), .int (iI 1)]) (rest := [.ref qm]) ⟨hx, hb, hml, hown, hts⟩ (c_X5_in l g w 0 1 gw (by omega) (by omega)) (va_cwS 3 hts gX5_same_X5_in rfl rfl rfl (by decide +kernel) ⟨Nat.le_of_ble_eq_true rfl, Nat.le_of_ble_eq_true rfl⟩) (puS hE hS (va_P_nil g.1 _)) rfl rfl hl.1 rfl (lv_room (Nat.le_of_ble_eq_true rfl)) dX5_same_4 ⟨Nat.le_of_ble_eq_true rfl, Nat.le_of_ble_eq_true rfl⟩) ?_
  refine lb_if_eq (tgt := 14) hx hb dX5_same_7 (by decide) (fun c_1 => ?_) (fun c_1 => ?_)
  · skip
    refine lv_iconst (v := iI 1) hx hb dX5_same_14 rfl ?_
    refine va_put (D := g.1) (ci := 5) (v := .int (iI 1)) (ty := .int) (C := RX5) (T := TX5) (N := 17) hx hb hts in5 tyX5 tyX5_ok nmX5 hown hE.1 hP hD hS 0 rfl rfl 0 (by decide) w0 (fun _ h9 => h9) rfl (by decide +kernel) rfl rfl (Nat.le_of_ble_eq_true rfl) dX5_same_15 (fun H locs hP hD hS => ?_)
    have hP : va_P g.1 vwCl [(qm, .inr (5, [.int (iI 1), .ref mz, .ref ms, .int (iI hn), .ref mp, .ref mb, .int (iI L), .ref m1, .ref m2, .ref m3, .ref mB, .ref mF, .ref mN, .ref mS, .int (iI sT), .ref mW, .long acc]))] H := hP
    have hD : va_D A [(qm, .inr (5, [.int (iI 1), .ref mz, .ref ms, .int (iI hn), .ref mp, .ref mb, .int (iI L), .ref m1, .ref m2, .ref m3, .ref mB, .ref mF, .ref mN, .ref mS, .int (iI sT), .ref mW, .long acc]))] := hD
    refine lv_aload_n hx hb dX5_same_18 rfl (lv_at hl 0 rfl) ?_
    refine va_get (D := g.1) (ci := 5) (v := .int (iI 1)) (C := RX5) (T := TX5) (N := 17) hx hb hts in5 hown hE.1 hP 0 rfl rfl 0 (by decide) w0 (fun _ h9 => h9) rfl dX5_same_19 ?_
    refine ln_if_le (tgt := 29) hx hb dX5_same_22 (by decide) (by decide) (fun c_2 => ?_) (fun c_2 => ?_)
    · exfalso; omega
    · skip
      refine lv_iconst (v := iI 0) hx hb dX5_same_25 rfl ?_
      refine lv_goto (tgt := 34) hx hb dX5_same_26 (by decide) ?_
      have hP : va_P g.1 vwCl [(qm, .inr (5, [.int (iI 1), .ref mz, .ref ms, .int (iI hn), .ref mp, .ref mb, .int (iI L), .ref m1, .ref m2, .ref m3, .ref mB, .ref mF, .ref mN, .ref mS, .int (iI sT), .ref mW, .long acc]))] _ := hP
      have hD : va_D A [(qm, .inr (5, [.int (iI 1), .ref mz, .ref ms, .int (iI hn), .ref mp, .ref mb, .int (iI L), .ref m1, .ref m2, .ref m3, .ref mB, .ref mF, .ref mN, .ref mS, .int (iI sT), .ref mW, .long acc]))] := hD
      exact mend_i (S := Unit) (w' := (fun _ => [(qm, .inr (5, [.int (iI 1), .ref mz, .ref ms, .int (iI hn), .ref mp, .ref mb, .int (iI L), .ref m1, .ref m2, .ref m3, .ref mB, .ref mF, .ref mN, .ref mS, .int (iI sT), .ref mW, .long acc]))])) (post := (fun _ => True)) (r := (fun _ => 0)) hx hb hr hlk hS () hP hD (trivial) (by first | rfl | omega | (split <;> omega)) (Nat.le_of_ble_eq_true rfl) (Nat.le_of_ble_eq_true rfl) dX5_same_34
  · exfalso; omega
set_option maxHeartbeats 800000 in
set_option maxRecDepth 100000 in
theorem c_X5_count_ok (l : Launch) (g : GT) (qm : Nat) (th : Int) (mz : Nat) (ms : Nat) (hn : Int) (mp : Nat) (mb : Nat) (L : Int) (m1 : Nat) (m2 : Nat) (m3 : Nat) (mB : Nat) (mF : Nat) (mN : Nat) (mS : Nat) (sT : Int) (mW : Nat) (acc : Int64) (n : Int) (ho : Int) (h : Int → Int) (c : Int → Int) (B0 : Int → Int) (G : Int → Int) (N : Int → Int) (S0 : Int → Int) (w : Int) (hY : YOk n ho h c) (gw : 0 ≤ w ∧ w ≤ 12) : MutI l yX5_count wsX5_count ({ frames := 5, cells := 0, slots := 0, locals := 120 }) 0 0 g [(qm, .inr (5, [.int (iI th), .ref mz, .ref ms, .int (iI hn), .ref mp, .ref mb, .int (iI L), .ref m1, .ref m2, .ref m3, .ref mB, .ref mF, .ref mN, .ref mS, .int (iI sT), .ref mW, .long acc])), (mz, .inl (gI g, 326, .inl (aI (zF n ho h c)))), (mB, .inl (gI g, 512, .inl (aI B0))), (mF, .inl (gI g, 512, .inl (aI G))), (mN, .inl (gI g, 512, .inl (aI N))), (mS, .inl (gI g, 864, .inl (aI S0))), (m1, .inl (gI g, 8, .inl (aI sunX))), (m2, .inl (gI g, 8, .inl (aI sunY))), (m3, .inl (gI g, 8, .inl (aI sunS)))] [.ref qm, .int (iI w)] (S := (Int → Int) × (Int → Int) × (Int → Int) × (Int → Int)) (fun (u9 : (Int → Int) × (Int → Int) × (Int → Int) × (Int → Int)) => match u9 with | (B2, G2, N2, S2) => True) (fun (u9 : (Int → Int) × (Int → Int) × (Int → Int) × (Int → Int)) => match u9 with | (B2, G2, N2, S2) => cntV n ho h c hn w) (fun (u9 : (Int → Int) × (Int → Int) × (Int → Int) × (Int → Int)) => match u9 with | (B2, G2, N2, S2) => [(qm, .inr (5, [.int (iI 0), .ref mz, .ref ms, .int (iI hn), .ref mp, .ref mb, .int (iI L), .ref m1, .ref m2, .ref m3, .ref mB, .ref mF, .ref mN, .ref mS, .int (iI sT), .ref mW, .long acc])), (mz, .inl (gI g, 326, .inl (aI (zF n ho h c)))), (mB, .inl (gI g, 512, .inl (aI B2))), (mF, .inl (gI g, 512, .inl (aI G2))), (mN, .inl (gI g, 512, .inl (aI N2))), (mS, .inl (gI g, 864, .inl (aI S2))), (m1, .inl (gI g, 8, .inl (aI sunX))), (m2, .inl (gI g, 8, .inl (aI sunY))), (m3, .inl (gI g, 8, .inl (aI sunS)))]) := by
  refine mut_of (y := yX5_count) (ws := wsX5_count) (av := [.ref qm, .int (iI w)]) (w := [(qm, .inr (5, [.int (iI th), .ref mz, .ref ms, .int (iI hn), .ref mp, .ref mb, .int (iI L), .ref m1, .ref m2, .ref m3, .ref mB, .ref mF, .ref mN, .ref mS, .int (iI sT), .ref mW, .long acc])), (mz, .inl (gI g, 326, .inl (aI (zF n ho h c)))), (mB, .inl (gI g, 512, .inl (aI B0))), (mF, .inl (gI g, 512, .inl (aI G))), (mN, .inl (gI g, 512, .inl (aI N))), (mS, .inl (gI g, 864, .inl (aI S0))), (m1, .inl (gI g, 8, .inl (aI sunX))), (m2, .inl (gI g, 8, .inl (aI sunY))), (m3, .inl (gI g, 8, .inl (aI sunS)))]) (Qc := fun A => va_Qi (fun x9 (u9 : (Int → Int) × (Int → Int) × (Int → Int) × (Int → Int)) => x9 = iI ((fun (u9 : (Int → Int) × (Int → Int) × (Int → Int) × (Int → Int)) => match u9 with | (B2, G2, N2, S2) => cntV n ho h c hn w) u9) ∧ (fun (u9 : (Int → Int) × (Int → Int) × (Int → Int) × (Int → Int)) => match u9 with | (B2, G2, N2, S2) => True) u9) (fun u9 t9 => MB g ((fun (u9 : (Int → Int) × (Int → Int) × (Int → Int) × (Int → Int)) => match u9 with | (B2, G2, N2, S2) => [(qm, .inr (5, [.int (iI 0), .ref mz, .ref ms, .int (iI hn), .ref mp, .ref mb, .int (iI L), .ref m1, .ref m2, .ref m3, .ref mB, .ref mF, .ref mN, .ref mS, .int (iI sT), .ref mW, .long acc])), (mz, .inl (gI g, 326, .inl (aI (zF n ho h c)))), (mB, .inl (gI g, 512, .inl (aI B2))), (mF, .inl (gI g, 512, .inl (aI G2))), (mN, .inl (gI g, 512, .inl (aI N2))), (mS, .inl (gI g, 864, .inl (aI S2))), (m1, .inl (gI g, 8, .inl (aI sunX))), (m2, .inl (gI g, 8, .inl (aI sunY))), (m3, .inl (gI g, 8, .inl (aI sunS)))]) u9) A t9) A) (cc := cX5_count) (maxL := 2) (ret := (some .int)) (by decide) rfl (Nat.le_of_ble_eq_true rfl) ?_
  intro pZ eZ sZ mZ bZ meZ cZ A F hin hA hP hD hE hS ls hl
  obtain ⟨hx, hb, hr, hml, hts, hown, hlk⟩ := F
  skip
  have hown : sZ.vm.findClass RX5 = some mZ.cls := hown
  have hl : lv_has ls 2 [(0, .ref qm), (1, .int (iI w))] := hl
  skip
  have w0 := hts (.fieldLink RX5 47 "SlantYardModel" "thrown" "I") (by decide +kernel)
  have in5 : ∀ w ∈ u_ws RX5 TX5 17, w ∈ wsX5_count := by decide +kernel
  have hnn := hY.n
  have hho := hY.hr
  have hM9 : MOk (picM n h) := picM_ok hY
  have hI9 : MIn n h (picM n h) := picM_in hY
  refine lv_aload_n hx hb dX5_count_0 rfl (lv_at hl 0 rfl) ?_
  refine lv_iload_n hx hb dX5_count_1 rfl (lv_at hl 1 rfl) ?_
  refine lv_iconst (v := iI 0) hx hb dX5_count_2 rfl ?_
  refine lv_bipush (v := iI 12) hx hb dX5_count_3 (by decide) ?_
  refine pc_i (va_runS (As := [.int (iI w), .int (iI 0), .int (iI 12)]) (rest := [.ref qm]) ⟨hx, hb, hml, hown, hts⟩ (c_X5_in l g w 0 12 (by omega) (by omega) (by omega)) (va_cwS 3 hts gX5_count_X5_in rfl rfl rfl (by decide +kernel) ⟨Nat.le_of_ble_eq_true rfl, Nat.le_of_ble_eq_true rfl⟩) (puS hE hS (va_P_nil g.1 _)) rfl rfl hl.1 rfl (lv_room (Nat.le_of_ble_eq_true rfl)) dX5_count_5 ⟨Nat.le_of_ble_eq_true rfl, Nat.le_of_ble_eq_true rfl⟩) ?_
  refine lb_if_eq (tgt := 15) hx hb dX5_count_8 (by decide) (fun c_1 => ?_) (fun c_1 => ?_)
  · exfalso; omega
  · skip
    refine lv_iconst (v := iI 0) hx hb dX5_count_11 rfl ?_
    refine lv_goto (tgt := 16) hx hb dX5_count_12 (by decide) ?_
    refine va_put (D := g.1) (ci := 5) (v := .int (iI 0)) (ty := .int) (C := RX5) (T := TX5) (N := 17) hx hb hts in5 tyX5 tyX5_ok nmX5 hown hE.1 hP hD hS 0 rfl rfl 0 (by decide) w0 (fun _ h9 => h9) rfl (by decide +kernel) rfl rfl (Nat.le_of_ble_eq_true rfl) dX5_count_16 (fun H locs hP hD hS => ?_)
    have hP : va_P g.1 vwCl [(qm, .inr (5, [.int (iI 0), .ref mz, .ref ms, .int (iI hn), .ref mp, .ref mb, .int (iI L), .ref m1, .ref m2, .ref m3, .ref mB, .ref mF, .ref mN, .ref mS, .int (iI sT), .ref mW, .long acc])), (mz, .inl (gI g, 326, .inl (aI (zF n ho h c)))), (mB, .inl (gI g, 512, .inl (aI B0))), (mF, .inl (gI g, 512, .inl (aI G))), (mN, .inl (gI g, 512, .inl (aI N))), (mS, .inl (gI g, 864, .inl (aI S0))), (m1, .inl (gI g, 8, .inl (aI sunX))), (m2, .inl (gI g, 8, .inl (aI sunY))), (m3, .inl (gI g, 8, .inl (aI sunS)))] H := hP
    have hD : va_D A [(qm, .inr (5, [.int (iI 0), .ref mz, .ref ms, .int (iI hn), .ref mp, .ref mb, .int (iI L), .ref m1, .ref m2, .ref m3, .ref mB, .ref mF, .ref mN, .ref mS, .int (iI sT), .ref mW, .long acc])), (mz, .inl (gI g, 326, .inl (aI (zF n ho h c)))), (mB, .inl (gI g, 512, .inl (aI B0))), (mF, .inl (gI g, 512, .inl (aI G))), (mN, .inl (gI g, 512, .inl (aI N))), (mS, .inl (gI g, 864, .inl (aI S0))), (m1, .inl (gI g, 8, .inl (aI sunX))), (m2, .inl (gI g, 8, .inl (aI sunY))), (m3, .inl (gI g, 8, .inl (aI sunS)))] := hD
    refine lv_aload_n hx hb dX5_count_19 rfl (lv_at hl 0 rfl) ?_
    refine va_get (D := g.1) (ci := 5) (v := .int (iI 0)) (C := RX5) (T := TX5) (N := 17) hx hb hts in5 hown hE.1 hP 0 rfl rfl 0 (by decide) w0 (fun _ h9 => h9) rfl dX5_count_20 ?_
    refine ln_if_le (tgt := 30) hx hb dX5_count_23 (by decide) (by decide) (fun c_2 => ?_) (fun c_2 => ?_)
    · skip
      refine lv_aload_n hx hb dX5_count_30 rfl (lv_at hl 0 rfl) ?_
      refine lv_iload_n hx hb dX5_count_31 rfl (lv_at hl 1 rfl) ?_
      have hPc_3 := hP.sub (ws' := [(qm, .inr (5, [.int (iI 0), .ref mz, .ref ms, .int (iI hn), .ref mp, .ref mb, .int (iI L), .ref m1, .ref m2, .ref m3, .ref mB, .ref mF, .ref mN, .ref mS, .int (iI sT), .ref mW, .long acc])), (mz, .inl (gI g, 326, .inl (aI (zF n ho h c)))), (mB, .inl (gI g, 512, .inl (aI B0))), (mF, .inl (gI g, 512, .inl (aI G))), (mN, .inl (gI g, 512, .inl (aI N))), (mS, .inl (gI g, 864, .inl (aI S0))), (m1, .inl (gI g, 8, .inl (aI sunX))), (m2, .inl (gI g, 8, .inl (aI sunY))), (m3, .inl (gI g, 8, .inl (aI sunS)))]) [0, 1, 2, 3, 4, 5, 6, 7, 8] rfl
      have hDc_4 := hD.sub (ws' := [(qm, .inr (5, [.int (iI 0), .ref mz, .ref ms, .int (iI hn), .ref mp, .ref mb, .int (iI L), .ref m1, .ref m2, .ref m3, .ref mB, .ref mF, .ref mN, .ref mS, .int (iI sT), .ref mW, .long acc])), (mz, .inl (gI g, 326, .inl (aI (zF n ho h c)))), (mB, .inl (gI g, 512, .inl (aI B0))), (mF, .inl (gI g, 512, .inl (aI G))), (mN, .inl (gI g, 512, .inl (aI N))), (mS, .inl (gI g, 864, .inl (aI S0))), (m1, .inl (gI g, 8, .inl (aI sunX))), (m2, .inl (gI g, 8, .inl (aI sunY))), (m3, .inl (gI g, 8, .inl (aI sunS)))]) [0, 1, 2, 3, 4, 5, 6, 7, 8] (by decide) rfl
      have hFc_5 := va_free (wc := [(qm, .inr (5, [.int (iI 0), .ref mz, .ref ms, .int (iI hn), .ref mp, .ref mb, .int (iI L), .ref m1, .ref m2, .ref m3, .ref mB, .ref mF, .ref mN, .ref mS, .int (iI sT), .ref mW, .long acc])), (mz, .inl (gI g, 326, .inl (aI (zF n ho h c)))), (mB, .inl (gI g, 512, .inl (aI B0))), (mF, .inl (gI g, 512, .inl (aI G))), (mN, .inl (gI g, 512, .inl (aI N))), (mS, .inl (gI g, 864, .inl (aI S0))), (m1, .inl (gI g, 8, .inl (aI sunX))), (m2, .inl (gI g, 8, .inl (aI sunY))), (m3, .inl (gI g, 8, .inl (aI sunS)))]) hD hS hA [0, 1, 2, 3, 4, 5, 6, 7, 8] rfl
      refine mc_i (wr := []) (cells1 := 0) (slots1 := 0) (va_runV (As := [.int (iI w)]) (rest := []) ⟨hx, hb, hml, hown, hts⟩ (c_X5_counted l g qm 0 mz ms hn mp mb L m1 m2 m3 mB mF mN mS sT mW acc n ho h c B0 G N S0 w hY gw H.size) (cwV 1 hts gX5_count_X5_counted rfl rfl rfl (by decide +kernel) ⟨Nat.le_of_ble_eq_true rfl, Nat.le_of_ble_eq_true rfl⟩) (muV hE hS hPc_3 hDc_4 hFc_5 rfl rfl) rfl rfl hl.1 rfl (lv_room (Nat.le_of_ble_eq_true rfl)) dX5_count_32 ⟨Nat.le_of_ble_eq_true rfl, Nat.le_of_ble_eq_true rfl⟩) hP hD hS hA [0, 1, 2, 3, 4, 5, 6, 7, 8] [] [0, 1, 2, 3, 4, 5, 6, 7, 8] rfl rfl (by decide) (by decide) (fun (u9 : (Int → Int) × (Int → Int) × (Int → Int) × (Int → Int)) => match u9 with | (u_6, u_7, u_8, u_9) => [(qm, .inr (5, [.int (iI 0), .ref mz, .ref ms, .int (iI hn), .ref mp, .ref mb, .int (iI L), .ref m1, .ref m2, .ref m3, .ref mB, .ref mF, .ref mN, .ref mS, .int (iI sT), .ref mW, .long acc])), (mz, .inl (gI g, 326, .inl (aI (zF n ho h c)))), (mB, .inl (gI g, 512, .inl (aI u_6))), (mF, .inl (gI g, 512, .inl (aI u_7))), (mN, .inl (gI g, 512, .inl (aI u_8))), (mS, .inl (gI g, 864, .inl (aI u_9))), (m1, .inl (gI g, 8, .inl (aI sunX))), (m2, .inl (gI g, 8, .inl (aI sunY))), (m3, .inl (gI g, 8, .inl (aI sunS)))]) (fun _ => rfl) (by decide) (Nat.le_of_ble_eq_true rfl) (Nat.le_of_ble_eq_true rfl) (fun u9 H locs hu_10 hP hD hS => ?_)
      obtain ⟨u_6, u_7, u_8, u_9⟩ := u9
      have hP : va_P g.1 vwCl [(qm, .inr (5, [.int (iI 0), .ref mz, .ref ms, .int (iI hn), .ref mp, .ref mb, .int (iI L), .ref m1, .ref m2, .ref m3, .ref mB, .ref mF, .ref mN, .ref mS, .int (iI sT), .ref mW, .long acc])), (mz, .inl (gI g, 326, .inl (aI (zF n ho h c)))), (mB, .inl (gI g, 512, .inl (aI u_6))), (mF, .inl (gI g, 512, .inl (aI u_7))), (mN, .inl (gI g, 512, .inl (aI u_8))), (mS, .inl (gI g, 864, .inl (aI u_9))), (m1, .inl (gI g, 8, .inl (aI sunX))), (m2, .inl (gI g, 8, .inl (aI sunY))), (m3, .inl (gI g, 8, .inl (aI sunS)))] H := hP
      have hD : va_D A [(qm, .inr (5, [.int (iI 0), .ref mz, .ref ms, .int (iI hn), .ref mp, .ref mb, .int (iI L), .ref m1, .ref m2, .ref m3, .ref mB, .ref mF, .ref mN, .ref mS, .int (iI sT), .ref mW, .long acc])), (mz, .inl (gI g, 326, .inl (aI (zF n ho h c)))), (mB, .inl (gI g, 512, .inl (aI u_6))), (mF, .inl (gI g, 512, .inl (aI u_7))), (mN, .inl (gI g, 512, .inl (aI u_8))), (mS, .inl (gI g, 864, .inl (aI u_9))), (m1, .inl (gI g, 8, .inl (aI sunX))), (m2, .inl (gI g, 8, .inl (aI sunY))), (m3, .inl (gI g, 8, .inl (aI sunS)))] := hD
      refine ln_topv (w := .int (iI (cntV n ho h c hn w))) rfl ?_
      have hP : va_P g.1 vwCl [(qm, .inr (5, [.int (iI 0), .ref mz, .ref ms, .int (iI hn), .ref mp, .ref mb, .int (iI L), .ref m1, .ref m2, .ref m3, .ref mB, .ref mF, .ref mN, .ref mS, .int (iI sT), .ref mW, .long acc])), (mz, .inl (gI g, 326, .inl (aI (zF n ho h c)))), (mB, .inl (gI g, 512, .inl (aI u_6))), (mF, .inl (gI g, 512, .inl (aI u_7))), (mN, .inl (gI g, 512, .inl (aI u_8))), (mS, .inl (gI g, 864, .inl (aI u_9))), (m1, .inl (gI g, 8, .inl (aI sunX))), (m2, .inl (gI g, 8, .inl (aI sunY))), (m3, .inl (gI g, 8, .inl (aI sunS)))] _ := hP
      have hD : va_D A [(qm, .inr (5, [.int (iI 0), .ref mz, .ref ms, .int (iI hn), .ref mp, .ref mb, .int (iI L), .ref m1, .ref m2, .ref m3, .ref mB, .ref mF, .ref mN, .ref mS, .int (iI sT), .ref mW, .long acc])), (mz, .inl (gI g, 326, .inl (aI (zF n ho h c)))), (mB, .inl (gI g, 512, .inl (aI u_6))), (mF, .inl (gI g, 512, .inl (aI u_7))), (mN, .inl (gI g, 512, .inl (aI u_8))), (mS, .inl (gI g, 864, .inl (aI u_9))), (m1, .inl (gI g, 8, .inl (aI sunX))), (m2, .inl (gI g, 8, .inl (aI sunY))), (m3, .inl (gI g, 8, .inl (aI sunS)))] := hD
      exact mend_i (S := (Int → Int) × (Int → Int) × (Int → Int) × (Int → Int)) (w' := (fun (u9 : (Int → Int) × (Int → Int) × (Int → Int) × (Int → Int)) => match u9 with | (B2, G2, N2, S2) => [(qm, .inr (5, [.int (iI 0), .ref mz, .ref ms, .int (iI hn), .ref mp, .ref mb, .int (iI L), .ref m1, .ref m2, .ref m3, .ref mB, .ref mF, .ref mN, .ref mS, .int (iI sT), .ref mW, .long acc])), (mz, .inl (gI g, 326, .inl (aI (zF n ho h c)))), (mB, .inl (gI g, 512, .inl (aI B2))), (mF, .inl (gI g, 512, .inl (aI G2))), (mN, .inl (gI g, 512, .inl (aI N2))), (mS, .inl (gI g, 864, .inl (aI S2))), (m1, .inl (gI g, 8, .inl (aI sunX))), (m2, .inl (gI g, 8, .inl (aI sunY))), (m3, .inl (gI g, 8, .inl (aI sunS)))])) (post := (fun (u9 : (Int → Int) × (Int → Int) × (Int → Int) × (Int → Int)) => match u9 with | (B2, G2, N2, S2) => True)) (r := (fun (u9 : (Int → Int) × (Int → Int) × (Int → Int) × (Int → Int)) => match u9 with | (B2, G2, N2, S2) => cntV n ho h c hn w)) hx hb hr hlk hS (u_6, u_7, u_8, u_9) hP hD (trivial) (by rfl) (Nat.le_of_ble_eq_true rfl) (Nat.le_of_ble_eq_true rfl) dX5_count_35
    · exfalso; omega
set_option maxHeartbeats 800000 in
set_option maxRecDepth 100000 in
theorem c_X5_count_x (l : Launch) (g : GT) (qm : Nat) (th : Int) (mz : Nat) (ms : Nat) (hn : Int) (mp : Nat) (mb : Nat) (L : Int) (m1 : Nat) (m2 : Nat) (m3 : Nat) (mB : Nat) (mF : Nat) (mN : Nat) (mS : Nat) (sT : Int) (mW : Nat) (acc : Int64) (w : Int) (gw : Rg w) (g1 : w < 0 ∨ 12 < w) : MutI l yX5_count wsX5_count ({ frames := 1, cells := 0, slots := 0, locals := 22 }) 0 0 g [(qm, .inr (5, [.int (iI th), .ref mz, .ref ms, .int (iI hn), .ref mp, .ref mb, .int (iI L), .ref m1, .ref m2, .ref m3, .ref mB, .ref mF, .ref mN, .ref mS, .int (iI sT), .ref mW, .long acc]))] [.ref qm, .int (iI w)] (S := Unit) (fun _ => True) (fun _ => 0) (fun _ => [(qm, .inr (5, [.int (iI 1), .ref mz, .ref ms, .int (iI hn), .ref mp, .ref mb, .int (iI L), .ref m1, .ref m2, .ref m3, .ref mB, .ref mF, .ref mN, .ref mS, .int (iI sT), .ref mW, .long acc]))]) := by
  refine mut_of (y := yX5_count) (ws := wsX5_count) (av := [.ref qm, .int (iI w)]) (w := [(qm, .inr (5, [.int (iI th), .ref mz, .ref ms, .int (iI hn), .ref mp, .ref mb, .int (iI L), .ref m1, .ref m2, .ref m3, .ref mB, .ref mF, .ref mN, .ref mS, .int (iI sT), .ref mW, .long acc]))]) (Qc := fun A => va_Qi (fun x9 (u9 : Unit) => x9 = iI ((fun _ => 0) u9) ∧ (fun _ => True) u9) (fun u9 t9 => MB g ((fun _ => [(qm, .inr (5, [.int (iI 1), .ref mz, .ref ms, .int (iI hn), .ref mp, .ref mb, .int (iI L), .ref m1, .ref m2, .ref m3, .ref mB, .ref mF, .ref mN, .ref mS, .int (iI sT), .ref mW, .long acc]))]) u9) A t9) A) (cc := cX5_count) (maxL := 2) (ret := (some .int)) (by decide) rfl (Nat.le_of_ble_eq_true rfl) ?_
  intro pZ eZ sZ mZ bZ meZ cZ A F hin hA hP hD hE hS ls hl
  obtain ⟨hx, hb, hr, hml, hts, hown, hlk⟩ := F
  skip
  have hown : sZ.vm.findClass RX5 = some mZ.cls := hown
  have hl : lv_has ls 2 [(0, .ref qm), (1, .int (iI w))] := hl
  skip
  have w0 := hts (.fieldLink RX5 47 "SlantYardModel" "thrown" "I") (by decide +kernel)
  have in5 : ∀ w ∈ u_ws RX5 TX5 17, w ∈ wsX5_count := by decide +kernel
  refine lv_aload_n hx hb dX5_count_0 rfl (lv_at hl 0 rfl) ?_
  refine lv_iload_n hx hb dX5_count_1 rfl (lv_at hl 1 rfl) ?_
  refine lv_iconst (v := iI 0) hx hb dX5_count_2 rfl ?_
  refine lv_bipush (v := iI 12) hx hb dX5_count_3 (by decide) ?_
  refine pc_i (va_runS (As := [.int (iI w), .int (iI 0), .int (iI 12)]) (rest := [.ref qm]) ⟨hx, hb, hml, hown, hts⟩ (c_X5_in l g w 0 12 gw (by omega) (by omega)) (va_cwS 3 hts gX5_count_X5_in rfl rfl rfl (by decide +kernel) ⟨Nat.le_of_ble_eq_true rfl, Nat.le_of_ble_eq_true rfl⟩) (puS hE hS (va_P_nil g.1 _)) rfl rfl hl.1 rfl (lv_room (Nat.le_of_ble_eq_true rfl)) dX5_count_5 ⟨Nat.le_of_ble_eq_true rfl, Nat.le_of_ble_eq_true rfl⟩) ?_
  refine lb_if_eq (tgt := 15) hx hb dX5_count_8 (by decide) (fun c_1 => ?_) (fun c_1 => ?_)
  · skip
    refine lv_iconst (v := iI 1) hx hb dX5_count_15 rfl ?_
    refine va_put (D := g.1) (ci := 5) (v := .int (iI 1)) (ty := .int) (C := RX5) (T := TX5) (N := 17) hx hb hts in5 tyX5 tyX5_ok nmX5 hown hE.1 hP hD hS 0 rfl rfl 0 (by decide) w0 (fun _ h9 => h9) rfl (by decide +kernel) rfl rfl (Nat.le_of_ble_eq_true rfl) dX5_count_16 (fun H locs hP hD hS => ?_)
    have hP : va_P g.1 vwCl [(qm, .inr (5, [.int (iI 1), .ref mz, .ref ms, .int (iI hn), .ref mp, .ref mb, .int (iI L), .ref m1, .ref m2, .ref m3, .ref mB, .ref mF, .ref mN, .ref mS, .int (iI sT), .ref mW, .long acc]))] H := hP
    have hD : va_D A [(qm, .inr (5, [.int (iI 1), .ref mz, .ref ms, .int (iI hn), .ref mp, .ref mb, .int (iI L), .ref m1, .ref m2, .ref m3, .ref mB, .ref mF, .ref mN, .ref mS, .int (iI sT), .ref mW, .long acc]))] := hD
    refine lv_aload_n hx hb dX5_count_19 rfl (lv_at hl 0 rfl) ?_
    refine va_get (D := g.1) (ci := 5) (v := .int (iI 1)) (C := RX5) (T := TX5) (N := 17) hx hb hts in5 hown hE.1 hP 0 rfl rfl 0 (by decide) w0 (fun _ h9 => h9) rfl dX5_count_20 ?_
    refine ln_if_le (tgt := 30) hx hb dX5_count_23 (by decide) (by decide) (fun c_2 => ?_) (fun c_2 => ?_)
    · exfalso; omega
    · skip
      refine lv_iconst (v := iI 0) hx hb dX5_count_26 rfl ?_
      refine lv_goto (tgt := 35) hx hb dX5_count_27 (by decide) ?_
      have hP : va_P g.1 vwCl [(qm, .inr (5, [.int (iI 1), .ref mz, .ref ms, .int (iI hn), .ref mp, .ref mb, .int (iI L), .ref m1, .ref m2, .ref m3, .ref mB, .ref mF, .ref mN, .ref mS, .int (iI sT), .ref mW, .long acc]))] _ := hP
      have hD : va_D A [(qm, .inr (5, [.int (iI 1), .ref mz, .ref ms, .int (iI hn), .ref mp, .ref mb, .int (iI L), .ref m1, .ref m2, .ref m3, .ref mB, .ref mF, .ref mN, .ref mS, .int (iI sT), .ref mW, .long acc]))] := hD
      exact mend_i (S := Unit) (w' := (fun _ => [(qm, .inr (5, [.int (iI 1), .ref mz, .ref ms, .int (iI hn), .ref mp, .ref mb, .int (iI L), .ref m1, .ref m2, .ref m3, .ref mB, .ref mF, .ref mN, .ref mS, .int (iI sT), .ref mW, .long acc]))])) (post := (fun _ => True)) (r := (fun _ => 0)) hx hb hr hlk hS () hP hD (trivial) (by first | rfl | omega | (split <;> omega)) (Nat.le_of_ble_eq_true rfl) (Nat.le_of_ble_eq_true rfl) dX5_count_35
  · exfalso; omega

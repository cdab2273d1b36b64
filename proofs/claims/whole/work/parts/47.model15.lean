set_option maxHeartbeats 800000 in
set_option maxRecDepth 100000 in
theorem c_X5_ifHour_x (l : Launch) (g : GT) (qm : Nat) (th : Int) (mz : Nat) (ms : Nat) (hn : Int) (mp : Nat) (mb : Nat) (L : Int) (m1 : Nat) (m2 : Nat) (m3 : Nat) (mB : Nat) (mF : Nat) (mN : Nat) (mS : Nat) (sT : Int) (mW : Nat) (acc : Int64) (m : Int) (gm : Rg m) (g1 : m < 0 ∨ 7 < m) : MutI l yX5_ifHour wsX5_ifHour ({ frames := 1, cells := 0, slots := 0, locals := 22 }) 0 0 g [(qm, .inr (5, [.int (iI th), .ref mz, .ref ms, .int (iI hn), .ref mp, .ref mb, .int (iI L), .ref m1, .ref m2, .ref m3, .ref mB, .ref mF, .ref mN, .ref mS, .int (iI sT), .ref mW, .long acc]))] [.ref qm, .int (iI m)] (S := Unit) (fun _ => True) (fun _ => 0) (fun _ => [(qm, .inr (5, [.int (iI 1), .ref mz, .ref ms, .int (iI hn), .ref mp, .ref mb, .int (iI L), .ref m1, .ref m2, .ref m3, .ref mB, .ref mF, .ref mN, .ref mS, .int (iI sT), .ref mW, .long acc]))]) := by
  refine mut_of (y := yX5_ifHour) (ws := wsX5_ifHour) (av := [.ref qm, .int (iI m)]) (w := [(qm, .inr (5, [.int (iI th), .ref mz, .ref ms, .int (iI hn), .ref mp, .ref mb, .int (iI L), .ref m1, .ref m2, .ref m3, .ref mB, .ref mF, .ref mN, .ref mS, .int (iI sT), .ref mW, .long acc]))]) (Qc := fun A => va_Qi (fun x9 (u9 : Unit) => x9 = iI ((fun _ => 0) u9) ∧ (fun _ => True) u9) (fun u9 t9 => MB g ((fun _ => [(qm, .inr (5, [.int (iI 1), .ref mz, .ref ms, .int (iI hn), .ref mp, .ref mb, .int (iI L), .ref m1, .ref m2, .ref m3, .ref mB, .ref mF, .ref mN, .ref mS, .int (iI sT), .ref mW, .long acc]))]) u9) A t9) A) (cc := cX5_ifHour) (maxL := 2) (ret := (some .int)) (by decide) rfl (Nat.le_of_ble_eq_true rfl) ?_
  intro pZ eZ sZ mZ bZ meZ cZ A F hin hA hP hD hE hS ls hl
  obtain ⟨hx, hb, hr, hml, hts, hown, hlk⟩ := F
  skip
  have hown : sZ.vm.findClass RX5 = some mZ.cls := hown
  have hl : lv_has ls 2 [(0, .ref qm), (1, .int (iI m))] := hl
  skip
  have w0 := hts (.fieldLink RX5 47 "SlantYardModel" "thrown" "I") (by decide +kernel)
  have in5 : ∀ w ∈ u_ws RX5 TX5 17, w ∈ wsX5_ifHour := by decide +kernel
  refine lv_aload_n hx hb dX5_ifHour_0 rfl (lv_at hl 0 rfl) ?_
  refine lv_iload_n hx hb dX5_ifHour_1 rfl (lv_at hl 1 rfl) ?_
  refine lv_iconst (v := iI 0) hx hb dX5_ifHour_2 rfl ?_
  refine lv_bipush (v := iI 7) hx hb dX5_ifHour_3 (by decide) ?_
  refine pc_i (va_runS (As := [.int (iI m), .int (iI 0), .int (iI 7)]) (rest := [.ref qm]) ⟨hx, hb, hml, hown, hts⟩ (c_X5_in l g m 0 7 gm (by omega) (by omega)) (va_cwS 3 hts gX5_ifHour_X5_in rfl rfl rfl (by decide +kernel) ⟨Nat.le_of_ble_eq_true rfl, Nat.le_of_ble_eq_true rfl⟩) (puS hE hS (va_P_nil g.1 _)) rfl rfl hl.1 rfl (lv_room (Nat.le_of_ble_eq_true rfl)) dX5_ifHour_5 ⟨Nat.le_of_ble_eq_true rfl, Nat.le_of_ble_eq_true rfl⟩) ?_
  refine lb_if_eq (tgt := 15) hx hb dX5_ifHour_8 (by decide) (fun c_1 => ?_) (fun c_1 => ?_)
  · skip
    refine lv_iconst (v := iI 1) hx hb dX5_ifHour_15 rfl ?_
    refine va_put (D := g.1) (ci := 5) (v := .int (iI 1)) (ty := .int) (C := RX5) (T := TX5) (N := 17) hx hb hts in5 tyX5 tyX5_ok nmX5 hown hE.1 hP hD hS 0 rfl rfl 0 (by decide) w0 (fun _ h9 => h9) rfl (by decide +kernel) rfl rfl (Nat.le_of_ble_eq_true rfl) dX5_ifHour_16 (fun H locs hP hD hS => ?_)
    have hP : va_P g.1 vwCl [(qm, .inr (5, [.int (iI 1), .ref mz, .ref ms, .int (iI hn), .ref mp, .ref mb, .int (iI L), .ref m1, .ref m2, .ref m3, .ref mB, .ref mF, .ref mN, .ref mS, .int (iI sT), .ref mW, .long acc]))] H := hP
    have hD : va_D A [(qm, .inr (5, [.int (iI 1), .ref mz, .ref ms, .int (iI hn), .ref mp, .ref mb, .int (iI L), .ref m1, .ref m2, .ref m3, .ref mB, .ref mF, .ref mN, .ref mS, .int (iI sT), .ref mW, .long acc]))] := hD
    refine lv_aload_n hx hb dX5_ifHour_19 rfl (lv_at hl 0 rfl) ?_
    refine va_get (D := g.1) (ci := 5) (v := .int (iI 1)) (C := RX5) (T := TX5) (N := 17) hx hb hts in5 hown hE.1 hP 0 rfl rfl 0 (by decide) w0 (fun _ h9 => h9) rfl dX5_ifHour_20 ?_
    refine ln_if_le (tgt := 30) hx hb dX5_ifHour_23 (by decide) (by decide) (fun c_2 => ?_) (fun c_2 => ?_)
    · exfalso; omega
    · skip
      refine lv_iconst (v := iI 0) hx hb dX5_ifHour_26 rfl ?_
      refine lv_goto (tgt := 35) hx hb dX5_ifHour_27 (by decide) ?_
      have hP : va_P g.1 vwCl [(qm, .inr (5, [.int (iI 1), .ref mz, .ref ms, .int (iI hn), .ref mp, .ref mb, .int (iI L), .ref m1, .ref m2, .ref m3, .ref mB, .ref mF, .ref mN, .ref mS, .int (iI sT), .ref mW, .long acc]))] _ := hP
      have hD : va_D A [(qm, .inr (5, [.int (iI 1), .ref mz, .ref ms, .int (iI hn), .ref mp, .ref mb, .int (iI L), .ref m1, .ref m2, .ref m3, .ref mB, .ref mF, .ref mN, .ref mS, .int (iI sT), .ref mW, .long acc]))] := hD
      exact mend_i (S := Unit) (w' := (fun _ => [(qm, .inr (5, [.int (iI 1), .ref mz, .ref ms, .int (iI hn), .ref mp, .ref mb, .int (iI L), .ref m1, .ref m2, .ref m3, .ref mB, .ref mF, .ref mN, .ref mS, .int (iI sT), .ref mW, .long acc]))])) (post := (fun _ => True)) (r := (fun _ => 0)) hx hb hr hlk hS () hP hD (trivial) (by first | rfl | omega | (split <;> omega)) (Nat.le_of_ble_eq_true rfl) (Nat.le_of_ble_eq_true rfl) dX5_ifHour_35
  · exfalso; omega

set_option maxHeartbeats 800000 in
set_option maxRecDepth 100000 in
theorem c_X5_begin_ok (l : Launch) (g : GT) (qm : Nat) (th : Int) (mz : Nat) (ms : Nat) (hn : Int) (mp : Nat) (mb : Nat) (L : Int) (m1 : Nat) (m2 : Nat) (m3 : Nat) (mB : Nat) (mF : Nat) (mN : Nat) (mS : Nat) (sT : Int) (mW : Nat) (acc : Int64) (n : Int) (ho : Int) (h : Int → Int) (c : Int → Int) (f : Int → Int) (m : Int) (hY : YOk n ho h c) (hh : 0 ≤ hn ∧ hn ≤ 6) (g1 : 2 ≤ m ∧ m ≤ 6) : MutI l yX5_begin wsX5_begin ({ frames := 1, cells := 0, slots := 0, locals := 22 }) 0 0 g [(qm, .inr (5, [.int (iI th), .ref mz, .ref ms, .int (iI hn), .ref mp, .ref mb, .int (iI L), .ref m1, .ref m2, .ref m3, .ref mB, .ref mF, .ref mN, .ref mS, .int (iI sT), .ref mW, .long acc])), (mz, .inl (gI g, 326, .inl (aI (zF n ho h c)))), (ms, .inl (gI g, 1956, .inl (aI f)))] [.ref qm, .int (iI m)] (S := Unit) (fun _ => True) (fun _ => m * m) (fun _ => [(qm, .inr (5, [.int (iI 0), .ref mz, .ref ms, .int (iI (svL hn + 1)), .ref mp, .ref mb, .int (iI L), .ref m1, .ref m2, .ref m3, .ref mB, .ref mF, .ref mN, .ref mS, .int (iI sT), .ref mW, .long acc])), (mz, .inl (gI g, 326, .inl (aI ((zF m ho (fun _ => 0) (fun _ => 0)))))), (ms, .inl (gI g, 1956, .inl (aI ((svM (olF f hn) (svL hn) (zF n ho h c) 326)))))]) := by
  refine mut_of (y := yX5_begin) (ws := wsX5_begin) (av := [.ref qm, .int (iI m)]) (w := [(qm, .inr (5, [.int (iI th), .ref mz, .ref ms, .int (iI hn), .ref mp, .ref mb, .int (iI L), .ref m1, .ref m2, .ref m3, .ref mB, .ref mF, .ref mN, .ref mS, .int (iI sT), .ref mW, .long acc])), (mz, .inl (gI g, 326, .inl (aI (zF n ho h c)))), (ms, .inl (gI g, 1956, .inl (aI f)))]) (Qc := fun A => va_Qi (fun x9 (u9 : Unit) => x9 = iI ((fun _ => m * m) u9) ∧ (fun _ => True) u9) (fun u9 t9 => MB g ((fun _ => [(qm, .inr (5, [.int (iI 0), .ref mz, .ref ms, .int (iI (svL hn + 1)), .ref mp, .ref mb, .int (iI L), .ref m1, .ref m2, .ref m3, .ref mB, .ref mF, .ref mN, .ref mS, .int (iI sT), .ref mW, .long acc])), (mz, .inl (gI g, 326, .inl (aI ((zF m ho (fun _ => 0) (fun _ => 0)))))), (ms, .inl (gI g, 1956, .inl (aI ((svM (olF f hn) (svL hn) (zF n ho h c) 326)))))]) u9) A t9) A) (cc := cX5_begin) (maxL := 2) (ret := (some .int)) (by decide) rfl (Nat.le_of_ble_eq_true rfl) ?_
  intro pZ eZ sZ mZ bZ meZ cZ A F hin hA hP hD hE hS ls hl
  obtain ⟨hx, hb, hr, hml, hts, hown, hlk⟩ := F
  skip
  have hown : sZ.vm.findClass RX5 = some mZ.cls := hown
  have hl : lv_has ls 2 [(0, .ref qm), (1, .int (iI m))] := hl
  skip
  have w0 := hts (.fieldLink RX5 47 "SlantYardModel" "thrown" "I") (by decide +kernel)
  have w1 := hts (.fieldLink RX5 7 "SlantYardModel" "z" "[I") (by decide +kernel)
  have in5 : ∀ w ∈ u_ws RX5 TX5 17, w ∈ wsX5_begin := by decide +kernel
  have hnn := hY.n
  have hho := hY.hr
  have hM9 : MOk (picM n h) := picM_ok hY
  have hI9 : MIn n h (picM n h) := picM_in hY
  refine lv_aload_n hx hb dX5_begin_0 rfl (lv_at hl 0 rfl) ?_
  refine lv_iload_n hx hb dX5_begin_1 rfl (lv_at hl 1 rfl) ?_
  refine lv_iconst (v := iI 2) hx hb dX5_begin_2 rfl ?_
  refine lv_bipush (v := iI 6) hx hb dX5_begin_3 (by decide) ?_
  refine pc_i (va_runS (As := [.int (iI m), .int (iI 2), .int (iI 6)]) (rest := [.ref qm]) ⟨hx, hb, hml, hown, hts⟩ (c_X5_in l g m 2 6 (by omega) (by omega) (by omega)) (va_cwS 3 hts gX5_begin_X5_in rfl rfl rfl (by decide +kernel) ⟨Nat.le_of_ble_eq_true rfl, Nat.le_of_ble_eq_true rfl⟩) (puS hE hS (va_P_nil g.1 _)) rfl rfl hl.1 rfl (lv_room (Nat.le_of_ble_eq_true rfl)) dX5_begin_5 ⟨Nat.le_of_ble_eq_true rfl, Nat.le_of_ble_eq_true rfl⟩) ?_
  refine lb_if_eq (tgt := 15) hx hb dX5_begin_8 (by decide) (fun c_1 => ?_) (fun c_1 => ?_)
  · exfalso; omega
  · skip
    refine lv_iconst (v := iI 0) hx hb dX5_begin_11 rfl ?_
    refine lv_goto (tgt := 16) hx hb dX5_begin_12 (by decide) ?_
    refine va_put (D := g.1) (ci := 5) (v := .int (iI 0)) (ty := .int) (C := RX5) (T := TX5) (N := 17) hx hb hts in5 tyX5 tyX5_ok nmX5 hown hE.1 hP hD hS 0 rfl rfl 0 (by decide) w0 (fun _ h9 => h9) rfl (by decide +kernel) rfl rfl (Nat.le_of_ble_eq_true rfl) dX5_begin_16 (fun H locs hP hD hS => ?_)
    have hP : va_P g.1 vwCl [(qm, .inr (5, [.int (iI 0), .ref mz, .ref ms, .int (iI hn), .ref mp, .ref mb, .int (iI L), .ref m1, .ref m2, .ref m3, .ref mB, .ref mF, .ref mN, .ref mS, .int (iI sT), .ref mW, .long acc])), (mz, .inl (gI g, 326, .inl (aI (zF n ho h c)))), (ms, .inl (gI g, 1956, .inl (aI f)))] H := hP
    have hD : va_D A [(qm, .inr (5, [.int (iI 0), .ref mz, .ref ms, .int (iI hn), .ref mp, .ref mb, .int (iI L), .ref m1, .ref m2, .ref m3, .ref mB, .ref mF, .ref mN, .ref mS, .int (iI sT), .ref mW, .long acc])), (mz, .inl (gI g, 326, .inl (aI (zF n ho h c)))), (ms, .inl (gI g, 1956, .inl (aI f)))] := hD
    refine lv_aload_n hx hb dX5_begin_19 rfl (lv_at hl 0 rfl) ?_
    refine va_get (D := g.1) (ci := 5) (v := .int (iI 0)) (C := RX5) (T := TX5) (N := 17) hx hb hts in5 hown hE.1 hP 0 rfl rfl 0 (by decide) w0 (fun _ h9 => h9) rfl dX5_begin_20 ?_
    refine ln_if_le (tgt := 28) hx hb dX5_begin_23 (by decide) (by decide) (fun c_2 => ?_) (fun c_2 => ?_)
    · skip
      refine lv_aload_n hx hb dX5_begin_28 rfl (lv_at hl 0 rfl) ?_
      have hPc_3 := hP.sub (ws' := [(qm, .inr (5, [.int (iI 0), .ref mz, .ref ms, .int (iI hn), .ref mp, .ref mb, .int (iI L), .ref m1, .ref m2, .ref m3, .ref mB, .ref mF, .ref mN, .ref mS, .int (iI sT), .ref mW, .long acc])), (mz, .inl (gI g, 326, .inl (aI (zF n ho h c)))), (ms, .inl (gI g, 1956, .inl (aI f)))]) [0, 1, 2] rfl
      have hDc_4 := hD.sub (ws' := [(qm, .inr (5, [.int (iI 0), .ref mz, .ref ms, .int (iI hn), .ref mp, .ref mb, .int (iI L), .ref m1, .ref m2, .ref m3, .ref mB, .ref mF, .ref mN, .ref mS, .int (iI sT), .ref mW, .long acc])), (mz, .inl (gI g, 326, .inl (aI (zF n ho h c)))), (ms, .inl (gI g, 1956, .inl (aI f)))]) [0, 1, 2] (by decide) rfl
      have hFc_5 := va_free (wc := [(qm, .inr (5, [.int (iI 0), .ref mz, .ref ms, .int (iI hn), .ref mp, .ref mb, .int (iI L), .ref m1, .ref m2, .ref m3, .ref mB, .ref mF, .ref mN, .ref mS, .int (iI sT), .ref mW, .long acc])), (mz, .inl (gI g, 326, .inl (aI (zF n ho h c)))), (ms, .inl (gI g, 1956, .inl (aI f)))]) hD hS hA [0, 1, 2] rfl
      refine mc_v (wr := []) (cells1 := 0) (slots1 := 0) (va_runV (As := []) (rest := []) ⟨hx, hb, hml, hown, hts⟩ (c_X5_save l g qm 0 mz ms hn mp mb L m1 m2 m3 mB mF mN mS sT mW acc n ho h c f hh H.size) (cwV 0 hts gX5_begin_X5_save rfl rfl rfl (by decide +kernel) ⟨Nat.le_of_ble_eq_true rfl, Nat.le_of_ble_eq_true rfl⟩) (muV hE hS hPc_3 hDc_4 hFc_5 rfl rfl) rfl rfl hl.1 rfl (lv_room (Nat.le_of_ble_eq_true rfl)) dX5_begin_29 ⟨Nat.le_of_ble_eq_true rfl, Nat.le_of_ble_eq_true rfl⟩) hP hD hS hA [0, 1, 2] [] [0, 1, 2] rfl rfl (by decide) (by decide) (fun _ => [(qm, .inr (5, [.int (iI 0), .ref mz, .ref ms, .int (iI (svL hn + 1)), .ref mp, .ref mb, .int (iI L), .ref m1, .ref m2, .ref m3, .ref mB, .ref mF, .ref mN, .ref mS, .int (iI sT), .ref mW, .long acc])), (mz, .inl (gI g, 326, .inl (aI (zF n ho h c)))), (ms, .inl (gI g, 1956, .inl (aI ((svM (olF f hn) (svL hn) (zF n ho h c) 326)))))]) (fun _ => rfl) (by decide) (Nat.le_of_ble_eq_true rfl) (Nat.le_of_ble_eq_true rfl) (fun u9 H locs hu_6 hP hD hS => ?_)
      have hP : va_P g.1 vwCl [(qm, .inr (5, [.int (iI 0), .ref mz, .ref ms, .int (iI (svL hn + 1)), .ref mp, .ref mb, .int (iI L), .ref m1, .ref m2, .ref m3, .ref mB, .ref mF, .ref mN, .ref mS, .int (iI sT), .ref mW, .long acc])), (mz, .inl (gI g, 326, .inl (aI (zF n ho h c)))), (ms, .inl (gI g, 1956, .inl (aI ((svM (olF f hn) (svL hn) (zF n ho h c) 326)))))] H := hP
      have hD : va_D A [(qm, .inr (5, [.int (iI 0), .ref mz, .ref ms, .int (iI (svL hn + 1)), .ref mp, .ref mb, .int (iI L), .ref m1, .ref m2, .ref m3, .ref mB, .ref mF, .ref mN, .ref mS, .int (iI sT), .ref mW, .long acc])), (mz, .inl (gI g, 326, .inl (aI (zF n ho h c)))), (ms, .inl (gI g, 1956, .inl (aI ((svM (olF f hn) (svL hn) (zF n ho h c) 326)))))] := hD
      refine lv_aload_n hx hb dX5_begin_32 rfl (lv_at hl 0 rfl) ?_
      have hPc_7 := hP.sub (ws' := [(qm, .inr (5, [.int (iI 0), .ref mz, .ref ms, .int (iI (svL hn + 1)), .ref mp, .ref mb, .int (iI L), .ref m1, .ref m2, .ref m3, .ref mB, .ref mF, .ref mN, .ref mS, .int (iI sT), .ref mW, .long acc])), (mz, .inl (gI g, 326, .inl (aI (zF n ho h c))))]) [0, 1] rfl
      have hDc_8 := hD.sub (ws' := [(qm, .inr (5, [.int (iI 0), .ref mz, .ref ms, .int (iI (svL hn + 1)), .ref mp, .ref mb, .int (iI L), .ref m1, .ref m2, .ref m3, .ref mB, .ref mF, .ref mN, .ref mS, .int (iI sT), .ref mW, .long acc])), (mz, .inl (gI g, 326, .inl (aI (zF n ho h c))))]) [0, 1] (by decide) rfl
      have hFc_9 := va_free (wc := [(qm, .inr (5, [.int (iI 0), .ref mz, .ref ms, .int (iI (svL hn + 1)), .ref mp, .ref mb, .int (iI L), .ref m1, .ref m2, .ref m3, .ref mB, .ref mF, .ref mN, .ref mS, .int (iI sT), .ref mW, .long acc])), (mz, .inl (gI g, 326, .inl (aI (zF n ho h c))))]) hD hS hA [0, 1] rfl
      refine mc_v (wr := [(ms, .inl (gI g, 1956, .inl (aI ((svM (olF f hn) (svL hn) (zF n ho h c) 326)))))]) (cells1 := 0) (slots1 := 0) (va_runV (As := []) (rest := []) ⟨hx, hb, hml, hown, hts⟩ (c_X5_clear l g qm 0 mz ms (svL hn + 1) mp mb L m1 m2 m3 mB mF mN mS sT mW acc n ho h c H.size) (cwV 0 hts gX5_begin_X5_clear rfl rfl rfl (by decide +kernel) ⟨Nat.le_of_ble_eq_true rfl, Nat.le_of_ble_eq_true rfl⟩) (muV hE hS hPc_7 hDc_8 hFc_9 rfl rfl) rfl rfl hl.1 rfl (lv_room (Nat.le_of_ble_eq_true rfl)) dX5_begin_33 ⟨Nat.le_of_ble_eq_true rfl, Nat.le_of_ble_eq_true rfl⟩) hP hD hS hA [0, 1] [2] [1, 2, 0] rfl rfl (by decide) (by decide) (fun _ => [(qm, .inr (5, [.int (iI 0), .ref mz, .ref ms, .int (iI (svL hn + 1)), .ref mp, .ref mb, .int (iI L), .ref m1, .ref m2, .ref m3, .ref mB, .ref mF, .ref mN, .ref mS, .int (iI sT), .ref mW, .long acc])), (mz, .inl (gI g, 326, .inl (aI ((zF n ho (fun _ => 0) (fun _ => 0)))))), (ms, .inl (gI g, 1956, .inl (aI ((svM (olF f hn) (svL hn) (zF n ho h c) 326)))))]) (fun _ => rfl) (by decide) (Nat.le_of_ble_eq_true rfl) (Nat.le_of_ble_eq_true rfl) (fun u9 H locs hu_10 hP hD hS => ?_)
      have hP : va_P g.1 vwCl [(qm, .inr (5, [.int (iI 0), .ref mz, .ref ms, .int (iI (svL hn + 1)), .ref mp, .ref mb, .int (iI L), .ref m1, .ref m2, .ref m3, .ref mB, .ref mF, .ref mN, .ref mS, .int (iI sT), .ref mW, .long acc])), (mz, .inl (gI g, 326, .inl (aI ((zF n ho (fun _ => 0) (fun _ => 0)))))), (ms, .inl (gI g, 1956, .inl (aI ((svM (olF f hn) (svL hn) (zF n ho h c) 326)))))] H := hP
      have hD : va_D A [(qm, .inr (5, [.int (iI 0), .ref mz, .ref ms, .int (iI (svL hn + 1)), .ref mp, .ref mb, .int (iI L), .ref m1, .ref m2, .ref m3, .ref mB, .ref mF, .ref mN, .ref mS, .int (iI sT), .ref mW, .long acc])), (mz, .inl (gI g, 326, .inl (aI ((zF n ho (fun _ => 0) (fun _ => 0)))))), (ms, .inl (gI g, 1956, .inl (aI ((svM (olF f hn) (svL hn) (zF n ho h c) 326)))))] := hD
      refine lv_aload_n hx hb dX5_begin_36 rfl (lv_at hl 0 rfl) ?_
      refine va_get (D := g.1) (ci := 5) (v := .ref mz) (C := RX5) (T := TX5) (N := 17) hx hb hts in5 hown hE.1 hP 0 rfl rfl 1 (by decide) w1 (fun _ h9 => h9) rfl dX5_begin_37 ?_
      refine lv_iconst (v := iI 0) hx hb dX5_begin_40 rfl ?_
      refine lv_iload_n hx hb dX5_begin_41 rfl (lv_at hl 1 rfl) ?_
      refine ln_iast hx hb hE hP hD hS 1 rfl (by decide) (by decide) (Nat.le_of_ble_eq_true rfl) (updI ((zF n ho (fun _ => 0) (fun _ => 0))) 0 m) (fun _ _ _ => rfl) dX5_begin_42 (fun H locs hP hD hS => ?_)
      have hP : va_P g.1 vwCl [(qm, .inr (5, [.int (iI 0), .ref mz, .ref ms, .int (iI (svL hn + 1)), .ref mp, .ref mb, .int (iI L), .ref m1, .ref m2, .ref m3, .ref mB, .ref mF, .ref mN, .ref mS, .int (iI sT), .ref mW, .long acc])), (mz, .inl (gI g, 326, .inl (aI (updI ((zF n ho (fun _ => 0) (fun _ => 0))) 0 m)))), (ms, .inl (gI g, 1956, .inl (aI ((svM (olF f hn) (svL hn) (zF n ho h c) 326)))))] H := hP
      have hD : va_D A [(qm, .inr (5, [.int (iI 0), .ref mz, .ref ms, .int (iI (svL hn + 1)), .ref mp, .ref mb, .int (iI L), .ref m1, .ref m2, .ref m3, .ref mB, .ref mF, .ref mN, .ref mS, .int (iI sT), .ref mW, .long acc])), (mz, .inl (gI g, 326, .inl (aI (updI ((zF n ho (fun _ => 0) (fun _ => 0))) 0 m)))), (ms, .inl (gI g, 1956, .inl (aI ((svM (olF f hn) (svL hn) (zF n ho h c) 326)))))] := hD
      refine lv_iload_n hx hb dX5_begin_43 rfl (lv_at hl 1 rfl) ?_
      refine lv_iload_n hx hb dX5_begin_44 rfl (lv_at hl 1 rfl) ?_
      refine ln_imul hx hb (m * m) (rfl) dX5_begin_45 ?_
      have hP := hP.recell 1 rfl ((zF m ho (fun _ => 0) (fun _ => 0))) (fun j q7 _ => by unfold updI; rw [z_none, z_none]; by_cases q9 : j = 0; (rw [if_pos q9, if_pos q9]); (rw [if_neg q9, if_neg q9, if_neg q9]))
      have hD := hD.set (p := 1) (e := .inl (gI g, 326, .inl (aI ((zF m ho (fun _ => 0) (fun _ => 0)))))) rfl
      have hP : va_P g.1 vwCl [(qm, .inr (5, [.int (iI 0), .ref mz, .ref ms, .int (iI (svL hn + 1)), .ref mp, .ref mb, .int (iI L), .ref m1, .ref m2, .ref m3, .ref mB, .ref mF, .ref mN, .ref mS, .int (iI sT), .ref mW, .long acc])), (mz, .inl (gI g, 326, .inl (aI ((zF m ho (fun _ => 0) (fun _ => 0)))))), (ms, .inl (gI g, 1956, .inl (aI ((svM (olF f hn) (svL hn) (zF n ho h c) 326)))))] _ := hP
      have hD : va_D A [(qm, .inr (5, [.int (iI 0), .ref mz, .ref ms, .int (iI (svL hn + 1)), .ref mp, .ref mb, .int (iI L), .ref m1, .ref m2, .ref m3, .ref mB, .ref mF, .ref mN, .ref mS, .int (iI sT), .ref mW, .long acc])), (mz, .inl (gI g, 326, .inl (aI ((zF m ho (fun _ => 0) (fun _ => 0)))))), (ms, .inl (gI g, 1956, .inl (aI ((svM (olF f hn) (svL hn) (zF n ho h c) 326)))))] := hD
      exact mend_i (S := Unit) (w' := (fun _ => [(qm, .inr (5, [.int (iI 0), .ref mz, .ref ms, .int (iI (svL hn + 1)), .ref mp, .ref mb, .int (iI L), .ref m1, .ref m2, .ref m3, .ref mB, .ref mF, .ref mN, .ref mS, .int (iI sT), .ref mW, .long acc])), (mz, .inl (gI g, 326, .inl (aI ((zF m ho (fun _ => 0) (fun _ => 0)))))), (ms, .inl (gI g, 1956, .inl (aI ((svM (olF f hn) (svL hn) (zF n ho h c) 326)))))])) (post := (fun _ => True)) (r := (fun _ => m * m)) hx hb hr hlk hS () hP hD (trivial) (by rfl) (Nat.le_of_ble_eq_true rfl) (Nat.le_of_ble_eq_true rfl) dX5_begin_46
    · exfalso; omega
set_option maxHeartbeats 800000 in
set_option maxRecDepth 100000 in
theorem c_X5_begin_x (l : Launch) (g : GT) (qm : Nat) (th : Int) (mz : Nat) (ms : Nat) (hn : Int) (mp : Nat) (mb : Nat) (L : Int) (m1 : Nat) (m2 : Nat) (m3 : Nat) (mB : Nat) (mF : Nat) (mN : Nat) (mS : Nat) (sT : Int) (mW : Nat) (acc : Int64) (m : Int) (gm : Rg m) (g1 : m < 2 ∨ 6 < m) : MutI l yX5_begin wsX5_begin ({ frames := 1, cells := 0, slots := 0, locals := 22 }) 0 0 g [(qm, .inr (5, [.int (iI th), .ref mz, .ref ms, .int (iI hn), .ref mp, .ref mb, .int (iI L), .ref m1, .ref m2, .ref m3, .ref mB, .ref mF, .ref mN, .ref mS, .int (iI sT), .ref mW, .long acc]))] [.ref qm, .int (iI m)] (S := Unit) (fun _ => True) (fun _ => 0) (fun _ => [(qm, .inr (5, [.int (iI 1), .ref mz, .ref ms, .int (iI hn), .ref mp, .ref mb, .int (iI L), .ref m1, .ref m2, .ref m3, .ref mB, .ref mF, .ref mN, .ref mS, .int (iI sT), .ref mW, .long acc]))]) := by
  refine mut_of (y := yX5_begin) (ws := wsX5_begin) (av := [.ref qm, .int (iI m)]) (w := [(qm, .inr (5, [.int (iI th), .ref mz, .ref ms, .int (iI hn), .ref mp, .ref mb, .int (iI L), .ref m1, .ref m2, .ref m3, .ref mB, .ref mF, .ref mN, .ref mS, .int (iI sT), .ref mW, .long acc]))]) (Qc := fun A => va_Qi (fun x9 (u9 : Unit) => x9 = iI ((fun _ => 0) u9) ∧ (fun _ => True) u9) (fun u9 t9 => MB g ((fun _ => [(qm, .inr (5, [.int (iI 1), .ref mz, .ref ms, .int (iI hn), .ref mp, .ref mb, .int (iI L), .ref m1, .ref m2, .ref m3, .ref mB, .ref mF, .ref mN, .ref mS, .int (iI sT), .ref mW, .long acc]))]) u9) A t9) A) (cc := cX5_begin) (maxL := 2) (ret := (some .int)) (by decide) rfl (Nat.le_of_ble_eq_true rfl) ?_
  intro pZ eZ sZ mZ bZ meZ cZ A F hin hA hP hD hE hS ls hl
  obtain ⟨hx, hb, hr, hml, hts, hown, hlk⟩ := F
  skip
  have hown : sZ.vm.findClass RX5 = some mZ.cls := hown
  have hl : lv_has ls 2 [(0, .ref qm), (1, .int (iI m))] := hl
  skip
  have w0 := hts (.fieldLink RX5 47 "SlantYardModel" "thrown" "I") (by decide +kernel)
  have in5 : ∀ w ∈ u_ws RX5 TX5 17, w ∈ wsX5_begin := by decide +kernel
  refine lv_aload_n hx hb dX5_begin_0 rfl (lv_at hl 0 rfl) ?_
  refine lv_iload_n hx hb dX5_begin_1 rfl (lv_at hl 1 rfl) ?_
  refine lv_iconst (v := iI 2) hx hb dX5_begin_2 rfl ?_
  refine lv_bipush (v := iI 6) hx hb dX5_begin_3 (by decide) ?_
  refine pc_i (va_runS (As := [.int (iI m), .int (iI 2), .int (iI 6)]) (rest := [.ref qm]) ⟨hx, hb, hml, hown, hts⟩ (c_X5_in l g m 2 6 gm (by omega) (by omega)) (va_cwS 3 hts gX5_begin_X5_in rfl rfl rfl (by decide +kernel) ⟨Nat.le_of_ble_eq_true rfl, Nat.le_of_ble_eq_true rfl⟩) (puS hE hS (va_P_nil g.1 _)) rfl rfl hl.1 rfl (lv_room (Nat.le_of_ble_eq_true rfl)) dX5_begin_5 ⟨Nat.le_of_ble_eq_true rfl, Nat.le_of_ble_eq_true rfl⟩) ?_
  refine lb_if_eq (tgt := 15) hx hb dX5_begin_8 (by decide) (fun c_1 => ?_) (fun c_1 => ?_)
  · skip
    refine lv_iconst (v := iI 1) hx hb dX5_begin_15 rfl ?_
    refine va_put (D := g.1) (ci := 5) (v := .int (iI 1)) (ty := .int) (C := RX5) (T := TX5) (N := 17) hx hb hts in5 tyX5 tyX5_ok nmX5 hown hE.1 hP hD hS 0 rfl rfl 0 (by decide) w0 (fun _ h9 => h9) rfl (by decide +kernel) rfl rfl (Nat.le_of_ble_eq_true rfl) dX5_begin_16 (fun H locs hP hD hS => ?_)
    have hP : va_P g.1 vwCl [(qm, .inr (5, [.int (iI 1), .ref mz, .ref ms, .int (iI hn), .ref mp, .ref mb, .int (iI L), .ref m1, .ref m2, .ref m3, .ref mB, .ref mF, .ref mN, .ref mS, .int (iI sT), .ref mW, .long acc]))] H := hP
    have hD : va_D A [(qm, .inr (5, [.int (iI 1), .ref mz, .ref ms, .int (iI hn), .ref mp, .ref mb, .int (iI L), .ref m1, .ref m2, .ref m3, .ref mB, .ref mF, .ref mN, .ref mS, .int (iI sT), .ref mW, .long acc]))] := hD
    refine lv_aload_n hx hb dX5_begin_19 rfl (lv_at hl 0 rfl) ?_
    refine va_get (D := g.1) (ci := 5) (v := .int (iI 1)) (C := RX5) (T := TX5) (N := 17) hx hb hts in5 hown hE.1 hP 0 rfl rfl 0 (by decide) w0 (fun _ h9 => h9) rfl dX5_begin_20 ?_
    refine ln_if_le (tgt := 28) hx hb dX5_begin_23 (by decide) (by decide) (fun c_2 => ?_) (fun c_2 => ?_)
    · exfalso; omega
    · skip
      refine lv_iconst (v := iI 0) hx hb dX5_begin_26 rfl ?_
      have hP : va_P g.1 vwCl [(qm, .inr (5, [.int (iI 1), .ref mz, .ref ms, .int (iI hn), .ref mp, .ref mb, .int (iI L), .ref m1, .ref m2, .ref m3, .ref mB, .ref mF, .ref mN, .ref mS, .int (iI sT), .ref mW, .long acc]))] _ := hP
      have hD : va_D A [(qm, .inr (5, [.int (iI 1), .ref mz, .ref ms, .int (iI hn), .ref mp, .ref mb, .int (iI L), .ref m1, .ref m2, .ref m3, .ref mB, .ref mF, .ref mN, .ref mS, .int (iI sT), .ref mW, .long acc]))] := hD
      exact mend_i (S := Unit) (w' := (fun _ => [(qm, .inr (5, [.int (iI 1), .ref mz, .ref ms, .int (iI hn), .ref mp, .ref mb, .int (iI L), .ref m1, .ref m2, .ref m3, .ref mB, .ref mF, .ref mN, .ref mS, .int (iI sT), .ref mW, .long acc]))])) (post := (fun _ => True)) (r := (fun _ => 0)) hx hb hr hlk hS () hP hD (trivial) (by first | rfl | omega | (split <;> omega)) (Nat.le_of_ble_eq_true rfl) (Nat.le_of_ble_eq_true rfl) dX5_begin_27
  · exfalso; omega
set_option maxHeartbeats 800000 in
set_option maxRecDepth 100000 in
theorem c_X5_hour_ok (l : Launch) (g : GT) (qm : Nat) (th : Int) (mz : Nat) (ms : Nat) (hn : Int) (mp : Nat) (mb : Nat) (L : Int) (m1 : Nat) (m2 : Nat) (m3 : Nat) (mB : Nat) (mF : Nat) (mN : Nat) (mS : Nat) (sT : Int) (mW : Nat) (acc : Int64) (n : Int) (ho : Int) (h : Int → Int) (c : Int → Int) (f : Int → Int) (m : Int) (hY : YOk n ho h c) (hh : 0 ≤ hn ∧ hn ≤ 6) (g1 : 0 ≤ m ∧ m ≤ 7) : MutI l yX5_hour wsX5_hour ({ frames := 1, cells := 0, slots := 0, locals := 22 }) 0 0 g [(qm, .inr (5, [.int (iI th), .ref mz, .ref ms, .int (iI hn), .ref mp, .ref mb, .int (iI L), .ref m1, .ref m2, .ref m3, .ref mB, .ref mF, .ref mN, .ref mS, .int (iI sT), .ref mW, .long acc])), (mz, .inl (gI g, 326, .inl (aI (zF n ho h c)))), (ms, .inl (gI g, 1956, .inl (aI f)))] [.ref qm, .int (iI m)] (S := Unit) (fun _ => True) (fun _ => ho) (fun _ => [(qm, .inr (5, [.int (iI 0), .ref mz, .ref ms, .int (iI (svL hn + 1)), .ref mp, .ref mb, .int (iI L), .ref m1, .ref m2, .ref m3, .ref mB, .ref mF, .ref mN, .ref mS, .int (iI sT), .ref mW, .long acc])), (mz, .inl (gI g, 326, .inl (aI (zF n m h c)))), (ms, .inl (gI g, 1956, .inl (aI ((svM (olF f hn) (svL hn) (zF n ho h c) 326)))))]) := by
  refine mut_of (y := yX5_hour) (ws := wsX5_hour) (av := [.ref qm, .int (iI m)]) (w := [(qm, .inr (5, [.int (iI th), .ref mz, .ref ms, .int (iI hn), .ref mp, .ref mb, .int (iI L), .ref m1, .ref m2, .ref m3, .ref mB, .ref mF, .ref mN, .ref mS, .int (iI sT), .ref mW, .long acc])), (mz, .inl (gI g, 326, .inl (aI (zF n ho h c)))), (ms, .inl (gI g, 1956, .inl (aI f)))]) (Qc := fun A => va_Qi (fun x9 (u9 : Unit) => x9 = iI ((fun _ => ho) u9) ∧ (fun _ => True) u9) (fun u9 t9 => MB g ((fun _ => [(qm, .inr (5, [.int (iI 0), .ref mz, .ref ms, .int (iI (svL hn + 1)), .ref mp, .ref mb, .int (iI L), .ref m1, .ref m2, .ref m3, .ref mB, .ref mF, .ref mN, .ref mS, .int (iI sT), .ref mW, .long acc])), (mz, .inl (gI g, 326, .inl (aI (zF n m h c)))), (ms, .inl (gI g, 1956, .inl (aI ((svM (olF f hn) (svL hn) (zF n ho h c) 326)))))]) u9) A t9) A) (cc := cX5_hour) (maxL := 3) (ret := (some .int)) (by decide) rfl (Nat.le_of_ble_eq_true rfl) ?_
  intro pZ eZ sZ mZ bZ meZ cZ A F hin hA hP hD hE hS ls hl
  obtain ⟨hx, hb, hr, hml, hts, hown, hlk⟩ := F
  skip
  have hown : sZ.vm.findClass RX5 = some mZ.cls := hown
  have hl : lv_has ls 3 [(0, .ref qm), (1, .int (iI m))] := hl
  skip
  have w0 := hts (.fieldLink RX5 47 "SlantYardModel" "thrown" "I") (by decide +kernel)
  have w1 := hts (.fieldLink RX5 7 "SlantYardModel" "z" "[I") (by decide +kernel)
  have in5 : ∀ w ∈ u_ws RX5 TX5 17, w ∈ wsX5_hour := by decide +kernel
  have hnn := hY.n
  have hho := hY.hr
  have hM9 : MOk (picM n h) := picM_ok hY
  have hI9 : MIn n h (picM n h) := picM_in hY
  refine lv_aload_n hx hb dX5_hour_0 rfl (lv_at hl 0 rfl) ?_
  refine lv_iload_n hx hb dX5_hour_1 rfl (lv_at hl 1 rfl) ?_
  refine lv_iconst (v := iI 0) hx hb dX5_hour_2 rfl ?_
  refine lv_bipush (v := iI 7) hx hb dX5_hour_3 (by decide) ?_
  refine pc_i (va_runS (As := [.int (iI m), .int (iI 0), .int (iI 7)]) (rest := [.ref qm]) ⟨hx, hb, hml, hown, hts⟩ (c_X5_in l g m 0 7 (by omega) (by omega) (by omega)) (va_cwS 3 hts gX5_hour_X5_in rfl rfl rfl (by decide +kernel) ⟨Nat.le_of_ble_eq_true rfl, Nat.le_of_ble_eq_true rfl⟩) (puS hE hS (va_P_nil g.1 _)) rfl rfl hl.1 rfl (lv_room (Nat.le_of_ble_eq_true rfl)) dX5_hour_5 ⟨Nat.le_of_ble_eq_true rfl, Nat.le_of_ble_eq_true rfl⟩) ?_
  refine lb_if_eq (tgt := 15) hx hb dX5_hour_8 (by decide) (fun c_1 => ?_) (fun c_1 => ?_)
  · exfalso; omega
  · skip
    refine lv_iconst (v := iI 0) hx hb dX5_hour_11 rfl ?_
    refine lv_goto (tgt := 16) hx hb dX5_hour_12 (by decide) ?_
    refine va_put (D := g.1) (ci := 5) (v := .int (iI 0)) (ty := .int) (C := RX5) (T := TX5) (N := 17) hx hb hts in5 tyX5 tyX5_ok nmX5 hown hE.1 hP hD hS 0 rfl rfl 0 (by decide) w0 (fun _ h9 => h9) rfl (by decide +kernel) rfl rfl (Nat.le_of_ble_eq_true rfl) dX5_hour_16 (fun H locs hP hD hS => ?_)
    have hP : va_P g.1 vwCl [(qm, .inr (5, [.int (iI 0), .ref mz, .ref ms, .int (iI hn), .ref mp, .ref mb, .int (iI L), .ref m1, .ref m2, .ref m3, .ref mB, .ref mF, .ref mN, .ref mS, .int (iI sT), .ref mW, .long acc])), (mz, .inl (gI g, 326, .inl (aI (zF n ho h c)))), (ms, .inl (gI g, 1956, .inl (aI f)))] H := hP
    have hD : va_D A [(qm, .inr (5, [.int (iI 0), .ref mz, .ref ms, .int (iI hn), .ref mp, .ref mb, .int (iI L), .ref m1, .ref m2, .ref m3, .ref mB, .ref mF, .ref mN, .ref mS, .int (iI sT), .ref mW, .long acc])), (mz, .inl (gI g, 326, .inl (aI (zF n ho h c)))), (ms, .inl (gI g, 1956, .inl (aI f)))] := hD
    refine lv_aload_n hx hb dX5_hour_19 rfl (lv_at hl 0 rfl) ?_
    refine va_get (D := g.1) (ci := 5) (v := .int (iI 0)) (C := RX5) (T := TX5) (N := 17) hx hb hts in5 hown hE.1 hP 0 rfl rfl 0 (by decide) w0 (fun _ h9 => h9) rfl dX5_hour_20 ?_
    refine ln_if_le (tgt := 28) hx hb dX5_hour_23 (by decide) (by decide) (fun c_2 => ?_) (fun c_2 => ?_)
    · skip
      refine lv_aload_n hx hb dX5_hour_28 rfl (lv_at hl 0 rfl) ?_
      have hPc_3 := hP.sub (ws' := [(qm, .inr (5, [.int (iI 0), .ref mz, .ref ms, .int (iI hn), .ref mp, .ref mb, .int (iI L), .ref m1, .ref m2, .ref m3, .ref mB, .ref mF, .ref mN, .ref mS, .int (iI sT), .ref mW, .long acc])), (mz, .inl (gI g, 326, .inl (aI (zF n ho h c)))), (ms, .inl (gI g, 1956, .inl (aI f)))]) [0, 1, 2] rfl
      have hDc_4 := hD.sub (ws' := [(qm, .inr (5, [.int (iI 0), .ref mz, .ref ms, .int (iI hn), .ref mp, .ref mb, .int (iI L), .ref m1, .ref m2, .ref m3, .ref mB, .ref mF, .ref mN, .ref mS, .int (iI sT), .ref mW, .long acc])), (mz, .inl (gI g, 326, .inl (aI (zF n ho h c)))), (ms, .inl (gI g, 1956, .inl (aI f)))]) [0, 1, 2] (by decide) rfl
      have hFc_5 := va_free (wc := [(qm, .inr (5, [.int (iI 0), .ref mz, .ref ms, .int (iI hn), .ref mp, .ref mb, .int (iI L), .ref m1, .ref m2, .ref m3, .ref mB, .ref mF, .ref mN, .ref mS, .int (iI sT), .ref mW, .long acc])), (mz, .inl (gI g, 326, .inl (aI (zF n ho h c)))), (ms, .inl (gI g, 1956, .inl (aI f)))]) hD hS hA [0, 1, 2] rfl
      refine mc_v (wr := []) (cells1 := 0) (slots1 := 0) (va_runV (As := []) (rest := []) ⟨hx, hb, hml, hown, hts⟩ (c_X5_save l g qm 0 mz ms hn mp mb L m1 m2 m3 mB mF mN mS sT mW acc n ho h c f hh H.size) (cwV 0 hts gX5_hour_X5_save rfl rfl rfl (by decide +kernel) ⟨Nat.le_of_ble_eq_true rfl, Nat.le_of_ble_eq_true rfl⟩) (muV hE hS hPc_3 hDc_4 hFc_5 rfl rfl) rfl rfl hl.1 rfl (lv_room (Nat.le_of_ble_eq_true rfl)) dX5_hour_29 ⟨Nat.le_of_ble_eq_true rfl, Nat.le_of_ble_eq_true rfl⟩) hP hD hS hA [0, 1, 2] [] [0, 1, 2] rfl rfl (by decide) (by decide) (fun _ => [(qm, .inr (5, [.int (iI 0), .ref mz, .ref ms, .int (iI (svL hn + 1)), .ref mp, .ref mb, .int (iI L), .ref m1, .ref m2, .ref m3, .ref mB, .ref mF, .ref mN, .ref mS, .int (iI sT), .ref mW, .long acc])), (mz, .inl (gI g, 326, .inl (aI (zF n ho h c)))), (ms, .inl (gI g, 1956, .inl (aI ((svM (olF f hn) (svL hn) (zF n ho h c) 326)))))]) (fun _ => rfl) (by decide) (Nat.le_of_ble_eq_true rfl) (Nat.le_of_ble_eq_true rfl) (fun u9 H locs hu_6 hP hD hS => ?_)
      have hP : va_P g.1 vwCl [(qm, .inr (5, [.int (iI 0), .ref mz, .ref ms, .int (iI (svL hn + 1)), .ref mp, .ref mb, .int (iI L), .ref m1, .ref m2, .ref m3, .ref mB, .ref mF, .ref mN, .ref mS, .int (iI sT), .ref mW, .long acc])), (mz, .inl (gI g, 326, .inl (aI (zF n ho h c)))), (ms, .inl (gI g, 1956, .inl (aI ((svM (olF f hn) (svL hn) (zF n ho h c) 326)))))] H := hP
      have hD : va_D A [(qm, .inr (5, [.int (iI 0), .ref mz, .ref ms, .int (iI (svL hn + 1)), .ref mp, .ref mb, .int (iI L), .ref m1, .ref m2, .ref m3, .ref mB, .ref mF, .ref mN, .ref mS, .int (iI sT), .ref mW, .long acc])), (mz, .inl (gI g, 326, .inl (aI (zF n ho h c)))), (ms, .inl (gI g, 1956, .inl (aI ((svM (olF f hn) (svL hn) (zF n ho h c) 326)))))] := hD
      refine lv_aload_n hx hb dX5_hour_32 rfl (lv_at hl 0 rfl) ?_
      refine va_get (D := g.1) (ci := 5) (v := .ref mz) (C := RX5) (T := TX5) (N := 17) hx hb hts in5 hown hE.1 hP 0 rfl rfl 1 (by decide) w1 (fun _ h9 => h9) rfl dX5_hour_33 ?_
      refine lv_iconst (v := iI 1) hx hb dX5_hour_36 rfl ?_
      refine ln_iald hx hb hE hP 1 rfl (by decide) (by decide) (Nat.le_of_ble_eq_true rfl) ho (rfl) dX5_hour_37 ?_
      refine lv_istore_n (lv' := [(2, .int (iI ho)), (0, .ref qm), (1, .int (iI m))]) hx hb dX5_hour_38 rfl hl (by decide) rfl (fun ls hl => ?_)
      refine lv_aload_n hx hb dX5_hour_39 rfl (lv_at hl 1 rfl) ?_
      refine va_get (D := g.1) (ci := 5) (v := .ref mz) (C := RX5) (T := TX5) (N := 17) hx hb hts in5 hown hE.1 hP 0 rfl rfl 1 (by decide) w1 (fun _ h9 => h9) rfl dX5_hour_40 ?_
      refine lv_iconst (v := iI 1) hx hb dX5_hour_43 rfl ?_
      refine lv_iload_n hx hb dX5_hour_44 rfl (lv_at hl 2 rfl) ?_
      refine ln_iast hx hb hE hP hD hS 1 rfl (by decide) (by decide) (Nat.le_of_ble_eq_true rfl) (updI (zF n ho h c) 1 m) (fun _ _ _ => rfl) dX5_hour_45 (fun H locs hP hD hS => ?_)
      have hP : va_P g.1 vwCl [(qm, .inr (5, [.int (iI 0), .ref mz, .ref ms, .int (iI (svL hn + 1)), .ref mp, .ref mb, .int (iI L), .ref m1, .ref m2, .ref m3, .ref mB, .ref mF, .ref mN, .ref mS, .int (iI sT), .ref mW, .long acc])), (mz, .inl (gI g, 326, .inl (aI (updI (zF n ho h c) 1 m)))), (ms, .inl (gI g, 1956, .inl (aI ((svM (olF f hn) (svL hn) (zF n ho h c) 326)))))] H := hP
      have hD : va_D A [(qm, .inr (5, [.int (iI 0), .ref mz, .ref ms, .int (iI (svL hn + 1)), .ref mp, .ref mb, .int (iI L), .ref m1, .ref m2, .ref m3, .ref mB, .ref mF, .ref mN, .ref mS, .int (iI sT), .ref mW, .long acc])), (mz, .inl (gI g, 326, .inl (aI (updI (zF n ho h c) 1 m)))), (ms, .inl (gI g, 1956, .inl (aI ((svM (olF f hn) (svL hn) (zF n ho h c) 326)))))] := hD
      refine lv_iload_n hx hb dX5_hour_46 rfl (lv_at hl 0 rfl) ?_
      have hP := hP.recell 1 rfl (zF n m h c) (fun j q7 _ => by unfold updI zF; by_cases q9 : j = 1; (rw [if_pos q9, if_neg (by omega), if_pos q9]); (rw [if_neg q9, if_neg q9, if_neg q9]))
      have hD := hD.set (p := 1) (e := .inl (gI g, 326, .inl (aI (zF n m h c)))) rfl
      have hP : va_P g.1 vwCl [(qm, .inr (5, [.int (iI 0), .ref mz, .ref ms, .int (iI (svL hn + 1)), .ref mp, .ref mb, .int (iI L), .ref m1, .ref m2, .ref m3, .ref mB, .ref mF, .ref mN, .ref mS, .int (iI sT), .ref mW, .long acc])), (mz, .inl (gI g, 326, .inl (aI (zF n m h c)))), (ms, .inl (gI g, 1956, .inl (aI ((svM (olF f hn) (svL hn) (zF n ho h c) 326)))))] _ := hP
      have hD : va_D A [(qm, .inr (5, [.int (iI 0), .ref mz, .ref ms, .int (iI (svL hn + 1)), .ref mp, .ref mb, .int (iI L), .ref m1, .ref m2, .ref m3, .ref mB, .ref mF, .ref mN, .ref mS, .int (iI sT), .ref mW, .long acc])), (mz, .inl (gI g, 326, .inl (aI (zF n m h c)))), (ms, .inl (gI g, 1956, .inl (aI ((svM (olF f hn) (svL hn) (zF n ho h c) 326)))))] := hD
      exact mend_i (S := Unit) (w' := (fun _ => [(qm, .inr (5, [.int (iI 0), .ref mz, .ref ms, .int (iI (svL hn + 1)), .ref mp, .ref mb, .int (iI L), .ref m1, .ref m2, .ref m3, .ref mB, .ref mF, .ref mN, .ref mS, .int (iI sT), .ref mW, .long acc])), (mz, .inl (gI g, 326, .inl (aI (zF n m h c)))), (ms, .inl (gI g, 1956, .inl (aI ((svM (olF f hn) (svL hn) (zF n ho h c) 326)))))])) (post := (fun _ => True)) (r := (fun _ => ho)) hx hb hr hlk hS () hP hD (trivial) (by rfl) (Nat.le_of_ble_eq_true rfl) (Nat.le_of_ble_eq_true rfl) dX5_hour_47
    · exfalso; omega
set_option maxHeartbeats 800000 in
set_option maxRecDepth 100000 in
theorem c_X5_hour_x (l : Launch) (g : GT) (qm : Nat) (th : Int) (mz : Nat) (ms : Nat) (hn : Int) (mp : Nat) (mb : Nat) (L : Int) (m1 : Nat) (m2 : Nat) (m3 : Nat) (mB : Nat) (mF : Nat) (mN : Nat) (mS : Nat) (sT : Int) (mW : Nat) (acc : Int64) (m : Int) (gm : Rg m) (g1 : m < 0 ∨ 7 < m) : MutI l yX5_hour wsX5_hour ({ frames := 1, cells := 0, slots := 0, locals := 22 }) 0 0 g [(qm, .inr (5, [.int (iI th), .ref mz, .ref ms, .int (iI hn), .ref mp, .ref mb, .int (iI L), .ref m1, .ref m2, .ref m3, .ref mB, .ref mF, .ref mN, .ref mS, .int (iI sT), .ref mW, .long acc]))] [.ref qm, .int (iI m)] (S := Unit) (fun _ => True) (fun _ => 0) (fun _ => [(qm, .inr (5, [.int (iI 1), .ref mz, .ref ms, .int (iI hn), .ref mp, .ref mb, .int (iI L), .ref m1, .ref m2, .ref m3, .ref mB, .ref mF, .ref mN, .ref mS, .int (iI sT), .ref mW, .long acc]))]) := by
  refine mut_of (y := yX5_hour) (ws := wsX5_hour) (av := [.ref qm, .int (iI m)]) (w := [(qm, .inr (5, [.int (iI th), .ref mz, .ref ms, .int (iI hn), .ref mp, .ref mb, .int (iI L), .ref m1, .ref m2, .ref m3, .ref mB, .ref mF, .ref mN, .ref mS, .int (iI sT), .ref mW, .long acc]))]) (Qc := fun A => va_Qi (fun x9 (u9 : Unit) => x9 = iI ((fun _ => 0) u9) ∧ (fun _ => True) u9) (fun u9 t9 => MB g ((fun _ => [(qm, .inr (5, [.int (iI 1), .ref mz, .ref ms, .int (iI hn), .ref mp, .ref mb, .int (iI L), .ref m1, .ref m2, .ref m3, .ref mB, .ref mF, .ref mN, .ref mS, .int (iI sT), .ref mW, .long acc]))]) u9) A t9) A) (cc := cX5_hour) (maxL := 3) (ret := (some .int)) (by decide) rfl (Nat.le_of_ble_eq_true rfl) ?_
  intro pZ eZ sZ mZ bZ meZ cZ A F hin hA hP hD hE hS ls hl
  obtain ⟨hx, hb, hr, hml, hts, hown, hlk⟩ := F
  skip
  have hown : sZ.vm.findClass RX5 = some mZ.cls := hown
  have hl : lv_has ls 3 [(0, .ref qm), (1, .int (iI m))] := hl
  skip
  have w0 := hts (.fieldLink RX5 47 "SlantYardModel" "thrown" "I") (by decide +kernel)
  have in5 : ∀ w ∈ u_ws RX5 TX5 17, w ∈ wsX5_hour := by decide +kernel
  refine lv_aload_n hx hb dX5_hour_0 rfl (lv_at hl 0 rfl) ?_
  refine lv_iload_n hx hb dX5_hour_1 rfl (lv_at hl 1 rfl) ?_
  refine lv_iconst (v := iI 0) hx hb dX5_hour_2 rfl ?_
  refine lv_bipush (v := iI 7) hx hb dX5_hour_3 (by decide) ?_
  refine pc_i (va_runS (As := [.int (iI m), .int (iI 0), .int (iI 7)]) (rest := [.ref qm]) ⟨hx, hb, hml, hown, hts⟩ (c_X5_in l g m 0 7 gm (by omega) (by omega)) (va_cwS 3 hts gX5_hour_X5_in rfl rfl rfl (by decide +kernel) ⟨Nat.le_of_ble_eq_true rfl, Nat.le_of_ble_eq_true rfl⟩) (puS hE hS (va_P_nil g.1 _)) rfl rfl hl.1 rfl (lv_room (Nat.le_of_ble_eq_true rfl)) dX5_hour_5 ⟨Nat.le_of_ble_eq_true rfl, Nat.le_of_ble_eq_true rfl⟩) ?_
  refine lb_if_eq (tgt := 15) hx hb dX5_hour_8 (by decide) (fun c_1 => ?_) (fun c_1 => ?_)
  · skip
    refine lv_iconst (v := iI 1) hx hb dX5_hour_15 rfl ?_
    refine va_put (D := g.1) (ci := 5) (v := .int (iI 1)) (ty := .int) (C := RX5) (T := TX5) (N := 17) hx hb hts in5 tyX5 tyX5_ok nmX5 hown hE.1 hP hD hS 0 rfl rfl 0 (by decide) w0 (fun _ h9 => h9) rfl (by decide +kernel) rfl rfl (Nat.le_of_ble_eq_true rfl) dX5_hour_16 (fun H locs hP hD hS => ?_)
    have hP : va_P g.1 vwCl [(qm, .inr (5, [.int (iI 1), .ref mz, .ref ms, .int (iI hn), .ref mp, .ref mb, .int (iI L), .ref m1, .ref m2, .ref m3, .ref mB, .ref mF, .ref mN, .ref mS, .int (iI sT), .ref mW, .long acc]))] H := hP
    have hD : va_D A [(qm, .inr (5, [.int (iI 1), .ref mz, .ref ms, .int (iI hn), .ref mp, .ref mb, .int (iI L), .ref m1, .ref m2, .ref m3, .ref mB, .ref mF, .ref mN, .ref mS, .int (iI sT), .ref mW, .long acc]))] := hD
    refine lv_aload_n hx hb dX5_hour_19 rfl (lv_at hl 0 rfl) ?_
    refine va_get (D := g.1) (ci := 5) (v := .int (iI 1)) (C := RX5) (T := TX5) (N := 17) hx hb hts in5 hown hE.1 hP 0 rfl rfl 0 (by decide) w0 (fun _ h9 => h9) rfl dX5_hour_20 ?_
    refine ln_if_le (tgt := 28) hx hb dX5_hour_23 (by decide) (by decide) (fun c_2 => ?_) (fun c_2 => ?_)
    · exfalso; omega
    · skip
      refine lv_iconst (v := iI 0) hx hb dX5_hour_26 rfl ?_
      have hP : va_P g.1 vwCl [(qm, .inr (5, [.int (iI 1), .ref mz, .ref ms, .int (iI hn), .ref mp, .ref mb, .int (iI L), .ref m1, .ref m2, .ref m3, .ref mB, .ref mF, .ref mN, .ref mS, .int (iI sT), .ref mW, .long acc]))] _ := hP
      have hD : va_D A [(qm, .inr (5, [.int (iI 1), .ref mz, .ref ms, .int (iI hn), .ref mp, .ref mb, .int (iI L), .ref m1, .ref m2, .ref m3, .ref mB, .ref mF, .ref mN, .ref mS, .int (iI sT), .ref mW, .long acc]))] := hD
      exact mend_i (S := Unit) (w' := (fun _ => [(qm, .inr (5, [.int (iI 1), .ref mz, .ref ms, .int (iI hn), .ref mp, .ref mb, .int (iI L), .ref m1, .ref m2, .ref m3, .ref mB, .ref mF, .ref mN, .ref mS, .int (iI sT), .ref mW, .long acc]))])) (post := (fun _ => True)) (r := (fun _ => 0)) hx hb hr hlk hS () hP hD (trivial) (by first | rfl | omega | (split <;> omega)) (Nat.le_of_ble_eq_true rfl) (Nat.le_of_ble_eq_true rfl) dX5_hour_27
  · exfalso; omega

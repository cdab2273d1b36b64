set_option maxHeartbeats 800000 in
set_option maxRecDepth 100000 in
theorem c_X5_thrown (l : Launch) (g : GT) (qm : Nat) (th : Int) (mz : Nat) (ms : Nat) (hn : Int) (mp : Nat) (mb : Nat) (L : Int) (m1 : Nat) (m2 : Nat) (m3 : Nat) (mB : Nat) (mF : Nat) (mN : Nat) (mS : Nat) (sT : Int) (mW : Nat) (acc : Int64) : MetI l yX5_thrown wsX5_thrown ({ frames := 0, cells := 0, slots := 0, locals := 0 }) g [(qm, .inr (5, [.int (iI th), .ref mz, .ref ms, .int (iI hn), .ref mp, .ref mb, .int (iI L), .ref m1, .ref m2, .ref m3, .ref mB, .ref mF, .ref mN, .ref mS, .int (iI sT), .ref mW, .long acc]))] [.ref qm] (th) := by
  refine pure_of (cc := cX5_thrown) (maxL := 1) (ret := (some .int)) (by decide) rfl (Nat.le_of_ble_eq_true rfl) ?_
  intro pZ eZ sZ mZ bZ meZ cZ F hP hE hS ls hl
  obtain ⟨hx, hb, hr, hml, hts, hown, hlk⟩ := F
  have hown : sZ.vm.findClass RX5 = some mZ.cls := hown
  have hl : lv_has ls 1 [(0, .ref qm)] := hl
  have w0 := hts (.fieldLink RX5 47 "SlantYardModel" "thrown" "I") (by decide +kernel)
  have in5 : ∀ w ∈ u_ws RX5 TX5 17, w ∈ wsX5_thrown := by decide +kernel
  refine lv_aload_n hx hb dX5_thrown_0 rfl (lv_at hl 0 rfl) ?_
  refine va_get (D := g.1) (ci := 5) (v := .int (iI th)) (C := RX5) (T := TX5) (N := 17) hx hb hts in5 hown hE.1 hP 0 rfl rfl 0 (by decide) w0 (fun _ h9 => h9) rfl dX5_thrown_1 ?_
  exact pend_i hx hb hr hlk hS rfl (by first | rfl | omega | (split <;> omega)) dX5_thrown_4
set_option maxHeartbeats 800000 in
set_option maxRecDepth 100000 in
theorem c_X5_in (l : Launch) (g : GT) (v : Int) (lo : Int) (hi : Int) (gv : Rg v) (gl : Rg lo) (gh : Rg hi) : MetI l yX5_in wsX5_in ({ frames := 0, cells := 0, slots := 0, locals := 0 }) g [] [.int (iI v), .int (iI lo), .int (iI hi)] (bI (lo ≤ v ∧ v ≤ hi)) := by
  refine pure_of (cc := cX5_in) (maxL := 3) (ret := (some .boolean)) (by decide) rfl (Nat.le_of_ble_eq_true rfl) ?_
  intro pZ eZ sZ mZ bZ meZ cZ F hP hE hS ls hl
  obtain ⟨hx, hb, hr, hml, hts, hown, hlk⟩ := F
  have hown : sZ.vm.findClass RX5 = some mZ.cls := hown
  have hl : lv_has ls 3 [(0, .int (iI v)), (1, .int (iI lo)), (2, .int (iI hi))] := hl
  refine lv_iload_n hx hb dX5_in_0 rfl (lv_at hl 0 rfl) ?_
  refine lv_iload_n hx hb dX5_in_1 rfl (lv_at hl 1 rfl) ?_
  refine ln_icmp_lt (tgt := 14) hx hb dX5_in_2 (by decide) ⟨by omega, by omega⟩ ⟨by omega, by omega⟩ (fun c_1 => ?_) (fun c_1 => ?_)
  · skip
    refine lv_iconst (v := iI 0) hx hb dX5_in_14 rfl ?_
    exact pend_z hx hb hr hlk hS rfl (Or.inl rfl) (by first | (rw [bI_t ⟨by omega, by omega⟩]) | (rw [bI_f (by omega)])) dX5_in_15
  · skip
    refine lv_iload_n hx hb dX5_in_5 rfl (lv_at hl 0 rfl) ?_
    refine lv_iload_n hx hb dX5_in_6 rfl (lv_at hl 2 rfl) ?_
    refine ln_icmp_gt (tgt := 14) hx hb dX5_in_7 (by decide) ⟨by omega, by omega⟩ ⟨by omega, by omega⟩ (fun c_2 => ?_) (fun c_2 => ?_)
    · skip
      refine lv_iconst (v := iI 0) hx hb dX5_in_14 rfl ?_
      exact pend_z hx hb hr hlk hS rfl (Or.inl rfl) (by first | (rw [bI_t ⟨by omega, by omega⟩]) | (rw [bI_f (by omega)])) dX5_in_15
    · skip
      refine lv_iconst (v := iI 1) hx hb dX5_in_10 rfl ?_
      refine lv_goto (tgt := 15) hx hb dX5_in_11 (by decide) ?_
      exact pend_z hx hb hr hlk hS rfl (Or.inr rfl) (by first | (rw [bI_t ⟨by omega, by omega⟩]) | (rw [bI_f (by omega)])) dX5_in_15
set_option maxHeartbeats 800000 in
set_option maxRecDepth 100000 in
theorem c_X5_isSquare (l : Launch) (g : GT) (qm : Nat) (th : Int) (mz : Nat) (ms : Nat) (hn : Int) (mp : Nat) (mb : Nat) (L : Int) (m1 : Nat) (m2 : Nat) (m3 : Nat) (mB : Nat) (mF : Nat) (mN : Nat) (mS : Nat) (sT : Int) (mW : Nat) (acc : Int64) (n : Int) (ho : Int) (h : Int → Int) (c : Int → Int) (x : Int) (y : Int) (hY : YOk n ho h c) (gx : Rg x) (gy : Rg y) : MetI l yX5_isSquare wsX5_isSquare ({ frames := 1, cells := 0, slots := 0, locals := 22 }) g [(qm, .inr (5, [.int (iI th), .ref mz, .ref ms, .int (iI hn), .ref mp, .ref mb, .int (iI L), .ref m1, .ref m2, .ref m3, .ref mB, .ref mF, .ref mN, .ref mS, .int (iI sT), .ref mW, .long acc])), (mz, .inl (gI g, 326, .inl (aI (zF n ho h c))))] [.ref qm, .int (iI x), .int (iI y)] (bI (okS n x y)) := by
  refine pure_of (cc := cX5_isSquare) (maxL := 3) (ret := (some .boolean)) (by decide) rfl (Nat.le_of_ble_eq_true rfl) ?_
  intro pZ eZ sZ mZ bZ meZ cZ F hP hE hS ls hl
  obtain ⟨hx, hb, hr, hml, hts, hown, hlk⟩ := F
  have hown : sZ.vm.findClass RX5 = some mZ.cls := hown
  have hl : lv_has ls 3 [(0, .ref qm), (1, .int (iI x)), (2, .int (iI y))] := hl
  have w0 := hts (.fieldLink RX5 7 "SlantYardModel" "z" "[I") (by decide +kernel)
  have in5 : ∀ w ∈ u_ws RX5 TX5 17, w ∈ wsX5_isSquare := by decide +kernel
  have hnn := hY.n
  have hho := hY.hr
  refine lv_iload_n hx hb dX5_isSquare_0 rfl (lv_at hl 1 rfl) ?_
  refine lv_iconst (v := iI 0) hx hb dX5_isSquare_1 rfl ?_
  refine lv_aload_n hx hb dX5_isSquare_2 rfl (lv_at hl 0 rfl) ?_
  refine va_get (D := g.1) (ci := 5) (v := .ref mz) (C := RX5) (T := TX5) (N := 17) hx hb hts in5 hown hE.1 hP 0 rfl rfl 1 (by decide) w0 (fun _ h9 => h9) rfl dX5_isSquare_3 ?_
  refine lv_iconst (v := iI 0) hx hb dX5_isSquare_6 rfl ?_
  refine ln_iald hx hb hE hP 1 rfl (by decide) (by decide) (Nat.le_of_ble_eq_true rfl) n (rfl) dX5_isSquare_7 ?_
  refine lv_iconst (v := iI 1) hx hb dX5_isSquare_8 rfl ?_
  refine ln_isub hx hb (n - 1) (rfl) dX5_isSquare_9 ?_
  refine pc_i (va_runS (As := [.int (iI x), .int (iI 0), .int (iI (n - 1))]) (rest := []) ⟨hx, hb, hml, hown, hts⟩ (c_X5_in l g x 0 (n - 1) gx (by omega) (by omega)) (va_cwS 3 hts gX5_isSquare_X5_in rfl rfl rfl (by decide +kernel) ⟨Nat.le_of_ble_eq_true rfl, Nat.le_of_ble_eq_true rfl⟩) (puS hE hS (va_P_nil g.1 _)) rfl rfl hl.1 rfl (lv_room (Nat.le_of_ble_eq_true rfl)) dX5_isSquare_10 ⟨Nat.le_of_ble_eq_true rfl, Nat.le_of_ble_eq_true rfl⟩) ?_
  refine lb_if_eq (tgt := 36) hx hb dX5_isSquare_13 (by decide) (fun c_1 => ?_) (fun c_1 => ?_)
  · skip
    refine lv_iconst (v := iI 0) hx hb dX5_isSquare_36 rfl ?_
    exact pend_z hx hb hr hlk hS rfl (Or.inl rfl) (by (show _ = bI (okS n x y); first | (rw [bI_t ⟨⟨by omega, by omega⟩, by omega, by omega⟩]) | (rw [bI_f (by omega)]))) dX5_isSquare_37
  · skip
    refine lv_iload_n hx hb dX5_isSquare_16 rfl (lv_at hl 2 rfl) ?_
    refine lv_iconst (v := iI 0) hx hb dX5_isSquare_17 rfl ?_
    refine lv_aload_n hx hb dX5_isSquare_18 rfl (lv_at hl 0 rfl) ?_
    refine va_get (D := g.1) (ci := 5) (v := .ref mz) (C := RX5) (T := TX5) (N := 17) hx hb hts in5 hown hE.1 hP 0 rfl rfl 1 (by decide) w0 (fun _ h9 => h9) rfl dX5_isSquare_19 ?_
    refine lv_iconst (v := iI 0) hx hb dX5_isSquare_22 rfl ?_
    refine ln_iald hx hb hE hP 1 rfl (by decide) (by decide) (Nat.le_of_ble_eq_true rfl) n (rfl) dX5_isSquare_23 ?_
    refine lv_iconst (v := iI 1) hx hb dX5_isSquare_24 rfl ?_
    refine ln_isub hx hb (n - 1) (rfl) dX5_isSquare_25 ?_
    refine pc_i (va_runS (As := [.int (iI y), .int (iI 0), .int (iI (n - 1))]) (rest := []) ⟨hx, hb, hml, hown, hts⟩ (c_X5_in l g y 0 (n - 1) gy (by omega) (by omega)) (va_cwS 3 hts gX5_isSquare_X5_in rfl rfl rfl (by decide +kernel) ⟨Nat.le_of_ble_eq_true rfl, Nat.le_of_ble_eq_true rfl⟩) (puS hE hS (va_P_nil g.1 _)) rfl rfl hl.1 rfl (lv_room (Nat.le_of_ble_eq_true rfl)) dX5_isSquare_26 ⟨Nat.le_of_ble_eq_true rfl, Nat.le_of_ble_eq_true rfl⟩) ?_
    refine lb_if_eq (tgt := 36) hx hb dX5_isSquare_29 (by decide) (fun c_2 => ?_) (fun c_2 => ?_)
    · skip
      refine lv_iconst (v := iI 0) hx hb dX5_isSquare_36 rfl ?_
      exact pend_z hx hb hr hlk hS rfl (Or.inl rfl) (by (show _ = bI (okS n x y); first | (rw [bI_t ⟨⟨by omega, by omega⟩, by omega, by omega⟩]) | (rw [bI_f (by omega)]))) dX5_isSquare_37
    · skip
      refine lv_iconst (v := iI 1) hx hb dX5_isSquare_32 rfl ?_
      refine lv_goto (tgt := 37) hx hb dX5_isSquare_33 (by decide) ?_
      exact pend_z hx hb hr hlk hS rfl (Or.inr rfl) (by (show _ = bI (okS n x y); first | (rw [bI_t ⟨⟨by omega, by omega⟩, by omega, by omega⟩]) | (rw [bI_f (by omega)]))) dX5_isSquare_37
set_option maxHeartbeats 800000 in
set_option maxRecDepth 100000 in
theorem c_X5_isColour (l : Launch) (g : GT) (v : Int) (gv : Rg v) : MetI l yX5_isColour wsX5_isColour ({ frames := 1, cells := 0, slots := 0, locals := 22 }) g [] [.int (iI v)] (bI (0 ≤ v ∧ v ≤ 3)) := by
  refine pure_of (cc := cX5_isColour) (maxL := 1) (ret := (some .boolean)) (by decide) rfl (Nat.le_of_ble_eq_true rfl) ?_
  intro pZ eZ sZ mZ bZ meZ cZ F hP hE hS ls hl
  obtain ⟨hx, hb, hr, hml, hts, hown, hlk⟩ := F
  have hown : sZ.vm.findClass RX5 = some mZ.cls := hown
  have hl : lv_has ls 1 [(0, .int (iI v))] := hl
  refine lv_iload_n hx hb dX5_isColour_0 rfl (lv_at hl 0 rfl) ?_
  refine lv_iconst (v := iI 0) hx hb dX5_isColour_1 rfl ?_
  refine lv_iconst (v := iI 3) hx hb dX5_isColour_2 rfl ?_
  refine pc_i (va_runS (As := [.int (iI v), .int (iI 0), .int (iI 3)]) (rest := []) ⟨hx, hb, hml, hown, hts⟩ (c_X5_in l g v 0 3 gv (by omega) (by omega)) (va_cwS 3 hts gX5_isColour_X5_in rfl rfl rfl (by decide +kernel) ⟨Nat.le_of_ble_eq_true rfl, Nat.le_of_ble_eq_true rfl⟩) (puS hE hS (va_P_nil g.1 _)) rfl rfl hl.1 rfl (lv_room (Nat.le_of_ble_eq_true rfl)) dX5_isColour_3 ⟨Nat.le_of_ble_eq_true rfl, Nat.le_of_ble_eq_true rfl⟩) ?_
  exact pend_z hx hb hr hlk hS rfl (bI_01 _) (by rfl) dX5_isColour_6
set_option maxHeartbeats 800000 in
set_option maxRecDepth 100000 in
theorem c_X5_height (l : Launch) (g : GT) (qm : Nat) (th : Int) (mz : Nat) (ms : Nat) (hn : Int) (mp : Nat) (mb : Nat) (L : Int) (m1 : Nat) (m2 : Nat) (m3 : Nat) (mB : Nat) (mF : Nat) (mN : Nat) (mS : Nat) (sT : Int) (mW : Nat) (acc : Int64) (n : Int) (ho : Int) (h : Int → Int) (c : Int → Int) (x : Int) (y : Int) (hY : YOk n ho h c) (h1 : 0 ≤ x) (h2 : x < n) (h3 : 0 ≤ y) (h4 : y < n) : MetI l yX5_height wsX5_height ({ frames := 0, cells := 0, slots := 0, locals := 0 }) g [(qm, .inr (5, [.int (iI th), .ref mz, .ref ms, .int (iI hn), .ref mp, .ref mb, .int (iI L), .ref m1, .ref m2, .ref m3, .ref mB, .ref mF, .ref mN, .ref mS, .int (iI sT), .ref mW, .long acc])), (mz, .inl (gI g, 326, .inl (aI (zF n ho h c))))] [.ref qm, .int (iI x), .int (iI y)] (h (y * 6 + x)) := by
  refine pure_of (cc := cX5_height) (maxL := 3) (ret := (some .int)) (by decide) rfl (Nat.le_of_ble_eq_true rfl) ?_
  intro pZ eZ sZ mZ bZ meZ cZ F hP hE hS ls hl
  obtain ⟨hx, hb, hr, hml, hts, hown, hlk⟩ := F
  have hown : sZ.vm.findClass RX5 = some mZ.cls := hown
  have hl : lv_has ls 3 [(0, .ref qm), (1, .int (iI x)), (2, .int (iI y))] := hl
  have w0 := hts (.fieldLink RX5 7 "SlantYardModel" "z" "[I") (by decide +kernel)
  have in5 : ∀ w ∈ u_ws RX5 TX5 17, w ∈ wsX5_height := by decide +kernel
  have hnn := hY.n
  have hho := hY.hr
  refine lv_aload_n hx hb dX5_height_0 rfl (lv_at hl 0 rfl) ?_
  refine va_get (D := g.1) (ci := 5) (v := .ref mz) (C := RX5) (T := TX5) (N := 17) hx hb hts in5 hown hE.1 hP 0 rfl rfl 1 (by decide) w0 (fun _ h9 => h9) rfl dX5_height_1 ?_
  refine lv_iconst (v := iI 2) hx hb dX5_height_4 rfl ?_
  refine lv_bipush (v := iI 6) hx hb dX5_height_5 (by decide) ?_
  refine lv_iload_n hx hb dX5_height_7 rfl (lv_at hl 2 rfl) ?_
  refine ln_imul hx hb (6 * y) (rfl) dX5_height_8 ?_
  refine ln_iadd hx hb (2 + 6 * y) (rfl) dX5_height_9 ?_
  refine lv_iload_n hx hb dX5_height_10 rfl (lv_at hl 1 rfl) ?_
  refine ln_iadd hx hb (2 + 6 * y + x) (rfl) dX5_height_11 ?_
  refine ln_iald hx hb hE hP 1 rfl (by omega) (by omega) (Nat.le_of_ble_eq_true rfl) (h (y * 6 + x)) (zF_h (by omega) (by omega) (by omega) (by omega)) dX5_height_12 ?_
  exact pend_i hx hb hr hlk hS rfl (by first | rfl | omega | (split <;> omega)) dX5_height_13
set_option maxHeartbeats 800000 in
set_option maxRecDepth 100000 in
theorem c_X5_colour (l : Launch) (g : GT) (qm : Nat) (th : Int) (mz : Nat) (ms : Nat) (hn : Int) (mp : Nat) (mb : Nat) (L : Int) (m1 : Nat) (m2 : Nat) (m3 : Nat) (mB : Nat) (mF : Nat) (mN : Nat) (mS : Nat) (sT : Int) (mW : Nat) (acc : Int64) (n : Int) (ho : Int) (h : Int → Int) (c : Int → Int) (x : Int) (y : Int) (z : Int) (hY : YOk n ho h c) (h1 : 0 ≤ x) (h2 : x < n) (h3 : 0 ≤ y) (h4 : y < n) (gz : 0 ≤ z ∧ z ≤ 7) : MetI l yX5_colour wsX5_colour ({ frames := 0, cells := 0, slots := 0, locals := 0 }) g [(qm, .inr (5, [.int (iI th), .ref mz, .ref ms, .int (iI hn), .ref mp, .ref mb, .int (iI L), .ref m1, .ref m2, .ref m3, .ref mB, .ref mF, .ref mN, .ref mS, .int (iI sT), .ref mW, .long acc])), (mz, .inl (gI g, 326, .inl (aI (zF n ho h c))))] [.ref qm, .int (iI x), .int (iI y), .int (iI z)] (if z < h (y * 6 + x) then colZ (c (y * 6 + x)) z else 0) := by
  refine pure_of (cc := cX5_colour) (maxL := 4) (ret := (some .int)) (by decide) rfl (Nat.le_of_ble_eq_true rfl) ?_
  intro pZ eZ sZ mZ bZ meZ cZ F hP hE hS ls hl
  obtain ⟨hx, hb, hr, hml, hts, hown, hlk⟩ := F
  have hown : sZ.vm.findClass RX5 = some mZ.cls := hown
  have hl : lv_has ls 4 [(0, .ref qm), (1, .int (iI x)), (2, .int (iI y)), (3, .int (iI z))] := hl
  have w0 := hts (.fieldLink RX5 7 "SlantYardModel" "z" "[I") (by decide +kernel)
  have in5 : ∀ w ∈ u_ws RX5 TX5 17, w ∈ wsX5_colour := by decide +kernel
  have hnn := hY.n
  have hho := hY.hr
  refine lv_aload_n hx hb dX5_colour_0 rfl (lv_at hl 0 rfl) ?_
  refine va_get (D := g.1) (ci := 5) (v := .ref mz) (C := RX5) (T := TX5) (N := 17) hx hb hts in5 hown hE.1 hP 0 rfl rfl 1 (by decide) w0 (fun _ h9 => h9) rfl dX5_colour_1 ?_
  refine lv_bipush (v := iI 38) hx hb dX5_colour_4 (by decide) ?_
  refine lv_bipush (v := iI 8) hx hb dX5_colour_6 (by decide) ?_
  refine lv_bipush (v := iI 6) hx hb dX5_colour_8 (by decide) ?_
  refine lv_iload_n hx hb dX5_colour_10 rfl (lv_at hl 2 rfl) ?_
  refine ln_imul hx hb (6 * y) (rfl) dX5_colour_11 ?_
  refine lv_iload_n hx hb dX5_colour_12 rfl (lv_at hl 1 rfl) ?_
  refine ln_iadd hx hb (6 * y + x) (rfl) dX5_colour_13 ?_
  refine ln_imul hx hb (8 * (6 * y + x)) (rfl) dX5_colour_14 ?_
  refine ln_iadd hx hb (38 + 8 * (6 * y + x)) (rfl) dX5_colour_15 ?_
  refine lv_iload_n hx hb dX5_colour_16 rfl (lv_at hl 3 rfl) ?_
  refine ln_iadd hx hb (38 + 8 * (6 * y + x) + z) (rfl) dX5_colour_17 ?_
  refine ln_iald hx hb hE hP 1 rfl (by omega) (by omega) (Nat.le_of_ble_eq_true rfl) (if z < h (y * 6 + x) then colZ (c (y * 6 + x)) z else 0) (zF_c (by omega) (by omega) (by omega) (by omega) (by omega) (by omega)) dX5_colour_18 ?_
  exact pend_i hx hb hr hlk hS rfl (by rfl) dX5_colour_19
set_option maxHeartbeats 800000 in
set_option maxRecDepth 100000 in
theorem c_X5_heightIn (l : Launch) (g : GT) (qm : Nat) (th : Int) (mz : Nat) (ms : Nat) (hn : Int) (mp : Nat) (mb : Nat) (L : Int) (m1 : Nat) (m2 : Nat) (m3 : Nat) (mB : Nat) (mF : Nat) (mN : Nat) (mS : Nat) (sT : Int) (mW : Nat) (acc : Int64) (n : Int) (ho : Int) (h : Int → Int) (c : Int → Int) (sd : Int) (ax : Int) (k : Int) (hY : YOk n ho h c) (gs : sd = 0 ∨ sd = 1) (ga : 0 ≤ ax) (gb : ax < n) (gk : 0 ≤ k) (gl : k < n) : MetI l yX5_heightIn wsX5_heightIn ({ frames := 1, cells := 0, slots := 0, locals := 22 }) g [(qm, .inr (5, [.int (iI th), .ref mz, .ref ms, .int (iI hn), .ref mp, .ref mb, .int (iI L), .ref m1, .ref m2, .ref m3, .ref mB, .ref mF, .ref mN, .ref mS, .int (iI sT), .ref mW, .long acc])), (mz, .inl (gI g, 326, .inl (aI (zF n ho h c))))] [.ref qm, .int (iI sd), .int (iI ax), .int (iI k)] (hA h sd ax k) := by
  refine pure_of (cc := cX5_heightIn) (maxL := 4) (ret := (some .int)) (by decide) rfl (Nat.le_of_ble_eq_true rfl) ?_
  intro pZ eZ sZ mZ bZ meZ cZ F hP hE hS ls hl
  obtain ⟨hx, hb, hr, hml, hts, hown, hlk⟩ := F
  have hown : sZ.vm.findClass RX5 = some mZ.cls := hown
  have hl : lv_has ls 4 [(0, .ref qm), (1, .int (iI sd)), (2, .int (iI ax)), (3, .int (iI k))] := hl
  have hnn := hY.n
  have hho := hY.hr
  refine lv_iload_n hx hb dX5_heightIn_0 rfl (lv_at hl 1 rfl) ?_
  refine ln_if_ne (tgt := 13) hx hb dX5_heightIn_1 (by decide) ⟨by omega, by omega⟩ (fun c_1 => ?_) (fun c_1 => ?_)
  · skip
    refine lv_aload_n hx hb dX5_heightIn_13 rfl (lv_at hl 0 rfl) ?_
    refine lv_iload_n hx hb dX5_heightIn_14 rfl (lv_at hl 2 rfl) ?_
    refine lv_iload_n hx hb dX5_heightIn_15 rfl (lv_at hl 3 rfl) ?_
    have hPc_2 := hP.sub (ws' := [(qm, .inr (5, [.int (iI th), .ref mz, .ref ms, .int (iI hn), .ref mp, .ref mb, .int (iI L), .ref m1, .ref m2, .ref m3, .ref mB, .ref mF, .ref mN, .ref mS, .int (iI sT), .ref mW, .long acc])), (mz, .inl (gI g, 326, .inl (aI (zF n ho h c))))]) [0, 1] rfl
    refine pc_i (va_runV (As := [.int (iI ax), .int (iI k)]) (rest := []) ⟨hx, hb, hml, hown, hts⟩ (c_X5_height l g qm th mz ms hn mp mb L m1 m2 m3 mB mF mN mS sT mW acc n ho h c ax k hY ga gb gk gl) (cwV 2 hts gX5_heightIn_X5_height rfl rfl rfl (by decide +kernel) ⟨Nat.le_of_ble_eq_true rfl, Nat.le_of_ble_eq_true rfl⟩) (puV hE hS hPc_2 rfl rfl) rfl rfl hl.1 rfl (lv_room (Nat.le_of_ble_eq_true rfl)) dX5_heightIn_16 ⟨Nat.le_of_ble_eq_true rfl, Nat.le_of_ble_eq_true rfl⟩) ?_
    have r_3 : 0 ≤ h (k * 6 + ax) ∧ h (k * 6 + ax) ≤ 8 := YOk.h hY (k * 6 + ax)
    exact pend_i hx hb hr hlk hS rfl (by unfold hA; split <;> first | rfl | omega) dX5_heightIn_19
  · skip
    refine lv_aload_n hx hb dX5_heightIn_4 rfl (lv_at hl 0 rfl) ?_
    refine lv_iload_n hx hb dX5_heightIn_5 rfl (lv_at hl 3 rfl) ?_
    refine lv_iload_n hx hb dX5_heightIn_6 rfl (lv_at hl 2 rfl) ?_
    have hPc_4 := hP.sub (ws' := [(qm, .inr (5, [.int (iI th), .ref mz, .ref ms, .int (iI hn), .ref mp, .ref mb, .int (iI L), .ref m1, .ref m2, .ref m3, .ref mB, .ref mF, .ref mN, .ref mS, .int (iI sT), .ref mW, .long acc])), (mz, .inl (gI g, 326, .inl (aI (zF n ho h c))))]) [0, 1] rfl
    refine pc_i (va_runV (As := [.int (iI k), .int (iI ax)]) (rest := []) ⟨hx, hb, hml, hown, hts⟩ (c_X5_height l g qm th mz ms hn mp mb L m1 m2 m3 mB mF mN mS sT mW acc n ho h c k ax hY gk gl ga gb) (cwV 2 hts gX5_heightIn_X5_height rfl rfl rfl (by decide +kernel) ⟨Nat.le_of_ble_eq_true rfl, Nat.le_of_ble_eq_true rfl⟩) (puV hE hS hPc_4 rfl rfl) rfl rfl hl.1 rfl (lv_room (Nat.le_of_ble_eq_true rfl)) dX5_heightIn_7 ⟨Nat.le_of_ble_eq_true rfl, Nat.le_of_ble_eq_true rfl⟩) ?_
    have r_5 : 0 ≤ h (ax * 6 + k) ∧ h (ax * 6 + k) ≤ 8 := YOk.h hY (ax * 6 + k)
    refine lv_goto (tgt := 19) hx hb dX5_heightIn_10 (by decide) ?_
    exact pend_i hx hb hr hlk hS rfl (by unfold hA; split <;> first | rfl | omega) dX5_heightIn_19
set_option maxHeartbeats 800000 in
set_option maxRecDepth 100000 in
theorem c_X5_tallest (l : Launch) (g : GT) (qm : Nat) (th : Int) (mz : Nat) (ms : Nat) (hn : Int) (mp : Nat) (mb : Nat) (L : Int) (m1 : Nat) (m2 : Nat) (m3 : Nat) (mB : Nat) (mF : Nat) (mN : Nat) (mS : Nat) (sT : Int) (mW : Nat) (acc : Int64) (n : Int) (ho : Int) (h : Int → Int) (c : Int → Int) (sd : Int) (ax : Int) (hY : YOk n ho h c) (gs : sd = 0 ∨ sd = 1) (ga : 0 ≤ ax) (gb : ax < n) : MetI l yX5_tallest wsX5_tallest ({ frames := 2, cells := 0, slots := 0, locals := 45 }) g [(qm, .inr (5, [.int (iI th), .ref mz, .ref ms, .int (iI hn), .ref mp, .ref mb, .int (iI L), .ref m1, .ref m2, .ref m3, .ref mB, .ref mF, .ref mN, .ref mS, .int (iI sT), .ref mW, .long acc])), (mz, .inl (gI g, 326, .inl (aI (zF n ho h c))))] [.ref qm, .int (iI sd), .int (iI ax)] (greatK h sd ax n) := by
  refine pure_of (cc := cX5_tallest) (maxL := 5) (ret := (some .int)) (by decide) rfl (Nat.le_of_ble_eq_true rfl) ?_
  intro pZ eZ sZ mZ bZ meZ cZ F hP hE hS ls hl
  obtain ⟨hx, hb, hr, hml, hts, hown, hlk⟩ := F
  have hown : sZ.vm.findClass RX5 = some mZ.cls := hown
  have hl : lv_has ls 5 [(0, .ref qm), (1, .int (iI sd)), (2, .int (iI ax))] := hl
  have w0 := hts (.fieldLink RX5 7 "SlantYardModel" "z" "[I") (by decide +kernel)
  have in5 : ∀ w ∈ u_ws RX5 TX5 17, w ∈ wsX5_tallest := by decide +kernel
  have hnn := hY.n
  have hho := hY.hr
  refine lv_iconst (v := iI 0) hx hb dX5_tallest_0 rfl ?_
  refine lv_istore_n (lv' := [(3, .int (iI 0)), (0, .ref qm), (1, .int (iI sd)), (2, .int (iI ax))]) hx hb dX5_tallest_1 rfl hl (by decide) rfl (fun ls hl => ?_)
  refine lv_iconst (v := iI 0) hx hb dX5_tallest_2 rfl ?_
  refine lv_istore (lv' := [(4, .int (iI 0)), (3, .int (iI 0)), (0, .ref qm), (1, .int (iI sd)), (2, .int (iI ax))]) hx hb dX5_tallest_3 hl (by decide) rfl (fun ls hl => ?_)
  have L5 : ∀ (k_1 : Nat) (k : Int) (gk : 0 ≤ k) (gl : k ≤ n) (ls : Array Slot), lv_has ls 5 [(0, .ref qm), (1, .int (iI sd)), (2, .int (iI ax)), (3, .int (iI (greatK h sd ax k))), (4, .int (iI k))] → (n - k).toNat < k_1 → W pZ l eZ ({ frames := 2, cells := 0, slots := 0, locals := 45 } : Room) sZ mZ [.ref qm, .int (iI sd), .int (iI ax)].toArray bZ meZ cZ sZ.heap [] 0 0 (MQ bZ (vp_Si (fun y9 => y9 = iI (greatK h sd ax n))) [.ref qm, .int (iI sd), .int (iI ax)].toArray sZ 0 0 (fun _ => False)) (F0 mZ 5 ls []) := by
    intro k_1
    induction k_1 with
    | zero => intro k gk gl ls hl hm_3; exact absurd hm_3 (Nat.not_lt_zero _)
    | succ k_1 ih_2 =>
      intro k gk gl ls hl hm_3
      have b_4 : 0 ≤ greatK h sd ax k ∧ greatK h sd ax k ≤ 8 := greatK_rg (YOk.h hY) sd ax gk
      refine lv_iload hx hb dX5_tallest_5 (lv_at hl 4 rfl) ?_
      refine lv_aload_n hx hb dX5_tallest_7 rfl (lv_at hl 0 rfl) ?_
      refine va_get (D := g.1) (ci := 5) (v := .ref mz) (C := RX5) (T := TX5) (N := 17) hx hb hts in5 hown hE.1 hP 0 rfl rfl 1 (by decide) w0 (fun _ h9 => h9) rfl dX5_tallest_8 ?_
      refine lv_iconst (v := iI 0) hx hb dX5_tallest_11 rfl ?_
      refine ln_iald hx hb hE hP 1 rfl (by decide) (by decide) (Nat.le_of_ble_eq_true rfl) n (rfl) dX5_tallest_12 ?_
      refine ln_icmp_ge (tgt := 47) hx hb dX5_tallest_13 (by decide) ⟨by omega, by omega⟩ ⟨by omega, by omega⟩ (fun c_5 => ?_) (fun c_5 => ?_)
      · skip
        refine lv_iload_n hx hb dX5_tallest_47 rfl (lv_at hl 3 rfl) ?_
        exact pend_i hx hb hr hlk hS rfl (by rw [show k = n by omega]) dX5_tallest_48
      · skip
        refine lv_aload_n hx hb dX5_tallest_16 rfl (lv_at hl 0 rfl) ?_
        refine lv_iload_n hx hb dX5_tallest_17 rfl (lv_at hl 1 rfl) ?_
        refine lv_iload_n hx hb dX5_tallest_18 rfl (lv_at hl 2 rfl) ?_
        refine lv_iload hx hb dX5_tallest_19 (lv_at hl 4 rfl) ?_
        have hPc_6 := hP.sub (ws' := [(qm, .inr (5, [.int (iI th), .ref mz, .ref ms, .int (iI hn), .ref mp, .ref mb, .int (iI L), .ref m1, .ref m2, .ref m3, .ref mB, .ref mF, .ref mN, .ref mS, .int (iI sT), .ref mW, .long acc])), (mz, .inl (gI g, 326, .inl (aI (zF n ho h c))))]) [0, 1] rfl
        refine pc_i (va_runV (As := [.int (iI sd), .int (iI ax), .int (iI k)]) (rest := []) ⟨hx, hb, hml, hown, hts⟩ (c_X5_heightIn l g qm th mz ms hn mp mb L m1 m2 m3 mB mF mN mS sT mW acc n ho h c sd ax k hY gs ga gb gk (by omega)) (cwV 3 hts gX5_tallest_X5_heightIn rfl rfl rfl (by decide +kernel) ⟨Nat.le_of_ble_eq_true rfl, Nat.le_of_ble_eq_true rfl⟩) (puV hE hS hPc_6 rfl rfl) rfl rfl hl.1 rfl (lv_room (Nat.le_of_ble_eq_true rfl)) dX5_tallest_21 ⟨Nat.le_of_ble_eq_true rfl, Nat.le_of_ble_eq_true rfl⟩) ?_
        have r_7 : 0 ≤ hA h sd ax k ∧ hA h sd ax k ≤ 8 := hA_rg (YOk.h hY) sd ax k
        refine lv_iload_n hx hb dX5_tallest_24 rfl (lv_at hl 3 rfl) ?_
        refine ln_icmp_le (tgt := 39) hx hb dX5_tallest_25 (by decide) ⟨by omega, by omega⟩ ⟨by omega, by omega⟩ (fun c_8 => ?_) (fun c_8 => ?_)
        · skip
          refine lv_iload_n hx hb dX5_tallest_39 rfl (lv_at hl 3 rfl) ?_
          refine lv_istore_n (lv' := [(3, .int (iI (greatK h sd ax k))), (0, .ref qm), (1, .int (iI sd)), (2, .int (iI ax)), (4, .int (iI k))]) hx hb dX5_tallest_40 rfl hl (by decide) rfl (fun ls hl => ?_)
          refine lv_iinc (v := iI (k + 1)) (lv' := [(4, .int (iI (k + 1))), (3, .int (iI (greatK h sd ax k))), (0, .ref qm), (1, .int (iI sd)), (2, .int (iI ax))]) hx hb dX5_tallest_41 hl (k := 4) rfl (iI_add _ _) (by decide) rfl (fun ls hl => ?_)
          refine lv_goto (tgt := 5) hx hb dX5_tallest_44 (by decide) ?_
          have hl := lv_re hl 1 rfl (.int (iI (greatK h sd ax (k + 1)))) (congrArg (fun z => Value.int (iI z)) (show greatK h sd ax k = greatK h sd ax (k + 1) from by rw [← greatK_s gk]; unfold maxI; split <;> omega))
          have hl : lv_has ls 5 [(4, .int (iI (k + 1))), (3, .int (iI (greatK h sd ax (k + 1)))), (0, .ref qm), (1, .int (iI sd)), (2, .int (iI ax))] := hl
          exact ih_2 (k + 1) (by omega) (by omega) _ (lv_sub hl [2, 3, 4, 1, 0] rfl) (by omega)
        · skip
          refine lv_aload_n hx hb dX5_tallest_28 rfl (lv_at hl 0 rfl) ?_
          refine lv_iload_n hx hb dX5_tallest_29 rfl (lv_at hl 1 rfl) ?_
          refine lv_iload_n hx hb dX5_tallest_30 rfl (lv_at hl 2 rfl) ?_
          refine lv_iload hx hb dX5_tallest_31 (lv_at hl 4 rfl) ?_
          have hPc_9 := hP.sub (ws' := [(qm, .inr (5, [.int (iI th), .ref mz, .ref ms, .int (iI hn), .ref mp, .ref mb, .int (iI L), .ref m1, .ref m2, .ref m3, .ref mB, .ref mF, .ref mN, .ref mS, .int (iI sT), .ref mW, .long acc])), (mz, .inl (gI g, 326, .inl (aI (zF n ho h c))))]) [0, 1] rfl
          refine pc_i (va_runV (As := [.int (iI sd), .int (iI ax), .int (iI k)]) (rest := []) ⟨hx, hb, hml, hown, hts⟩ (c_X5_heightIn l g qm th mz ms hn mp mb L m1 m2 m3 mB mF mN mS sT mW acc n ho h c sd ax k hY gs ga gb gk (by omega)) (cwV 3 hts gX5_tallest_X5_heightIn rfl rfl rfl (by decide +kernel) ⟨Nat.le_of_ble_eq_true rfl, Nat.le_of_ble_eq_true rfl⟩) (puV hE hS hPc_9 rfl rfl) rfl rfl hl.1 rfl (lv_room (Nat.le_of_ble_eq_true rfl)) dX5_tallest_33 ⟨Nat.le_of_ble_eq_true rfl, Nat.le_of_ble_eq_true rfl⟩) ?_
          have r_10 : 0 ≤ hA h sd ax k ∧ hA h sd ax k ≤ 8 := hA_rg (YOk.h hY) sd ax k
          refine lv_goto (tgt := 40) hx hb dX5_tallest_36 (by decide) ?_
          refine lv_istore_n (lv' := [(3, .int (iI (hA h sd ax k))), (0, .ref qm), (1, .int (iI sd)), (2, .int (iI ax)), (4, .int (iI k))]) hx hb dX5_tallest_40 rfl hl (by decide) rfl (fun ls hl => ?_)
          refine lv_iinc (v := iI (k + 1)) (lv' := [(4, .int (iI (k + 1))), (3, .int (iI (hA h sd ax k))), (0, .ref qm), (1, .int (iI sd)), (2, .int (iI ax))]) hx hb dX5_tallest_41 hl (k := 4) rfl (iI_add _ _) (by decide) rfl (fun ls hl => ?_)
          refine lv_goto (tgt := 5) hx hb dX5_tallest_44 (by decide) ?_
          have hl := lv_re hl 1 rfl (.int (iI (greatK h sd ax (k + 1)))) (congrArg (fun z => Value.int (iI z)) (show hA h sd ax k = greatK h sd ax (k + 1) from by rw [← greatK_s gk]; unfold maxI; split <;> omega))
          have hl : lv_has ls 5 [(4, .int (iI (k + 1))), (3, .int (iI (greatK h sd ax (k + 1)))), (0, .ref qm), (1, .int (iI sd)), (2, .int (iI ax))] := hl
          exact ih_2 (k + 1) (by omega) (by omega) _ (lv_sub hl [2, 3, 4, 1, 0] rfl) (by omega)
  have hl := lv_re hl 1 rfl (.int (iI (greatK h sd ax 0))) (congrArg (fun z => Value.int (iI z)) (show 0 = greatK h sd ax 0 from by first | rfl | omega))
  have hl : lv_has ls 5 [(4, .int (iI 0)), (3, .int (iI (greatK h sd ax 0))), (0, .ref qm), (1, .int (iI sd)), (2, .int (iI ax))] := hl
  exact L5 _ 0 (by omega) (by omega) _ (lv_sub hl [2, 3, 4, 1, 0] rfl) (Nat.lt_succ_self _)
set_option maxHeartbeats 800000 in
set_option maxRecDepth 100000 in
theorem c_X5_cutAt (l : Launch) (g : GT) (qm : Nat) (th : Int) (mz : Nat) (ms : Nat) (hn : Int) (mp : Nat) (mb : Nat) (L : Int) (m1 : Nat) (m2 : Nat) (m3 : Nat) (mB : Nat) (mF : Nat) (mN : Nat) (mS : Nat) (sT : Int) (mW : Nat) (acc : Int64) (n : Int) (ho : Int) (h : Int → Int) (c : Int → Int) (z : Int) (y : Int) (hY : YOk n ho h c) (g1 : 0 ≤ y) (g2 : y < n) (gz : 0 ≤ z ∧ z ≤ 7) : MetI l yX5_cutAt wsX5_cutAt ({ frames := 1, cells := 0, slots := 0, locals := 22 }) g [(qm, .inr (5, [.int (iI th), .ref mz, .ref ms, .int (iI hn), .ref mp, .ref mb, .int (iI L), .ref m1, .ref m2, .ref m3, .ref mB, .ref mF, .ref mN, .ref mS, .int (iI sT), .ref mW, .long acc])), (mz, .inl (gI g, 326, .inl (aI (zF n ho h c))))] [.ref qm, .int (iI z), .int (iI y)] (cutM h z y n) := by
  refine pure_of (cc := cX5_cutAt) (maxL := 5) (ret := (some .int)) (by decide) rfl (Nat.le_of_ble_eq_true rfl) ?_
  intro pZ eZ sZ mZ bZ meZ cZ F hP hE hS ls hl
  obtain ⟨hx, hb, hr, hml, hts, hown, hlk⟩ := F
  have hown : sZ.vm.findClass RX5 = some mZ.cls := hown
  have hl : lv_has ls 5 [(0, .ref qm), (1, .int (iI z)), (2, .int (iI y))] := hl
  have w0 := hts (.fieldLink RX5 7 "SlantYardModel" "z" "[I") (by decide +kernel)
  have in5 : ∀ w ∈ u_ws RX5 TX5 17, w ∈ wsX5_cutAt := by decide +kernel
  have hnn := hY.n
  have hho := hY.hr
  refine lv_iconst (v := iI 0) hx hb dX5_cutAt_0 rfl ?_
  refine lv_istore_n (lv' := [(3, .int (iI 0)), (0, .ref qm), (1, .int (iI z)), (2, .int (iI y))]) hx hb dX5_cutAt_1 rfl hl (by decide) rfl (fun ls hl => ?_)
  refine lv_iconst (v := iI 0) hx hb dX5_cutAt_2 rfl ?_
  refine lv_istore (lv' := [(4, .int (iI 0)), (3, .int (iI 0)), (0, .ref qm), (1, .int (iI z)), (2, .int (iI y))]) hx hb dX5_cutAt_3 hl (by decide) rfl (fun ls hl => ?_)
  have L5 : ∀ (k_1 : Nat) (x : Int) (gx : 0 ≤ x) (gl : x ≤ n) (ls : Array Slot), lv_has ls 5 [(0, .ref qm), (1, .int (iI z)), (2, .int (iI y)), (3, .int (iI (cutM h z y x))), (4, .int (iI x))] → (n - x).toNat < k_1 → W pZ l eZ ({ frames := 1, cells := 0, slots := 0, locals := 22 } : Room) sZ mZ [.ref qm, .int (iI z), .int (iI y)].toArray bZ meZ cZ sZ.heap [] 0 0 (MQ bZ (vp_Si (fun y9 => y9 = iI (cutM h z y n))) [.ref qm, .int (iI z), .int (iI y)].toArray sZ 0 0 (fun _ => False)) (F0 mZ 5 ls []) := by
    intro k_1
    induction k_1 with
    | zero => intro x gx gl ls hl hm_3; exact absurd hm_3 (Nat.not_lt_zero _)
    | succ k_1 ih_2 =>
      intro x gx gl ls hl hm_3
      have b_4 : 0 ≤ cutM h z y x ∧ cutM h z y x < pw x := cutM_rg h z y gx
      refine lv_iload hx hb dX5_cutAt_5 (lv_at hl 4 rfl) ?_
      refine lv_aload_n hx hb dX5_cutAt_7 rfl (lv_at hl 0 rfl) ?_
      refine va_get (D := g.1) (ci := 5) (v := .ref mz) (C := RX5) (T := TX5) (N := 17) hx hb hts in5 hown hE.1 hP 0 rfl rfl 1 (by decide) w0 (fun _ h9 => h9) rfl dX5_cutAt_8 ?_
      refine lv_iconst (v := iI 0) hx hb dX5_cutAt_11 rfl ?_
      refine ln_iald hx hb hE hP 1 rfl (by decide) (by decide) (Nat.le_of_ble_eq_true rfl) n (rfl) dX5_cutAt_12 ?_
      refine ln_icmp_ge (tgt := 44) hx hb dX5_cutAt_13 (by decide) ⟨by omega, by omega⟩ ⟨by omega, by omega⟩ (fun c_5 => ?_) (fun c_5 => ?_)
      · skip
        refine lv_iload_n hx hb dX5_cutAt_44 rfl (lv_at hl 3 rfl) ?_
        exact pend_i hx hb hr hlk hS rfl (by rw [show x = n by omega]) dX5_cutAt_45
      · skip
        refine lv_iload_n hx hb dX5_cutAt_16 rfl (lv_at hl 3 rfl) ?_
        refine lv_aload_n hx hb dX5_cutAt_17 rfl (lv_at hl 0 rfl) ?_
        refine lv_iload hx hb dX5_cutAt_18 (lv_at hl 4 rfl) ?_
        refine lv_iload_n hx hb dX5_cutAt_20 rfl (lv_at hl 2 rfl) ?_
        have hPc_6 := hP.sub (ws' := [(qm, .inr (5, [.int (iI th), .ref mz, .ref ms, .int (iI hn), .ref mp, .ref mb, .int (iI L), .ref m1, .ref m2, .ref m3, .ref mB, .ref mF, .ref mN, .ref mS, .int (iI sT), .ref mW, .long acc])), (mz, .inl (gI g, 326, .inl (aI (zF n ho h c))))]) [0, 1] rfl
        refine pc_i (va_runV (As := [.int (iI x), .int (iI y)]) (rest := [.int (iI (cutM h z y x))]) ⟨hx, hb, hml, hown, hts⟩ (c_X5_height l g qm th mz ms hn mp mb L m1 m2 m3 mB mF mN mS sT mW acc n ho h c x y hY gx (by omega) g1 g2) (cwV 2 hts gX5_cutAt_X5_height rfl rfl rfl (by decide +kernel) ⟨Nat.le_of_ble_eq_true rfl, Nat.le_of_ble_eq_true rfl⟩) (puV hE hS hPc_6 rfl rfl) rfl rfl hl.1 rfl (lv_room (Nat.le_of_ble_eq_true rfl)) dX5_cutAt_21 ⟨Nat.le_of_ble_eq_true rfl, Nat.le_of_ble_eq_true rfl⟩) ?_
        have r_7 : 0 ≤ h (y * 6 + x) ∧ h (y * 6 + x) ≤ 8 := YOk.h hY (y * 6 + x)
        refine lv_iload_n hx hb dX5_cutAt_24 rfl (lv_at hl 1 rfl) ?_
        refine ln_icmp_le (tgt := 35) hx hb dX5_cutAt_25 (by decide) ⟨by omega, by omega⟩ ⟨by omega, by omega⟩ (fun c_8 => ?_) (fun c_8 => ?_)
        · skip
          refine lv_iconst (v := iI 0) hx hb dX5_cutAt_35 rfl ?_
          refine ln_ior hx hb (cutM h z y x) (by rw [show iI 0 = 0 from rfl]; exact Int32.or_zero) dX5_cutAt_36 ?_
          refine lv_istore_n (lv' := [(3, .int (iI (cutM h z y x))), (0, .ref qm), (1, .int (iI z)), (2, .int (iI y)), (4, .int (iI x))]) hx hb dX5_cutAt_37 rfl hl (by decide) rfl (fun ls hl => ?_)
          refine lv_iinc (v := iI (x + 1)) (lv' := [(4, .int (iI (x + 1))), (3, .int (iI (cutM h z y x))), (0, .ref qm), (1, .int (iI z)), (2, .int (iI y))]) hx hb dX5_cutAt_38 hl (k := 4) rfl (iI_add _ _) (by decide) rfl (fun ls hl => ?_)
          refine lv_goto (tgt := 5) hx hb dX5_cutAt_41 (by decide) ?_
          have hl := lv_re hl 1 rfl (.int (iI (cutM h z y (x + 1)))) (congrArg (fun z => Value.int (iI z)) (show cutM h z y x = cutM h z y (x + 1) from by rw [cutM_s gx]; first | (rw [if_pos (by omega)]) | (rw [if_neg (by omega)])))
          have hl : lv_has ls 5 [(4, .int (iI (x + 1))), (3, .int (iI (cutM h z y (x + 1)))), (0, .ref qm), (1, .int (iI z)), (2, .int (iI y))] := hl
          exact ih_2 (x + 1) (by omega) (by omega) _ (lv_sub hl [2, 3, 4, 1, 0] rfl) (by omega)
        · skip
          refine lv_iconst (v := iI 1) hx hb dX5_cutAt_28 rfl ?_
          refine lv_iload hx hb dX5_cutAt_29 (lv_at hl 4 rfl) ?_
          refine ln_ishl hx hb (pw x) (shl1 (by omega) (by omega)) dX5_cutAt_31 ?_
          refine lv_goto (tgt := 36) hx hb dX5_cutAt_32 (by decide) ?_
          refine ln_ior hx hb (cutM h z y x + pw x) (or1 (by omega) (by omega)) dX5_cutAt_36 ?_
          refine lv_istore_n (lv' := [(3, .int (iI (cutM h z y x + pw x))), (0, .ref qm), (1, .int (iI z)), (2, .int (iI y)), (4, .int (iI x))]) hx hb dX5_cutAt_37 rfl hl (by decide) rfl (fun ls hl => ?_)
          refine lv_iinc (v := iI (x + 1)) (lv' := [(4, .int (iI (x + 1))), (3, .int (iI (cutM h z y x + pw x))), (0, .ref qm), (1, .int (iI z)), (2, .int (iI y))]) hx hb dX5_cutAt_38 hl (k := 4) rfl (iI_add _ _) (by decide) rfl (fun ls hl => ?_)
          refine lv_goto (tgt := 5) hx hb dX5_cutAt_41 (by decide) ?_
          have hl := lv_re hl 1 rfl (.int (iI (cutM h z y (x + 1)))) (congrArg (fun z => Value.int (iI z)) (show cutM h z y x + pw x = cutM h z y (x + 1) from by rw [cutM_s gx]; first | (rw [if_pos (by omega)]) | (rw [if_neg (by omega)])))
          have hl : lv_has ls 5 [(4, .int (iI (x + 1))), (3, .int (iI (cutM h z y (x + 1)))), (0, .ref qm), (1, .int (iI z)), (2, .int (iI y))] := hl
          exact ih_2 (x + 1) (by omega) (by omega) _ (lv_sub hl [2, 3, 4, 1, 0] rfl) (by omega)
  have hl := lv_re hl 1 rfl (.int (iI (cutM h z y 0))) (congrArg (fun z => Value.int (iI z)) (show 0 = cutM h z y 0 from by first | rfl | omega))
  have hl : lv_has ls 5 [(4, .int (iI 0)), (3, .int (iI (cutM h z y 0))), (0, .ref qm), (1, .int (iI z)), (2, .int (iI y))] := hl
  exact L5 _ 0 (by omega) (by omega) _ (lv_sub hl [2, 3, 4, 1, 0] rfl) (Nat.lt_succ_self _)
set_option maxHeartbeats 800000 in
set_option maxRecDepth 100000 in
theorem c_X5_isShaded (l : Launch) (g : GT) (qm : Nat) (th : Int) (mz : Nat) (ms : Nat) (hn : Int) (mp : Nat) (mb : Nat) (L : Int) (m1 : Nat) (m2 : Nat) (m3 : Nat) (mB : Nat) (mF : Nat) (mN : Nat) (mS : Nat) (sT : Int) (mW : Nat) (acc : Int64) (n : Int) (ho : Int) (h : Int → Int) (c : Int → Int) (x : Int) (y : Int) (t : Int) (hY : YOk n ho h c) (h1 : 0 ≤ x) (h2 : x < n) (h3 : 0 ≤ y) (h4 : y < n) (gt : 0 ≤ t ∧ t ≤ 7) : MetI l yX5_isShaded wsX5_isShaded ({ frames := 2, cells := 0, slots := 0, locals := 44 }) g [(qm, .inr (5, [.int (iI th), .ref mz, .ref ms, .int (iI hn), .ref mp, .ref mb, .int (iI L), .ref m1, .ref m2, .ref m3, .ref mB, .ref mF, .ref mN, .ref mS, .int (iI sT), .ref mW, .long acc])), (mz, .inl (gI g, 326, .inl (aI (zF n ho h c)))), (m1, .inl (gI g, 8, .inl (aI sunX))), (m2, .inl (gI g, 8, .inl (aI sunY))), (m3, .inl (gI g, 8, .inl (aI sunS)))] [.ref qm, .int (iI x), .int (iI y), .int (iI t)] (shadeI n h t x y) := by
  refine pure_of (cc := cX5_isShaded) (maxL := 8) (ret := (some .boolean)) (by decide) rfl (Nat.le_of_ble_eq_true rfl) ?_
  intro pZ eZ sZ mZ bZ meZ cZ F hP hE hS ls hl
  obtain ⟨hx, hb, hr, hml, hts, hown, hlk⟩ := F
  have hown : sZ.vm.findClass RX5 = some mZ.cls := hown
  have hl : lv_has ls 8 [(0, .ref qm), (1, .int (iI x)), (2, .int (iI y)), (3, .int (iI t))] := hl
  have w0 := hts (.fieldLink RX5 7 "SlantYardModel" "z" "[I") (by decide +kernel)
  have w1 := hts (.fieldLink RX5 22 "SlantYardModel" "sunX" "[I") (by decide +kernel)
  have w2 := hts (.fieldLink RX5 25 "SlantYardModel" "sunY" "[I") (by decide +kernel)
  have w3 := hts (.fieldLink RX5 28 "SlantYardModel" "steep" "[I") (by decide +kernel)
  have in5 : ∀ w ∈ u_ws RX5 TX5 17, w ∈ wsX5_isShaded := by decide +kernel
  have hnn := hY.n
  have hho := hY.hr
  have hsu := sun_rg t gt
  refine lv_iconst (v := iI 0) hx hb dX5_isShaded_0 rfl ?_
  refine lv_istore (lv' := [(4, .int (iI 0)), (0, .ref qm), (1, .int (iI x)), (2, .int (iI y)), (3, .int (iI t))]) hx hb dX5_isShaded_1 hl (by decide) rfl (fun ls hl => ?_)
  refine lv_iconst (v := iI 1) hx hb dX5_isShaded_3 rfl ?_
  refine lv_istore (lv' := [(5, .int (iI 1)), (4, .int (iI 0)), (0, .ref qm), (1, .int (iI x)), (2, .int (iI y)), (3, .int (iI t))]) hx hb dX5_isShaded_4 hl (by decide) rfl (fun ls hl => ?_)
  have L6 : ∀ (k_1 : Nat) (k : Int) (gk : 1 ≤ k) (gl : k ≤ n) (ls : Array Slot), lv_has ls 8 [(0, .ref qm), (1, .int (iI x)), (2, .int (iI y)), (3, .int (iI t)), (4, .int (iI (shadeK n h t x y (k - 1)))), (5, .int (iI k))] → (n - k).toNat < k_1 → W pZ l eZ ({ frames := 2, cells := 0, slots := 0, locals := 44 } : Room) sZ mZ [.ref qm, .int (iI x), .int (iI y), .int (iI t)].toArray bZ meZ cZ sZ.heap [] 0 0 (MQ bZ (vp_Si (fun y9 => y9 = iI (shadeI n h t x y))) [.ref qm, .int (iI x), .int (iI y), .int (iI t)].toArray sZ 0 0 (fun _ => False)) (F0 mZ 6 ls []) := by
    intro k_1
    induction k_1 with
    | zero => intro k gk gl ls hl hm_3; exact absurd hm_3 (Nat.not_lt_zero _)
    | succ k_1 ih_2 =>
      intro k gk gl ls hl hm_3
      have b_4 : -6 ≤ k * sunX t ∧ k * sunX t ≤ 6 := mulsun (by omega) hsu.1
      have b_5 : -6 ≤ k * sunY t ∧ k * sunY t ≤ 6 := mulsun (by omega) hsu.2.1
      have b_6 : -6 ≤ k * sunS t ∧ k * sunS t ≤ 18 := mulsun3 (by omega) hsu.2.2
      refine lv_iload hx hb dX5_isShaded_6 (lv_at hl 5 rfl) ?_
      refine lv_aload_n hx hb dX5_isShaded_8 rfl (lv_at hl 0 rfl) ?_
      refine va_get (D := g.1) (ci := 5) (v := .ref mz) (C := RX5) (T := TX5) (N := 17) hx hb hts in5 hown hE.1 hP 0 rfl rfl 1 (by decide) w0 (fun _ h9 => h9) rfl dX5_isShaded_9 ?_
      refine lv_iconst (v := iI 0) hx hb dX5_isShaded_12 rfl ?_
      refine ln_iald hx hb hE hP 1 rfl (by decide) (by decide) (Nat.le_of_ble_eq_true rfl) n (rfl) dX5_isShaded_13 ?_
      refine ln_icmp_ge (tgt := 99) hx hb dX5_isShaded_14 (by decide) ⟨by omega, by omega⟩ ⟨by omega, by omega⟩ (fun c_7 => ?_) (fun c_7 => ?_)
      · skip
        refine lv_iload hx hb dX5_isShaded_99 (lv_at hl 4 rfl) ?_
        exact pend_z hx hb hr hlk hS rfl (shadeK_01 n h t x y (k - 1)) (by (show _ = shadeK n h t x y (n - 1); rw [show k = n by omega])) dX5_isShaded_101
      · skip
        refine lv_iload_n hx hb dX5_isShaded_17 rfl (lv_at hl 1 rfl) ?_
        refine lv_iload hx hb dX5_isShaded_18 (lv_at hl 5 rfl) ?_
        refine lv_aload_n hx hb dX5_isShaded_20 rfl (lv_at hl 0 rfl) ?_
        refine va_get (D := g.1) (ci := 5) (v := .ref m1) (C := RX5) (T := TX5) (N := 17) hx hb hts in5 hown hE.1 hP 0 rfl rfl 7 (by decide) w1 (fun _ h9 => h9) rfl dX5_isShaded_21 ?_
        refine lv_iload_n hx hb dX5_isShaded_24 rfl (lv_at hl 3 rfl) ?_
        refine ln_iald hx hb hE hP 2 rfl (by omega) (by omega) (Nat.le_of_ble_eq_true rfl) (sunX t) (rfl) dX5_isShaded_25 ?_
        refine ln_imul hx hb (k * sunX t) (rfl) dX5_isShaded_26 ?_
        refine ln_iadd hx hb (x + k * sunX t) (rfl) dX5_isShaded_27 ?_
        refine lv_istore (lv' := [(6, .int (iI (x + k * sunX t))), (0, .ref qm), (1, .int (iI x)), (2, .int (iI y)), (3, .int (iI t)), (4, .int (iI (shadeK n h t x y (k - 1)))), (5, .int (iI k))]) hx hb dX5_isShaded_28 hl (by decide) rfl (fun ls hl => ?_)
        refine lv_iload_n hx hb dX5_isShaded_30 rfl (lv_at hl 3 rfl) ?_
        refine lv_iload hx hb dX5_isShaded_31 (lv_at hl 6 rfl) ?_
        refine lv_aload_n hx hb dX5_isShaded_33 rfl (lv_at hl 1 rfl) ?_
        refine va_get (D := g.1) (ci := 5) (v := .ref m2) (C := RX5) (T := TX5) (N := 17) hx hb hts in5 hown hE.1 hP 0 rfl rfl 8 (by decide) w2 (fun _ h9 => h9) rfl dX5_isShaded_34 ?_
        refine lv_iload_n hx hb dX5_isShaded_37 rfl (lv_at hl 4 rfl) ?_
        refine ln_iald hx hb hE hP 3 rfl (by omega) (by omega) (Nat.le_of_ble_eq_true rfl) (sunY t) (rfl) dX5_isShaded_38 ?_
        refine ln_imul hx hb (k * sunY t) (rfl) dX5_isShaded_39 ?_
        refine ln_iadd hx hb (y + k * sunY t) (rfl) dX5_isShaded_40 ?_
        refine lv_istore (lv' := [(7, .int (iI (y + k * sunY t))), (6, .int (iI (x + k * sunX t))), (0, .ref qm), (1, .int (iI x)), (2, .int (iI y)), (3, .int (iI t)), (4, .int (iI (shadeK n h t x y (k - 1)))), (5, .int (iI k))]) hx hb dX5_isShaded_41 hl (by decide) rfl (fun ls hl => ?_)
        have ho9 := shadeK_or (n := n) (h := h) (t := t) (x := x) (y := y) gk
        have h019 := shadeK_01 n h t x y (k - 1)
        refine lv_iload hx hb dX5_isShaded_43 (lv_at hl 6 rfl) ?_
        refine ln_if_ne (tgt := 86) hx hb dX5_isShaded_45 (by decide) ⟨by omega, by omega⟩ (fun c_8 => ?_) (fun c_8 => ?_)
        · skip
          refine lv_iconst (v := iI 1) hx hb dX5_isShaded_86 rfl ?_
          refine lv_goto (tgt := 91) hx hb dX5_isShaded_87 (by decide) ?_
          refine lv_istore (lv' := [(4, .int (iI 1)), (7, .int (iI (y + k * sunY t))), (6, .int (iI (x + k * sunX t))), (0, .ref qm), (1, .int (iI x)), (2, .int (iI y)), (3, .int (iI t)), (5, .int (iI k))]) hx hb dX5_isShaded_91 hl (by decide) rfl (fun ls hl => ?_)
          refine lv_iinc (v := iI (k + 1)) (lv' := [(5, .int (iI (k + 1))), (4, .int (iI 1)), (7, .int (iI (y + k * sunY t))), (6, .int (iI (x + k * sunX t))), (0, .ref qm), (1, .int (iI x)), (2, .int (iI y)), (3, .int (iI t))]) hx hb dX5_isShaded_93 hl (k := 7) rfl (iI_add _ _) (by decide) rfl (fun ls hl => ?_)
          refine lv_goto (tgt := 6) hx hb dX5_isShaded_96 (by decide) ?_
          have hl := lv_re hl 1 rfl (.int (iI (shadeK n h t x y ((k + 1) - 1)))) (congrArg (fun z => Value.int (iI z)) (show 1 = shadeK n h t x y ((k + 1) - 1) from by rw [show k + 1 - 1 = k by omega]; unfold shP at ho9; first | omega | (rcases ho9 with ⟨⟨⟨⟨q1, q2⟩, q3, q4⟩, q5⟩, q6⟩ | ⟨q5, q6⟩; omega; (rw [q6]; first | omega | exact absurd ⟨by assumption, by omega⟩ q5))))
          have hl : lv_has ls 8 [(5, .int (iI (k + 1))), (4, .int (iI (shadeK n h t x y ((k + 1) - 1)))), (7, .int (iI (y + k * sunY t))), (6, .int (iI (x + k * sunX t))), (0, .ref qm), (1, .int (iI x)), (2, .int (iI y)), (3, .int (iI t))] := hl
          exact ih_2 (k + 1) (by omega) (by omega) _ (lv_sub hl [4, 5, 6, 7, 1, 0] rfl) (by omega)
        · skip
          refine lv_aload_n hx hb dX5_isShaded_48 rfl (lv_at hl 2 rfl) ?_
          refine lv_iload hx hb dX5_isShaded_49 (lv_at hl 1 rfl) ?_
          refine lv_iload hx hb dX5_isShaded_51 (lv_at hl 0 rfl) ?_
          have hPc_9 := hP.sub (ws' := [(qm, .inr (5, [.int (iI th), .ref mz, .ref ms, .int (iI hn), .ref mp, .ref mb, .int (iI L), .ref m1, .ref m2, .ref m3, .ref mB, .ref mF, .ref mN, .ref mS, .int (iI sT), .ref mW, .long acc])), (mz, .inl (gI g, 326, .inl (aI (zF n ho h c))))]) [0, 1] rfl
          refine pc_i (va_runV (As := [.int (iI (x + k * sunX t)), .int (iI (y + k * sunY t))]) (rest := []) ⟨hx, hb, hml, hown, hts⟩ (c_X5_isSquare l g qm th mz ms hn mp mb L m1 m2 m3 mB mF mN mS sT mW acc n ho h c (x + k * sunX t) (y + k * sunY t) hY (by omega) (by omega)) (cwV 2 hts gX5_isShaded_X5_isSquare rfl rfl rfl (by decide +kernel) ⟨Nat.le_of_ble_eq_true rfl, Nat.le_of_ble_eq_true rfl⟩) (puV hE hS hPc_9 rfl rfl) rfl rfl hl.1 rfl (lv_room (Nat.le_of_ble_eq_true rfl)) dX5_isShaded_53 ⟨Nat.le_of_ble_eq_true rfl, Nat.le_of_ble_eq_true rfl⟩) ?_
          refine lb_if_eq (tgt := 90) hx hb dX5_isShaded_56 (by decide) (fun c_10 => ?_) (fun c_10 => ?_)
          · skip
            refine lv_iconst (v := iI 0) hx hb dX5_isShaded_90 rfl ?_
            refine lv_istore (lv' := [(4, .int (iI 0)), (7, .int (iI (y + k * sunY t))), (6, .int (iI (x + k * sunX t))), (0, .ref qm), (1, .int (iI x)), (2, .int (iI y)), (3, .int (iI t)), (5, .int (iI k))]) hx hb dX5_isShaded_91 hl (by decide) rfl (fun ls hl => ?_)
            refine lv_iinc (v := iI (k + 1)) (lv' := [(5, .int (iI (k + 1))), (4, .int (iI 0)), (7, .int (iI (y + k * sunY t))), (6, .int (iI (x + k * sunX t))), (0, .ref qm), (1, .int (iI x)), (2, .int (iI y)), (3, .int (iI t))]) hx hb dX5_isShaded_93 hl (k := 7) rfl (iI_add _ _) (by decide) rfl (fun ls hl => ?_)
            refine lv_goto (tgt := 6) hx hb dX5_isShaded_96 (by decide) ?_
            have hl := lv_re hl 1 rfl (.int (iI (shadeK n h t x y ((k + 1) - 1)))) (congrArg (fun z => Value.int (iI z)) (show 0 = shadeK n h t x y ((k + 1) - 1) from by rw [show k + 1 - 1 = k by omega]; unfold shP at ho9; first | omega | (rcases ho9 with ⟨⟨⟨⟨q1, q2⟩, q3, q4⟩, q5⟩, q6⟩ | ⟨q5, q6⟩; omega; (rw [q6]; first | omega | exact absurd ⟨by assumption, by omega⟩ q5))))
            have hl : lv_has ls 8 [(5, .int (iI (k + 1))), (4, .int (iI (shadeK n h t x y ((k + 1) - 1)))), (7, .int (iI (y + k * sunY t))), (6, .int (iI (x + k * sunX t))), (0, .ref qm), (1, .int (iI x)), (2, .int (iI y)), (3, .int (iI t))] := hl
            exact ih_2 (k + 1) (by omega) (by omega) _ (lv_sub hl [4, 5, 6, 7, 1, 0] rfl) (by omega)
          · skip
            refine lv_aload_n hx hb dX5_isShaded_59 rfl (lv_at hl 2 rfl) ?_
            refine lv_iload hx hb dX5_isShaded_60 (lv_at hl 1 rfl) ?_
            refine lv_iload hx hb dX5_isShaded_62 (lv_at hl 0 rfl) ?_
            have hPc_11 := hP.sub (ws' := [(qm, .inr (5, [.int (iI th), .ref mz, .ref ms, .int (iI hn), .ref mp, .ref mb, .int (iI L), .ref m1, .ref m2, .ref m3, .ref mB, .ref mF, .ref mN, .ref mS, .int (iI sT), .ref mW, .long acc])), (mz, .inl (gI g, 326, .inl (aI (zF n ho h c))))]) [0, 1] rfl
            refine pc_i (va_runV (As := [.int (iI (x + k * sunX t)), .int (iI (y + k * sunY t))]) (rest := []) ⟨hx, hb, hml, hown, hts⟩ (c_X5_height l g qm th mz ms hn mp mb L m1 m2 m3 mB mF mN mS sT mW acc n ho h c (x + k * sunX t) (y + k * sunY t) hY (by omega) (by omega) (by omega) (by omega)) (cwV 2 hts gX5_isShaded_X5_height rfl rfl rfl (by decide +kernel) ⟨Nat.le_of_ble_eq_true rfl, Nat.le_of_ble_eq_true rfl⟩) (puV hE hS hPc_11 rfl rfl) rfl rfl hl.1 rfl (lv_room (Nat.le_of_ble_eq_true rfl)) dX5_isShaded_64 ⟨Nat.le_of_ble_eq_true rfl, Nat.le_of_ble_eq_true rfl⟩) ?_
            have r_12 : 0 ≤ h ((y + k * sunY t) * 6 + (x + k * sunX t)) ∧ h ((y + k * sunY t) * 6 + (x + k * sunX t)) ≤ 8 := YOk.h hY ((y + k * sunY t) * 6 + (x + k * sunX t))
            refine lv_aload_n hx hb dX5_isShaded_67 rfl (lv_at hl 2 rfl) ?_
            refine lv_iload_n hx hb dX5_isShaded_68 rfl (lv_at hl 3 rfl) ?_
            refine lv_iload_n hx hb dX5_isShaded_69 rfl (lv_at hl 4 rfl) ?_
            have hPc_13 := hP.sub (ws' := [(qm, .inr (5, [.int (iI th), .ref mz, .ref ms, .int (iI hn), .ref mp, .ref mb, .int (iI L), .ref m1, .ref m2, .ref m3, .ref mB, .ref mF, .ref mN, .ref mS, .int (iI sT), .ref mW, .long acc])), (mz, .inl (gI g, 326, .inl (aI (zF n ho h c))))]) [0, 1] rfl
            refine pc_i (va_runV (As := [.int (iI x), .int (iI y)]) (rest := [.int (iI (h ((y + k * sunY t) * 6 + (x + k * sunX t))))]) ⟨hx, hb, hml, hown, hts⟩ (c_X5_height l g qm th mz ms hn mp mb L m1 m2 m3 mB mF mN mS sT mW acc n ho h c x y hY h1 h2 h3 h4) (cwV 2 hts gX5_isShaded_X5_height rfl rfl rfl (by decide +kernel) ⟨Nat.le_of_ble_eq_true rfl, Nat.le_of_ble_eq_true rfl⟩) (puV hE hS hPc_13 rfl rfl) rfl rfl hl.1 rfl (lv_room (Nat.le_of_ble_eq_true rfl)) dX5_isShaded_70 ⟨Nat.le_of_ble_eq_true rfl, Nat.le_of_ble_eq_true rfl⟩) ?_
            have r_14 : 0 ≤ h (y * 6 + x) ∧ h (y * 6 + x) ≤ 8 := YOk.h hY (y * 6 + x)
            refine ln_isub hx hb (h ((y + k * sunY t) * 6 + (x + k * sunX t)) - h (y * 6 + x)) (rfl) dX5_isShaded_73 ?_
            refine lv_iload hx hb dX5_isShaded_74 (lv_at hl 7 rfl) ?_
            refine lv_aload_n hx hb dX5_isShaded_76 rfl (lv_at hl 2 rfl) ?_
            refine va_get (D := g.1) (ci := 5) (v := .ref m3) (C := RX5) (T := TX5) (N := 17) hx hb hts in5 hown hE.1 hP 0 rfl rfl 9 (by decide) w3 (fun _ h9 => h9) rfl dX5_isShaded_77 ?_
            refine lv_iload_n hx hb dX5_isShaded_80 rfl (lv_at hl 5 rfl) ?_
            refine ln_iald hx hb hE hP 4 rfl (by omega) (by omega) (Nat.le_of_ble_eq_true rfl) (sunS t) (rfl) dX5_isShaded_81 ?_
            refine ln_imul hx hb (k * sunS t) (rfl) dX5_isShaded_82 ?_
            refine ln_icmp_lt (tgt := 90) hx hb dX5_isShaded_83 (by decide) ⟨by omega, by omega⟩ ⟨by omega, by omega⟩ (fun c_15 => ?_) (fun c_15 => ?_)
            · skip
              refine lv_iconst (v := iI 0) hx hb dX5_isShaded_90 rfl ?_
              refine lv_istore (lv' := [(4, .int (iI 0)), (7, .int (iI (y + k * sunY t))), (6, .int (iI (x + k * sunX t))), (0, .ref qm), (1, .int (iI x)), (2, .int (iI y)), (3, .int (iI t)), (5, .int (iI k))]) hx hb dX5_isShaded_91 hl (by decide) rfl (fun ls hl => ?_)
              refine lv_iinc (v := iI (k + 1)) (lv' := [(5, .int (iI (k + 1))), (4, .int (iI 0)), (7, .int (iI (y + k * sunY t))), (6, .int (iI (x + k * sunX t))), (0, .ref qm), (1, .int (iI x)), (2, .int (iI y)), (3, .int (iI t))]) hx hb dX5_isShaded_93 hl (k := 7) rfl (iI_add _ _) (by decide) rfl (fun ls hl => ?_)
              refine lv_goto (tgt := 6) hx hb dX5_isShaded_96 (by decide) ?_
              have hl := lv_re hl 1 rfl (.int (iI (shadeK n h t x y ((k + 1) - 1)))) (congrArg (fun z => Value.int (iI z)) (show 0 = shadeK n h t x y ((k + 1) - 1) from by rw [show k + 1 - 1 = k by omega]; unfold shP at ho9; first | omega | (rcases ho9 with ⟨⟨⟨⟨q1, q2⟩, q3, q4⟩, q5⟩, q6⟩ | ⟨q5, q6⟩; omega; (rw [q6]; first | omega | exact absurd ⟨by assumption, by omega⟩ q5))))
              have hl : lv_has ls 8 [(5, .int (iI (k + 1))), (4, .int (iI (shadeK n h t x y ((k + 1) - 1)))), (7, .int (iI (y + k * sunY t))), (6, .int (iI (x + k * sunX t))), (0, .ref qm), (1, .int (iI x)), (2, .int (iI y)), (3, .int (iI t))] := hl
              exact ih_2 (k + 1) (by omega) (by omega) _ (lv_sub hl [4, 5, 6, 7, 1, 0] rfl) (by omega)
            · skip
              refine lv_iconst (v := iI 1) hx hb dX5_isShaded_86 rfl ?_
              refine lv_goto (tgt := 91) hx hb dX5_isShaded_87 (by decide) ?_
              refine lv_istore (lv' := [(4, .int (iI 1)), (7, .int (iI (y + k * sunY t))), (6, .int (iI (x + k * sunX t))), (0, .ref qm), (1, .int (iI x)), (2, .int (iI y)), (3, .int (iI t)), (5, .int (iI k))]) hx hb dX5_isShaded_91 hl (by decide) rfl (fun ls hl => ?_)
              refine lv_iinc (v := iI (k + 1)) (lv' := [(5, .int (iI (k + 1))), (4, .int (iI 1)), (7, .int (iI (y + k * sunY t))), (6, .int (iI (x + k * sunX t))), (0, .ref qm), (1, .int (iI x)), (2, .int (iI y)), (3, .int (iI t))]) hx hb dX5_isShaded_93 hl (k := 7) rfl (iI_add _ _) (by decide) rfl (fun ls hl => ?_)
              refine lv_goto (tgt := 6) hx hb dX5_isShaded_96 (by decide) ?_
              have hl := lv_re hl 1 rfl (.int (iI (shadeK n h t x y ((k + 1) - 1)))) (congrArg (fun z => Value.int (iI z)) (show 1 = shadeK n h t x y ((k + 1) - 1) from by rw [show k + 1 - 1 = k by omega]; unfold shP at ho9; first | omega | (rcases ho9 with ⟨⟨⟨⟨q1, q2⟩, q3, q4⟩, q5⟩, q6⟩ | ⟨q5, q6⟩; omega; (rw [q6]; first | omega | exact absurd ⟨by assumption, by omega⟩ q5))))
              have hl : lv_has ls 8 [(5, .int (iI (k + 1))), (4, .int (iI (shadeK n h t x y ((k + 1) - 1)))), (7, .int (iI (y + k * sunY t))), (6, .int (iI (x + k * sunX t))), (0, .ref qm), (1, .int (iI x)), (2, .int (iI y)), (3, .int (iI t))] := hl
              exact ih_2 (k + 1) (by omega) (by omega) _ (lv_sub hl [4, 5, 6, 7, 1, 0] rfl) (by omega)
  have hl := lv_re hl 1 rfl (.int (iI (shadeK n h t x y (1 - 1)))) (congrArg (fun z => Value.int (iI z)) (show 0 = shadeK n h t x y (1 - 1) from rfl))
  have hl : lv_has ls 8 [(5, .int (iI 1)), (4, .int (iI (shadeK n h t x y (1 - 1)))), (0, .ref qm), (1, .int (iI x)), (2, .int (iI y)), (3, .int (iI t))] := hl
  exact L6 _ 1 (by omega) (by omega) _ (lv_sub hl [2, 3, 4, 5, 1, 0] rfl) (Nat.lt_succ_self _)
set_option maxHeartbeats 800000 in
set_option maxRecDepth 100000 in
theorem c_X5_shaded (l : Launch) (g : GT) (qm : Nat) (th : Int) (mz : Nat) (ms : Nat) (hn : Int) (mp : Nat) (mb : Nat) (L : Int) (m1 : Nat) (m2 : Nat) (m3 : Nat) (mB : Nat) (mF : Nat) (mN : Nat) (mS : Nat) (sT : Int) (mW : Nat) (acc : Int64) (n : Int) (ho : Int) (h : Int → Int) (c : Int → Int) (t : Int) (hY : YOk n ho h c) (gt : 0 ≤ t ∧ t ≤ 7) : MetI l yX5_shaded wsX5_shaded ({ frames := 3, cells := 0, slots := 0, locals := 71 }) g [(qm, .inr (5, [.int (iI th), .ref mz, .ref ms, .int (iI hn), .ref mp, .ref mb, .int (iI L), .ref m1, .ref m2, .ref m3, .ref mB, .ref mF, .ref mN, .ref mS, .int (iI sT), .ref mW, .long acc])), (mz, .inl (gI g, 326, .inl (aI (zF n ho h c)))), (m1, .inl (gI g, 8, .inl (aI sunX))), (m2, .inl (gI g, 8, .inl (aI sunY))), (m3, .inl (gI g, 8, .inl (aI sunS)))] [.ref qm, .int (iI t)] (shK n h t n) := by
  refine pure_of (cc := cX5_shaded) (maxL := 5) (ret := (some .int)) (by decide) rfl (Nat.le_of_ble_eq_true rfl) ?_
  intro pZ eZ sZ mZ bZ meZ cZ F hP hE hS ls hl
  obtain ⟨hx, hb, hr, hml, hts, hown, hlk⟩ := F
  have hown : sZ.vm.findClass RX5 = some mZ.cls := hown
  have hl : lv_has ls 5 [(0, .ref qm), (1, .int (iI t))] := hl
  have w0 := hts (.fieldLink RX5 7 "SlantYardModel" "z" "[I") (by decide +kernel)
  have in5 : ∀ w ∈ u_ws RX5 TX5 17, w ∈ wsX5_shaded := by decide +kernel
  have hnn := hY.n
  have hho := hY.hr
  refine lv_iconst (v := iI 0) hx hb dX5_shaded_0 rfl ?_
  refine lv_istore_n (lv' := [(2, .int (iI 0)), (0, .ref qm), (1, .int (iI t))]) hx hb dX5_shaded_1 rfl hl (by decide) rfl (fun ls hl => ?_)
  refine lv_iconst (v := iI 0) hx hb dX5_shaded_2 rfl ?_
  refine lv_istore_n (lv' := [(3, .int (iI 0)), (2, .int (iI 0)), (0, .ref qm), (1, .int (iI t))]) hx hb dX5_shaded_3 rfl hl (by decide) rfl (fun ls hl => ?_)
  have L4 : ∀ (k_1 : Nat) (y : Int) (gk : 0 ≤ y) (gl : y ≤ n) (ls : Array Slot), lv_has ls 5 [(0, .ref qm), (1, .int (iI t)), (2, .int (iI (shK n h t y))), (3, .int (iI y))] → (n - y).toNat < k_1 → W pZ l eZ ({ frames := 3, cells := 0, slots := 0, locals := 71 } : Room) sZ mZ [.ref qm, .int (iI t)].toArray bZ meZ cZ sZ.heap [] 0 0 (MQ bZ (vp_Si (fun y9 => y9 = iI (shK n h t n))) [.ref qm, .int (iI t)].toArray sZ 0 0 (fun _ => False)) (F0 mZ 4 ls []) := by
    intro k_1
    induction k_1 with
    | zero => intro y gk gl ls hl hm_3; exact absurd hm_3 (Nat.not_lt_zero _)
    | succ k_1 ih_2 =>
      intro y gk gl ls hl hm_3
      have b_4 : 0 ≤ shK n h t y ∧ shK n h t y ≤ y * 6 := shK_rg t (by omega) gk
      refine lv_iload_n hx hb dX5_shaded_4 rfl (lv_at hl 3 rfl) ?_
      refine lv_aload_n hx hb dX5_shaded_5 rfl (lv_at hl 0 rfl) ?_
      refine va_get (D := g.1) (ci := 5) (v := .ref mz) (C := RX5) (T := TX5) (N := 17) hx hb hts in5 hown hE.1 hP 0 rfl rfl 1 (by decide) w0 (fun _ h9 => h9) rfl dX5_shaded_6 ?_
      refine lv_iconst (v := iI 0) hx hb dX5_shaded_9 rfl ?_
      refine ln_iald hx hb hE hP 1 rfl (by decide) (by decide) (Nat.le_of_ble_eq_true rfl) n (rfl) dX5_shaded_10 ?_
      refine ln_icmp_ge (tgt := 59) hx hb dX5_shaded_11 (by decide) ⟨by omega, by omega⟩ ⟨by omega, by omega⟩ (fun c_5 => ?_) (fun c_5 => ?_)
      · skip
        refine lv_iload_n hx hb dX5_shaded_59 rfl (lv_at hl 2 rfl) ?_
        exact pend_i hx hb hr hlk hS rfl (by rw [show y = n by omega]) dX5_shaded_60
      · skip
        refine lv_iconst (v := iI 0) hx hb dX5_shaded_14 rfl ?_
        refine lv_istore (lv' := [(4, .int (iI 0)), (0, .ref qm), (1, .int (iI t)), (2, .int (iI (shK n h t y))), (3, .int (iI y))]) hx hb dX5_shaded_15 hl (by decide) rfl (fun ls hl => ?_)
        have L17 : ∀ (k_6 : Nat) (x : Int) (gx : 0 ≤ x) (gm : x ≤ n) (ls : Array Slot), lv_has ls 5 [(0, .ref qm), (1, .int (iI t)), (2, .int (iI (shR n h t y (shK n h t y) x))), (3, .int (iI y)), (4, .int (iI x))] → (n - x).toNat < k_6 → W pZ l eZ ({ frames := 3, cells := 0, slots := 0, locals := 71 } : Room) sZ mZ [.ref qm, .int (iI t)].toArray bZ meZ cZ sZ.heap [] 0 0 (MQ bZ (vp_Si (fun y9 => y9 = iI (shK n h t n))) [.ref qm, .int (iI t)].toArray sZ 0 0 (fun _ => False)) (F0 mZ 17 ls []) := by
          intro k_6
          induction k_6 with
          | zero => intro x gx gm ls hl hm_8; exact absurd hm_8 (Nat.not_lt_zero _)
          | succ k_6 ih_7 =>
            intro x gx gm ls hl hm_8
            have b_9 : shK n h t y ≤ shR n h t y (shK n h t y) x ∧ shR n h t y (shK n h t y) x ≤ shK n h t y + x := shR_rg t y _ gx
            refine lv_iload hx hb dX5_shaded_17 (lv_at hl 4 rfl) ?_
            refine lv_aload_n hx hb dX5_shaded_19 rfl (lv_at hl 0 rfl) ?_
            refine va_get (D := g.1) (ci := 5) (v := .ref mz) (C := RX5) (T := TX5) (N := 17) hx hb hts in5 hown hE.1 hP 0 rfl rfl 1 (by decide) w0 (fun _ h9 => h9) rfl dX5_shaded_20 ?_
            refine lv_iconst (v := iI 0) hx hb dX5_shaded_23 rfl ?_
            refine ln_iald hx hb hE hP 1 rfl (by decide) (by decide) (Nat.le_of_ble_eq_true rfl) n (rfl) dX5_shaded_24 ?_
            refine ln_icmp_ge (tgt := 53) hx hb dX5_shaded_25 (by decide) ⟨by omega, by omega⟩ ⟨by omega, by omega⟩ (fun c_10 => ?_) (fun c_10 => ?_)
            · skip
              refine lv_iinc (v := iI (y + 1)) (lv' := [(3, .int (iI (y + 1))), (0, .ref qm), (1, .int (iI t)), (2, .int (iI (shR n h t y (shK n h t y) x))), (4, .int (iI x))]) hx hb dX5_shaded_53 hl (k := 3) rfl (iI_add _ _) (by decide) rfl (fun ls hl => ?_)
              refine lv_goto (tgt := 4) hx hb dX5_shaded_56 (by decide) ?_
              have hl := lv_re hl 3 rfl (.int (iI (shK n h t (y + 1)))) (congrArg (fun z => Value.int (iI z)) (show shR n h t y (shK n h t y) x = shK n h t (y + 1) from by rw [show x = n by omega]; exact shK_s gk))
              have hl : lv_has ls 5 [(3, .int (iI (y + 1))), (0, .ref qm), (1, .int (iI t)), (2, .int (iI (shK n h t (y + 1)))), (4, .int (iI x))] := hl
              exact ih_2 (y + 1) (by omega) (by omega) _ (lv_sub hl [1, 2, 3, 0] rfl) (by omega)
            · skip
              refine lv_iload_n hx hb dX5_shaded_28 rfl (lv_at hl 2 rfl) ?_
              refine lv_aload_n hx hb dX5_shaded_29 rfl (lv_at hl 0 rfl) ?_
              refine lv_iload hx hb dX5_shaded_30 (lv_at hl 4 rfl) ?_
              refine lv_iload_n hx hb dX5_shaded_32 rfl (lv_at hl 3 rfl) ?_
              refine lv_iload_n hx hb dX5_shaded_33 rfl (lv_at hl 1 rfl) ?_
              have hPc_11 := hP.sub (ws' := [(qm, .inr (5, [.int (iI th), .ref mz, .ref ms, .int (iI hn), .ref mp, .ref mb, .int (iI L), .ref m1, .ref m2, .ref m3, .ref mB, .ref mF, .ref mN, .ref mS, .int (iI sT), .ref mW, .long acc])), (mz, .inl (gI g, 326, .inl (aI (zF n ho h c)))), (m1, .inl (gI g, 8, .inl (aI sunX))), (m2, .inl (gI g, 8, .inl (aI sunY))), (m3, .inl (gI g, 8, .inl (aI sunS)))]) [0, 1, 2, 3, 4] rfl
              refine pc_i (va_runV (As := [.int (iI x), .int (iI y), .int (iI t)]) (rest := [.int (iI (shR n h t y (shK n h t y) x))]) ⟨hx, hb, hml, hown, hts⟩ (c_X5_isShaded l g qm th mz ms hn mp mb L m1 m2 m3 mB mF mN mS sT mW acc n ho h c x y t hY gx (by omega) gk (by omega) gt) (cwV 3 hts gX5_shaded_X5_isShaded rfl rfl rfl (by decide +kernel) ⟨Nat.le_of_ble_eq_true rfl, Nat.le_of_ble_eq_true rfl⟩) (puV hE hS hPc_11 rfl rfl) rfl rfl hl.1 rfl (lv_room (Nat.le_of_ble_eq_true rfl)) dX5_shaded_34 ⟨Nat.le_of_ble_eq_true rfl, Nat.le_of_ble_eq_true rfl⟩) ?_
              have r_12 := shadeI_01 n h t x y
              refine ln_if_eq (tgt := 44) hx hb dX5_shaded_37 (by decide) ⟨by omega, by omega⟩ (fun c_13 => ?_) (fun c_13 => ?_)
              · skip
                refine lv_iconst (v := iI 0) hx hb dX5_shaded_44 rfl ?_
                refine ln_iadd hx hb (shR n h t y (shK n h t y) x + 0) (rfl) dX5_shaded_45 ?_
                refine lv_istore_n (lv' := [(2, .int (iI (shR n h t y (shK n h t y) x + 0))), (0, .ref qm), (1, .int (iI t)), (3, .int (iI y)), (4, .int (iI x))]) hx hb dX5_shaded_46 rfl hl (by decide) rfl (fun ls hl => ?_)
                refine lv_iinc (v := iI (x + 1)) (lv' := [(4, .int (iI (x + 1))), (2, .int (iI (shR n h t y (shK n h t y) x + 0))), (0, .ref qm), (1, .int (iI t)), (3, .int (iI y))]) hx hb dX5_shaded_47 hl (k := 4) rfl (iI_add _ _) (by decide) rfl (fun ls hl => ?_)
                refine lv_goto (tgt := 17) hx hb dX5_shaded_50 (by decide) ?_
                have hl := lv_re hl 1 rfl (.int (iI (shR n h t y (shK n h t y) (x + 1)))) (congrArg (fun z => Value.int (iI z)) (show shR n h t y (shK n h t y) x + 0 = shR n h t y (shK n h t y) (x + 1) from by rw [shR_s gx]; rcases shadeI_01 n h t x y with q | q <;> omega))
                have hl : lv_has ls 5 [(4, .int (iI (x + 1))), (2, .int (iI (shR n h t y (shK n h t y) (x + 1)))), (0, .ref qm), (1, .int (iI t)), (3, .int (iI y))] := hl
                exact ih_7 (x + 1) (by omega) (by omega) _ (lv_sub hl [2, 3, 1, 4, 0] rfl) (by omega)
              · skip
                refine lv_iconst (v := iI 1) hx hb dX5_shaded_40 rfl ?_
                refine lv_goto (tgt := 45) hx hb dX5_shaded_41 (by decide) ?_
                refine ln_iadd hx hb (shR n h t y (shK n h t y) x + 1) (rfl) dX5_shaded_45 ?_
                refine lv_istore_n (lv' := [(2, .int (iI (shR n h t y (shK n h t y) x + 1))), (0, .ref qm), (1, .int (iI t)), (3, .int (iI y)), (4, .int (iI x))]) hx hb dX5_shaded_46 rfl hl (by decide) rfl (fun ls hl => ?_)
                refine lv_iinc (v := iI (x + 1)) (lv' := [(4, .int (iI (x + 1))), (2, .int (iI (shR n h t y (shK n h t y) x + 1))), (0, .ref qm), (1, .int (iI t)), (3, .int (iI y))]) hx hb dX5_shaded_47 hl (k := 4) rfl (iI_add _ _) (by decide) rfl (fun ls hl => ?_)
                refine lv_goto (tgt := 17) hx hb dX5_shaded_50 (by decide) ?_
                have hl := lv_re hl 1 rfl (.int (iI (shR n h t y (shK n h t y) (x + 1)))) (congrArg (fun z => Value.int (iI z)) (show shR n h t y (shK n h t y) x + 1 = shR n h t y (shK n h t y) (x + 1) from by rw [shR_s gx]; rcases shadeI_01 n h t x y with q | q <;> omega))
                have hl : lv_has ls 5 [(4, .int (iI (x + 1))), (2, .int (iI (shR n h t y (shK n h t y) (x + 1)))), (0, .ref qm), (1, .int (iI t)), (3, .int (iI y))] := hl
                exact ih_7 (x + 1) (by omega) (by omega) _ (lv_sub hl [2, 3, 1, 4, 0] rfl) (by omega)
        have hl := lv_re hl 3 rfl (.int (iI (shR n h t y (shK n h t y) 0))) (congrArg (fun z => Value.int (iI z)) (show shK n h t y = shR n h t y (shK n h t y) 0 from rfl))
        have hl : lv_has ls 5 [(4, .int (iI 0)), (0, .ref qm), (1, .int (iI t)), (2, .int (iI (shR n h t y (shK n h t y) 0))), (3, .int (iI y))] := hl
        exact L17 _ 0 (by omega) (by omega) _ (lv_sub hl [1, 2, 3, 4, 0] rfl) (Nat.lt_succ_self _)
  have hl := lv_re hl 1 rfl (.int (iI (shK n h t 0))) (congrArg (fun z => Value.int (iI z)) (show 0 = shK n h t 0 from rfl))
  have hl : lv_has ls 5 [(3, .int (iI 0)), (2, .int (iI (shK n h t 0))), (0, .ref qm), (1, .int (iI t))] := hl
  exact L4 _ 0 (by omega) (by omega) _ (lv_sub hl [2, 3, 1, 0] rfl) (Nat.lt_succ_self _)
set_option maxHeartbeats 800000 in
set_option maxRecDepth 100000 in
theorem c_X5_toldElevation (l : Launch) (g : GT) (qm : Nat) (th : Int) (mz : Nat) (ms : Nat) (hn : Int) (mp : Nat) (mb : Nat) (L : Int) (m1 : Nat) (m2 : Nat) (m3 : Nat) (mB : Nat) (mF : Nat) (mN : Nat) (mS : Nat) (sT : Int) (mW : Nat) (acc : Int64) (n : Int) (ho : Int) (h : Int → Int) (c : Int → Int) (sd : Int) (ax : Int) (w : Int) (hY : YOk n ho h c) (gs : sd = 0 ∨ sd = 1) (ga : 0 ≤ ax) (gb : ax < n) (gw : 0 ≤ w ∧ w ≤ 2) : MetI l yX5_toldElevation wsX5_toldElevation ({ frames := 3, cells := 0, slots := 0, locals := 69 }) g [(qm, .inr (5, [.int (iI th), .ref mz, .ref ms, .int (iI hn), .ref mp, .ref mb, .int (iI L), .ref m1, .ref m2, .ref m3, .ref mB, .ref mF, .ref mN, .ref mS, .int (iI sT), .ref mW, .long acc])), (mz, .inl (gI g, 326, .inl (aI (zF n ho h c))))] [.ref qm, .int (iI sd), .int (iI ax), .int (iI w)] (elvV n h sd ax w) := by
  refine pure_of (cc := cX5_toldElevation) (maxL := 8) (ret := (some .int)) (by decide) rfl (Nat.le_of_ble_eq_true rfl) ?_
  intro pZ eZ sZ mZ bZ meZ cZ F hP hE hS ls hl
  obtain ⟨hx, hb, hr, hml, hts, hown, hlk⟩ := F
  have hown : sZ.vm.findClass RX5 = some mZ.cls := hown
  have hl : lv_has ls 8 [(0, .ref qm), (1, .int (iI sd)), (2, .int (iI ax)), (3, .int (iI w))] := hl
  have w0 := hts (.fieldLink RX5 7 "SlantYardModel" "z" "[I") (by decide +kernel)
  have in5 : ∀ w ∈ u_ws RX5 TX5 17, w ∈ wsX5_toldElevation := by decide +kernel
  have hnn := hY.n
  have hho := hY.hr
  refine lv_aload_n hx hb dX5_toldElevation_0 rfl (lv_at hl 0 rfl) ?_
  refine lv_iload_n hx hb dX5_toldElevation_1 rfl (lv_at hl 1 rfl) ?_
  refine lv_iload_n hx hb dX5_toldElevation_2 rfl (lv_at hl 2 rfl) ?_
  have hPc_1 := hP.sub (ws' := [(qm, .inr (5, [.int (iI th), .ref mz, .ref ms, .int (iI hn), .ref mp, .ref mb, .int (iI L), .ref m1, .ref m2, .ref m3, .ref mB, .ref mF, .ref mN, .ref mS, .int (iI sT), .ref mW, .long acc])), (mz, .inl (gI g, 326, .inl (aI (zF n ho h c))))]) [0, 1] rfl
  refine pc_i (va_runV (As := [.int (iI sd), .int (iI ax)]) (rest := []) ⟨hx, hb, hml, hown, hts⟩ (c_X5_tallest l g qm th mz ms hn mp mb L m1 m2 m3 mB mF mN mS sT mW acc n ho h c sd ax hY gs ga gb) (cwV 2 hts gX5_toldElevation_X5_tallest rfl rfl rfl (by decide +kernel) ⟨Nat.le_of_ble_eq_true rfl, Nat.le_of_ble_eq_true rfl⟩) (puV hE hS hPc_1 rfl rfl) rfl rfl hl.1 rfl (lv_room (Nat.le_of_ble_eq_true rfl)) dX5_toldElevation_3 ⟨Nat.le_of_ble_eq_true rfl, Nat.le_of_ble_eq_true rfl⟩) ?_
  have r_2 : 0 ≤ greatK h sd ax n ∧ greatK h sd ax n ≤ 8 := greatK_rg (YOk.h hY) sd ax (by have := YOk.n hY; omega)
  refine lv_istore (lv' := [(4, .int (iI (greatK h sd ax n))), (0, .ref qm), (1, .int (iI sd)), (2, .int (iI ax)), (3, .int (iI w))]) hx hb dX5_toldElevation_6 hl (by decide) rfl (fun ls hl => ?_)
  refine lv_iconst (v := iI 0) hx hb dX5_toldElevation_8 rfl ?_
  refine lv_istore (lv' := [(5, .int (iI 0)), (4, .int (iI (greatK h sd ax n))), (0, .ref qm), (1, .int (iI sd)), (2, .int (iI ax)), (3, .int (iI w))]) hx hb dX5_toldElevation_9 hl (by decide) rfl (fun ls hl => ?_)
  refine lv_iconst (v := iI 0) hx hb dX5_toldElevation_11 rfl ?_
  refine lv_istore (lv' := [(6, .int (iI 0)), (5, .int (iI 0)), (4, .int (iI (greatK h sd ax n))), (0, .ref qm), (1, .int (iI sd)), (2, .int (iI ax)), (3, .int (iI w))]) hx hb dX5_toldElevation_12 hl (by decide) rfl (fun ls hl => ?_)
  refine lv_iconst (v := iI 0) hx hb dX5_toldElevation_14 rfl ?_
  refine lv_istore (lv' := [(7, .int (iI 0)), (6, .int (iI 0)), (5, .int (iI 0)), (4, .int (iI (greatK h sd ax n))), (0, .ref qm), (1, .int (iI sd)), (2, .int (iI ax)), (3, .int (iI w))]) hx hb dX5_toldElevation_15 hl (by decide) rfl (fun ls hl => ?_)
  have L17 : ∀ (k_3 : Nat) (k : Int) (gk : 0 ≤ k) (gl : k ≤ n) (ls : Array Slot), lv_has ls 8 [(0, .ref qm), (1, .int (iI sd)), (2, .int (iI ax)), (3, .int (iI w)), (4, .int (iI (greatK h sd ax n))), (5, .int (iI (stacksK h sd ax (greatK h sd ax n) k))), (6, .int (iI (blocksK h sd ax k))), (7, .int (iI k))] → (n - k).toNat < k_3 → W pZ l eZ ({ frames := 3, cells := 0, slots := 0, locals := 69 } : Room) sZ mZ [.ref qm, .int (iI sd), .int (iI ax), .int (iI w)].toArray bZ meZ cZ sZ.heap [] 0 0 (MQ bZ (vp_Si (fun y9 => y9 = iI (elvV n h sd ax w))) [.ref qm, .int (iI sd), .int (iI ax), .int (iI w)].toArray sZ 0 0 (fun _ => False)) (F0 mZ 17 ls []) := by
    intro k_3
    induction k_3 with
    | zero => intro k gk gl ls hl hm_5; exact absurd hm_5 (Nat.not_lt_zero _)
    | succ k_3 ih_4 =>
      intro k gk gl ls hl hm_5
      have b_6 : 0 ≤ stacksK h sd ax (greatK h sd ax n) k ∧ stacksK h sd ax (greatK h sd ax n) k ≤ k := stacksK_rg sd ax _ gk
      have b_7 : 0 ≤ blocksK h sd ax k ∧ blocksK h sd ax k ≤ k * 8 := blocksK_rg (YOk.h hY) sd ax gk
      refine lv_iload hx hb dX5_toldElevation_17 (lv_at hl 7 rfl) ?_
      refine lv_aload_n hx hb dX5_toldElevation_19 rfl (lv_at hl 0 rfl) ?_
      refine va_get (D := g.1) (ci := 5) (v := .ref mz) (C := RX5) (T := TX5) (N := 17) hx hb hts in5 hown hE.1 hP 0 rfl rfl 1 (by decide) w0 (fun _ h9 => h9) rfl dX5_toldElevation_20 ?_
      refine lv_iconst (v := iI 0) hx hb dX5_toldElevation_23 rfl ?_
      refine ln_iald hx hb hE hP 1 rfl (by decide) (by decide) (Nat.le_of_ble_eq_true rfl) n (rfl) dX5_toldElevation_24 ?_
      refine ln_icmp_ge (tgt := 70) hx hb dX5_toldElevation_25 (by decide) ⟨by omega, by omega⟩ ⟨by omega, by omega⟩ (fun c_8 => ?_) (fun c_8 => ?_)
      · skip
        refine lv_iload_n hx hb dX5_toldElevation_70 rfl (lv_at hl 3 rfl) ?_
        refine ln_if_ne (tgt := 79) hx hb dX5_toldElevation_71 (by decide) ⟨by omega, by omega⟩ (fun c_9 => ?_) (fun c_9 => ?_)
        · skip
          refine lv_iload_n hx hb dX5_toldElevation_79 rfl (lv_at hl 3 rfl) ?_
          refine lv_iconst (v := iI 1) hx hb dX5_toldElevation_80 rfl ?_
          refine ln_icmp_ne (tgt := 89) hx hb dX5_toldElevation_81 (by decide) ⟨by omega, by omega⟩ (by decide) (fun c_10 => ?_) (fun c_10 => ?_)
          · skip
            refine lv_iload hx hb dX5_toldElevation_89 (lv_at hl 6 rfl) ?_
            exact pend_i hx hb hr hlk hS rfl (by (show _ = elvV n h sd ax w; unfold elvV; (try rw [show k = n by omega]); first | (rw [if_pos (by omega)]; done) | (rw [if_neg (by omega), if_pos (by omega)]; done) | (rw [if_neg (by omega), if_neg (by omega)]))) dX5_toldElevation_91
          · skip
            refine lv_iload hx hb dX5_toldElevation_84 (lv_at hl 5 rfl) ?_
            refine lv_goto (tgt := 91) hx hb dX5_toldElevation_86 (by decide) ?_
            exact pend_i hx hb hr hlk hS rfl (by (show _ = elvV n h sd ax w; unfold elvV; (try rw [show k = n by omega]); first | (rw [if_pos (by omega)]; done) | (rw [if_neg (by omega), if_pos (by omega)]; done) | (rw [if_neg (by omega), if_neg (by omega)]))) dX5_toldElevation_91
        · skip
          refine lv_iload hx hb dX5_toldElevation_74 (lv_at hl 4 rfl) ?_
          refine lv_goto (tgt := 91) hx hb dX5_toldElevation_76 (by decide) ?_
          exact pend_i hx hb hr hlk hS rfl (by (show _ = elvV n h sd ax w; unfold elvV; (try rw [show k = n by omega]); first | (rw [if_pos (by omega)]; done) | (rw [if_neg (by omega), if_pos (by omega)]; done) | (rw [if_neg (by omega), if_neg (by omega)]))) dX5_toldElevation_91
      · skip
        refine lv_iload hx hb dX5_toldElevation_28 (lv_at hl 5 rfl) ?_
        refine lv_aload_n hx hb dX5_toldElevation_30 rfl (lv_at hl 0 rfl) ?_
        refine lv_iload_n hx hb dX5_toldElevation_31 rfl (lv_at hl 1 rfl) ?_
        refine lv_iload_n hx hb dX5_toldElevation_32 rfl (lv_at hl 2 rfl) ?_
        refine lv_iload hx hb dX5_toldElevation_33 (lv_at hl 7 rfl) ?_
        have hPc_11 := hP.sub (ws' := [(qm, .inr (5, [.int (iI th), .ref mz, .ref ms, .int (iI hn), .ref mp, .ref mb, .int (iI L), .ref m1, .ref m2, .ref m3, .ref mB, .ref mF, .ref mN, .ref mS, .int (iI sT), .ref mW, .long acc])), (mz, .inl (gI g, 326, .inl (aI (zF n ho h c))))]) [0, 1] rfl
        refine pc_i (va_runV (As := [.int (iI sd), .int (iI ax), .int (iI k)]) (rest := [.int (iI (stacksK h sd ax (greatK h sd ax n) k))]) ⟨hx, hb, hml, hown, hts⟩ (c_X5_heightIn l g qm th mz ms hn mp mb L m1 m2 m3 mB mF mN mS sT mW acc n ho h c sd ax k hY gs ga gb gk (by omega)) (cwV 3 hts gX5_toldElevation_X5_heightIn rfl rfl rfl (by decide +kernel) ⟨Nat.le_of_ble_eq_true rfl, Nat.le_of_ble_eq_true rfl⟩) (puV hE hS hPc_11 rfl rfl) rfl rfl hl.1 rfl (lv_room (Nat.le_of_ble_eq_true rfl)) dX5_toldElevation_35 ⟨Nat.le_of_ble_eq_true rfl, Nat.le_of_ble_eq_true rfl⟩) ?_
        have r_12 : 0 ≤ hA h sd ax k ∧ hA h sd ax k ≤ 8 := hA_rg (YOk.h hY) sd ax k
        refine lv_iload hx hb dX5_toldElevation_38 (lv_at hl 4 rfl) ?_
        refine ln_icmp_ne (tgt := 47) hx hb dX5_toldElevation_40 (by decide) ⟨by omega, by omega⟩ ⟨by omega, by omega⟩ (fun c_13 => ?_) (fun c_13 => ?_)
        · skip
          refine lv_iconst (v := iI 0) hx hb dX5_toldElevation_47 rfl ?_
          refine ln_iadd hx hb ((stacksK h sd ax (greatK h sd ax n) k) + 0) (rfl) dX5_toldElevation_48 ?_
          refine lv_istore (lv' := [(5, .int (iI ((stacksK h sd ax (greatK h sd ax n) k) + 0))), (0, .ref qm), (1, .int (iI sd)), (2, .int (iI ax)), (3, .int (iI w)), (4, .int (iI (greatK h sd ax n))), (6, .int (iI (blocksK h sd ax k))), (7, .int (iI k))]) hx hb dX5_toldElevation_49 hl (by decide) rfl (fun ls hl => ?_)
          refine lv_iload hx hb dX5_toldElevation_51 (lv_at hl 6 rfl) ?_
          refine lv_aload_n hx hb dX5_toldElevation_53 rfl (lv_at hl 1 rfl) ?_
          refine lv_iload_n hx hb dX5_toldElevation_54 rfl (lv_at hl 2 rfl) ?_
          refine lv_iload_n hx hb dX5_toldElevation_55 rfl (lv_at hl 3 rfl) ?_
          refine lv_iload hx hb dX5_toldElevation_56 (lv_at hl 7 rfl) ?_
          have hPc_14 := hP.sub (ws' := [(qm, .inr (5, [.int (iI th), .ref mz, .ref ms, .int (iI hn), .ref mp, .ref mb, .int (iI L), .ref m1, .ref m2, .ref m3, .ref mB, .ref mF, .ref mN, .ref mS, .int (iI sT), .ref mW, .long acc])), (mz, .inl (gI g, 326, .inl (aI (zF n ho h c))))]) [0, 1] rfl
          refine pc_i (va_runV (As := [.int (iI sd), .int (iI ax), .int (iI k)]) (rest := [.int (iI (blocksK h sd ax k))]) ⟨hx, hb, hml, hown, hts⟩ (c_X5_heightIn l g qm th mz ms hn mp mb L m1 m2 m3 mB mF mN mS sT mW acc n ho h c sd ax k hY gs ga gb gk (by omega)) (cwV 3 hts gX5_toldElevation_X5_heightIn rfl rfl rfl (by decide +kernel) ⟨Nat.le_of_ble_eq_true rfl, Nat.le_of_ble_eq_true rfl⟩) (puV hE hS hPc_14 rfl rfl) rfl rfl hl.1 rfl (lv_room (Nat.le_of_ble_eq_true rfl)) dX5_toldElevation_58 ⟨Nat.le_of_ble_eq_true rfl, Nat.le_of_ble_eq_true rfl⟩) ?_
          have r_15 : 0 ≤ hA h sd ax k ∧ hA h sd ax k ≤ 8 := hA_rg (YOk.h hY) sd ax k
          refine ln_iadd hx hb (blocksK h sd ax k + hA h sd ax k) (rfl) dX5_toldElevation_61 ?_
          refine lv_istore (lv' := [(6, .int (iI (blocksK h sd ax k + hA h sd ax k))), (5, .int (iI ((stacksK h sd ax (greatK h sd ax n) k) + 0))), (0, .ref qm), (1, .int (iI sd)), (2, .int (iI ax)), (3, .int (iI w)), (4, .int (iI (greatK h sd ax n))), (7, .int (iI k))]) hx hb dX5_toldElevation_62 hl (by decide) rfl (fun ls hl => ?_)
          refine lv_iinc (v := iI (k + 1)) (lv' := [(7, .int (iI (k + 1))), (6, .int (iI (blocksK h sd ax k + hA h sd ax k))), (5, .int (iI ((stacksK h sd ax (greatK h sd ax n) k) + 0))), (0, .ref qm), (1, .int (iI sd)), (2, .int (iI ax)), (3, .int (iI w)), (4, .int (iI (greatK h sd ax n)))]) hx hb dX5_toldElevation_64 hl (k := 7) rfl (iI_add _ _) (by decide) rfl (fun ls hl => ?_)
          refine lv_goto (tgt := 17) hx hb dX5_toldElevation_67 (by decide) ?_
          have hl := lv_re hl 2 rfl (.int (iI (stacksK h sd ax (greatK h sd ax n) (k + 1)))) (congrArg (fun z => Value.int (iI z)) (show (stacksK h sd ax (greatK h sd ax n) k) + 0 = stacksK h sd ax (greatK h sd ax n) (k + 1) from by rw [stacksK_s gk]; first | (rw [bI_t (by omega)]; done) | (rw [bI_f (by omega)]; done) | (rw [bI_f (by omega)]; omega)))
          have hl := lv_re hl 1 rfl (.int (iI (blocksK h sd ax (k + 1)))) (congrArg (fun z => Value.int (iI z)) (show blocksK h sd ax k + hA h sd ax k = blocksK h sd ax (k + 1) from blocksK_s gk))
          have hl : lv_has ls 8 [(7, .int (iI (k + 1))), (6, .int (iI (blocksK h sd ax (k + 1)))), (5, .int (iI (stacksK h sd ax (greatK h sd ax n) (k + 1)))), (0, .ref qm), (1, .int (iI sd)), (2, .int (iI ax)), (3, .int (iI w)), (4, .int (iI (greatK h sd ax n)))] := hl
          exact ih_4 (k + 1) (by omega) (by omega) _ (lv_sub hl [3, 4, 5, 6, 7, 2, 1, 0] rfl) (by omega)
        · skip
          refine lv_iconst (v := iI 1) hx hb dX5_toldElevation_43 rfl ?_
          refine lv_goto (tgt := 48) hx hb dX5_toldElevation_44 (by decide) ?_
          refine ln_iadd hx hb ((stacksK h sd ax (greatK h sd ax n) k) + 1) (rfl) dX5_toldElevation_48 ?_
          refine lv_istore (lv' := [(5, .int (iI ((stacksK h sd ax (greatK h sd ax n) k) + 1))), (0, .ref qm), (1, .int (iI sd)), (2, .int (iI ax)), (3, .int (iI w)), (4, .int (iI (greatK h sd ax n))), (6, .int (iI (blocksK h sd ax k))), (7, .int (iI k))]) hx hb dX5_toldElevation_49 hl (by decide) rfl (fun ls hl => ?_)
          refine lv_iload hx hb dX5_toldElevation_51 (lv_at hl 6 rfl) ?_
          refine lv_aload_n hx hb dX5_toldElevation_53 rfl (lv_at hl 1 rfl) ?_
          refine lv_iload_n hx hb dX5_toldElevation_54 rfl (lv_at hl 2 rfl) ?_
          refine lv_iload_n hx hb dX5_toldElevation_55 rfl (lv_at hl 3 rfl) ?_
          refine lv_iload hx hb dX5_toldElevation_56 (lv_at hl 7 rfl) ?_
          have hPc_16 := hP.sub (ws' := [(qm, .inr (5, [.int (iI th), .ref mz, .ref ms, .int (iI hn), .ref mp, .ref mb, .int (iI L), .ref m1, .ref m2, .ref m3, .ref mB, .ref mF, .ref mN, .ref mS, .int (iI sT), .ref mW, .long acc])), (mz, .inl (gI g, 326, .inl (aI (zF n ho h c))))]) [0, 1] rfl
          refine pc_i (va_runV (As := [.int (iI sd), .int (iI ax), .int (iI k)]) (rest := [.int (iI (blocksK h sd ax k))]) ⟨hx, hb, hml, hown, hts⟩ (c_X5_heightIn l g qm th mz ms hn mp mb L m1 m2 m3 mB mF mN mS sT mW acc n ho h c sd ax k hY gs ga gb gk (by omega)) (cwV 3 hts gX5_toldElevation_X5_heightIn rfl rfl rfl (by decide +kernel) ⟨Nat.le_of_ble_eq_true rfl, Nat.le_of_ble_eq_true rfl⟩) (puV hE hS hPc_16 rfl rfl) rfl rfl hl.1 rfl (lv_room (Nat.le_of_ble_eq_true rfl)) dX5_toldElevation_58 ⟨Nat.le_of_ble_eq_true rfl, Nat.le_of_ble_eq_true rfl⟩) ?_
          have r_17 : 0 ≤ hA h sd ax k ∧ hA h sd ax k ≤ 8 := hA_rg (YOk.h hY) sd ax k
          refine ln_iadd hx hb (blocksK h sd ax k + hA h sd ax k) (rfl) dX5_toldElevation_61 ?_
          refine lv_istore (lv' := [(6, .int (iI (blocksK h sd ax k + hA h sd ax k))), (5, .int (iI ((stacksK h sd ax (greatK h sd ax n) k) + 1))), (0, .ref qm), (1, .int (iI sd)), (2, .int (iI ax)), (3, .int (iI w)), (4, .int (iI (greatK h sd ax n))), (7, .int (iI k))]) hx hb dX5_toldElevation_62 hl (by decide) rfl (fun ls hl => ?_)
          refine lv_iinc (v := iI (k + 1)) (lv' := [(7, .int (iI (k + 1))), (6, .int (iI (blocksK h sd ax k + hA h sd ax k))), (5, .int (iI ((stacksK h sd ax (greatK h sd ax n) k) + 1))), (0, .ref qm), (1, .int (iI sd)), (2, .int (iI ax)), (3, .int (iI w)), (4, .int (iI (greatK h sd ax n)))]) hx hb dX5_toldElevation_64 hl (k := 7) rfl (iI_add _ _) (by decide) rfl (fun ls hl => ?_)
          refine lv_goto (tgt := 17) hx hb dX5_toldElevation_67 (by decide) ?_
          have hl := lv_re hl 2 rfl (.int (iI (stacksK h sd ax (greatK h sd ax n) (k + 1)))) (congrArg (fun z => Value.int (iI z)) (show (stacksK h sd ax (greatK h sd ax n) k) + 1 = stacksK h sd ax (greatK h sd ax n) (k + 1) from by rw [stacksK_s gk]; first | (rw [bI_t (by omega)]; done) | (rw [bI_f (by omega)]; done) | (rw [bI_f (by omega)]; omega)))
          have hl := lv_re hl 1 rfl (.int (iI (blocksK h sd ax (k + 1)))) (congrArg (fun z => Value.int (iI z)) (show blocksK h sd ax k + hA h sd ax k = blocksK h sd ax (k + 1) from blocksK_s gk))
          have hl : lv_has ls 8 [(7, .int (iI (k + 1))), (6, .int (iI (blocksK h sd ax (k + 1)))), (5, .int (iI (stacksK h sd ax (greatK h sd ax n) (k + 1)))), (0, .ref qm), (1, .int (iI sd)), (2, .int (iI ax)), (3, .int (iI w)), (4, .int (iI (greatK h sd ax n)))] := hl
          exact ih_4 (k + 1) (by omega) (by omega) _ (lv_sub hl [3, 4, 5, 6, 7, 2, 1, 0] rfl) (by omega)
  have hl := lv_re hl 2 rfl (.int (iI (stacksK h sd ax (greatK h sd ax n) 0))) (congrArg (fun z => Value.int (iI z)) (show 0 = stacksK h sd ax (greatK h sd ax n) 0 from rfl))
  have hl := lv_re hl 1 rfl (.int (iI (blocksK h sd ax 0))) (congrArg (fun z => Value.int (iI z)) (show 0 = blocksK h sd ax 0 from rfl))
  have hl : lv_has ls 8 [(7, .int (iI 0)), (6, .int (iI (blocksK h sd ax 0))), (5, .int (iI (stacksK h sd ax (greatK h sd ax n) 0))), (4, .int (iI (greatK h sd ax n))), (0, .ref qm), (1, .int (iI sd)), (2, .int (iI ax)), (3, .int (iI w))] := hl
  exact L17 _ 0 (by omega) (by omega) _ (lv_sub hl [4, 5, 6, 7, 3, 2, 1, 0] rfl) (Nat.lt_succ_self _)
set_option maxHeartbeats 800000 in
set_option maxRecDepth 100000 in
theorem c_X5_blockMany (l : Launch) (g : GT) (qm : Nat) (th : Int) (mz : Nat) (ms : Nat) (hn : Int) (mp : Nat) (mb : Nat) (L : Int) (m1 : Nat) (m2 : Nat) (m3 : Nat) (mB : Nat) (mF : Nat) (mN : Nat) (mS : Nat) (sT : Int) (mW : Nat) (acc : Int64) (n : Int) (ho : Int) (h : Int → Int) (c : Int → Int) (hY : YOk n ho h c) : MetI l yX5_blockMany wsX5_blockMany ({ frames := 0, cells := 0, slots := 0, locals := 0 }) g [(qm, .inr (5, [.int (iI th), .ref mz, .ref ms, .int (iI hn), .ref mp, .ref mb, .int (iI L), .ref m1, .ref m2, .ref m3, .ref mB, .ref mF, .ref mN, .ref mS, .int (iI sT), .ref mW, .long acc])), (mz, .inl (gI g, 326, .inl (aI (zF n ho h c))))] [.ref qm] (countK n h n) := by
  refine pure_of (cc := cX5_blockMany) (maxL := 3) (ret := (some .int)) (by decide) rfl (Nat.le_of_ble_eq_true rfl) ?_
  intro pZ eZ sZ mZ bZ meZ cZ F hP hE hS ls hl
  obtain ⟨hx, hb, hr, hml, hts, hown, hlk⟩ := F
  have hown : sZ.vm.findClass RX5 = some mZ.cls := hown
  have hl : lv_has ls 3 [(0, .ref qm)] := hl
  have w0 := hts (.fieldLink RX5 7 "SlantYardModel" "z" "[I") (by decide +kernel)
  have in5 : ∀ w ∈ u_ws RX5 TX5 17, w ∈ wsX5_blockMany := by decide +kernel
  have hnn := hY.n
  have hho := hY.hr
  refine lv_iconst (v := iI 0) hx hb dX5_blockMany_0 rfl ?_
  refine lv_istore_n (lv' := [(1, .int (iI 0)), (0, .ref qm)]) hx hb dX5_blockMany_1 rfl hl (by decide) rfl (fun ls hl => ?_)
  refine lv_iconst (v := iI 0) hx hb dX5_blockMany_2 rfl ?_
  refine lv_istore_n (lv' := [(2, .int (iI 0)), (1, .int (iI 0)), (0, .ref qm)]) hx hb dX5_blockMany_3 rfl hl (by decide) rfl (fun ls hl => ?_)
  have L4 : ∀ (k_1 : Nat) (k : Int) (gk : 0 ≤ k) (gl : k ≤ 36) (ls : Array Slot), lv_has ls 3 [(0, .ref qm), (1, .int (iI (sm h k))), (2, .int (iI k))] → (36 - k).toNat < k_1 → W pZ l eZ ({ frames := 0, cells := 0, slots := 0, locals := 0 } : Room) sZ mZ [.ref qm].toArray bZ meZ cZ sZ.heap [] 0 0 (MQ bZ (vp_Si (fun y9 => y9 = iI (countK n h n))) [.ref qm].toArray sZ 0 0 (fun _ => False)) (F0 mZ 4 ls []) := by
    intro k_1
    induction k_1 with
    | zero => intro k gk gl ls hl hm_3; exact absurd hm_3 (Nat.not_lt_zero _)
    | succ k_1 ih_2 =>
      intro k gk gl ls hl hm_3
      refine lv_iload_n hx hb dX5_blockMany_4 rfl (lv_at hl 2 rfl) ?_
      refine lv_bipush (v := iI 36) hx hb dX5_blockMany_5 (by decide) ?_
      refine ln_icmp_ge (tgt := 27) hx hb dX5_blockMany_7 (by decide) ⟨by omega, by omega⟩ (by decide) (fun c_4 => ?_) (fun c_4 => ?_)
      · skip
        refine lv_iload_n hx hb dX5_blockMany_27 rfl (lv_at hl 1 rfl) ?_
        exact pend_i hx hb hr hlk hS rfl (by (rw [show k = 36 by omega]; exact count_36 hY)) dX5_blockMany_28
      · skip
        refine lv_iload_n hx hb dX5_blockMany_10 rfl (lv_at hl 1 rfl) ?_
        refine lv_aload_n hx hb dX5_blockMany_11 rfl (lv_at hl 0 rfl) ?_
        refine va_get (D := g.1) (ci := 5) (v := .ref mz) (C := RX5) (T := TX5) (N := 17) hx hb hts in5 hown hE.1 hP 0 rfl rfl 1 (by decide) w0 (fun _ h9 => h9) rfl dX5_blockMany_12 ?_
        refine lv_iconst (v := iI 2) hx hb dX5_blockMany_15 rfl ?_
        refine lv_iload_n hx hb dX5_blockMany_16 rfl (lv_at hl 2 rfl) ?_
        refine ln_iadd hx hb (2 + k) (rfl) dX5_blockMany_17 ?_
        refine ln_iald hx hb hE hP 1 rfl (by omega) (by omega) (Nat.le_of_ble_eq_true rfl) (h k) (zF_q (by omega) (by omega)) dX5_blockMany_18 ?_
        refine ln_iadd hx hb (sm h k + (h k)) (rfl) dX5_blockMany_19 ?_
        refine lv_istore_n (lv' := [(1, .int (iI (sm h k + (h k)))), (0, .ref qm), (2, .int (iI k))]) hx hb dX5_blockMany_20 rfl hl (by decide) rfl (fun ls hl => ?_)
        refine lv_iinc (v := iI (k + 1)) (lv' := [(2, .int (iI (k + 1))), (1, .int (iI (sm h k + (h k)))), (0, .ref qm)]) hx hb dX5_blockMany_21 hl (k := 2) rfl (iI_add _ _) (by decide) rfl (fun ls hl => ?_)
        refine lv_goto (tgt := 4) hx hb dX5_blockMany_24 (by decide) ?_
        have hl := lv_re hl 1 rfl (.int (iI (sm h (k + 1)))) (congrArg (fun z => Value.int (iI z)) (show sm h k + (h k) = sm h (k + 1) from (sm_s gk).symm))
        have hl : lv_has ls 3 [(2, .int (iI (k + 1))), (1, .int (iI (sm h (k + 1)))), (0, .ref qm)] := hl
        exact ih_2 (k + 1) (by omega) (by omega) _ (lv_sub hl [2, 1, 0] rfl) (by omega)
  have hl := lv_re hl 1 rfl (.int (iI (sm h 0))) (congrArg (fun z => Value.int (iI z)) (show 0 = sm h 0 from rfl))
  have hl : lv_has ls 3 [(2, .int (iI 0)), (1, .int (iI (sm h 0))), (0, .ref qm)] := hl
  exact L4 _ 0 (by omega) (by omega) _ (lv_sub hl [2, 1, 0] rfl) (Nat.lt_succ_self _)
set_option maxHeartbeats 800000 in
set_option maxRecDepth 100000 in
theorem c_X5_greatestHeight (l : Launch) (g : GT) (qm : Nat) (th : Int) (mz : Nat) (ms : Nat) (hn : Int) (mp : Nat) (mb : Nat) (L : Int) (m1 : Nat) (m2 : Nat) (m3 : Nat) (mB : Nat) (mF : Nat) (mN : Nat) (mS : Nat) (sT : Int) (mW : Nat) (acc : Int64) (n : Int) (ho : Int) (h : Int → Int) (c : Int → Int) (hY : YOk n ho h c) : MetI l yX5_greatestHeight wsX5_greatestHeight ({ frames := 0, cells := 0, slots := 0, locals := 0 }) g [(qm, .inr (5, [.int (iI th), .ref mz, .ref ms, .int (iI hn), .ref mp, .ref mb, .int (iI L), .ref m1, .ref m2, .ref m3, .ref mB, .ref mF, .ref mN, .ref mS, .int (iI sT), .ref mW, .long acc])), (mz, .inl (gI g, 326, .inl (aI (zF n ho h c))))] [.ref qm] (greatHK n h n) := by
  refine pure_of (cc := cX5_greatestHeight) (maxL := 3) (ret := (some .int)) (by decide) rfl (Nat.le_of_ble_eq_true rfl) ?_
  intro pZ eZ sZ mZ bZ meZ cZ F hP hE hS ls hl
  obtain ⟨hx, hb, hr, hml, hts, hown, hlk⟩ := F
  have hown : sZ.vm.findClass RX5 = some mZ.cls := hown
  have hl : lv_has ls 3 [(0, .ref qm)] := hl
  have w0 := hts (.fieldLink RX5 7 "SlantYardModel" "z" "[I") (by decide +kernel)
  have in5 : ∀ w ∈ u_ws RX5 TX5 17, w ∈ wsX5_greatestHeight := by decide +kernel
  have hnn := hY.n
  have hho := hY.hr
  refine lv_iconst (v := iI 0) hx hb dX5_greatestHeight_0 rfl ?_
  refine lv_istore_n (lv' := [(1, .int (iI 0)), (0, .ref qm)]) hx hb dX5_greatestHeight_1 rfl hl (by decide) rfl (fun ls hl => ?_)
  refine lv_iconst (v := iI 0) hx hb dX5_greatestHeight_2 rfl ?_
  refine lv_istore_n (lv' := [(2, .int (iI 0)), (1, .int (iI 0)), (0, .ref qm)]) hx hb dX5_greatestHeight_3 rfl hl (by decide) rfl (fun ls hl => ?_)
  have L4 : ∀ (k_1 : Nat) (k : Int) (gk : 0 ≤ k) (gl : k ≤ 36) (ls : Array Slot), lv_has ls 3 [(0, .ref qm), (1, .int (iI (mx h k))), (2, .int (iI k))] → (36 - k).toNat < k_1 → W pZ l eZ ({ frames := 0, cells := 0, slots := 0, locals := 0 } : Room) sZ mZ [.ref qm].toArray bZ meZ cZ sZ.heap [] 0 0 (MQ bZ (vp_Si (fun y9 => y9 = iI (greatHK n h n))) [.ref qm].toArray sZ 0 0 (fun _ => False)) (F0 mZ 4 ls []) := by
    intro k_1
    induction k_1 with
    | zero => intro k gk gl ls hl hm_3; exact absurd hm_3 (Nat.not_lt_zero _)
    | succ k_1 ih_2 =>
      intro k gk gl ls hl hm_3
      have b_4 : 0 ≤ mx h k ∧ mx h k ≤ 8 := mx_rg (YOk.h hY) gk
      have b_5 : 0 ≤ h (k) ∧ h (k) ≤ 8 := YOk.h hY (k)
      refine lv_iload_n hx hb dX5_greatestHeight_4 rfl (lv_at hl 2 rfl) ?_
      refine lv_bipush (v := iI 36) hx hb dX5_greatestHeight_5 (by decide) ?_
      refine ln_icmp_ge (tgt := 41) hx hb dX5_greatestHeight_7 (by decide) ⟨by omega, by omega⟩ (by decide) (fun c_6 => ?_) (fun c_6 => ?_)
      · skip
        refine lv_iload_n hx hb dX5_greatestHeight_41 rfl (lv_at hl 1 rfl) ?_
        exact pend_i hx hb hr hlk hS rfl (by (rw [show k = 36 by omega]; exact great_36 hY)) dX5_greatestHeight_42
      · skip
        refine lv_aload_n hx hb dX5_greatestHeight_10 rfl (lv_at hl 0 rfl) ?_
        refine va_get (D := g.1) (ci := 5) (v := .ref mz) (C := RX5) (T := TX5) (N := 17) hx hb hts in5 hown hE.1 hP 0 rfl rfl 1 (by decide) w0 (fun _ h9 => h9) rfl dX5_greatestHeight_11 ?_
        refine lv_iconst (v := iI 2) hx hb dX5_greatestHeight_14 rfl ?_
        refine lv_iload_n hx hb dX5_greatestHeight_15 rfl (lv_at hl 2 rfl) ?_
        refine ln_iadd hx hb (2 + k) (rfl) dX5_greatestHeight_16 ?_
        refine ln_iald hx hb hE hP 1 rfl (by omega) (by omega) (Nat.le_of_ble_eq_true rfl) (h k) (zF_q (by omega) (by omega)) dX5_greatestHeight_17 ?_
        refine lv_iload_n hx hb dX5_greatestHeight_18 rfl (lv_at hl 1 rfl) ?_
        refine ln_icmp_le (tgt := 33) hx hb dX5_greatestHeight_19 (by decide) ⟨by omega, by omega⟩ ⟨by omega, by omega⟩ (fun c_7 => ?_) (fun c_7 => ?_)
        · skip
          refine lv_iload_n hx hb dX5_greatestHeight_33 rfl (lv_at hl 1 rfl) ?_
          refine lv_istore_n (lv' := [(1, .int (iI (mx h k))), (0, .ref qm), (2, .int (iI k))]) hx hb dX5_greatestHeight_34 rfl hl (by decide) rfl (fun ls hl => ?_)
          refine lv_iinc (v := iI (k + 1)) (lv' := [(2, .int (iI (k + 1))), (1, .int (iI (mx h k))), (0, .ref qm)]) hx hb dX5_greatestHeight_35 hl (k := 2) rfl (iI_add _ _) (by decide) rfl (fun ls hl => ?_)
          refine lv_goto (tgt := 4) hx hb dX5_greatestHeight_38 (by decide) ?_
          have hl := lv_re hl 1 rfl (.int (iI (mx h (k + 1)))) (congrArg (fun z => Value.int (iI z)) (show mx h k = mx h (k + 1) from by rw [mx_s gk]; unfold maxI; split <;> omega))
          have hl : lv_has ls 3 [(2, .int (iI (k + 1))), (1, .int (iI (mx h (k + 1)))), (0, .ref qm)] := hl
          exact ih_2 (k + 1) (by omega) (by omega) _ (lv_sub hl [2, 1, 0] rfl) (by omega)
        · skip
          refine lv_aload_n hx hb dX5_greatestHeight_22 rfl (lv_at hl 0 rfl) ?_
          refine va_get (D := g.1) (ci := 5) (v := .ref mz) (C := RX5) (T := TX5) (N := 17) hx hb hts in5 hown hE.1 hP 0 rfl rfl 1 (by decide) w0 (fun _ h9 => h9) rfl dX5_greatestHeight_23 ?_
          refine lv_iconst (v := iI 2) hx hb dX5_greatestHeight_26 rfl ?_
          refine lv_iload_n hx hb dX5_greatestHeight_27 rfl (lv_at hl 2 rfl) ?_
          refine ln_iadd hx hb (2 + k) (rfl) dX5_greatestHeight_28 ?_
          refine ln_iald hx hb hE hP 1 rfl (by omega) (by omega) (Nat.le_of_ble_eq_true rfl) (h k) (zF_q (by omega) (by omega)) dX5_greatestHeight_29 ?_
          refine lv_goto (tgt := 34) hx hb dX5_greatestHeight_30 (by decide) ?_
          refine lv_istore_n (lv' := [(1, .int (iI (h k))), (0, .ref qm), (2, .int (iI k))]) hx hb dX5_greatestHeight_34 rfl hl (by decide) rfl (fun ls hl => ?_)
          refine lv_iinc (v := iI (k + 1)) (lv' := [(2, .int (iI (k + 1))), (1, .int (iI (h k))), (0, .ref qm)]) hx hb dX5_greatestHeight_35 hl (k := 2) rfl (iI_add _ _) (by decide) rfl (fun ls hl => ?_)
          refine lv_goto (tgt := 4) hx hb dX5_greatestHeight_38 (by decide) ?_
          have hl := lv_re hl 1 rfl (.int (iI (mx h (k + 1)))) (congrArg (fun z => Value.int (iI z)) (show h k = mx h (k + 1) from by rw [mx_s gk]; unfold maxI; split <;> omega))
          have hl : lv_has ls 3 [(2, .int (iI (k + 1))), (1, .int (iI (mx h (k + 1)))), (0, .ref qm)] := hl
          exact ih_2 (k + 1) (by omega) (by omega) _ (lv_sub hl [2, 1, 0] rfl) (by omega)
  have hl := lv_re hl 1 rfl (.int (iI (mx h 0))) (congrArg (fun z => Value.int (iI z)) (show 0 = mx h 0 from rfl))
  have hl : lv_has ls 3 [(2, .int (iI 0)), (1, .int (iI (mx h 0))), (0, .ref qm)] := hl
  exact L4 _ 0 (by omega) (by omega) _ (lv_sub hl [2, 1, 0] rfl) (Nat.lt_succ_self _)
set_option maxHeartbeats 800000 in
set_option maxRecDepth 100000 in
theorem c_X5_fewestAlike (l : Launch) (g : GT) (qm : Nat) (th : Int) (mz : Nat) (ms : Nat) (hn : Int) (mp : Nat) (mb : Nat) (L : Int) (m1 : Nat) (m2 : Nat) (m3 : Nat) (mB : Nat) (mF : Nat) (mN : Nat) (mS : Nat) (sT : Int) (mW : Nat) (acc : Int64) (n : Int) (ho : Int) (h : Int → Int) (c : Int → Int) (hY : YOk n ho h c) : MetI l yX5_fewestAlike wsX5_fewestAlike ({ frames := 3, cells := 0, slots := 0, locals := 69 }) g [(qm, .inr (5, [.int (iI th), .ref mz, .ref ms, .int (iI hn), .ref mp, .ref mb, .int (iI L), .ref m1, .ref m2, .ref m3, .ref mB, .ref mF, .ref mN, .ref mS, .int (iI sT), .ref mW, .long acc])), (mz, .inl (gI g, 326, .inl (aI (zF n ho h c))))] [.ref qm] (fewestK n h 8) := by
  refine pure_of (cc := cX5_fewestAlike) (maxL := 6) (ret := (some .int)) (by decide) rfl (Nat.le_of_ble_eq_true rfl) ?_
  intro pZ eZ sZ mZ bZ meZ cZ F hP hE hS ls hl
  obtain ⟨hx, hb, hr, hml, hts, hown, hlk⟩ := F
  have hown : sZ.vm.findClass RX5 = some mZ.cls := hown
  have hl : lv_has ls 6 [(0, .ref qm)] := hl
  have w0 := hts (.fieldLink RX5 7 "SlantYardModel" "z" "[I") (by decide +kernel)
  have in5 : ∀ w ∈ u_ws RX5 TX5 17, w ∈ wsX5_fewestAlike := by decide +kernel
  have hnn := hY.n
  have hho := hY.hr
  refine lv_iconst (v := iI 0) hx hb dX5_fewestAlike_0 rfl ?_
  refine lv_istore_n (lv' := [(1, .int (iI 0)), (0, .ref qm)]) hx hb dX5_fewestAlike_1 rfl hl (by decide) rfl (fun ls hl => ?_)
  refine lv_iconst (v := iI 1) hx hb dX5_fewestAlike_2 rfl ?_
  refine lv_istore_n (lv' := [(2, .int (iI 1)), (1, .int (iI 0)), (0, .ref qm)]) hx hb dX5_fewestAlike_3 rfl hl (by decide) rfl (fun ls hl => ?_)
  have L4 : ∀ (k_1 : Nat) (k : Int) (gk : 1 ≤ k) (gl : k ≤ 9) (ls : Array Slot), lv_has ls 6 [(0, .ref qm), (1, .int (iI (fewestK n h (k - 1)))), (2, .int (iI k))] → (9 - k).toNat < k_1 → W pZ l eZ ({ frames := 3, cells := 0, slots := 0, locals := 69 } : Room) sZ mZ [.ref qm].toArray bZ meZ cZ sZ.heap [] 0 0 (MQ bZ (vp_Si (fun y9 => y9 = iI (fewestK n h 8))) [.ref qm].toArray sZ 0 0 (fun _ => False)) (F0 mZ 4 ls []) := by
    intro k_1
    induction k_1 with
    | zero => intro k gk gl ls hl hm_3; exact absurd hm_3 (Nat.not_lt_zero _)
    | succ k_1 ih_2 =>
      intro k gk gl ls hl hm_3
      have b_4 : 0 ≤ fewestK n h (k - 1) ∧ fewestK n h (k - 1) ≤ (k - 1) * 48 := fewestK_rg (by omega) (by omega) (by omega)
      refine lv_iload_n hx hb dX5_fewestAlike_4 rfl (lv_at hl 2 rfl) ?_
      refine lv_bipush (v := iI 8) hx hb dX5_fewestAlike_5 (by decide) ?_
      refine ln_icmp_gt (tgt := 98) hx hb dX5_fewestAlike_7 (by decide) ⟨by omega, by omega⟩ (by decide) (fun c_5 => ?_) (fun c_5 => ?_)
      · skip
        refine lv_iload_n hx hb dX5_fewestAlike_98 rfl (lv_at hl 1 rfl) ?_
        exact pend_i hx hb hr hlk hS rfl (by rw [show k - 1 = 8 by omega]) dX5_fewestAlike_99
      · skip
        refine lv_iconst (v := iI 0) hx hb dX5_fewestAlike_10 rfl ?_
        refine lv_istore_n (lv' := [(3, .int (iI 0)), (0, .ref qm), (1, .int (iI (fewestK n h (k - 1)))), (2, .int (iI k))]) hx hb dX5_fewestAlike_11 rfl hl (by decide) rfl (fun ls hl => ?_)
        refine lv_iconst (v := iI 0) hx hb dX5_fewestAlike_12 rfl ?_
        refine lv_istore (lv' := [(4, .int (iI 0)), (3, .int (iI 0)), (0, .ref qm), (1, .int (iI (fewestK n h (k - 1)))), (2, .int (iI k))]) hx hb dX5_fewestAlike_13 hl (by decide) rfl (fun ls hl => ?_)
        refine lv_iconst (v := iI 0) hx hb dX5_fewestAlike_15 rfl ?_
        refine lv_istore (lv' := [(5, .int (iI 0)), (4, .int (iI 0)), (3, .int (iI 0)), (0, .ref qm), (1, .int (iI (fewestK n h (k - 1)))), (2, .int (iI k))]) hx hb dX5_fewestAlike_16 hl (by decide) rfl (fun ls hl => ?_)
        have L18 : ∀ (k_6 : Nat) (j : Int) (gj : 0 ≤ j) (gm : j ≤ n) (ls : Array Slot), lv_has ls 6 [(0, .ref qm), (1, .int (iI (fewestK n h (k - 1)))), (2, .int (iI k)), (3, .int (iI (linesK n h 0 k j))), (4, .int (iI (linesK n h 1 k j))), (5, .int (iI j))] → (n - j).toNat < k_6 → W pZ l eZ ({ frames := 3, cells := 0, slots := 0, locals := 69 } : Room) sZ mZ [.ref qm].toArray bZ meZ cZ sZ.heap [] 0 0 (MQ bZ (vp_Si (fun y9 => y9 = iI (fewestK n h 8))) [.ref qm].toArray sZ 0 0 (fun _ => False)) (F0 mZ 18 ls []) := by
          intro k_6
          induction k_6 with
          | zero => intro j gj gm ls hl hm_8; exact absurd hm_8 (Nat.not_lt_zero _)
          | succ k_6 ih_7 =>
            intro j gj gm ls hl hm_8
            have b_9 : 0 ≤ linesK n h 0 k j ∧ linesK n h 0 k j ≤ j := linesK_rg 0 k gj
            have b_10 : 0 ≤ linesK n h 1 k j ∧ linesK n h 1 k j ≤ j := linesK_rg 1 k gj
            refine lv_iload hx hb dX5_fewestAlike_18 (lv_at hl 5 rfl) ?_
            refine lv_aload_n hx hb dX5_fewestAlike_20 rfl (lv_at hl 0 rfl) ?_
            refine va_get (D := g.1) (ci := 5) (v := .ref mz) (C := RX5) (T := TX5) (N := 17) hx hb hts in5 hown hE.1 hP 0 rfl rfl 1 (by decide) w0 (fun _ h9 => h9) rfl dX5_fewestAlike_21 ?_
            refine lv_iconst (v := iI 0) hx hb dX5_fewestAlike_24 rfl ?_
            refine ln_iald hx hb hE hP 1 rfl (by decide) (by decide) (Nat.le_of_ble_eq_true rfl) n (rfl) dX5_fewestAlike_25 ?_
            refine ln_icmp_ge (tgt := 75) hx hb dX5_fewestAlike_26 (by decide) ⟨by omega, by omega⟩ ⟨by omega, by omega⟩ (fun c_11 => ?_) (fun c_11 => ?_)
            · skip
              refine lv_iload_n hx hb dX5_fewestAlike_75 rfl (lv_at hl 1 rfl) ?_
              refine lv_iload_n hx hb dX5_fewestAlike_76 rfl (lv_at hl 2 rfl) ?_
              refine lv_iload_n hx hb dX5_fewestAlike_77 rfl (lv_at hl 3 rfl) ?_
              refine lv_iload hx hb dX5_fewestAlike_78 (lv_at hl 4 rfl) ?_
              refine ln_icmp_le (tgt := 87) hx hb dX5_fewestAlike_80 (by decide) ⟨by omega, by omega⟩ ⟨by omega, by omega⟩ (fun c_12 => ?_) (fun c_12 => ?_)
              · skip
                refine lv_iload hx hb dX5_fewestAlike_87 (lv_at hl 4 rfl) ?_
                refine ln_imul hx hb (k * (linesK n h 1 k j)) (rfl) dX5_fewestAlike_89 ?_
                refine ln_iadd hx hb (fewestK n h (k - 1) + k * (linesK n h 1 k j)) (rfl) dX5_fewestAlike_90 ?_
                refine lv_istore_n (lv' := [(1, .int (iI (fewestK n h (k - 1) + k * (linesK n h 1 k j)))), (0, .ref qm), (2, .int (iI k)), (3, .int (iI (linesK n h 0 k j))), (4, .int (iI (linesK n h 1 k j))), (5, .int (iI j))]) hx hb dX5_fewestAlike_91 rfl hl (by decide) rfl (fun ls hl => ?_)
                refine lv_iinc (v := iI (k + 1)) (lv' := [(2, .int (iI (k + 1))), (1, .int (iI (fewestK n h (k - 1) + k * (linesK n h 1 k j)))), (0, .ref qm), (3, .int (iI (linesK n h 0 k j))), (4, .int (iI (linesK n h 1 k j))), (5, .int (iI j))]) hx hb dX5_fewestAlike_92 hl (k := 2) rfl (iI_add _ _) (by decide) rfl (fun ls hl => ?_)
                refine lv_goto (tgt := 4) hx hb dX5_fewestAlike_95 (by decide) ?_
                have hl := lv_re hl 1 rfl (.int (iI (fewestK n h ((k + 1) - 1)))) (congrArg (fun z => Value.int (iI z)) (show fewestK n h (k - 1) + k * (linesK n h 1 k j) = fewestK n h ((k + 1) - 1) from by have hj : j = n := (by omega); have q0 : linesK n h 0 k j = linesK n h 0 k n := (by rw [hj]); have q1 : linesK n h 1 k j = linesK n h 1 k n := (by rw [hj]); have e9 := fewestK_s (n := n) (h := h) (k := k - 1) (by omega); rw [show k - 1 + 1 = k by omega] at e9; rw [show k + 1 - 1 = k by omega, ← e9, hj]; unfold maxI; split <;> first | rfl | (rw [show linesK n h 0 k n = linesK n h 1 k n by omega]) | (exfalso; omega)))
                have hl : lv_has ls 6 [(2, .int (iI (k + 1))), (1, .int (iI (fewestK n h ((k + 1) - 1)))), (0, .ref qm), (3, .int (iI (linesK n h 0 k j))), (4, .int (iI (linesK n h 1 k j))), (5, .int (iI j))] := hl
                exact ih_2 (k + 1) (by omega) (by omega) _ (lv_sub hl [2, 1, 0] rfl) (by omega)
              · skip
                refine lv_iload_n hx hb dX5_fewestAlike_83 rfl (lv_at hl 3 rfl) ?_
                refine lv_goto (tgt := 89) hx hb dX5_fewestAlike_84 (by decide) ?_
                refine ln_imul hx hb (k * (linesK n h 0 k j)) (rfl) dX5_fewestAlike_89 ?_
                refine ln_iadd hx hb (fewestK n h (k - 1) + k * (linesK n h 0 k j)) (rfl) dX5_fewestAlike_90 ?_
                refine lv_istore_n (lv' := [(1, .int (iI (fewestK n h (k - 1) + k * (linesK n h 0 k j)))), (0, .ref qm), (2, .int (iI k)), (3, .int (iI (linesK n h 0 k j))), (4, .int (iI (linesK n h 1 k j))), (5, .int (iI j))]) hx hb dX5_fewestAlike_91 rfl hl (by decide) rfl (fun ls hl => ?_)
                refine lv_iinc (v := iI (k + 1)) (lv' := [(2, .int (iI (k + 1))), (1, .int (iI (fewestK n h (k - 1) + k * (linesK n h 0 k j)))), (0, .ref qm), (3, .int (iI (linesK n h 0 k j))), (4, .int (iI (linesK n h 1 k j))), (5, .int (iI j))]) hx hb dX5_fewestAlike_92 hl (k := 2) rfl (iI_add _ _) (by decide) rfl (fun ls hl => ?_)
                refine lv_goto (tgt := 4) hx hb dX5_fewestAlike_95 (by decide) ?_
                have hl := lv_re hl 1 rfl (.int (iI (fewestK n h ((k + 1) - 1)))) (congrArg (fun z => Value.int (iI z)) (show fewestK n h (k - 1) + k * (linesK n h 0 k j) = fewestK n h ((k + 1) - 1) from by have hj : j = n := (by omega); have q0 : linesK n h 0 k j = linesK n h 0 k n := (by rw [hj]); have q1 : linesK n h 1 k j = linesK n h 1 k n := (by rw [hj]); have e9 := fewestK_s (n := n) (h := h) (k := k - 1) (by omega); rw [show k - 1 + 1 = k by omega] at e9; rw [show k + 1 - 1 = k by omega, ← e9, hj]; unfold maxI; split <;> first | rfl | (rw [show linesK n h 0 k n = linesK n h 1 k n by omega]) | (exfalso; omega)))
                have hl : lv_has ls 6 [(2, .int (iI (k + 1))), (1, .int (iI (fewestK n h ((k + 1) - 1)))), (0, .ref qm), (3, .int (iI (linesK n h 0 k j))), (4, .int (iI (linesK n h 1 k j))), (5, .int (iI j))] := hl
                exact ih_2 (k + 1) (by omega) (by omega) _ (lv_sub hl [2, 1, 0] rfl) (by omega)
            · skip
              refine lv_iload_n hx hb dX5_fewestAlike_29 rfl (lv_at hl 3 rfl) ?_
              refine lv_aload_n hx hb dX5_fewestAlike_30 rfl (lv_at hl 0 rfl) ?_
              refine lv_iconst (v := iI 0) hx hb dX5_fewestAlike_31 rfl ?_
              refine lv_iload hx hb dX5_fewestAlike_32 (lv_at hl 5 rfl) ?_
              have hPc_13 := hP.sub (ws' := [(qm, .inr (5, [.int (iI th), .ref mz, .ref ms, .int (iI hn), .ref mp, .ref mb, .int (iI L), .ref m1, .ref m2, .ref m3, .ref mB, .ref mF, .ref mN, .ref mS, .int (iI sT), .ref mW, .long acc])), (mz, .inl (gI g, 326, .inl (aI (zF n ho h c))))]) [0, 1] rfl
              refine pc_i (va_runV (As := [.int (iI 0), .int (iI j)]) (rest := [.int (iI (linesK n h 0 k j))]) ⟨hx, hb, hml, hown, hts⟩ (c_X5_tallest l g qm th mz ms hn mp mb L m1 m2 m3 mB mF mN mS sT mW acc n ho h c 0 j hY (by omega) gj (by omega)) (cwV 2 hts gX5_fewestAlike_X5_tallest rfl rfl rfl (by decide +kernel) ⟨Nat.le_of_ble_eq_true rfl, Nat.le_of_ble_eq_true rfl⟩) (puV hE hS hPc_13 rfl rfl) rfl rfl hl.1 rfl (lv_room (Nat.le_of_ble_eq_true rfl)) dX5_fewestAlike_34 ⟨Nat.le_of_ble_eq_true rfl, Nat.le_of_ble_eq_true rfl⟩) ?_
              have r_14 : 0 ≤ greatK h 0 j n ∧ greatK h 0 j n ≤ 8 := greatK_rg (YOk.h hY) 0 j (by have := YOk.n hY; omega)
              refine lv_iload_n hx hb dX5_fewestAlike_37 rfl (lv_at hl 2 rfl) ?_
              refine ln_icmp_ne (tgt := 45) hx hb dX5_fewestAlike_38 (by decide) ⟨by omega, by omega⟩ ⟨by omega, by omega⟩ (fun c_15 => ?_) (fun c_15 => ?_)
              · skip
                refine lv_iconst (v := iI 0) hx hb dX5_fewestAlike_45 rfl ?_
                refine ln_iadd hx hb ((linesK n h 0 k j) + 0) (rfl) dX5_fewestAlike_46 ?_
                refine lv_istore_n (lv' := [(3, .int (iI ((linesK n h 0 k j) + 0))), (0, .ref qm), (1, .int (iI (fewestK n h (k - 1)))), (2, .int (iI k)), (4, .int (iI (linesK n h 1 k j))), (5, .int (iI j))]) hx hb dX5_fewestAlike_47 rfl hl (by decide) rfl (fun ls hl => ?_)
                refine lv_iload hx hb dX5_fewestAlike_48 (lv_at hl 4 rfl) ?_
                refine lv_aload_n hx hb dX5_fewestAlike_50 rfl (lv_at hl 1 rfl) ?_
                refine lv_iconst (v := iI 1) hx hb dX5_fewestAlike_51 rfl ?_
                refine lv_iload hx hb dX5_fewestAlike_52 (lv_at hl 5 rfl) ?_
                have hPc_16 := hP.sub (ws' := [(qm, .inr (5, [.int (iI th), .ref mz, .ref ms, .int (iI hn), .ref mp, .ref mb, .int (iI L), .ref m1, .ref m2, .ref m3, .ref mB, .ref mF, .ref mN, .ref mS, .int (iI sT), .ref mW, .long acc])), (mz, .inl (gI g, 326, .inl (aI (zF n ho h c))))]) [0, 1] rfl
                refine pc_i (va_runV (As := [.int (iI 1), .int (iI j)]) (rest := [.int (iI (linesK n h 1 k j))]) ⟨hx, hb, hml, hown, hts⟩ (c_X5_tallest l g qm th mz ms hn mp mb L m1 m2 m3 mB mF mN mS sT mW acc n ho h c 1 j hY (by omega) gj (by omega)) (cwV 2 hts gX5_fewestAlike_X5_tallest rfl rfl rfl (by decide +kernel) ⟨Nat.le_of_ble_eq_true rfl, Nat.le_of_ble_eq_true rfl⟩) (puV hE hS hPc_16 rfl rfl) rfl rfl hl.1 rfl (lv_room (Nat.le_of_ble_eq_true rfl)) dX5_fewestAlike_54 ⟨Nat.le_of_ble_eq_true rfl, Nat.le_of_ble_eq_true rfl⟩) ?_
                have r_17 : 0 ≤ greatK h 1 j n ∧ greatK h 1 j n ≤ 8 := greatK_rg (YOk.h hY) 1 j (by have := YOk.n hY; omega)
                refine lv_iload_n hx hb dX5_fewestAlike_57 rfl (lv_at hl 3 rfl) ?_
                refine ln_icmp_ne (tgt := 65) hx hb dX5_fewestAlike_58 (by decide) ⟨by omega, by omega⟩ ⟨by omega, by omega⟩ (fun c_18 => ?_) (fun c_18 => ?_)
                · skip
                  refine lv_iconst (v := iI 0) hx hb dX5_fewestAlike_65 rfl ?_
                  refine ln_iadd hx hb ((linesK n h 1 k j) + 0) (rfl) dX5_fewestAlike_66 ?_
                  refine lv_istore (lv' := [(4, .int (iI ((linesK n h 1 k j) + 0))), (3, .int (iI ((linesK n h 0 k j) + 0))), (0, .ref qm), (1, .int (iI (fewestK n h (k - 1)))), (2, .int (iI k)), (5, .int (iI j))]) hx hb dX5_fewestAlike_67 hl (by decide) rfl (fun ls hl => ?_)
                  refine lv_iinc (v := iI (j + 1)) (lv' := [(5, .int (iI (j + 1))), (4, .int (iI ((linesK n h 1 k j) + 0))), (3, .int (iI ((linesK n h 0 k j) + 0))), (0, .ref qm), (1, .int (iI (fewestK n h (k - 1)))), (2, .int (iI k))]) hx hb dX5_fewestAlike_69 hl (k := 5) rfl (iI_add _ _) (by decide) rfl (fun ls hl => ?_)
                  refine lv_goto (tgt := 18) hx hb dX5_fewestAlike_72 (by decide) ?_
                  have hl := lv_re hl 2 rfl (.int (iI (linesK n h 0 k (j + 1)))) (congrArg (fun z => Value.int (iI z)) (show (linesK n h 0 k j) + 0 = linesK n h 0 k (j + 1) from by rw [linesK_s gj]; first | (rw [bI_t (by omega)]; done) | (rw [bI_f (by omega)]; done) | (rw [bI_f (by omega)]; omega)))
                  have hl := lv_re hl 1 rfl (.int (iI (linesK n h 1 k (j + 1)))) (congrArg (fun z => Value.int (iI z)) (show (linesK n h 1 k j) + 0 = linesK n h 1 k (j + 1) from by rw [linesK_s gj]; first | (rw [bI_t (by omega)]; done) | (rw [bI_f (by omega)]; done) | (rw [bI_f (by omega)]; omega)))
                  have hl : lv_has ls 6 [(5, .int (iI (j + 1))), (4, .int (iI (linesK n h 1 k (j + 1)))), (3, .int (iI (linesK n h 0 k (j + 1)))), (0, .ref qm), (1, .int (iI (fewestK n h (k - 1)))), (2, .int (iI k))] := hl
                  exact ih_7 (j + 1) (by omega) (by omega) _ (lv_sub hl [3, 4, 5, 2, 1, 0] rfl) (by omega)
                · skip
                  refine lv_iconst (v := iI 1) hx hb dX5_fewestAlike_61 rfl ?_
                  refine lv_goto (tgt := 66) hx hb dX5_fewestAlike_62 (by decide) ?_
                  refine ln_iadd hx hb ((linesK n h 1 k j) + 1) (rfl) dX5_fewestAlike_66 ?_
                  refine lv_istore (lv' := [(4, .int (iI ((linesK n h 1 k j) + 1))), (3, .int (iI ((linesK n h 0 k j) + 0))), (0, .ref qm), (1, .int (iI (fewestK n h (k - 1)))), (2, .int (iI k)), (5, .int (iI j))]) hx hb dX5_fewestAlike_67 hl (by decide) rfl (fun ls hl => ?_)
                  refine lv_iinc (v := iI (j + 1)) (lv' := [(5, .int (iI (j + 1))), (4, .int (iI ((linesK n h 1 k j) + 1))), (3, .int (iI ((linesK n h 0 k j) + 0))), (0, .ref qm), (1, .int (iI (fewestK n h (k - 1)))), (2, .int (iI k))]) hx hb dX5_fewestAlike_69 hl (k := 5) rfl (iI_add _ _) (by decide) rfl (fun ls hl => ?_)
                  refine lv_goto (tgt := 18) hx hb dX5_fewestAlike_72 (by decide) ?_
                  have hl := lv_re hl 2 rfl (.int (iI (linesK n h 0 k (j + 1)))) (congrArg (fun z => Value.int (iI z)) (show (linesK n h 0 k j) + 0 = linesK n h 0 k (j + 1) from by rw [linesK_s gj]; first | (rw [bI_t (by omega)]; done) | (rw [bI_f (by omega)]; done) | (rw [bI_f (by omega)]; omega)))
                  have hl := lv_re hl 1 rfl (.int (iI (linesK n h 1 k (j + 1)))) (congrArg (fun z => Value.int (iI z)) (show (linesK n h 1 k j) + 1 = linesK n h 1 k (j + 1) from by rw [linesK_s gj]; first | (rw [bI_t (by omega)]; done) | (rw [bI_f (by omega)]; done) | (rw [bI_f (by omega)]; omega)))
                  have hl : lv_has ls 6 [(5, .int (iI (j + 1))), (4, .int (iI (linesK n h 1 k (j + 1)))), (3, .int (iI (linesK n h 0 k (j + 1)))), (0, .ref qm), (1, .int (iI (fewestK n h (k - 1)))), (2, .int (iI k))] := hl
                  exact ih_7 (j + 1) (by omega) (by omega) _ (lv_sub hl [3, 4, 5, 2, 1, 0] rfl) (by omega)
              · skip
                refine lv_iconst (v := iI 1) hx hb dX5_fewestAlike_41 rfl ?_
                refine lv_goto (tgt := 46) hx hb dX5_fewestAlike_42 (by decide) ?_
                refine ln_iadd hx hb ((linesK n h 0 k j) + 1) (rfl) dX5_fewestAlike_46 ?_
                refine lv_istore_n (lv' := [(3, .int (iI ((linesK n h 0 k j) + 1))), (0, .ref qm), (1, .int (iI (fewestK n h (k - 1)))), (2, .int (iI k)), (4, .int (iI (linesK n h 1 k j))), (5, .int (iI j))]) hx hb dX5_fewestAlike_47 rfl hl (by decide) rfl (fun ls hl => ?_)
                refine lv_iload hx hb dX5_fewestAlike_48 (lv_at hl 4 rfl) ?_
                refine lv_aload_n hx hb dX5_fewestAlike_50 rfl (lv_at hl 1 rfl) ?_
                refine lv_iconst (v := iI 1) hx hb dX5_fewestAlike_51 rfl ?_
                refine lv_iload hx hb dX5_fewestAlike_52 (lv_at hl 5 rfl) ?_
                have hPc_19 := hP.sub (ws' := [(qm, .inr (5, [.int (iI th), .ref mz, .ref ms, .int (iI hn), .ref mp, .ref mb, .int (iI L), .ref m1, .ref m2, .ref m3, .ref mB, .ref mF, .ref mN, .ref mS, .int (iI sT), .ref mW, .long acc])), (mz, .inl (gI g, 326, .inl (aI (zF n ho h c))))]) [0, 1] rfl
                refine pc_i (va_runV (As := [.int (iI 1), .int (iI j)]) (rest := [.int (iI (linesK n h 1 k j))]) ⟨hx, hb, hml, hown, hts⟩ (c_X5_tallest l g qm th mz ms hn mp mb L m1 m2 m3 mB mF mN mS sT mW acc n ho h c 1 j hY (by omega) gj (by omega)) (cwV 2 hts gX5_fewestAlike_X5_tallest rfl rfl rfl (by decide +kernel) ⟨Nat.le_of_ble_eq_true rfl, Nat.le_of_ble_eq_true rfl⟩) (puV hE hS hPc_19 rfl rfl) rfl rfl hl.1 rfl (lv_room (Nat.le_of_ble_eq_true rfl)) dX5_fewestAlike_54 ⟨Nat.le_of_ble_eq_true rfl, Nat.le_of_ble_eq_true rfl⟩) ?_
                have r_20 : 0 ≤ greatK h 1 j n ∧ greatK h 1 j n ≤ 8 := greatK_rg (YOk.h hY) 1 j (by have := YOk.n hY; omega)
                refine lv_iload_n hx hb dX5_fewestAlike_57 rfl (lv_at hl 3 rfl) ?_
                refine ln_icmp_ne (tgt := 65) hx hb dX5_fewestAlike_58 (by decide) ⟨by omega, by omega⟩ ⟨by omega, by omega⟩ (fun c_21 => ?_) (fun c_21 => ?_)
                · skip
                  refine lv_iconst (v := iI 0) hx hb dX5_fewestAlike_65 rfl ?_
                  refine ln_iadd hx hb ((linesK n h 1 k j) + 0) (rfl) dX5_fewestAlike_66 ?_
                  refine lv_istore (lv' := [(4, .int (iI ((linesK n h 1 k j) + 0))), (3, .int (iI ((linesK n h 0 k j) + 1))), (0, .ref qm), (1, .int (iI (fewestK n h (k - 1)))), (2, .int (iI k)), (5, .int (iI j))]) hx hb dX5_fewestAlike_67 hl (by decide) rfl (fun ls hl => ?_)
                  refine lv_iinc (v := iI (j + 1)) (lv' := [(5, .int (iI (j + 1))), (4, .int (iI ((linesK n h 1 k j) + 0))), (3, .int (iI ((linesK n h 0 k j) + 1))), (0, .ref qm), (1, .int (iI (fewestK n h (k - 1)))), (2, .int (iI k))]) hx hb dX5_fewestAlike_69 hl (k := 5) rfl (iI_add _ _) (by decide) rfl (fun ls hl => ?_)
                  refine lv_goto (tgt := 18) hx hb dX5_fewestAlike_72 (by decide) ?_
                  have hl := lv_re hl 2 rfl (.int (iI (linesK n h 0 k (j + 1)))) (congrArg (fun z => Value.int (iI z)) (show (linesK n h 0 k j) + 1 = linesK n h 0 k (j + 1) from by rw [linesK_s gj]; first | (rw [bI_t (by omega)]; done) | (rw [bI_f (by omega)]; done) | (rw [bI_f (by omega)]; omega)))
                  have hl := lv_re hl 1 rfl (.int (iI (linesK n h 1 k (j + 1)))) (congrArg (fun z => Value.int (iI z)) (show (linesK n h 1 k j) + 0 = linesK n h 1 k (j + 1) from by rw [linesK_s gj]; first | (rw [bI_t (by omega)]; done) | (rw [bI_f (by omega)]; done) | (rw [bI_f (by omega)]; omega)))
                  have hl : lv_has ls 6 [(5, .int (iI (j + 1))), (4, .int (iI (linesK n h 1 k (j + 1)))), (3, .int (iI (linesK n h 0 k (j + 1)))), (0, .ref qm), (1, .int (iI (fewestK n h (k - 1)))), (2, .int (iI k))] := hl
                  exact ih_7 (j + 1) (by omega) (by omega) _ (lv_sub hl [3, 4, 5, 2, 1, 0] rfl) (by omega)
                · skip
                  refine lv_iconst (v := iI 1) hx hb dX5_fewestAlike_61 rfl ?_
                  refine lv_goto (tgt := 66) hx hb dX5_fewestAlike_62 (by decide) ?_
                  refine ln_iadd hx hb ((linesK n h 1 k j) + 1) (rfl) dX5_fewestAlike_66 ?_
                  refine lv_istore (lv' := [(4, .int (iI ((linesK n h 1 k j) + 1))), (3, .int (iI ((linesK n h 0 k j) + 1))), (0, .ref qm), (1, .int (iI (fewestK n h (k - 1)))), (2, .int (iI k)), (5, .int (iI j))]) hx hb dX5_fewestAlike_67 hl (by decide) rfl (fun ls hl => ?_)
                  refine lv_iinc (v := iI (j + 1)) (lv' := [(5, .int (iI (j + 1))), (4, .int (iI ((linesK n h 1 k j) + 1))), (3, .int (iI ((linesK n h 0 k j) + 1))), (0, .ref qm), (1, .int (iI (fewestK n h (k - 1)))), (2, .int (iI k))]) hx hb dX5_fewestAlike_69 hl (k := 5) rfl (iI_add _ _) (by decide) rfl (fun ls hl => ?_)
                  refine lv_goto (tgt := 18) hx hb dX5_fewestAlike_72 (by decide) ?_
                  have hl := lv_re hl 2 rfl (.int (iI (linesK n h 0 k (j + 1)))) (congrArg (fun z => Value.int (iI z)) (show (linesK n h 0 k j) + 1 = linesK n h 0 k (j + 1) from by rw [linesK_s gj]; first | (rw [bI_t (by omega)]; done) | (rw [bI_f (by omega)]; done) | (rw [bI_f (by omega)]; omega)))
                  have hl := lv_re hl 1 rfl (.int (iI (linesK n h 1 k (j + 1)))) (congrArg (fun z => Value.int (iI z)) (show (linesK n h 1 k j) + 1 = linesK n h 1 k (j + 1) from by rw [linesK_s gj]; first | (rw [bI_t (by omega)]; done) | (rw [bI_f (by omega)]; done) | (rw [bI_f (by omega)]; omega)))
                  have hl : lv_has ls 6 [(5, .int (iI (j + 1))), (4, .int (iI (linesK n h 1 k (j + 1)))), (3, .int (iI (linesK n h 0 k (j + 1)))), (0, .ref qm), (1, .int (iI (fewestK n h (k - 1)))), (2, .int (iI k))] := hl
                  exact ih_7 (j + 1) (by omega) (by omega) _ (lv_sub hl [3, 4, 5, 2, 1, 0] rfl) (by omega)
        have hl := lv_re hl 2 rfl (.int (iI (linesK n h 0 k 0))) (congrArg (fun z => Value.int (iI z)) (show 0 = linesK n h 0 k 0 from rfl))
        have hl := lv_re hl 1 rfl (.int (iI (linesK n h 1 k 0))) (congrArg (fun z => Value.int (iI z)) (show 0 = linesK n h 1 k 0 from rfl))
        have hl : lv_has ls 6 [(5, .int (iI 0)), (4, .int (iI (linesK n h 1 k 0))), (3, .int (iI (linesK n h 0 k 0))), (0, .ref qm), (1, .int (iI (fewestK n h (k - 1)))), (2, .int (iI k))] := hl
        exact L18 _ 0 (by omega) (by omega) _ (lv_sub hl [3, 4, 5, 2, 1, 0] rfl) (Nat.lt_succ_self _)
  have hl := lv_re hl 1 rfl (.int (iI (fewestK n h (1 - 1)))) (congrArg (fun z => Value.int (iI z)) (show 0 = fewestK n h (1 - 1) from rfl))
  have hl : lv_has ls 6 [(2, .int (iI 1)), (1, .int (iI (fewestK n h (1 - 1)))), (0, .ref qm)] := hl
  exact L4 _ 1 (by omega) (by omega) _ (lv_sub hl [2, 1, 0] rfl) (Nat.lt_succ_self _)

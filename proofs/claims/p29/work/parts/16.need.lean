set_option maxHeartbeats 800000 in
set_option maxRecDepth 100000 in
theorem c_X4_needRange_ok (l : Launch) (g : GT) (v : Int) (lo : Int) (hi : Int) (gv : Rg v) (gl : Rg lo) (gh : Rg hi) (g1 : lo ≤ v) (g2 : v ≤ hi) : MutV l yX4_needRange wsX4_needRange ({ frames := 0, cells := 0, slots := 0, locals := 0 }) 0 0 g [] [.int (iI v), .int (iI lo), .int (iI hi)] (S := Unit) (fun _ => True) (fun _ => []) := by
  refine mut_of (y := yX4_needRange) (ws := wsX4_needRange) (av := [.int (iI v), .int (iI lo), .int (iI hi)]) (w := []) (Qc := fun A => va_Qv (fun (u9 : Unit) => (fun _ => True) u9) (fun u9 t9 => MB g ((fun _ => []) u9) A t9) A) (cc := cX4_needRange) (maxL := 3) (ret := none) (by decide) rfl (Nat.le_of_ble_eq_true rfl) ?_
  intro pZ eZ sZ mZ bZ meZ cZ A F hin hA hP hD hE hS ls hl
  obtain ⟨hx, hb, hr, hml, hts, hown, hlk⟩ := F
  skip
  have hown : sZ.vm.findClass RX4 = some mZ.cls := hown
  have hl : lv_has ls 3 [(0, .int (iI v)), (1, .int (iI lo)), (2, .int (iI hi))] := hl
  skip
  refine lv_iload_n hx hb dX4_needRange_0 rfl (lv_at hl 0 rfl) ?_
  refine lv_iload_n hx hb dX4_needRange_1 rfl (lv_at hl 1 rfl) ?_
  refine ln_icmp_lt (tgt := 10) hx hb dX4_needRange_2 (by decide) ⟨by omega, by omega⟩ ⟨by omega, by omega⟩ (fun c_1 => ?_) (fun c_1 => ?_)
  · exfalso; omega
  · skip
    refine lv_iload_n hx hb dX4_needRange_5 rfl (lv_at hl 0 rfl) ?_
    refine lv_iload_n hx hb dX4_needRange_6 rfl (lv_at hl 2 rfl) ?_
    refine ln_icmp_le (tgt := 21) hx hb dX4_needRange_7 (by decide) ⟨by omega, by omega⟩ ⟨by omega, by omega⟩ (fun c_2 => ?_) (fun c_2 => ?_)
    · skip
      have hP : va_P g.1 vwCl [] _ := hP
      have hD : va_D A [] := hD
      exact mend_v (S := Unit) (w' := (fun _ => [])) (post := (fun _ => True)) hx hb hr hlk hS () hP hD (trivial) (Nat.le_of_ble_eq_true rfl) (Nat.le_of_ble_eq_true rfl) dX4_needRange_21
    · exfalso; omega

set_option maxHeartbeats 800000 in
set_option maxRecDepth 100000 in
theorem c_X4_needSquare_ok (l : Launch) (g : GT) (qx : Nat) (qv : Nat) (qi : Nat) (qb : Nat) (ty : Nat) (py : Nat) (tv : Nat) (dr : Int) (qy : Nat) (qh : Nat) (qc : Nat) (n : Int) (ho : Int) (h : Int → Int) (c : Int → Int) (x : Int) (y : Int) (hY : YOk n ho h c) (h1 : 0 ≤ x) (h2 : x < n) (h3 : 0 ≤ y) (h4 : y < n) : MutV l yX4_needSquare wsX4_needSquare ({ frames := 2, cells := 0, slots := 0, locals := 44 }) 0 0 g [(qx, .inr (4, [.ref qy, .ref qv, .ref qi, .ref qb, .ref ty, .ref py, .ref tv, .int (iI dr)])), (qy, .inr (3, [.ref qh, .ref qc, .int (iI n), .int (iI ho)])), (qh, .inl (gI g, 36, .inl (aI h))), (qc, .inl (gI g, 36, .inl (aI c)))] [.ref qx, .int (iI x), .int (iI y)] (S := Unit) (fun _ => True) (fun _ => [(qx, .inr (4, [.ref qy, .ref qv, .ref qi, .ref qb, .ref ty, .ref py, .ref tv, .int (iI dr)])), (qy, .inr (3, [.ref qh, .ref qc, .int (iI n), .int (iI ho)])), (qh, .inl (gI g, 36, .inl (aI h))), (qc, .inl (gI g, 36, .inl (aI c)))]) := by
  refine mut_of (y := yX4_needSquare) (ws := wsX4_needSquare) (av := [.ref qx, .int (iI x), .int (iI y)]) (w := [(qx, .inr (4, [.ref qy, .ref qv, .ref qi, .ref qb, .ref ty, .ref py, .ref tv, .int (iI dr)])), (qy, .inr (3, [.ref qh, .ref qc, .int (iI n), .int (iI ho)])), (qh, .inl (gI g, 36, .inl (aI h))), (qc, .inl (gI g, 36, .inl (aI c)))]) (Qc := fun A => va_Qv (fun (u9 : Unit) => (fun _ => True) u9) (fun u9 t9 => MB g ((fun _ => [(qx, .inr (4, [.ref qy, .ref qv, .ref qi, .ref qb, .ref ty, .ref py, .ref tv, .int (iI dr)])), (qy, .inr (3, [.ref qh, .ref qc, .int (iI n), .int (iI ho)])), (qh, .inl (gI g, 36, .inl (aI h))), (qc, .inl (gI g, 36, .inl (aI c)))]) u9) A t9) A) (cc := cX4_needSquare) (maxL := 3) (ret := none) (by decide) rfl (Nat.le_of_ble_eq_true rfl) ?_
  intro pZ eZ sZ mZ bZ meZ cZ A F hin hA hP hD hE hS ls hl
  obtain ⟨hx, hb, hr, hml, hts, hown, hlk⟩ := F
  skip
  have hown : sZ.vm.findClass RX4 = some mZ.cls := hown
  have hl : lv_has ls 3 [(0, .ref qx), (1, .int (iI x)), (2, .int (iI y))] := hl
  skip
  have w0 := hts (.fieldLink RX4 12 "SlantYard" "yard" "LSlantYard$Yard;") (by decide +kernel)
  have in4 : ∀ w ∈ u_ws RX4 TX4 8, w ∈ wsX4_needSquare := by decide +kernel
  have hnn := hY.n
  have hho := hY.hr
  refine lv_aload_n hx hb dX4_needSquare_0 rfl (lv_at hl 0 rfl) ?_
  refine va_get (D := g.1) (ci := 4) (v := .ref qy) (C := RX4) (T := TX4) (N := 8) hx hb hts in4 hown hE.1 hP 0 rfl rfl 0 (by decide) w0 (fun _ h9 => h9) rfl dX4_needSquare_1 ?_
  refine lv_iload_n hx hb dX4_needSquare_4 rfl (lv_at hl 1 rfl) ?_
  refine lv_iload_n hx hb dX4_needSquare_5 rfl (lv_at hl 2 rfl) ?_
  have hPc_1 := hP.sub (ws' := [(qy, .inr (3, [.ref qh, .ref qc, .int (iI n), .int (iI ho)]))]) [1] rfl
  refine pc_i (va_runV (As := [.int (iI x), .int (iI y)]) (rest := []) ⟨hx, hb, hml, hown, hts⟩ (c_X3_hasSquare l g qy qh qc n ho x y hnn (⟨by omega, by omega⟩) (⟨by omega, by omega⟩)) (cwV 2 hts gX4_needSquare_X3_hasSquare rfl rfl rfl (by decide +kernel) ⟨Nat.le_of_ble_eq_true rfl, Nat.le_of_ble_eq_true rfl⟩) (puV hE hS hPc_1 rfl rfl) rfl rfl hl.1 rfl (lv_room (Nat.le_of_ble_eq_true rfl)) dX4_needSquare_6 ⟨Nat.le_of_ble_eq_true rfl, Nat.le_of_ble_eq_true rfl⟩) ?_
  refine lb_if_ne (tgt := 23) hx hb dX4_needSquare_9 (by decide) (fun c_2 => ?_) (fun c_2 => ?_)
  · skip
    have hP : va_P g.1 vwCl [(qx, .inr (4, [.ref qy, .ref qv, .ref qi, .ref qb, .ref ty, .ref py, .ref tv, .int (iI dr)])), (qy, .inr (3, [.ref qh, .ref qc, .int (iI n), .int (iI ho)])), (qh, .inl (gI g, 36, .inl (aI h))), (qc, .inl (gI g, 36, .inl (aI c)))] _ := hP
    have hD : va_D A [(qx, .inr (4, [.ref qy, .ref qv, .ref qi, .ref qb, .ref ty, .ref py, .ref tv, .int (iI dr)])), (qy, .inr (3, [.ref qh, .ref qc, .int (iI n), .int (iI ho)])), (qh, .inl (gI g, 36, .inl (aI h))), (qc, .inl (gI g, 36, .inl (aI c)))] := hD
    exact mend_v (S := Unit) (w' := (fun _ => [(qx, .inr (4, [.ref qy, .ref qv, .ref qi, .ref qb, .ref ty, .ref py, .ref tv, .int (iI dr)])), (qy, .inr (3, [.ref qh, .ref qc, .int (iI n), .int (iI ho)])), (qh, .inl (gI g, 36, .inl (aI h))), (qc, .inl (gI g, 36, .inl (aI c)))])) (post := (fun _ => True)) hx hb hr hlk hS () hP hD (trivial) (Nat.le_of_ble_eq_true rfl) (Nat.le_of_ble_eq_true rfl) dX4_needSquare_23
  · exfalso; omega

set_option maxHeartbeats 800000 in
set_option maxRecDepth 100000 in
theorem c_X4_needLine_ok (l : Launch) (g : GT) (qx : Nat) (qv : Nat) (qi : Nat) (qb : Nat) (ty : Nat) (py : Nat) (tv : Nat) (dr : Int) (qy : Nat) (qh : Nat) (qc : Nat) (n : Int) (ho : Int) (a : Int) (hn : 2 ≤ n ∧ n ≤ 6) (g1 : 0 ≤ a) (g2 : a < n) : MutV l yX4_needLine wsX4_needLine ({ frames := 0, cells := 0, slots := 0, locals := 0 }) 0 0 g [(qx, .inr (4, [.ref qy, .ref qv, .ref qi, .ref qb, .ref ty, .ref py, .ref tv, .int (iI dr)])), (qy, .inr (3, [.ref qh, .ref qc, .int (iI n), .int (iI ho)]))] [.ref qx, .int (iI a)] (S := Unit) (fun _ => True) (fun _ => [(qx, .inr (4, [.ref qy, .ref qv, .ref qi, .ref qb, .ref ty, .ref py, .ref tv, .int (iI dr)])), (qy, .inr (3, [.ref qh, .ref qc, .int (iI n), .int (iI ho)]))]) := by
  refine mut_of (y := yX4_needLine) (ws := wsX4_needLine) (av := [.ref qx, .int (iI a)]) (w := [(qx, .inr (4, [.ref qy, .ref qv, .ref qi, .ref qb, .ref ty, .ref py, .ref tv, .int (iI dr)])), (qy, .inr (3, [.ref qh, .ref qc, .int (iI n), .int (iI ho)]))]) (Qc := fun A => va_Qv (fun (u9 : Unit) => (fun _ => True) u9) (fun u9 t9 => MB g ((fun _ => [(qx, .inr (4, [.ref qy, .ref qv, .ref qi, .ref qb, .ref ty, .ref py, .ref tv, .int (iI dr)])), (qy, .inr (3, [.ref qh, .ref qc, .int (iI n), .int (iI ho)]))]) u9) A t9) A) (cc := cX4_needLine) (maxL := 2) (ret := none) (by decide) rfl (Nat.le_of_ble_eq_true rfl) ?_
  intro pZ eZ sZ mZ bZ meZ cZ A F hin hA hP hD hE hS ls hl
  obtain ⟨hx, hb, hr, hml, hts, hown, hlk⟩ := F
  skip
  have hown : sZ.vm.findClass RX4 = some mZ.cls := hown
  have hl : lv_has ls 2 [(0, .ref qx), (1, .int (iI a))] := hl
  skip
  have w0 := hts (.fieldLink RX4 12 "SlantYard" "yard" "LSlantYard$Yard;") (by decide +kernel)
  have in4 : ∀ w ∈ u_ws RX4 TX4 8, w ∈ wsX4_needLine := by decide +kernel
  have in3 : ∀ w ∈ u_ws RX3 TX3 4, w ∈ wsX4_needLine := by decide +kernel
  refine lv_iload_n hx hb dX4_needLine_0 rfl (lv_at hl 1 rfl) ?_
  refine ln_if_lt (tgt := 15) hx hb dX4_needLine_1 (by decide) ⟨by omega, by omega⟩ (fun c_1 => ?_) (fun c_1 => ?_)
  · exfalso; omega
  · skip
    refine lv_iload_n hx hb dX4_needLine_4 rfl (lv_at hl 1 rfl) ?_
    refine lv_aload_n hx hb dX4_needLine_5 rfl (lv_at hl 0 rfl) ?_
    refine va_get (D := g.1) (ci := 4) (v := .ref qy) (C := RX4) (T := TX4) (N := 8) hx hb hts in4 hown hE.1 hP 0 rfl rfl 0 (by decide) w0 (fun _ h9 => h9) rfl dX4_needLine_6 ?_
    refine va_getN (D := g.1) (ci := 3) (v := .int (iI n)) (C := RX3) (T := TX3) (N := 4) hx hb hts in3 hown hE.1 hP 1 rfl rfl 2 (by decide) (va_Nw.use rfl (hE.2.1.2.1 (RX4, 118, "SlantYard$Yard", "size", "I", RX4) (by decide +kernel))) (fun _ h9 => h9) rfl dX4_needLine_9 ?_
    refine ln_icmp_lt (tgt := 26) hx hb dX4_needLine_12 (by decide) ⟨by omega, by omega⟩ ⟨by omega, by omega⟩ (fun c_2 => ?_) (fun c_2 => ?_)
    · skip
      have hP : va_P g.1 vwCl [(qx, .inr (4, [.ref qy, .ref qv, .ref qi, .ref qb, .ref ty, .ref py, .ref tv, .int (iI dr)])), (qy, .inr (3, [.ref qh, .ref qc, .int (iI n), .int (iI ho)]))] _ := hP
      have hD : va_D A [(qx, .inr (4, [.ref qy, .ref qv, .ref qi, .ref qb, .ref ty, .ref py, .ref tv, .int (iI dr)])), (qy, .inr (3, [.ref qh, .ref qc, .int (iI n), .int (iI ho)]))] := hD
      exact mend_v (S := Unit) (w' := (fun _ => [(qx, .inr (4, [.ref qy, .ref qv, .ref qi, .ref qb, .ref ty, .ref py, .ref tv, .int (iI dr)])), (qy, .inr (3, [.ref qh, .ref qc, .int (iI n), .int (iI ho)]))])) (post := (fun _ => True)) hx hb hr hlk hS () hP hD (trivial) (Nat.le_of_ble_eq_true rfl) (Nat.le_of_ble_eq_true rfl) dX4_needLine_26
    · exfalso; omega

set_option maxHeartbeats 800000 in
set_option maxRecDepth 100000 in
theorem c_X4_needBlocks_ok (l : Launch) (g : GT) (qx : Nat) (qv : Nat) (qi : Nat) (qb : Nat) (ty : Nat) (py : Nat) (tv : Nat) (dr : Int) (qy : Nat) (qh : Nat) (qc : Nat) (n : Int) (ho : Int) (h : Int → Int) (c : Int → Int) (x : Int) (y : Int) (hY : YOk n ho h c) (h1 : 0 ≤ x) (h2 : x < n) (h3 : 0 ≤ y) (h4 : y < n) (g5 : h (y * 6 + x) ≠ 0) : MutV l yX4_needBlocks wsX4_needBlocks ({ frames := 2, cells := 0, slots := 0, locals := 44 }) 0 0 g [(qx, .inr (4, [.ref qy, .ref qv, .ref qi, .ref qb, .ref ty, .ref py, .ref tv, .int (iI dr)])), (qy, .inr (3, [.ref qh, .ref qc, .int (iI n), .int (iI ho)])), (qh, .inl (gI g, 36, .inl (aI h))), (qc, .inl (gI g, 36, .inl (aI c)))] [.ref qx, .int (iI x), .int (iI y)] (S := Unit) (fun _ => True) (fun _ => [(qx, .inr (4, [.ref qy, .ref qv, .ref qi, .ref qb, .ref ty, .ref py, .ref tv, .int (iI dr)])), (qy, .inr (3, [.ref qh, .ref qc, .int (iI n), .int (iI ho)])), (qh, .inl (gI g, 36, .inl (aI h))), (qc, .inl (gI g, 36, .inl (aI c)))]) := by
  refine mut_of (y := yX4_needBlocks) (ws := wsX4_needBlocks) (av := [.ref qx, .int (iI x), .int (iI y)]) (w := [(qx, .inr (4, [.ref qy, .ref qv, .ref qi, .ref qb, .ref ty, .ref py, .ref tv, .int (iI dr)])), (qy, .inr (3, [.ref qh, .ref qc, .int (iI n), .int (iI ho)])), (qh, .inl (gI g, 36, .inl (aI h))), (qc, .inl (gI g, 36, .inl (aI c)))]) (Qc := fun A => va_Qv (fun (u9 : Unit) => (fun _ => True) u9) (fun u9 t9 => MB g ((fun _ => [(qx, .inr (4, [.ref qy, .ref qv, .ref qi, .ref qb, .ref ty, .ref py, .ref tv, .int (iI dr)])), (qy, .inr (3, [.ref qh, .ref qc, .int (iI n), .int (iI ho)])), (qh, .inl (gI g, 36, .inl (aI h))), (qc, .inl (gI g, 36, .inl (aI c)))]) u9) A t9) A) (cc := cX4_needBlocks) (maxL := 3) (ret := none) (by decide) rfl (Nat.le_of_ble_eq_true rfl) ?_
  intro pZ eZ sZ mZ bZ meZ cZ A F hin hA hP hD hE hS ls hl
  obtain ⟨hx, hb, hr, hml, hts, hown, hlk⟩ := F
  skip
  have hown : sZ.vm.findClass RX4 = some mZ.cls := hown
  have hl : lv_has ls 3 [(0, .ref qx), (1, .int (iI x)), (2, .int (iI y))] := hl
  skip
  have w0 := hts (.fieldLink RX4 12 "SlantYard" "yard" "LSlantYard$Yard;") (by decide +kernel)
  have in4 : ∀ w ∈ u_ws RX4 TX4 8, w ∈ wsX4_needBlocks := by decide +kernel
  have hnn := hY.n
  have hho := hY.hr
  refine lv_aload_n hx hb dX4_needBlocks_0 rfl (lv_at hl 0 rfl) ?_
  refine va_get (D := g.1) (ci := 4) (v := .ref qy) (C := RX4) (T := TX4) (N := 8) hx hb hts in4 hown hE.1 hP 0 rfl rfl 0 (by decide) w0 (fun _ h9 => h9) rfl dX4_needBlocks_1 ?_
  refine lv_iload_n hx hb dX4_needBlocks_4 rfl (lv_at hl 1 rfl) ?_
  refine lv_iload_n hx hb dX4_needBlocks_5 rfl (lv_at hl 2 rfl) ?_
  have hPc_1 := hP.sub (ws' := [(qy, .inr (3, [.ref qh, .ref qc, .int (iI n), .int (iI ho)])), (qh, .inl (gI g, 36, .inl (aI h))), (qc, .inl (gI g, 36, .inl (aI c)))]) [1, 2, 3] rfl
  refine pc_i (va_runV (As := [.int (iI x), .int (iI y)]) (rest := []) ⟨hx, hb, hml, hown, hts⟩ (c_X3_heightAt l g qy qh qc n ho h c x y hY h1 h2 h3 h4) (cwV 2 hts gX4_needBlocks_X3_heightAt rfl rfl rfl (by decide +kernel) ⟨Nat.le_of_ble_eq_true rfl, Nat.le_of_ble_eq_true rfl⟩) (puV hE hS hPc_1 rfl rfl) rfl rfl hl.1 rfl (lv_room (Nat.le_of_ble_eq_true rfl)) dX4_needBlocks_6 ⟨Nat.le_of_ble_eq_true rfl, Nat.le_of_ble_eq_true rfl⟩) ?_
  have r_2 : 0 ≤ h (y * 6 + x) ∧ h (y * 6 + x) ≤ 8 := YOk.h hY (y * 6 + x)
  refine ln_if_ne (tgt := 23) hx hb dX4_needBlocks_9 (by decide) ⟨by omega, by omega⟩ (fun c_3 => ?_) (fun c_3 => ?_)
  · skip
    have hP : va_P g.1 vwCl [(qx, .inr (4, [.ref qy, .ref qv, .ref qi, .ref qb, .ref ty, .ref py, .ref tv, .int (iI dr)])), (qy, .inr (3, [.ref qh, .ref qc, .int (iI n), .int (iI ho)])), (qh, .inl (gI g, 36, .inl (aI h))), (qc, .inl (gI g, 36, .inl (aI c)))] _ := hP
    have hD : va_D A [(qx, .inr (4, [.ref qy, .ref qv, .ref qi, .ref qb, .ref ty, .ref py, .ref tv, .int (iI dr)])), (qy, .inr (3, [.ref qh, .ref qc, .int (iI n), .int (iI ho)])), (qh, .inl (gI g, 36, .inl (aI h))), (qc, .inl (gI g, 36, .inl (aI c)))] := hD
    exact mend_v (S := Unit) (w' := (fun _ => [(qx, .inr (4, [.ref qy, .ref qv, .ref qi, .ref qb, .ref ty, .ref py, .ref tv, .int (iI dr)])), (qy, .inr (3, [.ref qh, .ref qc, .int (iI n), .int (iI ho)])), (qh, .inl (gI g, 36, .inl (aI h))), (qc, .inl (gI g, 36, .inl (aI c)))])) (post := (fun _ => True)) hx hb hr hlk hS () hP hD (trivial) (Nat.le_of_ble_eq_true rfl) (Nat.le_of_ble_eq_true rfl) dX4_needBlocks_23
  · exfalso; omega


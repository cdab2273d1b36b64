set_option maxHeartbeats 4000000 in
set_option maxRecDepth 100000 in
theorem c_X4_valueAt (l : Launch) (g : GT) (q : Nat) (N : Nat) (f : Int → Int) (i : Int) (hN : N < 2147483648) (hi : Rg i) : Met l yX4_valueAt wsX4_valueAt ({ frames := 0, cells := 0, slots := 0, locals := 0 }) (RU q N f [.ref q, .int (iI i)]) (vp_Si (fun x => x = iI (if 0 ≤ i ∧ i < (N : Int) then f i else 0))) 0 0 (fun _ => False) := by
  refine Met.ofW (cc := cX4_valueAt) (maxL := 2) (ret := some .int) (by decide) rfl ?_
  intro p e s m args below meth c s₁ B hml hv
  obtain ⟨rfl, cell, h1, h2, h3, h4, h5, h6⟩ := hv
  have hx := B.exec
  have hb := B.bytes
  have hr := B.returns
  have hlk := B.notSynchronized
  have hS : va_S (fun _ => False) s.heap s.heap [] := va_S.rf
  have hl := lv_entry ([.ref q, .int (iI i)]) (n := 2) (Nat.le_of_ble_eq_true rfl)
  rw [lg_entry_eq]
  generalize (lg_sl ([.ref q, .int (iI i)]) ++ List.replicate (2 - (lg_sl ([.ref q, .int (iI i)])).length) Slot.unset).toArray = ls at hl ⊢
  have hl : lv_has ls 2 [(0, .ref q), (1, .int (iI i))] := hl
  refine lv_iload_n hx hb dX4_valueAt_0 rfl (lv_at hl 1 rfl) ?_
  refine ln_if_lt (tgt := 16) hx hb dX4_valueAt_1 (by decide) hi (fun c1 => ?_) (fun c1 => ?_)
  · refine lv_iconst (v := iI 0) hx hb dX4_valueAt_16 rfl ?_
    exact pend_i hx hb hr hlk hS rfl (by rw [if_neg (by omega)]) dX4_valueAt_17
  refine lv_iload_n hx hb dX4_valueAt_4 rfl (lv_at hl 1 rfl) ?_
  refine lv_aload_n hx hb dX4_valueAt_5 rfl (lv_at hl 0 rfl) ?_
  refine W.alen (n := Int32.ofNat N) hx hb h1 h2 h5 rfl rfl dX4_valueAt_6 ?_
  refine W.eq (g2 := F0 m 7 ls [.int (Int32.ofNat N), .int (iI i)]) rfl ?_
  refine ln_topv (w := .int (iI (N : Int))) (by rw [iI_nat]) ?_
  refine ln_icmp_ge (tgt := 16) hx hb dX4_valueAt_7 (by decide) hi ⟨by omega, by omega⟩ (fun c2 => ?_) (fun c2 => ?_)
  · refine lv_iconst (v := iI 0) hx hb dX4_valueAt_16 rfl ?_
    exact pend_i hx hb hr hlk hS rfl (by rw [if_neg (by omega)]) dX4_valueAt_17
  refine lv_aload_n hx hb dX4_valueAt_10 rfl (lv_at hl 0 rfl) ?_
  refine lv_iload_n hx hb dX4_valueAt_11 rfl (lv_at hl 1 rfl) ?_
  have hcl : (iI i).toNatClampNeg = i.toNat := iI_clamp (by omega) (by omega)
  have hlt : i.toNat < N := by omega
  refine W.iald (v := .int (iI (f i))) hx hb h1 h2 h3 (by rintro (q9 | q9); exact absurd ((iI_lt hi (show Rg 0 from ⟨by decide, by decide⟩)).mp q9) (by omega); rw [hcl] at q9; omega) (by rw [hcl, h6 _ hlt, Int.toNat_of_nonneg (by omega)]) rfl rfl dX4_valueAt_12 ?_
  refine W.eq (g2 := F0 m 13 ls [.int (iI (f i))]) rfl ?_
  refine lv_goto (tgt := 17) hx hb dX4_valueAt_13 (by decide) ?_
  exact pend_i hx hb hr hlk hS rfl (by rw [if_pos ⟨by omega, by omega⟩]) dX4_valueAt_17
theorem c_X4_valueAt_in (l : Launch) (g : GT) (q : Nat) (N : Nat) (f : Int → Int) (i : Int) (hN : N < 2147483648) (h0 : 0 ≤ i) (h1 : i < (N : Int)) : Met l yX4_valueAt wsX4_valueAt ({ frames := 0, cells := 0, slots := 0, locals := 0 }) (RU q N f [.ref q, .int (iI i)]) (vp_Si (fun x => x = iI (f i))) 0 0 (fun _ => False) := by
  have h := c_X4_valueAt l g q N f i hN ⟨by omega, by omega⟩
  rw [if_pos ⟨h0, h1⟩] at h
  exact h
set_option maxHeartbeats 800000 in
set_option maxRecDepth 100000 in
theorem c_X3_squareAt (l : Launch) (g : GT) (qy : Nat) (qh : Nat) (qc : Nat) (n : Int) (ho : Int) (x : Int) (y : Int) (hn : 2 ≤ n ∧ n ≤ 6) (gx : Rg x) (gy : Rg y) : MetI l yX3_squareAt wsX3_squareAt ({ frames := 0, cells := 0, slots := 0, locals := 0 }) g [(qy, .inr (3, [.ref qh, .ref qc, .int (iI n), .int (iI ho)]))] [.ref qy, .int (iI x), .int (iI y)] (sqA n x y) := by
  refine pure_of (cc := cX3_squareAt) (maxL := 3) (ret := (some .int)) (by decide) rfl (Nat.le_of_ble_eq_true rfl) ?_
  intro pZ eZ sZ mZ bZ meZ cZ F hP hE hS ls hl
  obtain ⟨hx, hb, hr, hml, hts, hown, hlk⟩ := F
  have hown : sZ.vm.findClass RX3 = some mZ.cls := hown
  have hl : lv_has ls 3 [(0, .ref qy), (1, .int (iI x)), (2, .int (iI y))] := hl
  have w0 := hts (.fieldLink RX3 18 "SlantYard$Yard" "size" "I") (by decide +kernel)
  have in3 : ∀ w ∈ u_ws RX3 TX3 4, w ∈ wsX3_squareAt := by decide +kernel
  refine lv_iload_n hx hb dX3_squareAt_0 rfl (lv_at hl 1 rfl) ?_
  refine ln_if_lt (tgt := 33) hx hb dX3_squareAt_1 (by decide) ⟨by omega, by omega⟩ (fun c_1 => ?_) (fun c_1 => ?_)
  · skip
    refine lv_iconst (v := iI (-1)) hx hb dX3_squareAt_33 rfl ?_
    exact pend_i hx hb hr hlk hS rfl (by unfold sqA; split <;> omega) dX3_squareAt_34
  · skip
    refine lv_iload_n hx hb dX3_squareAt_4 rfl (lv_at hl 1 rfl) ?_
    refine lv_aload_n hx hb dX3_squareAt_5 rfl (lv_at hl 0 rfl) ?_
    refine va_get (D := g.1) (ci := 3) (v := .int (iI n)) (C := RX3) (T := TX3) (N := 4) hx hb hts in3 hown hE.1 hP 0 rfl rfl 2 (by decide) w0 (fun _ h9 => h9) rfl dX3_squareAt_6 ?_
    refine ln_icmp_ge (tgt := 33) hx hb dX3_squareAt_9 (by decide) ⟨by omega, by omega⟩ ⟨by omega, by omega⟩ (fun c_2 => ?_) (fun c_2 => ?_)
    · skip
      refine lv_iconst (v := iI (-1)) hx hb dX3_squareAt_33 rfl ?_
      exact pend_i hx hb hr hlk hS rfl (by unfold sqA; split <;> omega) dX3_squareAt_34
    · skip
      refine lv_iload_n hx hb dX3_squareAt_12 rfl (lv_at hl 2 rfl) ?_
      refine ln_if_lt (tgt := 33) hx hb dX3_squareAt_13 (by decide) ⟨by omega, by omega⟩ (fun c_3 => ?_) (fun c_3 => ?_)
      · skip
        refine lv_iconst (v := iI (-1)) hx hb dX3_squareAt_33 rfl ?_
        exact pend_i hx hb hr hlk hS rfl (by unfold sqA; split <;> omega) dX3_squareAt_34
      · skip
        refine lv_iload_n hx hb dX3_squareAt_16 rfl (lv_at hl 2 rfl) ?_
        refine lv_aload_n hx hb dX3_squareAt_17 rfl (lv_at hl 0 rfl) ?_
        refine va_get (D := g.1) (ci := 3) (v := .int (iI n)) (C := RX3) (T := TX3) (N := 4) hx hb hts in3 hown hE.1 hP 0 rfl rfl 2 (by decide) w0 (fun _ h9 => h9) rfl dX3_squareAt_18 ?_
        refine ln_icmp_ge (tgt := 33) hx hb dX3_squareAt_21 (by decide) ⟨by omega, by omega⟩ ⟨by omega, by omega⟩ (fun c_4 => ?_) (fun c_4 => ?_)
        · skip
          refine lv_iconst (v := iI (-1)) hx hb dX3_squareAt_33 rfl ?_
          exact pend_i hx hb hr hlk hS rfl (by unfold sqA; split <;> omega) dX3_squareAt_34
        · skip
          refine lv_iload_n hx hb dX3_squareAt_24 rfl (lv_at hl 2 rfl) ?_
          refine lv_bipush (v := iI 6) hx hb dX3_squareAt_25 (by decide) ?_
          refine ln_imul hx hb (y * 6) (rfl) dX3_squareAt_27 ?_
          refine lv_iload_n hx hb dX3_squareAt_28 rfl (lv_at hl 1 rfl) ?_
          refine ln_iadd hx hb (y * 6 + x) (rfl) dX3_squareAt_29 ?_
          refine lv_goto (tgt := 34) hx hb dX3_squareAt_30 (by decide) ?_
          exact pend_i hx hb hr hlk hS rfl (by unfold sqA; split <;> omega) dX3_squareAt_34
set_option maxHeartbeats 800000 in
set_option maxRecDepth 100000 in
theorem c_X3_squareAt_in (l : Launch) (g : GT) (qy : Nat) (qh : Nat) (qc : Nat) (n : Int) (ho : Int) (x : Int) (y : Int) (hn : 2 ≤ n ∧ n ≤ 6) (h1 : 0 ≤ x) (h2 : x < n) (h3 : 0 ≤ y) (h4 : y < n) : MetI l yX3_squareAt wsX3_squareAt ({ frames := 0, cells := 0, slots := 0, locals := 0 }) g [(qy, .inr (3, [.ref qh, .ref qc, .int (iI n), .int (iI ho)]))] [.ref qy, .int (iI x), .int (iI y)] (y * 6 + x) := by
  refine pure_of (cc := cX3_squareAt) (maxL := 3) (ret := (some .int)) (by decide) rfl (Nat.le_of_ble_eq_true rfl) ?_
  intro pZ eZ sZ mZ bZ meZ cZ F hP hE hS ls hl
  obtain ⟨hx, hb, hr, hml, hts, hown, hlk⟩ := F
  have hown : sZ.vm.findClass RX3 = some mZ.cls := hown
  have hl : lv_has ls 3 [(0, .ref qy), (1, .int (iI x)), (2, .int (iI y))] := hl
  have w0 := hts (.fieldLink RX3 18 "SlantYard$Yard" "size" "I") (by decide +kernel)
  have in3 : ∀ w ∈ u_ws RX3 TX3 4, w ∈ wsX3_squareAt := by decide +kernel
  refine lv_iload_n hx hb dX3_squareAt_0 rfl (lv_at hl 1 rfl) ?_
  refine ln_if_lt (tgt := 33) hx hb dX3_squareAt_1 (by decide) ⟨by omega, by omega⟩ (fun c_1 => ?_) (fun c_1 => ?_)
  · exfalso; omega
  · skip
    refine lv_iload_n hx hb dX3_squareAt_4 rfl (lv_at hl 1 rfl) ?_
    refine lv_aload_n hx hb dX3_squareAt_5 rfl (lv_at hl 0 rfl) ?_
    refine va_get (D := g.1) (ci := 3) (v := .int (iI n)) (C := RX3) (T := TX3) (N := 4) hx hb hts in3 hown hE.1 hP 0 rfl rfl 2 (by decide) w0 (fun _ h9 => h9) rfl dX3_squareAt_6 ?_
    refine ln_icmp_ge (tgt := 33) hx hb dX3_squareAt_9 (by decide) ⟨by omega, by omega⟩ ⟨by omega, by omega⟩ (fun c_2 => ?_) (fun c_2 => ?_)
    · exfalso; omega
    · skip
      refine lv_iload_n hx hb dX3_squareAt_12 rfl (lv_at hl 2 rfl) ?_
      refine ln_if_lt (tgt := 33) hx hb dX3_squareAt_13 (by decide) ⟨by omega, by omega⟩ (fun c_3 => ?_) (fun c_3 => ?_)
      · exfalso; omega
      · skip
        refine lv_iload_n hx hb dX3_squareAt_16 rfl (lv_at hl 2 rfl) ?_
        refine lv_aload_n hx hb dX3_squareAt_17 rfl (lv_at hl 0 rfl) ?_
        refine va_get (D := g.1) (ci := 3) (v := .int (iI n)) (C := RX3) (T := TX3) (N := 4) hx hb hts in3 hown hE.1 hP 0 rfl rfl 2 (by decide) w0 (fun _ h9 => h9) rfl dX3_squareAt_18 ?_
        refine ln_icmp_ge (tgt := 33) hx hb dX3_squareAt_21 (by decide) ⟨by omega, by omega⟩ ⟨by omega, by omega⟩ (fun c_4 => ?_) (fun c_4 => ?_)
        · exfalso; omega
        · skip
          refine lv_iload_n hx hb dX3_squareAt_24 rfl (lv_at hl 2 rfl) ?_
          refine lv_bipush (v := iI 6) hx hb dX3_squareAt_25 (by decide) ?_
          refine ln_imul hx hb (y * 6) (rfl) dX3_squareAt_27 ?_
          refine lv_iload_n hx hb dX3_squareAt_28 rfl (lv_at hl 1 rfl) ?_
          refine ln_iadd hx hb (y * 6 + x) (rfl) dX3_squareAt_29 ?_
          refine lv_goto (tgt := 34) hx hb dX3_squareAt_30 (by decide) ?_
          exact pend_i hx hb hr hlk hS rfl (by first | rfl | omega | (split <;> omega)) dX3_squareAt_34
set_option maxHeartbeats 800000 in
set_option maxRecDepth 100000 in
theorem c_X3_hasSquare (l : Launch) (g : GT) (qy : Nat) (qh : Nat) (qc : Nat) (n : Int) (ho : Int) (x : Int) (y : Int) (hn : 2 ≤ n ∧ n ≤ 6) (gx : Rg x) (gy : Rg y) : MetI l yX3_hasSquare wsX3_hasSquare ({ frames := 1, cells := 0, slots := 0, locals := 22 }) g [(qy, .inr (3, [.ref qh, .ref qc, .int (iI n), .int (iI ho)]))] [.ref qy, .int (iI x), .int (iI y)] (bI (okS n x y)) := by
  refine pure_of (cc := cX3_hasSquare) (maxL := 3) (ret := (some .boolean)) (by decide) rfl (Nat.le_of_ble_eq_true rfl) ?_
  intro pZ eZ sZ mZ bZ meZ cZ F hP hE hS ls hl
  obtain ⟨hx, hb, hr, hml, hts, hown, hlk⟩ := F
  have hown : sZ.vm.findClass RX3 = some mZ.cls := hown
  have hl : lv_has ls 3 [(0, .ref qy), (1, .int (iI x)), (2, .int (iI y))] := hl
  refine lv_aload_n hx hb dX3_hasSquare_0 rfl (lv_at hl 0 rfl) ?_
  refine lv_iload_n hx hb dX3_hasSquare_1 rfl (lv_at hl 1 rfl) ?_
  refine lv_iload_n hx hb dX3_hasSquare_2 rfl (lv_at hl 2 rfl) ?_
  have hPc_1 := hP.sub (ws' := [(qy, .inr (3, [.ref qh, .ref qc, .int (iI n), .int (iI ho)]))]) [0] rfl
  refine pc_i (va_runV (As := [.int (iI x), .int (iI y)]) (rest := []) ⟨hx, hb, hml, hown, hts⟩ (c_X3_squareAt l g qy qh qc n ho x y hn gx gy) (cwV 2 hts gX3_hasSquare_X3_squareAt rfl rfl rfl (by decide +kernel) ⟨Nat.le_of_ble_eq_true rfl, Nat.le_of_ble_eq_true rfl⟩) (puV hE hS hPc_1 rfl rfl) rfl rfl hl.1 rfl (lv_room (Nat.le_of_ble_eq_true rfl)) dX3_hasSquare_3 ⟨Nat.le_of_ble_eq_true rfl, Nat.le_of_ble_eq_true rfl⟩) ?_
  have r_2 : -1 ≤ sqA n x y ∧ sqA n x y < 36 := by unfold sqA; split <;> omega
  refine lv_iconst (v := iI (-1)) hx hb dX3_hasSquare_6 rfl ?_
  refine ln_icmp_eq (tgt := 14) hx hb dX3_hasSquare_7 (by decide) ⟨by omega, by omega⟩ (by decide) (fun c_3 => ?_) (fun c_3 => ?_)
  · skip
    refine lv_iconst (v := iI 0) hx hb dX3_hasSquare_14 rfl ?_
    exact pend_z hx hb hr hlk hS rfl (Or.inl rfl) (by unfold sqA at *; unfold bI; split at * <;> split <;> omega) dX3_hasSquare_15
  · skip
    refine lv_iconst (v := iI 1) hx hb dX3_hasSquare_10 rfl ?_
    refine lv_goto (tgt := 15) hx hb dX3_hasSquare_11 (by decide) ?_
    exact pend_z hx hb hr hlk hS rfl (Or.inr rfl) (by unfold sqA at *; unfold bI; split at * <;> split <;> omega) dX3_hasSquare_15
set_option maxHeartbeats 800000 in
set_option maxRecDepth 100000 in
theorem c_X3_heightAt (l : Launch) (g : GT) (qy : Nat) (qh : Nat) (qc : Nat) (n : Int) (ho : Int) (h : Int → Int) (c : Int → Int) (x : Int) (y : Int) (hY : YOk n ho h c) (h1 : 0 ≤ x) (h2 : x < n) (h3 : 0 ≤ y) (h4 : y < n) : MetI l yX3_heightAt wsX3_heightAt ({ frames := 1, cells := 0, slots := 0, locals := 22 }) g [(qy, .inr (3, [.ref qh, .ref qc, .int (iI n), .int (iI ho)])), (qh, .inl (gI g, 36, .inl (aI h))), (qc, .inl (gI g, 36, .inl (aI c)))] [.ref qy, .int (iI x), .int (iI y)] (h (y * 6 + x)) := by
  refine pure_of (cc := cX3_heightAt) (maxL := 3) (ret := (some .int)) (by decide) rfl (Nat.le_of_ble_eq_true rfl) ?_
  intro pZ eZ sZ mZ bZ meZ cZ F hP hE hS ls hl
  obtain ⟨hx, hb, hr, hml, hts, hown, hlk⟩ := F
  have hown : sZ.vm.findClass RX3 = some mZ.cls := hown
  have hl : lv_has ls 3 [(0, .ref qy), (1, .int (iI x)), (2, .int (iI y))] := hl
  have w0 := hts (.fieldLink RX3 9 "SlantYard$Yard" "heights" "[I") (by decide +kernel)
  have w1 := hts (.initialized RX4) (by decide +kernel)
  have w2 := hts (.static yX4_valueAt) (by decide +kernel)
  have in3 : ∀ w ∈ u_ws RX3 TX3 4, w ∈ wsX3_heightAt := by decide +kernel
  have hnn := hY.n
  have hho := hY.hr
  refine lv_aload_n hx hb dX3_heightAt_0 rfl (lv_at hl 0 rfl) ?_
  refine va_get (D := g.1) (ci := 3) (v := .ref qh) (C := RX3) (T := TX3) (N := 4) hx hb hts in3 hown hE.1 hP 0 rfl rfl 0 (by decide) w0 (fun _ h9 => h9) rfl dX3_heightAt_1 ?_
  refine lv_aload_n hx hb dX3_heightAt_4 rfl (lv_at hl 0 rfl) ?_
  refine lv_iload_n hx hb dX3_heightAt_5 rfl (lv_at hl 1 rfl) ?_
  refine lv_iload_n hx hb dX3_heightAt_6 rfl (lv_at hl 2 rfl) ?_
  have hPc_1 := hP.sub (ws' := [(qy, .inr (3, [.ref qh, .ref qc, .int (iI n), .int (iI ho)]))]) [0] rfl
  refine pc_i (va_runV (As := [.int (iI x), .int (iI y)]) (rest := [.ref qh]) ⟨hx, hb, hml, hown, hts⟩ (c_X3_squareAt_in l g qy qh qc n ho x y hnn h1 h2 h3 h4) (cwV 2 hts gX3_heightAt_X3_squareAt rfl rfl rfl (by decide +kernel) ⟨Nat.le_of_ble_eq_true rfl, Nat.le_of_ble_eq_true rfl⟩) (puV hE hS hPc_1 rfl rfl) rfl rfl hl.1 rfl (lv_room (Nat.le_of_ble_eq_true rfl)) dX3_heightAt_7 ⟨Nat.le_of_ble_eq_true rfl, Nat.le_of_ble_eq_true rfl⟩) ?_
  refine pc_i (va_runSN (As := [.ref qh, .int (iI (y * 6 + x))]) (rest := []) ⟨hx, hb, hml, hown, hts⟩ (c_X4_valueAt_in l g qh 36 h (y * 6 + x) (by omega) (by omega) (by omega)) ⟨va_cnB 2 hts gX3_heightAt_X4_valueAt_n31 rfl rfl rfl (hE.2.1.1 (RX3, 31, yX4_valueAt, RX4) (by decide +kernel)) w1 (by decide +kernel) ⟨Nat.le_of_ble_eq_true rfl, Nat.le_of_ble_eq_true rfl⟩, w2, trivial⟩ (ruS (RA.ofP hE hP 1 rfl)) rfl rfl hl.1 rfl (lv_room (Nat.le_of_ble_eq_true rfl)) dX3_heightAt_10 ⟨Nat.le_of_ble_eq_true rfl, Nat.le_of_ble_eq_true rfl⟩) ?_
  exact pend_i hx hb hr hlk hS rfl (by first | rfl | omega | (split <;> omega)) dX3_heightAt_13
set_option maxHeartbeats 800000 in
set_option maxRecDepth 100000 in
theorem c_X3_colourAt (l : Launch) (g : GT) (qy : Nat) (qh : Nat) (qc : Nat) (n : Int) (ho : Int) (h : Int → Int) (c : Int → Int) (x : Int) (y : Int) (z : Int) (hY : YOk n ho h c) (h1 : 0 ≤ x) (h2 : x < n) (h3 : 0 ≤ y) (h4 : y < n) (gz : -1 ≤ z ∧ z ≤ 7) : MetI l yX3_colourAt wsX3_colourAt ({ frames := 2, cells := 0, slots := 0, locals := 44 }) g [(qy, .inr (3, [.ref qh, .ref qc, .int (iI n), .int (iI ho)])), (qh, .inl (gI g, 36, .inl (aI h))), (qc, .inl (gI g, 36, .inl (aI c)))] [.ref qy, .int (iI x), .int (iI y), .int (iI z)] (if 0 ≤ z ∧ z < h (y * 6 + x) then colZ (c (y * 6 + x)) z else -1) := by
  refine pure_of (cc := cX3_colourAt) (maxL := 4) (ret := (some .int)) (by decide) rfl (Nat.le_of_ble_eq_true rfl) ?_
  intro pZ eZ sZ mZ bZ meZ cZ F hP hE hS ls hl
  obtain ⟨hx, hb, hr, hml, hts, hown, hlk⟩ := F
  have hown : sZ.vm.findClass RX3 = some mZ.cls := hown
  have hl : lv_has ls 4 [(0, .ref qy), (1, .int (iI x)), (2, .int (iI y)), (3, .int (iI z))] := hl
  have w0 := hts (.fieldLink RX3 15 "SlantYard$Yard" "colours" "[I") (by decide +kernel)
  have w1 := hts (.initialized RX4) (by decide +kernel)
  have w2 := hts (.static yX4_valueAt) (by decide +kernel)
  have in3 : ∀ w ∈ u_ws RX3 TX3 4, w ∈ wsX3_colourAt := by decide +kernel
  have hnn := hY.n
  have hho := hY.hr
  refine lv_iload_n hx hb dX3_colourAt_0 rfl (lv_at hl 3 rfl) ?_
  refine ln_if_lt (tgt := 14) hx hb dX3_colourAt_1 (by decide) ⟨by omega, by omega⟩ (fun c_1 => ?_) (fun c_1 => ?_)
  · skip
    refine lv_iconst (v := iI (-1)) hx hb dX3_colourAt_14 rfl ?_
    exact pend_i hx hb hr hlk hS rfl (by first | (rw [if_pos ⟨by omega, by omega⟩]) | (rw [if_neg (by omega)])) dX3_colourAt_15
  · skip
    refine lv_iload_n hx hb dX3_colourAt_4 rfl (lv_at hl 3 rfl) ?_
    refine lv_aload_n hx hb dX3_colourAt_5 rfl (lv_at hl 0 rfl) ?_
    refine lv_iload_n hx hb dX3_colourAt_6 rfl (lv_at hl 1 rfl) ?_
    refine lv_iload_n hx hb dX3_colourAt_7 rfl (lv_at hl 2 rfl) ?_
    have hPc_2 := hP.sub (ws' := [(qy, .inr (3, [.ref qh, .ref qc, .int (iI n), .int (iI ho)])), (qh, .inl (gI g, 36, .inl (aI h))), (qc, .inl (gI g, 36, .inl (aI c)))]) [0, 1, 2] rfl
    refine pc_i (va_runV (As := [.int (iI x), .int (iI y)]) (rest := [.int (iI z)]) ⟨hx, hb, hml, hown, hts⟩ (c_X3_heightAt l g qy qh qc n ho h c x y hY h1 h2 h3 h4) (cwV 2 hts gX3_colourAt_X3_heightAt rfl rfl rfl (by decide +kernel) ⟨Nat.le_of_ble_eq_true rfl, Nat.le_of_ble_eq_true rfl⟩) (puV hE hS hPc_2 rfl rfl) rfl rfl hl.1 rfl (lv_room (Nat.le_of_ble_eq_true rfl)) dX3_colourAt_8 ⟨Nat.le_of_ble_eq_true rfl, Nat.le_of_ble_eq_true rfl⟩) ?_
    have r_3 : 0 ≤ h (y * 6 + x) ∧ h (y * 6 + x) ≤ 8 := YOk.h hY (y * 6 + x)
    refine ln_icmp_lt (tgt := 16) hx hb dX3_colourAt_11 (by decide) ⟨by omega, by omega⟩ ⟨by omega, by omega⟩ (fun c_4 => ?_) (fun c_4 => ?_)
    · skip
      refine lv_aload_n hx hb dX3_colourAt_16 rfl (lv_at hl 0 rfl) ?_
      refine va_get (D := g.1) (ci := 3) (v := .ref qc) (C := RX3) (T := TX3) (N := 4) hx hb hts in3 hown hE.1 hP 0 rfl rfl 1 (by decide) w0 (fun _ h9 => h9) rfl dX3_colourAt_17 ?_
      refine lv_aload_n hx hb dX3_colourAt_20 rfl (lv_at hl 0 rfl) ?_
      refine lv_iload_n hx hb dX3_colourAt_21 rfl (lv_at hl 1 rfl) ?_
      refine lv_iload_n hx hb dX3_colourAt_22 rfl (lv_at hl 2 rfl) ?_
      have hPc_5 := hP.sub (ws' := [(qy, .inr (3, [.ref qh, .ref qc, .int (iI n), .int (iI ho)]))]) [0] rfl
      refine pc_i (va_runV (As := [.int (iI x), .int (iI y)]) (rest := [.ref qc]) ⟨hx, hb, hml, hown, hts⟩ (c_X3_squareAt_in l g qy qh qc n ho x y hnn h1 h2 h3 h4) (cwV 2 hts gX3_colourAt_X3_squareAt rfl rfl rfl (by decide +kernel) ⟨Nat.le_of_ble_eq_true rfl, Nat.le_of_ble_eq_true rfl⟩) (puV hE hS hPc_5 rfl rfl) rfl rfl hl.1 rfl (lv_room (Nat.le_of_ble_eq_true rfl)) dX3_colourAt_23 ⟨Nat.le_of_ble_eq_true rfl, Nat.le_of_ble_eq_true rfl⟩) ?_
      refine pc_i (va_runSN (As := [.ref qc, .int (iI (y * 6 + x))]) (rest := []) ⟨hx, hb, hml, hown, hts⟩ (c_X4_valueAt_in l g qc 36 c (y * 6 + x) (by omega) (by omega) (by omega)) ⟨va_cnB 2 hts gX3_colourAt_X4_valueAt_n31 rfl rfl rfl (hE.2.1.1 (RX3, 31, yX4_valueAt, RX4) (by decide +kernel)) w1 (by decide +kernel) ⟨Nat.le_of_ble_eq_true rfl, Nat.le_of_ble_eq_true rfl⟩, w2, trivial⟩ (ruS (RA.ofP hE hP 2 rfl)) rfl rfl hl.1 rfl (lv_room (Nat.le_of_ble_eq_true rfl)) dX3_colourAt_26 ⟨Nat.le_of_ble_eq_true rfl, Nat.le_of_ble_eq_true rfl⟩) ?_
      have r_6 := YOk.c8 hY (y * 6 + x)
      refine lv_iconst (v := iI 2) hx hb dX3_colourAt_29 rfl ?_
      refine lv_iload_n hx hb dX3_colourAt_30 rfl (lv_at hl 3 rfl) ?_
      refine ln_imul hx hb (2 * z) (rfl) dX3_colourAt_31 ?_
      refine ln_ishr hx hb (c (y * 6 + x) / p4 z) (shr4 (by omega) (by omega) (by omega)) dX3_colourAt_32 ?_
      refine lv_iconst (v := iI 3) hx hb dX3_colourAt_33 rfl ?_
      refine ln_iand hx hb (colZ (c (y * 6 + x)) z) (and3 (Int.ediv_nonneg (by omega) (by have := p4_pos z; omega))) dX3_colourAt_34 ?_
      exact pend_i hx hb hr hlk hS rfl (by first | (rw [if_pos ⟨by omega, by omega⟩]) | (rw [if_neg (by omega)])) dX3_colourAt_35
    · skip
      refine lv_iconst (v := iI (-1)) hx hb dX3_colourAt_14 rfl ?_
      exact pend_i hx hb hr hlk hS rfl (by first | (rw [if_pos ⟨by omega, by omega⟩]) | (rw [if_neg (by omega)])) dX3_colourAt_15
set_option maxHeartbeats 800000 in
set_option maxRecDepth 100000 in
theorem c_X3_topColour (l : Launch) (g : GT) (qy : Nat) (qh : Nat) (qc : Nat) (n : Int) (ho : Int) (h : Int → Int) (c : Int → Int) (x : Int) (y : Int) (hY : YOk n ho h c) (h1 : 0 ≤ x) (h2 : x < n) (h3 : 0 ≤ y) (h4 : y < n) : MetI l yX3_topColour wsX3_topColour ({ frames := 3, cells := 0, slots := 0, locals := 67 }) g [(qy, .inr (3, [.ref qh, .ref qc, .int (iI n), .int (iI ho)])), (qh, .inl (gI g, 36, .inl (aI h))), (qc, .inl (gI g, 36, .inl (aI c)))] [.ref qy, .int (iI x), .int (iI y)] (if h (y * 6 + x) = 0 then -1 else colZ (c (y * 6 + x)) (h (y * 6 + x) - 1)) := by
  refine pure_of (cc := cX3_topColour) (maxL := 3) (ret := (some .int)) (by decide) rfl (Nat.le_of_ble_eq_true rfl) ?_
  intro pZ eZ sZ mZ bZ meZ cZ F hP hE hS ls hl
  obtain ⟨hx, hb, hr, hml, hts, hown, hlk⟩ := F
  have hown : sZ.vm.findClass RX3 = some mZ.cls := hown
  have hl : lv_has ls 3 [(0, .ref qy), (1, .int (iI x)), (2, .int (iI y))] := hl
  have hnn := hY.n
  have hho := hY.hr
  refine lv_aload_n hx hb dX3_topColour_0 rfl (lv_at hl 0 rfl) ?_
  refine lv_iload_n hx hb dX3_topColour_1 rfl (lv_at hl 1 rfl) ?_
  refine lv_iload_n hx hb dX3_topColour_2 rfl (lv_at hl 2 rfl) ?_
  refine lv_aload_n hx hb dX3_topColour_3 rfl (lv_at hl 0 rfl) ?_
  refine lv_iload_n hx hb dX3_topColour_4 rfl (lv_at hl 1 rfl) ?_
  refine lv_iload_n hx hb dX3_topColour_5 rfl (lv_at hl 2 rfl) ?_
  have hPc_1 := hP.sub (ws' := [(qy, .inr (3, [.ref qh, .ref qc, .int (iI n), .int (iI ho)])), (qh, .inl (gI g, 36, .inl (aI h))), (qc, .inl (gI g, 36, .inl (aI c)))]) [0, 1, 2] rfl
  refine pc_i (va_runV (As := [.int (iI x), .int (iI y)]) (rest := [.int (iI y), .int (iI x), .ref qy]) ⟨hx, hb, hml, hown, hts⟩ (c_X3_heightAt l g qy qh qc n ho h c x y hY h1 h2 h3 h4) (cwV 2 hts gX3_topColour_X3_heightAt rfl rfl rfl (by decide +kernel) ⟨Nat.le_of_ble_eq_true rfl, Nat.le_of_ble_eq_true rfl⟩) (puV hE hS hPc_1 rfl rfl) rfl rfl hl.1 rfl (lv_room (Nat.le_of_ble_eq_true rfl)) dX3_topColour_6 ⟨Nat.le_of_ble_eq_true rfl, Nat.le_of_ble_eq_true rfl⟩) ?_
  have r_2 : 0 ≤ h (y * 6 + x) ∧ h (y * 6 + x) ≤ 8 := YOk.h hY (y * 6 + x)
  refine lv_iconst (v := iI 1) hx hb dX3_topColour_9 rfl ?_
  refine ln_isub hx hb (h (y * 6 + x) - 1) (rfl) dX3_topColour_10 ?_
  have hPc_3 := hP.sub (ws' := [(qy, .inr (3, [.ref qh, .ref qc, .int (iI n), .int (iI ho)])), (qh, .inl (gI g, 36, .inl (aI h))), (qc, .inl (gI g, 36, .inl (aI c)))]) [0, 1, 2] rfl
  refine pc_i (va_runV (As := [.int (iI x), .int (iI y), .int (iI (h (y * 6 + x) - 1))]) (rest := []) ⟨hx, hb, hml, hown, hts⟩ (c_X3_colourAt l g qy qh qc n ho h c x y (h (y * 6 + x) - 1) hY h1 h2 h3 h4 (by omega)) (cwV 3 hts gX3_topColour_X3_colourAt rfl rfl rfl (by decide +kernel) ⟨Nat.le_of_ble_eq_true rfl, Nat.le_of_ble_eq_true rfl⟩) (puV hE hS hPc_3 rfl rfl) rfl rfl hl.1 rfl (lv_room (Nat.le_of_ble_eq_true rfl)) dX3_topColour_11 ⟨Nat.le_of_ble_eq_true rfl, Nat.le_of_ble_eq_true rfl⟩) ?_
  exact pend_i hx hb hr hlk hS rfl (by split <;> split <;> first | rfl | omega) dX3_topColour_14
set_option maxHeartbeats 800000 in
set_option maxRecDepth 100000 in
theorem c_X3_heightAlong (l : Launch) (g : GT) (qy : Nat) (qh : Nat) (qc : Nat) (n : Int) (ho : Int) (h : Int → Int) (c : Int → Int) (sd : Int) (ax : Int) (k : Int) (hY : YOk n ho h c) (gs : sd = 0 ∨ sd = 1) (ga : 0 ≤ ax) (gb : ax < n) (gk : 0 ≤ k) (gl : k < n) : MetI l yX3_heightAlong wsX3_heightAlong ({ frames := 2, cells := 0, slots := 0, locals := 44 }) g [(qy, .inr (3, [.ref qh, .ref qc, .int (iI n), .int (iI ho)])), (qh, .inl (gI g, 36, .inl (aI h))), (qc, .inl (gI g, 36, .inl (aI c)))] [.ref qy, .int (iI sd), .int (iI ax), .int (iI k)] (hA h sd ax k) := by
  refine pure_of (cc := cX3_heightAlong) (maxL := 4) (ret := (some .int)) (by decide) rfl (Nat.le_of_ble_eq_true rfl) ?_
  intro pZ eZ sZ mZ bZ meZ cZ F hP hE hS ls hl
  obtain ⟨hx, hb, hr, hml, hts, hown, hlk⟩ := F
  have hown : sZ.vm.findClass RX3 = some mZ.cls := hown
  have hl : lv_has ls 4 [(0, .ref qy), (1, .int (iI sd)), (2, .int (iI ax)), (3, .int (iI k))] := hl
  have hnn := hY.n
  have hho := hY.hr
  refine lv_iload_n hx hb dX3_heightAlong_0 rfl (lv_at hl 1 rfl) ?_
  refine ln_if_ne (tgt := 13) hx hb dX3_heightAlong_1 (by decide) ⟨by omega, by omega⟩ (fun c_1 => ?_) (fun c_1 => ?_)
  · skip
    refine lv_aload_n hx hb dX3_heightAlong_13 rfl (lv_at hl 0 rfl) ?_
    refine lv_iload_n hx hb dX3_heightAlong_14 rfl (lv_at hl 2 rfl) ?_
    refine lv_iload_n hx hb dX3_heightAlong_15 rfl (lv_at hl 3 rfl) ?_
    have hPc_2 := hP.sub (ws' := [(qy, .inr (3, [.ref qh, .ref qc, .int (iI n), .int (iI ho)])), (qh, .inl (gI g, 36, .inl (aI h))), (qc, .inl (gI g, 36, .inl (aI c)))]) [0, 1, 2] rfl
    refine pc_i (va_runV (As := [.int (iI ax), .int (iI k)]) (rest := []) ⟨hx, hb, hml, hown, hts⟩ (c_X3_heightAt l g qy qh qc n ho h c ax k hY ga gb gk gl) (cwV 2 hts gX3_heightAlong_X3_heightAt rfl rfl rfl (by decide +kernel) ⟨Nat.le_of_ble_eq_true rfl, Nat.le_of_ble_eq_true rfl⟩) (puV hE hS hPc_2 rfl rfl) rfl rfl hl.1 rfl (lv_room (Nat.le_of_ble_eq_true rfl)) dX3_heightAlong_16 ⟨Nat.le_of_ble_eq_true rfl, Nat.le_of_ble_eq_true rfl⟩) ?_
    have r_3 : 0 ≤ h (k * 6 + ax) ∧ h (k * 6 + ax) ≤ 8 := YOk.h hY (k * 6 + ax)
    exact pend_i hx hb hr hlk hS rfl (by unfold hA; split <;> first | rfl | omega) dX3_heightAlong_19
  · skip
    refine lv_aload_n hx hb dX3_heightAlong_4 rfl (lv_at hl 0 rfl) ?_
    refine lv_iload_n hx hb dX3_heightAlong_5 rfl (lv_at hl 3 rfl) ?_
    refine lv_iload_n hx hb dX3_heightAlong_6 rfl (lv_at hl 2 rfl) ?_
    have hPc_4 := hP.sub (ws' := [(qy, .inr (3, [.ref qh, .ref qc, .int (iI n), .int (iI ho)])), (qh, .inl (gI g, 36, .inl (aI h))), (qc, .inl (gI g, 36, .inl (aI c)))]) [0, 1, 2] rfl
    refine pc_i (va_runV (As := [.int (iI k), .int (iI ax)]) (rest := []) ⟨hx, hb, hml, hown, hts⟩ (c_X3_heightAt l g qy qh qc n ho h c k ax hY gk gl ga gb) (cwV 2 hts gX3_heightAlong_X3_heightAt rfl rfl rfl (by decide +kernel) ⟨Nat.le_of_ble_eq_true rfl, Nat.le_of_ble_eq_true rfl⟩) (puV hE hS hPc_4 rfl rfl) rfl rfl hl.1 rfl (lv_room (Nat.le_of_ble_eq_true rfl)) dX3_heightAlong_7 ⟨Nat.le_of_ble_eq_true rfl, Nat.le_of_ble_eq_true rfl⟩) ?_
    have r_5 : 0 ≤ h (ax * 6 + k) ∧ h (ax * 6 + k) ≤ 8 := YOk.h hY (ax * 6 + k)
    refine lv_goto (tgt := 19) hx hb dX3_heightAlong_10 (by decide) ?_
    exact pend_i hx hb hr hlk hS rfl (by unfold hA; split <;> first | rfl | omega) dX3_heightAlong_19
set_option maxHeartbeats 800000 in
set_option maxRecDepth 100000 in
theorem c_X3_greatestIn (l : Launch) (g : GT) (qy : Nat) (qh : Nat) (qc : Nat) (n : Int) (ho : Int) (h : Int → Int) (c : Int → Int) (sd : Int) (ax : Int) (hY : YOk n ho h c) (gs : sd = 0 ∨ sd = 1) (ga : 0 ≤ ax) (gb : ax < n) : MetI l yX3_greatestIn wsX3_greatestIn ({ frames := 3, cells := 0, slots := 0, locals := 67 }) g [(qy, .inr (3, [.ref qh, .ref qc, .int (iI n), .int (iI ho)])), (qh, .inl (gI g, 36, .inl (aI h))), (qc, .inl (gI g, 36, .inl (aI c)))] [.ref qy, .int (iI sd), .int (iI ax)] (greatK h sd ax n) := by
  refine pure_of (cc := cX3_greatestIn) (maxL := 5) (ret := (some .int)) (by decide) rfl (Nat.le_of_ble_eq_true rfl) ?_
  intro pZ eZ sZ mZ bZ meZ cZ F hP hE hS ls hl
  obtain ⟨hx, hb, hr, hml, hts, hown, hlk⟩ := F
  have hown : sZ.vm.findClass RX3 = some mZ.cls := hown
  have hl : lv_has ls 5 [(0, .ref qy), (1, .int (iI sd)), (2, .int (iI ax))] := hl
  have w0 := hts (.fieldLink RX3 18 "SlantYard$Yard" "size" "I") (by decide +kernel)
  have w1 := hts (.methodLink RX3 64 Lib.Math.max.name) (by decide +kernel)
  have w2 := hts (.static Lib.Math.max.name) (by decide +kernel)
  have w3 := hts (.initialized "java/lang/Math") (by decide +kernel)
  have w4 := hts (.code Lib.Math.max.name Lib.Math.max.code 2 (some .int)) (by decide +kernel)
  have in3 : ∀ w ∈ u_ws RX3 TX3 4, w ∈ wsX3_greatestIn := by decide +kernel
  have hnn := hY.n
  have hho := hY.hr
  refine lv_iconst (v := iI 0) hx hb dX3_greatestIn_0 rfl ?_
  refine lv_istore_n (lv' := [(3, .int (iI 0)), (0, .ref qy), (1, .int (iI sd)), (2, .int (iI ax))]) hx hb dX3_greatestIn_1 rfl hl (by decide) rfl (fun ls hl => ?_)
  refine lv_iconst (v := iI 0) hx hb dX3_greatestIn_2 rfl ?_
  refine lv_istore (lv' := [(4, .int (iI 0)), (3, .int (iI 0)), (0, .ref qy), (1, .int (iI sd)), (2, .int (iI ax))]) hx hb dX3_greatestIn_3 hl (by decide) rfl (fun ls hl => ?_)
  have L5 : ∀ (k_1 : Nat) (k : Int) (gk : 0 ≤ k) (gl : k ≤ n) (ls : Array Slot), lv_has ls 5 [(0, .ref qy), (1, .int (iI sd)), (2, .int (iI ax)), (3, .int (iI (greatK h sd ax k))), (4, .int (iI k))] → (n - k).toNat < k_1 → W pZ l eZ ({ frames := 3, cells := 0, slots := 0, locals := 67 } : Room) sZ mZ [.ref qy, .int (iI sd), .int (iI ax)].toArray bZ meZ cZ sZ.heap [] 0 0 (MQ bZ (vp_Si (fun y9 => y9 = iI (greatK h sd ax n))) [.ref qy, .int (iI sd), .int (iI ax)].toArray sZ 0 0 (fun _ => False)) (F0 mZ 5 ls []) := by
    intro k_1
    induction k_1 with
    | zero => intro k gk gl ls hl hm_3; exact absurd hm_3 (Nat.not_lt_zero _)
    | succ k_1 ih_2 =>
      intro k gk gl ls hl hm_3
      have b_4 : 0 ≤ greatK h sd ax k ∧ greatK h sd ax k ≤ 8 := greatK_rg (YOk.h hY) sd ax gk
      refine lv_iload hx hb dX3_greatestIn_5 (lv_at hl 4 rfl) ?_
      refine lv_aload_n hx hb dX3_greatestIn_7 rfl (lv_at hl 0 rfl) ?_
      refine va_get (D := g.1) (ci := 3) (v := .int (iI n)) (C := RX3) (T := TX3) (N := 4) hx hb hts in3 hown hE.1 hP 0 rfl rfl 2 (by decide) w0 (fun _ h9 => h9) rfl dX3_greatestIn_8 ?_
      refine ln_icmp_ge (tgt := 33) hx hb dX3_greatestIn_11 (by decide) ⟨by omega, by omega⟩ ⟨by omega, by omega⟩ (fun c_5 => ?_) (fun c_5 => ?_)
      · skip
        refine lv_iload_n hx hb dX3_greatestIn_33 rfl (lv_at hl 3 rfl) ?_
        exact pend_i hx hb hr hlk hS rfl (by rw [show k = n by omega]) dX3_greatestIn_34
      · skip
        refine lv_iload_n hx hb dX3_greatestIn_14 rfl (lv_at hl 3 rfl) ?_
        refine lv_aload_n hx hb dX3_greatestIn_15 rfl (lv_at hl 0 rfl) ?_
        refine lv_iload_n hx hb dX3_greatestIn_16 rfl (lv_at hl 1 rfl) ?_
        refine lv_iload_n hx hb dX3_greatestIn_17 rfl (lv_at hl 2 rfl) ?_
        refine lv_iload hx hb dX3_greatestIn_18 (lv_at hl 4 rfl) ?_
        have hPc_6 := hP.sub (ws' := [(qy, .inr (3, [.ref qh, .ref qc, .int (iI n), .int (iI ho)])), (qh, .inl (gI g, 36, .inl (aI h))), (qc, .inl (gI g, 36, .inl (aI c)))]) [0, 1, 2] rfl
        refine pc_i (va_runV (As := [.int (iI sd), .int (iI ax), .int (iI k)]) (rest := [.int (iI (greatK h sd ax k))]) ⟨hx, hb, hml, hown, hts⟩ (c_X3_heightAlong l g qy qh qc n ho h c sd ax k hY gs ga gb gk (by omega)) (cwV 3 hts gX3_greatestIn_X3_heightAlong rfl rfl rfl (by decide +kernel) ⟨Nat.le_of_ble_eq_true rfl, Nat.le_of_ble_eq_true rfl⟩) (puV hE hS hPc_6 rfl rfl) rfl rfl hl.1 rfl (lv_room (Nat.le_of_ble_eq_true rfl)) dX3_greatestIn_20 ⟨Nat.le_of_ble_eq_true rfl, Nat.le_of_ble_eq_true rfl⟩) ?_
        have r_7 : 0 ≤ hA h sd ax k ∧ hA h sd ax k ≤ 8 := hA_rg (YOk.h hY) sd ax k
        refine va_mmax hx hb (hml.trans hl.1.symm) hown w1 w2 w3 w4 (Nat.le_of_ble_eq_true rfl) (Nat.le_of_ble_eq_true rfl) (Nat.le_of_ble_eq_true rfl) (Nat.le_of_ble_eq_true rfl) dX3_greatestIn_23 ?_
        refine ln_topv (maxI_row ⟨by omega, by omega⟩ ⟨by omega, by omega⟩) ?_
        refine lv_istore_n (lv' := [(3, .int (iI (maxI (greatK h sd ax k) (hA h sd ax k)))), (0, .ref qy), (1, .int (iI sd)), (2, .int (iI ax)), (4, .int (iI k))]) hx hb dX3_greatestIn_26 rfl hl (by decide) rfl (fun ls hl => ?_)
        refine lv_iinc (v := iI (k + 1)) (lv' := [(4, .int (iI (k + 1))), (3, .int (iI (maxI (greatK h sd ax k) (hA h sd ax k)))), (0, .ref qy), (1, .int (iI sd)), (2, .int (iI ax))]) hx hb dX3_greatestIn_27 hl (k := 4) rfl (iI_add _ _) (by decide) rfl (fun ls hl => ?_)
        refine lv_goto (tgt := 5) hx hb dX3_greatestIn_30 (by decide) ?_
        have hl := lv_re hl 1 rfl (.int (iI (greatK h sd ax (k + 1)))) (congrArg (fun z => Value.int (iI z)) (show maxI (greatK h sd ax k) (hA h sd ax k) = greatK h sd ax (k + 1) from greatK_s gk))
        have hl : lv_has ls 5 [(4, .int (iI (k + 1))), (3, .int (iI (greatK h sd ax (k + 1)))), (0, .ref qy), (1, .int (iI sd)), (2, .int (iI ax))] := hl
        exact ih_2 (k + 1) (by omega) (by omega) _ (lv_sub hl [2, 3, 4, 1, 0] rfl) (by omega)
  have hl := lv_re hl 1 rfl (.int (iI (greatK h sd ax 0))) (congrArg (fun z => Value.int (iI z)) (show 0 = greatK h sd ax 0 from by first | rfl | omega))
  have hl : lv_has ls 5 [(4, .int (iI 0)), (3, .int (iI (greatK h sd ax 0))), (0, .ref qy), (1, .int (iI sd)), (2, .int (iI ax))] := hl
  exact L5 _ 0 (by omega) (by omega) _ (lv_sub hl [2, 3, 4, 1, 0] rfl) (Nat.lt_succ_self _)
set_option maxHeartbeats 800000 in
set_option maxRecDepth 100000 in
theorem c_X3_stacksWith (l : Launch) (g : GT) (qy : Nat) (qh : Nat) (qc : Nat) (n : Int) (ho : Int) (h : Int → Int) (c : Int → Int) (sd : Int) (ax : Int) (v : Int) (hY : YOk n ho h c) (gs : sd = 0 ∨ sd = 1) (ga : 0 ≤ ax) (gb : ax < n) (gv : 0 ≤ v ∧ v ≤ 8) : MetI l yX3_stacksWith wsX3_stacksWith ({ frames := 3, cells := 0, slots := 0, locals := 67 }) g [(qy, .inr (3, [.ref qh, .ref qc, .int (iI n), .int (iI ho)])), (qh, .inl (gI g, 36, .inl (aI h))), (qc, .inl (gI g, 36, .inl (aI c)))] [.ref qy, .int (iI sd), .int (iI ax), .int (iI v)] (stacksK h sd ax v n) := by
  refine pure_of (cc := cX3_stacksWith) (maxL := 6) (ret := (some .int)) (by decide) rfl (Nat.le_of_ble_eq_true rfl) ?_
  intro pZ eZ sZ mZ bZ meZ cZ F hP hE hS ls hl
  obtain ⟨hx, hb, hr, hml, hts, hown, hlk⟩ := F
  have hown : sZ.vm.findClass RX3 = some mZ.cls := hown
  have hl : lv_has ls 6 [(0, .ref qy), (1, .int (iI sd)), (2, .int (iI ax)), (3, .int (iI v))] := hl
  have w0 := hts (.fieldLink RX3 18 "SlantYard$Yard" "size" "I") (by decide +kernel)
  have in3 : ∀ w ∈ u_ws RX3 TX3 4, w ∈ wsX3_stacksWith := by decide +kernel
  have hnn := hY.n
  have hho := hY.hr
  refine lv_iconst (v := iI 0) hx hb dX3_stacksWith_0 rfl ?_
  refine lv_istore (lv' := [(4, .int (iI 0)), (0, .ref qy), (1, .int (iI sd)), (2, .int (iI ax)), (3, .int (iI v))]) hx hb dX3_stacksWith_1 hl (by decide) rfl (fun ls hl => ?_)
  refine lv_iconst (v := iI 0) hx hb dX3_stacksWith_3 rfl ?_
  refine lv_istore (lv' := [(5, .int (iI 0)), (4, .int (iI 0)), (0, .ref qy), (1, .int (iI sd)), (2, .int (iI ax)), (3, .int (iI v))]) hx hb dX3_stacksWith_4 hl (by decide) rfl (fun ls hl => ?_)
  have L6 : ∀ (k_1 : Nat) (k : Int) (gk : 0 ≤ k) (gl : k ≤ n) (ls : Array Slot), lv_has ls 6 [(0, .ref qy), (1, .int (iI sd)), (2, .int (iI ax)), (3, .int (iI v)), (4, .int (iI (stacksK h sd ax v k))), (5, .int (iI k))] → (n - k).toNat < k_1 → W pZ l eZ ({ frames := 3, cells := 0, slots := 0, locals := 67 } : Room) sZ mZ [.ref qy, .int (iI sd), .int (iI ax), .int (iI v)].toArray bZ meZ cZ sZ.heap [] 0 0 (MQ bZ (vp_Si (fun y9 => y9 = iI (stacksK h sd ax v n))) [.ref qy, .int (iI sd), .int (iI ax), .int (iI v)].toArray sZ 0 0 (fun _ => False)) (F0 mZ 6 ls []) := by
    intro k_1
    induction k_1 with
    | zero => intro k gk gl ls hl hm_3; exact absurd hm_3 (Nat.not_lt_zero _)
    | succ k_1 ih_2 =>
      intro k gk gl ls hl hm_3
      have b_4 : 0 ≤ stacksK h sd ax v k ∧ stacksK h sd ax v k ≤ k := stacksK_rg sd ax v gk
      refine lv_iload hx hb dX3_stacksWith_6 (lv_at hl 5 rfl) ?_
      refine lv_aload_n hx hb dX3_stacksWith_8 rfl (lv_at hl 0 rfl) ?_
      refine va_get (D := g.1) (ci := 3) (v := .int (iI n)) (C := RX3) (T := TX3) (N := 4) hx hb hts in3 hown hE.1 hP 0 rfl rfl 2 (by decide) w0 (fun _ h9 => h9) rfl dX3_stacksWith_9 ?_
      refine ln_icmp_ge (tgt := 36) hx hb dX3_stacksWith_12 (by decide) ⟨by omega, by omega⟩ ⟨by omega, by omega⟩ (fun c_5 => ?_) (fun c_5 => ?_)
      · skip
        refine lv_iload hx hb dX3_stacksWith_36 (lv_at hl 4 rfl) ?_
        exact pend_i hx hb hr hlk hS rfl (by rw [show k = n by omega]) dX3_stacksWith_38
      · skip
        refine lv_aload_n hx hb dX3_stacksWith_15 rfl (lv_at hl 0 rfl) ?_
        refine lv_iload_n hx hb dX3_stacksWith_16 rfl (lv_at hl 1 rfl) ?_
        refine lv_iload_n hx hb dX3_stacksWith_17 rfl (lv_at hl 2 rfl) ?_
        refine lv_iload hx hb dX3_stacksWith_18 (lv_at hl 5 rfl) ?_
        have hPc_6 := hP.sub (ws' := [(qy, .inr (3, [.ref qh, .ref qc, .int (iI n), .int (iI ho)])), (qh, .inl (gI g, 36, .inl (aI h))), (qc, .inl (gI g, 36, .inl (aI c)))]) [0, 1, 2] rfl
        refine pc_i (va_runV (As := [.int (iI sd), .int (iI ax), .int (iI k)]) (rest := []) ⟨hx, hb, hml, hown, hts⟩ (c_X3_heightAlong l g qy qh qc n ho h c sd ax k hY gs ga gb gk (by omega)) (cwV 3 hts gX3_stacksWith_X3_heightAlong rfl rfl rfl (by decide +kernel) ⟨Nat.le_of_ble_eq_true rfl, Nat.le_of_ble_eq_true rfl⟩) (puV hE hS hPc_6 rfl rfl) rfl rfl hl.1 rfl (lv_room (Nat.le_of_ble_eq_true rfl)) dX3_stacksWith_20 ⟨Nat.le_of_ble_eq_true rfl, Nat.le_of_ble_eq_true rfl⟩) ?_
        have r_7 : 0 ≤ hA h sd ax k ∧ hA h sd ax k ≤ 8 := hA_rg (YOk.h hY) sd ax k
        refine lv_iload_n hx hb dX3_stacksWith_23 rfl (lv_at hl 3 rfl) ?_
        refine ln_icmp_ne (tgt := 30) hx hb dX3_stacksWith_24 (by decide) ⟨by omega, by omega⟩ ⟨by omega, by omega⟩ (fun c_8 => ?_) (fun c_8 => ?_)
        · skip
          refine lv_iinc (v := iI (k + 1)) (lv' := [(5, .int (iI (k + 1))), (0, .ref qy), (1, .int (iI sd)), (2, .int (iI ax)), (3, .int (iI v)), (4, .int (iI (stacksK h sd ax v k)))]) hx hb dX3_stacksWith_30 hl (k := 5) rfl (iI_add _ _) (by decide) rfl (fun ls hl => ?_)
          refine lv_goto (tgt := 6) hx hb dX3_stacksWith_33 (by decide) ?_
          have hl := lv_re hl 5 rfl (.int (iI (stacksK h sd ax v (k + 1)))) (congrArg (fun z => Value.int (iI z)) (show stacksK h sd ax v k = stacksK h sd ax v (k + 1) from by rw [stacksK_s gk]; first | (rw [bI_t (by omega)]) | (rw [bI_f (by omega)]; omega)))
          have hl : lv_has ls 6 [(5, .int (iI (k + 1))), (0, .ref qy), (1, .int (iI sd)), (2, .int (iI ax)), (3, .int (iI v)), (4, .int (iI (stacksK h sd ax v (k + 1))))] := hl
          exact ih_2 (k + 1) (by omega) (by omega) _ (lv_sub hl [1, 2, 3, 4, 5, 0] rfl) (by omega)
        · skip
          refine lv_iinc (v := iI (stacksK h sd ax v k + 1)) (lv' := [(4, .int (iI (stacksK h sd ax v k + 1))), (0, .ref qy), (1, .int (iI sd)), (2, .int (iI ax)), (3, .int (iI v)), (5, .int (iI k))]) hx hb dX3_stacksWith_27 hl (k := 4) rfl (iI_add _ _) (by decide) rfl (fun ls hl => ?_)
          refine lv_iinc (v := iI (k + 1)) (lv' := [(5, .int (iI (k + 1))), (4, .int (iI (stacksK h sd ax v k + 1))), (0, .ref qy), (1, .int (iI sd)), (2, .int (iI ax)), (3, .int (iI v))]) hx hb dX3_stacksWith_30 hl (k := 5) rfl (iI_add _ _) (by decide) rfl (fun ls hl => ?_)
          refine lv_goto (tgt := 6) hx hb dX3_stacksWith_33 (by decide) ?_
          have hl := lv_re hl 1 rfl (.int (iI (stacksK h sd ax v (k + 1)))) (congrArg (fun z => Value.int (iI z)) (show stacksK h sd ax v k + 1 = stacksK h sd ax v (k + 1) from by rw [stacksK_s gk]; first | (rw [bI_t (by omega)]) | (rw [bI_f (by omega)]; omega)))
          have hl : lv_has ls 6 [(5, .int (iI (k + 1))), (4, .int (iI (stacksK h sd ax v (k + 1)))), (0, .ref qy), (1, .int (iI sd)), (2, .int (iI ax)), (3, .int (iI v))] := hl
          exact ih_2 (k + 1) (by omega) (by omega) _ (lv_sub hl [2, 3, 4, 5, 1, 0] rfl) (by omega)
  have hl := lv_re hl 1 rfl (.int (iI (stacksK h sd ax v 0))) (congrArg (fun z => Value.int (iI z)) (show 0 = stacksK h sd ax v 0 from by first | rfl | omega))
  have hl : lv_has ls 6 [(5, .int (iI 0)), (4, .int (iI (stacksK h sd ax v 0))), (0, .ref qy), (1, .int (iI sd)), (2, .int (iI ax)), (3, .int (iI v))] := hl
  exact L6 _ 0 (by omega) (by omega) _ (lv_sub hl [2, 3, 4, 5, 1, 0] rfl) (Nat.lt_succ_self _)
set_option maxHeartbeats 800000 in
set_option maxRecDepth 100000 in
theorem c_X3_blocksIn (l : Launch) (g : GT) (qy : Nat) (qh : Nat) (qc : Nat) (n : Int) (ho : Int) (h : Int → Int) (c : Int → Int) (sd : Int) (ax : Int) (hY : YOk n ho h c) (gs : sd = 0 ∨ sd = 1) (ga : 0 ≤ ax) (gb : ax < n) : MetI l yX3_blocksIn wsX3_blocksIn ({ frames := 3, cells := 0, slots := 0, locals := 67 }) g [(qy, .inr (3, [.ref qh, .ref qc, .int (iI n), .int (iI ho)])), (qh, .inl (gI g, 36, .inl (aI h))), (qc, .inl (gI g, 36, .inl (aI c)))] [.ref qy, .int (iI sd), .int (iI ax)] (blocksK h sd ax n) := by
  refine pure_of (cc := cX3_blocksIn) (maxL := 5) (ret := (some .int)) (by decide) rfl (Nat.le_of_ble_eq_true rfl) ?_
  intro pZ eZ sZ mZ bZ meZ cZ F hP hE hS ls hl
  obtain ⟨hx, hb, hr, hml, hts, hown, hlk⟩ := F
  have hown : sZ.vm.findClass RX3 = some mZ.cls := hown
  have hl : lv_has ls 5 [(0, .ref qy), (1, .int (iI sd)), (2, .int (iI ax))] := hl
  have w0 := hts (.fieldLink RX3 18 "SlantYard$Yard" "size" "I") (by decide +kernel)
  have in3 : ∀ w ∈ u_ws RX3 TX3 4, w ∈ wsX3_blocksIn := by decide +kernel
  have hnn := hY.n
  have hho := hY.hr
  refine lv_iconst (v := iI 0) hx hb dX3_blocksIn_0 rfl ?_
  refine lv_istore_n (lv' := [(3, .int (iI 0)), (0, .ref qy), (1, .int (iI sd)), (2, .int (iI ax))]) hx hb dX3_blocksIn_1 rfl hl (by decide) rfl (fun ls hl => ?_)
  refine lv_iconst (v := iI 0) hx hb dX3_blocksIn_2 rfl ?_
  refine lv_istore (lv' := [(4, .int (iI 0)), (3, .int (iI 0)), (0, .ref qy), (1, .int (iI sd)), (2, .int (iI ax))]) hx hb dX3_blocksIn_3 hl (by decide) rfl (fun ls hl => ?_)
  have L5 : ∀ (k_1 : Nat) (k : Int) (gk : 0 ≤ k) (gl : k ≤ n) (ls : Array Slot), lv_has ls 5 [(0, .ref qy), (1, .int (iI sd)), (2, .int (iI ax)), (3, .int (iI (blocksK h sd ax k))), (4, .int (iI k))] → (n - k).toNat < k_1 → W pZ l eZ ({ frames := 3, cells := 0, slots := 0, locals := 67 } : Room) sZ mZ [.ref qy, .int (iI sd), .int (iI ax)].toArray bZ meZ cZ sZ.heap [] 0 0 (MQ bZ (vp_Si (fun y9 => y9 = iI (blocksK h sd ax n))) [.ref qy, .int (iI sd), .int (iI ax)].toArray sZ 0 0 (fun _ => False)) (F0 mZ 5 ls []) := by
    intro k_1
    induction k_1 with
    | zero => intro k gk gl ls hl hm_3; exact absurd hm_3 (Nat.not_lt_zero _)
    | succ k_1 ih_2 =>
      intro k gk gl ls hl hm_3
      have b_4 : 0 ≤ blocksK h sd ax k ∧ blocksK h sd ax k ≤ k * 8 := blocksK_rg (YOk.h hY) sd ax gk
      refine lv_iload hx hb dX3_blocksIn_5 (lv_at hl 4 rfl) ?_
      refine lv_aload_n hx hb dX3_blocksIn_7 rfl (lv_at hl 0 rfl) ?_
      refine va_get (D := g.1) (ci := 3) (v := .int (iI n)) (C := RX3) (T := TX3) (N := 4) hx hb hts in3 hown hE.1 hP 0 rfl rfl 2 (by decide) w0 (fun _ h9 => h9) rfl dX3_blocksIn_8 ?_
      refine ln_icmp_ge (tgt := 31) hx hb dX3_blocksIn_11 (by decide) ⟨by omega, by omega⟩ ⟨by omega, by omega⟩ (fun c_5 => ?_) (fun c_5 => ?_)
      · skip
        refine lv_iload_n hx hb dX3_blocksIn_31 rfl (lv_at hl 3 rfl) ?_
        exact pend_i hx hb hr hlk hS rfl (by rw [show k = n by omega]) dX3_blocksIn_32
      · skip
        refine lv_iload_n hx hb dX3_blocksIn_14 rfl (lv_at hl 3 rfl) ?_
        refine lv_aload_n hx hb dX3_blocksIn_15 rfl (lv_at hl 0 rfl) ?_
        refine lv_iload_n hx hb dX3_blocksIn_16 rfl (lv_at hl 1 rfl) ?_
        refine lv_iload_n hx hb dX3_blocksIn_17 rfl (lv_at hl 2 rfl) ?_
        refine lv_iload hx hb dX3_blocksIn_18 (lv_at hl 4 rfl) ?_
        have hPc_6 := hP.sub (ws' := [(qy, .inr (3, [.ref qh, .ref qc, .int (iI n), .int (iI ho)])), (qh, .inl (gI g, 36, .inl (aI h))), (qc, .inl (gI g, 36, .inl (aI c)))]) [0, 1, 2] rfl
        refine pc_i (va_runV (As := [.int (iI sd), .int (iI ax), .int (iI k)]) (rest := [.int (iI (blocksK h sd ax k))]) ⟨hx, hb, hml, hown, hts⟩ (c_X3_heightAlong l g qy qh qc n ho h c sd ax k hY gs ga gb gk (by omega)) (cwV 3 hts gX3_blocksIn_X3_heightAlong rfl rfl rfl (by decide +kernel) ⟨Nat.le_of_ble_eq_true rfl, Nat.le_of_ble_eq_true rfl⟩) (puV hE hS hPc_6 rfl rfl) rfl rfl hl.1 rfl (lv_room (Nat.le_of_ble_eq_true rfl)) dX3_blocksIn_20 ⟨Nat.le_of_ble_eq_true rfl, Nat.le_of_ble_eq_true rfl⟩) ?_
        have r_7 : 0 ≤ hA h sd ax k ∧ hA h sd ax k ≤ 8 := hA_rg (YOk.h hY) sd ax k
        refine ln_iadd hx hb (blocksK h sd ax k + hA h sd ax k) (rfl) dX3_blocksIn_23 ?_
        refine lv_istore_n (lv' := [(3, .int (iI (blocksK h sd ax k + hA h sd ax k))), (0, .ref qy), (1, .int (iI sd)), (2, .int (iI ax)), (4, .int (iI k))]) hx hb dX3_blocksIn_24 rfl hl (by decide) rfl (fun ls hl => ?_)
        refine lv_iinc (v := iI (k + 1)) (lv' := [(4, .int (iI (k + 1))), (3, .int (iI (blocksK h sd ax k + hA h sd ax k))), (0, .ref qy), (1, .int (iI sd)), (2, .int (iI ax))]) hx hb dX3_blocksIn_25 hl (k := 4) rfl (iI_add _ _) (by decide) rfl (fun ls hl => ?_)
        refine lv_goto (tgt := 5) hx hb dX3_blocksIn_28 (by decide) ?_
        have hl := lv_re hl 1 rfl (.int (iI (blocksK h sd ax (k + 1)))) (congrArg (fun z => Value.int (iI z)) (show blocksK h sd ax k + hA h sd ax k = blocksK h sd ax (k + 1) from blocksK_s gk))
        have hl : lv_has ls 5 [(4, .int (iI (k + 1))), (3, .int (iI (blocksK h sd ax (k + 1)))), (0, .ref qy), (1, .int (iI sd)), (2, .int (iI ax))] := hl
        exact ih_2 (k + 1) (by omega) (by omega) _ (lv_sub hl [2, 3, 4, 1, 0] rfl) (by omega)
  have hl := lv_re hl 1 rfl (.int (iI (blocksK h sd ax 0))) (congrArg (fun z => Value.int (iI z)) (show 0 = blocksK h sd ax 0 from by first | rfl | omega))
  have hl : lv_has ls 5 [(4, .int (iI 0)), (3, .int (iI (blocksK h sd ax 0))), (0, .ref qy), (1, .int (iI sd)), (2, .int (iI ax))] := hl
  exact L5 _ 0 (by omega) (by omega) _ (lv_sub hl [2, 3, 4, 1, 0] rfl) (Nat.lt_succ_self _)
set_option maxHeartbeats 800000 in
set_option maxRecDepth 100000 in
theorem c_X3_blockCount (l : Launch) (g : GT) (qy : Nat) (qh : Nat) (qc : Nat) (n : Int) (ho : Int) (h : Int → Int) (c : Int → Int) (hY : YOk n ho h c) : MetI l yX3_blockCount wsX3_blockCount ({ frames := 4, cells := 0, slots := 0, locals := 91 }) g [(qy, .inr (3, [.ref qh, .ref qc, .int (iI n), .int (iI ho)])), (qh, .inl (gI g, 36, .inl (aI h))), (qc, .inl (gI g, 36, .inl (aI c)))] [.ref qy] (countK n h n) := by
  refine pure_of (cc := cX3_blockCount) (maxL := 3) (ret := (some .int)) (by decide) rfl (Nat.le_of_ble_eq_true rfl) ?_
  intro pZ eZ sZ mZ bZ meZ cZ F hP hE hS ls hl
  obtain ⟨hx, hb, hr, hml, hts, hown, hlk⟩ := F
  have hown : sZ.vm.findClass RX3 = some mZ.cls := hown
  have hl : lv_has ls 3 [(0, .ref qy)] := hl
  have w0 := hts (.fieldLink RX3 18 "SlantYard$Yard" "size" "I") (by decide +kernel)
  have in3 : ∀ w ∈ u_ws RX3 TX3 4, w ∈ wsX3_blockCount := by decide +kernel
  have hnn := hY.n
  have hho := hY.hr
  refine lv_iconst (v := iI 0) hx hb dX3_blockCount_0 rfl ?_
  refine lv_istore_n (lv' := [(1, .int (iI 0)), (0, .ref qy)]) hx hb dX3_blockCount_1 rfl hl (by decide) rfl (fun ls hl => ?_)
  refine lv_iconst (v := iI 0) hx hb dX3_blockCount_2 rfl ?_
  refine lv_istore_n (lv' := [(2, .int (iI 0)), (1, .int (iI 0)), (0, .ref qy)]) hx hb dX3_blockCount_3 rfl hl (by decide) rfl (fun ls hl => ?_)
  have L4 : ∀ (k_1 : Nat) (k : Int) (gk : 0 ≤ k) (gl : k ≤ n) (ls : Array Slot), lv_has ls 3 [(0, .ref qy), (1, .int (iI (countK n h k))), (2, .int (iI k))] → (n - k).toNat < k_1 → W pZ l eZ ({ frames := 4, cells := 0, slots := 0, locals := 91 } : Room) sZ mZ [.ref qy].toArray bZ meZ cZ sZ.heap [] 0 0 (MQ bZ (vp_Si (fun y9 => y9 = iI (countK n h n))) [.ref qy].toArray sZ 0 0 (fun _ => False)) (F0 mZ 4 ls []) := by
    intro k_1
    induction k_1 with
    | zero => intro k gk gl ls hl hm_3; exact absurd hm_3 (Nat.not_lt_zero _)
    | succ k_1 ih_2 =>
      intro k gk gl ls hl hm_3
      have b_4 : 0 ≤ countK n h k ∧ countK n h k ≤ k * 48 := countK_rg (YOk.h hY) (by omega) gk
      refine lv_iload_n hx hb dX3_blockCount_4 rfl (lv_at hl 2 rfl) ?_
      refine lv_aload_n hx hb dX3_blockCount_5 rfl (lv_at hl 0 rfl) ?_
      refine va_get (D := g.1) (ci := 3) (v := .int (iI n)) (C := RX3) (T := TX3) (N := 4) hx hb hts in3 hown hE.1 hP 0 rfl rfl 2 (by decide) w0 (fun _ h9 => h9) rfl dX3_blockCount_6 ?_
      refine ln_icmp_ge (tgt := 27) hx hb dX3_blockCount_9 (by decide) ⟨by omega, by omega⟩ ⟨by omega, by omega⟩ (fun c_5 => ?_) (fun c_5 => ?_)
      · skip
        refine lv_iload_n hx hb dX3_blockCount_27 rfl (lv_at hl 1 rfl) ?_
        exact pend_i hx hb hr hlk hS rfl (by rw [show k = n by omega]) dX3_blockCount_28
      · skip
        refine lv_iload_n hx hb dX3_blockCount_12 rfl (lv_at hl 1 rfl) ?_
        refine lv_aload_n hx hb dX3_blockCount_13 rfl (lv_at hl 0 rfl) ?_
        refine lv_iconst (v := iI 0) hx hb dX3_blockCount_14 rfl ?_
        refine lv_iload_n hx hb dX3_blockCount_15 rfl (lv_at hl 2 rfl) ?_
        have hPc_6 := hP.sub (ws' := [(qy, .inr (3, [.ref qh, .ref qc, .int (iI n), .int (iI ho)])), (qh, .inl (gI g, 36, .inl (aI h))), (qc, .inl (gI g, 36, .inl (aI c)))]) [0, 1, 2] rfl
        refine pc_i (va_runV (As := [.int (iI 0), .int (iI k)]) (rest := [.int (iI (countK n h k))]) ⟨hx, hb, hml, hown, hts⟩ (c_X3_blocksIn l g qy qh qc n ho h c 0 k hY (by omega) gk (by omega)) (cwV 2 hts gX3_blockCount_X3_blocksIn rfl rfl rfl (by decide +kernel) ⟨Nat.le_of_ble_eq_true rfl, Nat.le_of_ble_eq_true rfl⟩) (puV hE hS hPc_6 rfl rfl) rfl rfl hl.1 rfl (lv_room (Nat.le_of_ble_eq_true rfl)) dX3_blockCount_16 ⟨Nat.le_of_ble_eq_true rfl, Nat.le_of_ble_eq_true rfl⟩) ?_
        have r_7 : 0 ≤ blocksK h 0 k n ∧ blocksK h 0 k n ≤ 48 := by have := YOk.n hY; have := blocksK_rg (YOk.h hY) 0 k (k := n) (by omega); omega
        refine ln_iadd hx hb (countK n h k + blocksK h 0 k n) (rfl) dX3_blockCount_19 ?_
        refine lv_istore_n (lv' := [(1, .int (iI (countK n h k + blocksK h 0 k n))), (0, .ref qy), (2, .int (iI k))]) hx hb dX3_blockCount_20 rfl hl (by decide) rfl (fun ls hl => ?_)
        refine lv_iinc (v := iI (k + 1)) (lv' := [(2, .int (iI (k + 1))), (1, .int (iI (countK n h k + blocksK h 0 k n))), (0, .ref qy)]) hx hb dX3_blockCount_21 hl (k := 2) rfl (iI_add _ _) (by decide) rfl (fun ls hl => ?_)
        refine lv_goto (tgt := 4) hx hb dX3_blockCount_24 (by decide) ?_
        have hl := lv_re hl 1 rfl (.int (iI (countK n h (k + 1)))) (congrArg (fun z => Value.int (iI z)) (show countK n h k + blocksK h 0 k n = countK n h (k + 1) from countK_s gk))
        have hl : lv_has ls 3 [(2, .int (iI (k + 1))), (1, .int (iI (countK n h (k + 1)))), (0, .ref qy)] := hl
        exact ih_2 (k + 1) (by omega) (by omega) _ (lv_sub hl [2, 1, 0] rfl) (by omega)
  have hl := lv_re hl 1 rfl (.int (iI (countK n h 0))) (congrArg (fun z => Value.int (iI z)) (show 0 = countK n h 0 from by first | rfl | omega))
  have hl : lv_has ls 3 [(2, .int (iI 0)), (1, .int (iI (countK n h 0))), (0, .ref qy)] := hl
  exact L4 _ 0 (by omega) (by omega) _ (lv_sub hl [2, 1, 0] rfl) (Nat.lt_succ_self _)
set_option maxHeartbeats 800000 in
set_option maxRecDepth 100000 in
theorem c_X3_greatestHeight (l : Launch) (g : GT) (qy : Nat) (qh : Nat) (qc : Nat) (n : Int) (ho : Int) (h : Int → Int) (c : Int → Int) (hY : YOk n ho h c) : MetI l yX3_greatestHeight wsX3_greatestHeight ({ frames := 4, cells := 0, slots := 0, locals := 91 }) g [(qy, .inr (3, [.ref qh, .ref qc, .int (iI n), .int (iI ho)])), (qh, .inl (gI g, 36, .inl (aI h))), (qc, .inl (gI g, 36, .inl (aI c)))] [.ref qy] (greatHK n h n) := by
  refine pure_of (cc := cX3_greatestHeight) (maxL := 3) (ret := (some .int)) (by decide) rfl (Nat.le_of_ble_eq_true rfl) ?_
  intro pZ eZ sZ mZ bZ meZ cZ F hP hE hS ls hl
  obtain ⟨hx, hb, hr, hml, hts, hown, hlk⟩ := F
  have hown : sZ.vm.findClass RX3 = some mZ.cls := hown
  have hl : lv_has ls 3 [(0, .ref qy)] := hl
  have w0 := hts (.fieldLink RX3 18 "SlantYard$Yard" "size" "I") (by decide +kernel)
  have w1 := hts (.methodLink RX3 64 Lib.Math.max.name) (by decide +kernel)
  have w2 := hts (.static Lib.Math.max.name) (by decide +kernel)
  have w3 := hts (.initialized "java/lang/Math") (by decide +kernel)
  have w4 := hts (.code Lib.Math.max.name Lib.Math.max.code 2 (some .int)) (by decide +kernel)
  have in3 : ∀ w ∈ u_ws RX3 TX3 4, w ∈ wsX3_greatestHeight := by decide +kernel
  have hnn := hY.n
  have hho := hY.hr
  refine lv_iconst (v := iI 0) hx hb dX3_greatestHeight_0 rfl ?_
  refine lv_istore_n (lv' := [(1, .int (iI 0)), (0, .ref qy)]) hx hb dX3_greatestHeight_1 rfl hl (by decide) rfl (fun ls hl => ?_)
  refine lv_iconst (v := iI 0) hx hb dX3_greatestHeight_2 rfl ?_
  refine lv_istore_n (lv' := [(2, .int (iI 0)), (1, .int (iI 0)), (0, .ref qy)]) hx hb dX3_greatestHeight_3 rfl hl (by decide) rfl (fun ls hl => ?_)
  have L4 : ∀ (k_1 : Nat) (k : Int) (gk : 0 ≤ k) (gl : k ≤ n) (ls : Array Slot), lv_has ls 3 [(0, .ref qy), (1, .int (iI (greatHK n h k))), (2, .int (iI k))] → (n - k).toNat < k_1 → W pZ l eZ ({ frames := 4, cells := 0, slots := 0, locals := 91 } : Room) sZ mZ [.ref qy].toArray bZ meZ cZ sZ.heap [] 0 0 (MQ bZ (vp_Si (fun y9 => y9 = iI (greatHK n h n))) [.ref qy].toArray sZ 0 0 (fun _ => False)) (F0 mZ 4 ls []) := by
    intro k_1
    induction k_1 with
    | zero => intro k gk gl ls hl hm_3; exact absurd hm_3 (Nat.not_lt_zero _)
    | succ k_1 ih_2 =>
      intro k gk gl ls hl hm_3
      have b_4 : 0 ≤ greatHK n h k ∧ greatHK n h k ≤ 8 := greatHK_rg (YOk.h hY) (by omega) gk
      refine lv_iload_n hx hb dX3_greatestHeight_4 rfl (lv_at hl 2 rfl) ?_
      refine lv_aload_n hx hb dX3_greatestHeight_5 rfl (lv_at hl 0 rfl) ?_
      refine va_get (D := g.1) (ci := 3) (v := .int (iI n)) (C := RX3) (T := TX3) (N := 4) hx hb hts in3 hown hE.1 hP 0 rfl rfl 2 (by decide) w0 (fun _ h9 => h9) rfl dX3_greatestHeight_6 ?_
      refine ln_icmp_ge (tgt := 29) hx hb dX3_greatestHeight_9 (by decide) ⟨by omega, by omega⟩ ⟨by omega, by omega⟩ (fun c_5 => ?_) (fun c_5 => ?_)
      · skip
        refine lv_iload_n hx hb dX3_greatestHeight_29 rfl (lv_at hl 1 rfl) ?_
        exact pend_i hx hb hr hlk hS rfl (by rw [show k = n by omega]) dX3_greatestHeight_30
      · skip
        refine lv_iload_n hx hb dX3_greatestHeight_12 rfl (lv_at hl 1 rfl) ?_
        refine lv_aload_n hx hb dX3_greatestHeight_13 rfl (lv_at hl 0 rfl) ?_
        refine lv_iconst (v := iI 0) hx hb dX3_greatestHeight_14 rfl ?_
        refine lv_iload_n hx hb dX3_greatestHeight_15 rfl (lv_at hl 2 rfl) ?_
        have hPc_6 := hP.sub (ws' := [(qy, .inr (3, [.ref qh, .ref qc, .int (iI n), .int (iI ho)])), (qh, .inl (gI g, 36, .inl (aI h))), (qc, .inl (gI g, 36, .inl (aI c)))]) [0, 1, 2] rfl
        refine pc_i (va_runV (As := [.int (iI 0), .int (iI k)]) (rest := [.int (iI (greatHK n h k))]) ⟨hx, hb, hml, hown, hts⟩ (c_X3_greatestIn l g qy qh qc n ho h c 0 k hY (by omega) gk (by omega)) (cwV 2 hts gX3_greatestHeight_X3_greatestIn rfl rfl rfl (by decide +kernel) ⟨Nat.le_of_ble_eq_true rfl, Nat.le_of_ble_eq_true rfl⟩) (puV hE hS hPc_6 rfl rfl) rfl rfl hl.1 rfl (lv_room (Nat.le_of_ble_eq_true rfl)) dX3_greatestHeight_16 ⟨Nat.le_of_ble_eq_true rfl, Nat.le_of_ble_eq_true rfl⟩) ?_
        have r_7 : 0 ≤ greatK h 0 k n ∧ greatK h 0 k n ≤ 8 := greatK_rg (YOk.h hY) 0 k (by have := YOk.n hY; omega)
        refine va_mmax hx hb (hml.trans hl.1.symm) hown w1 w2 w3 w4 (Nat.le_of_ble_eq_true rfl) (Nat.le_of_ble_eq_true rfl) (Nat.le_of_ble_eq_true rfl) (Nat.le_of_ble_eq_true rfl) dX3_greatestHeight_19 ?_
        refine ln_topv (maxI_row ⟨by omega, by omega⟩ ⟨by omega, by omega⟩) ?_
        refine lv_istore_n (lv' := [(1, .int (iI (maxI (greatHK n h k) (greatK h 0 k n)))), (0, .ref qy), (2, .int (iI k))]) hx hb dX3_greatestHeight_22 rfl hl (by decide) rfl (fun ls hl => ?_)
        refine lv_iinc (v := iI (k + 1)) (lv' := [(2, .int (iI (k + 1))), (1, .int (iI (maxI (greatHK n h k) (greatK h 0 k n)))), (0, .ref qy)]) hx hb dX3_greatestHeight_23 hl (k := 2) rfl (iI_add _ _) (by decide) rfl (fun ls hl => ?_)
        refine lv_goto (tgt := 4) hx hb dX3_greatestHeight_26 (by decide) ?_
        have hl := lv_re hl 1 rfl (.int (iI (greatHK n h (k + 1)))) (congrArg (fun z => Value.int (iI z)) (show maxI (greatHK n h k) (greatK h 0 k n) = greatHK n h (k + 1) from greatHK_s gk))
        have hl : lv_has ls 3 [(2, .int (iI (k + 1))), (1, .int (iI (greatHK n h (k + 1)))), (0, .ref qy)] := hl
        exact ih_2 (k + 1) (by omega) (by omega) _ (lv_sub hl [2, 1, 0] rfl) (by omega)
  have hl := lv_re hl 1 rfl (.int (iI (greatHK n h 0))) (congrArg (fun z => Value.int (iI z)) (show 0 = greatHK n h 0 from by first | rfl | omega))
  have hl : lv_has ls 3 [(2, .int (iI 0)), (1, .int (iI (greatHK n h 0))), (0, .ref qy)] := hl
  exact L4 _ 0 (by omega) (by omega) _ (lv_sub hl [2, 1, 0] rfl) (Nat.lt_succ_self _)
set_option maxHeartbeats 800000 in
set_option maxRecDepth 100000 in
theorem c_X3_linesWith (l : Launch) (g : GT) (qy : Nat) (qh : Nat) (qc : Nat) (n : Int) (ho : Int) (h : Int → Int) (c : Int → Int) (sd : Int) (v : Int) (hY : YOk n ho h c) (gs : sd = 0 ∨ sd = 1) (gv : 0 ≤ v ∧ v ≤ 8) : MetI l yX3_linesWith wsX3_linesWith ({ frames := 4, cells := 0, slots := 0, locals := 91 }) g [(qy, .inr (3, [.ref qh, .ref qc, .int (iI n), .int (iI ho)])), (qh, .inl (gI g, 36, .inl (aI h))), (qc, .inl (gI g, 36, .inl (aI c)))] [.ref qy, .int (iI sd), .int (iI v)] (linesK n h sd v n) := by
  refine pure_of (cc := cX3_linesWith) (maxL := 5) (ret := (some .int)) (by decide) rfl (Nat.le_of_ble_eq_true rfl) ?_
  intro pZ eZ sZ mZ bZ meZ cZ F hP hE hS ls hl
  obtain ⟨hx, hb, hr, hml, hts, hown, hlk⟩ := F
  have hown : sZ.vm.findClass RX3 = some mZ.cls := hown
  have hl : lv_has ls 5 [(0, .ref qy), (1, .int (iI sd)), (2, .int (iI v))] := hl
  have w0 := hts (.fieldLink RX3 18 "SlantYard$Yard" "size" "I") (by decide +kernel)
  have in3 : ∀ w ∈ u_ws RX3 TX3 4, w ∈ wsX3_linesWith := by decide +kernel
  have hnn := hY.n
  have hho := hY.hr
  refine lv_iconst (v := iI 0) hx hb dX3_linesWith_0 rfl ?_
  refine lv_istore_n (lv' := [(3, .int (iI 0)), (0, .ref qy), (1, .int (iI sd)), (2, .int (iI v))]) hx hb dX3_linesWith_1 rfl hl (by decide) rfl (fun ls hl => ?_)
  refine lv_iconst (v := iI 0) hx hb dX3_linesWith_2 rfl ?_
  refine lv_istore (lv' := [(4, .int (iI 0)), (3, .int (iI 0)), (0, .ref qy), (1, .int (iI sd)), (2, .int (iI v))]) hx hb dX3_linesWith_3 hl (by decide) rfl (fun ls hl => ?_)
  have L5 : ∀ (k_1 : Nat) (k : Int) (gk : 0 ≤ k) (gl : k ≤ n) (ls : Array Slot), lv_has ls 5 [(0, .ref qy), (1, .int (iI sd)), (2, .int (iI v)), (3, .int (iI (linesK n h sd v k))), (4, .int (iI k))] → (n - k).toNat < k_1 → W pZ l eZ ({ frames := 4, cells := 0, slots := 0, locals := 91 } : Room) sZ mZ [.ref qy, .int (iI sd), .int (iI v)].toArray bZ meZ cZ sZ.heap [] 0 0 (MQ bZ (vp_Si (fun y9 => y9 = iI (linesK n h sd v n))) [.ref qy, .int (iI sd), .int (iI v)].toArray sZ 0 0 (fun _ => False)) (F0 mZ 5 ls []) := by
    intro k_1
    induction k_1 with
    | zero => intro k gk gl ls hl hm_3; exact absurd hm_3 (Nat.not_lt_zero _)
    | succ k_1 ih_2 =>
      intro k gk gl ls hl hm_3
      have b_4 : 0 ≤ linesK n h sd v k ∧ linesK n h sd v k ≤ k := linesK_rg sd v gk
      refine lv_iload hx hb dX3_linesWith_5 (lv_at hl 4 rfl) ?_
      refine lv_aload_n hx hb dX3_linesWith_7 rfl (lv_at hl 0 rfl) ?_
      refine va_get (D := g.1) (ci := 3) (v := .int (iI n)) (C := RX3) (T := TX3) (N := 4) hx hb hts in3 hown hE.1 hP 0 rfl rfl 2 (by decide) w0 (fun _ h9 => h9) rfl dX3_linesWith_8 ?_
      refine ln_icmp_ge (tgt := 34) hx hb dX3_linesWith_11 (by decide) ⟨by omega, by omega⟩ ⟨by omega, by omega⟩ (fun c_5 => ?_) (fun c_5 => ?_)
      · skip
        refine lv_iload_n hx hb dX3_linesWith_34 rfl (lv_at hl 3 rfl) ?_
        exact pend_i hx hb hr hlk hS rfl (by rw [show k = n by omega]) dX3_linesWith_35
      · skip
        refine lv_aload_n hx hb dX3_linesWith_14 rfl (lv_at hl 0 rfl) ?_
        refine lv_iload_n hx hb dX3_linesWith_15 rfl (lv_at hl 1 rfl) ?_
        refine lv_iload hx hb dX3_linesWith_16 (lv_at hl 4 rfl) ?_
        have hPc_6 := hP.sub (ws' := [(qy, .inr (3, [.ref qh, .ref qc, .int (iI n), .int (iI ho)])), (qh, .inl (gI g, 36, .inl (aI h))), (qc, .inl (gI g, 36, .inl (aI c)))]) [0, 1, 2] rfl
        refine pc_i (va_runV (As := [.int (iI sd), .int (iI k)]) (rest := []) ⟨hx, hb, hml, hown, hts⟩ (c_X3_greatestIn l g qy qh qc n ho h c sd k hY gs gk (by omega)) (cwV 2 hts gX3_linesWith_X3_greatestIn rfl rfl rfl (by decide +kernel) ⟨Nat.le_of_ble_eq_true rfl, Nat.le_of_ble_eq_true rfl⟩) (puV hE hS hPc_6 rfl rfl) rfl rfl hl.1 rfl (lv_room (Nat.le_of_ble_eq_true rfl)) dX3_linesWith_18 ⟨Nat.le_of_ble_eq_true rfl, Nat.le_of_ble_eq_true rfl⟩) ?_
        have r_7 : 0 ≤ greatK h sd k n ∧ greatK h sd k n ≤ 8 := greatK_rg (YOk.h hY) sd k (by have := YOk.n hY; omega)
        refine lv_iload_n hx hb dX3_linesWith_21 rfl (lv_at hl 2 rfl) ?_
        refine ln_icmp_ne (tgt := 28) hx hb dX3_linesWith_22 (by decide) ⟨by omega, by omega⟩ ⟨by omega, by omega⟩ (fun c_8 => ?_) (fun c_8 => ?_)
        · skip
          refine lv_iinc (v := iI (k + 1)) (lv' := [(4, .int (iI (k + 1))), (0, .ref qy), (1, .int (iI sd)), (2, .int (iI v)), (3, .int (iI (linesK n h sd v k)))]) hx hb dX3_linesWith_28 hl (k := 4) rfl (iI_add _ _) (by decide) rfl (fun ls hl => ?_)
          refine lv_goto (tgt := 5) hx hb dX3_linesWith_31 (by decide) ?_
          have hl := lv_re hl 4 rfl (.int (iI (linesK n h sd v (k + 1)))) (congrArg (fun z => Value.int (iI z)) (show linesK n h sd v k = linesK n h sd v (k + 1) from by rw [linesK_s gk]; first | (rw [bI_t (by omega)]) | (rw [bI_f (by omega)]; omega)))
          have hl : lv_has ls 5 [(4, .int (iI (k + 1))), (0, .ref qy), (1, .int (iI sd)), (2, .int (iI v)), (3, .int (iI (linesK n h sd v (k + 1))))] := hl
          exact ih_2 (k + 1) (by omega) (by omega) _ (lv_sub hl [1, 2, 3, 4, 0] rfl) (by omega)
        · skip
          refine lv_iinc (v := iI (linesK n h sd v k + 1)) (lv' := [(3, .int (iI (linesK n h sd v k + 1))), (0, .ref qy), (1, .int (iI sd)), (2, .int (iI v)), (4, .int (iI k))]) hx hb dX3_linesWith_25 hl (k := 3) rfl (iI_add _ _) (by decide) rfl (fun ls hl => ?_)
          refine lv_iinc (v := iI (k + 1)) (lv' := [(4, .int (iI (k + 1))), (3, .int (iI (linesK n h sd v k + 1))), (0, .ref qy), (1, .int (iI sd)), (2, .int (iI v))]) hx hb dX3_linesWith_28 hl (k := 4) rfl (iI_add _ _) (by decide) rfl (fun ls hl => ?_)
          refine lv_goto (tgt := 5) hx hb dX3_linesWith_31 (by decide) ?_
          have hl := lv_re hl 1 rfl (.int (iI (linesK n h sd v (k + 1)))) (congrArg (fun z => Value.int (iI z)) (show linesK n h sd v k + 1 = linesK n h sd v (k + 1) from by rw [linesK_s gk]; first | (rw [bI_t (by omega)]) | (rw [bI_f (by omega)]; omega)))
          have hl : lv_has ls 5 [(4, .int (iI (k + 1))), (3, .int (iI (linesK n h sd v (k + 1)))), (0, .ref qy), (1, .int (iI sd)), (2, .int (iI v))] := hl
          exact ih_2 (k + 1) (by omega) (by omega) _ (lv_sub hl [2, 3, 4, 1, 0] rfl) (by omega)
  have hl := lv_re hl 1 rfl (.int (iI (linesK n h sd v 0))) (congrArg (fun z => Value.int (iI z)) (show 0 = linesK n h sd v 0 from by first | rfl | omega))
  have hl : lv_has ls 5 [(4, .int (iI 0)), (3, .int (iI (linesK n h sd v 0))), (0, .ref qy), (1, .int (iI sd)), (2, .int (iI v))] := hl
  exact L5 _ 0 (by omega) (by omega) _ (lv_sub hl [2, 3, 4, 1, 0] rfl) (Nat.lt_succ_self _)
set_option maxHeartbeats 800000 in
set_option maxRecDepth 100000 in
theorem c_X3_fewestAlike (l : Launch) (g : GT) (qy : Nat) (qh : Nat) (qc : Nat) (n : Int) (ho : Int) (h : Int → Int) (c : Int → Int) (hY : YOk n ho h c) : MetI l yX3_fewestAlike wsX3_fewestAlike ({ frames := 5, cells := 0, slots := 0, locals := 115 }) g [(qy, .inr (3, [.ref qh, .ref qc, .int (iI n), .int (iI ho)])), (qh, .inl (gI g, 36, .inl (aI h))), (qc, .inl (gI g, 36, .inl (aI c)))] [.ref qy] (fewestK n h 8) := by
  refine pure_of (cc := cX3_fewestAlike) (maxL := 3) (ret := (some .int)) (by decide) rfl (Nat.le_of_ble_eq_true rfl) ?_
  intro pZ eZ sZ mZ bZ meZ cZ F hP hE hS ls hl
  obtain ⟨hx, hb, hr, hml, hts, hown, hlk⟩ := F
  have hown : sZ.vm.findClass RX3 = some mZ.cls := hown
  have hl : lv_has ls 3 [(0, .ref qy)] := hl
  have w0 := hts (.methodLink RX3 64 Lib.Math.max.name) (by decide +kernel)
  have w1 := hts (.static Lib.Math.max.name) (by decide +kernel)
  have w2 := hts (.initialized "java/lang/Math") (by decide +kernel)
  have w3 := hts (.code Lib.Math.max.name Lib.Math.max.code 2 (some .int)) (by decide +kernel)
  have hnn := hY.n
  have hho := hY.hr
  refine lv_iconst (v := iI 0) hx hb dX3_fewestAlike_0 rfl ?_
  refine lv_istore_n (lv' := [(1, .int (iI 0)), (0, .ref qy)]) hx hb dX3_fewestAlike_1 rfl hl (by decide) rfl (fun ls hl => ?_)
  refine lv_iconst (v := iI 1) hx hb dX3_fewestAlike_2 rfl ?_
  refine lv_istore_n (lv' := [(2, .int (iI 1)), (1, .int (iI 0)), (0, .ref qy)]) hx hb dX3_fewestAlike_3 rfl hl (by decide) rfl (fun ls hl => ?_)
  have L4 : ∀ (k_1 : Nat) (k : Int) (gk : 1 ≤ k) (gl : k ≤ 9) (ls : Array Slot), lv_has ls 3 [(0, .ref qy), (1, .int (iI (fewestK n h (k - 1)))), (2, .int (iI k))] → (9 - k).toNat < k_1 → W pZ l eZ ({ frames := 5, cells := 0, slots := 0, locals := 115 } : Room) sZ mZ [.ref qy].toArray bZ meZ cZ sZ.heap [] 0 0 (MQ bZ (vp_Si (fun y9 => y9 = iI (fewestK n h 8))) [.ref qy].toArray sZ 0 0 (fun _ => False)) (F0 mZ 4 ls []) := by
    intro k_1
    induction k_1 with
    | zero => intro k gk gl ls hl hm_3; exact absurd hm_3 (Nat.not_lt_zero _)
    | succ k_1 ih_2 =>
      intro k gk gl ls hl hm_3
      have b_4 : 0 ≤ fewestK n h (k - 1) ∧ fewestK n h (k - 1) ≤ (k - 1) * 48 := fewestK_rg (by omega) (by omega) (by omega)
      refine lv_iload_n hx hb dX3_fewestAlike_4 rfl (lv_at hl 2 rfl) ?_
      refine lv_bipush (v := iI 8) hx hb dX3_fewestAlike_5 (by decide) ?_
      refine ln_icmp_gt (tgt := 36) hx hb dX3_fewestAlike_7 (by decide) ⟨by omega, by omega⟩ (by decide) (fun c_5 => ?_) (fun c_5 => ?_)
      · skip
        refine lv_iload_n hx hb dX3_fewestAlike_36 rfl (lv_at hl 1 rfl) ?_
        exact pend_i hx hb hr hlk hS rfl (by rw [show k - 1 = 8 by omega]) dX3_fewestAlike_37
      · skip
        refine lv_iload_n hx hb dX3_fewestAlike_10 rfl (lv_at hl 1 rfl) ?_
        refine lv_iload_n hx hb dX3_fewestAlike_11 rfl (lv_at hl 2 rfl) ?_
        refine lv_aload_n hx hb dX3_fewestAlike_12 rfl (lv_at hl 0 rfl) ?_
        refine lv_iconst (v := iI 0) hx hb dX3_fewestAlike_13 rfl ?_
        refine lv_iload_n hx hb dX3_fewestAlike_14 rfl (lv_at hl 2 rfl) ?_
        have hPc_6 := hP.sub (ws' := [(qy, .inr (3, [.ref qh, .ref qc, .int (iI n), .int (iI ho)])), (qh, .inl (gI g, 36, .inl (aI h))), (qc, .inl (gI g, 36, .inl (aI c)))]) [0, 1, 2] rfl
        refine pc_i (va_runV (As := [.int (iI 0), .int (iI k)]) (rest := [.int (iI k), .int (iI (fewestK n h (k - 1)))]) ⟨hx, hb, hml, hown, hts⟩ (c_X3_linesWith l g qy qh qc n ho h c 0 k hY (by omega) (by omega)) (cwV 2 hts gX3_fewestAlike_X3_linesWith rfl rfl rfl (by decide +kernel) ⟨Nat.le_of_ble_eq_true rfl, Nat.le_of_ble_eq_true rfl⟩) (puV hE hS hPc_6 rfl rfl) rfl rfl hl.1 rfl (lv_room (Nat.le_of_ble_eq_true rfl)) dX3_fewestAlike_15 ⟨Nat.le_of_ble_eq_true rfl, Nat.le_of_ble_eq_true rfl⟩) ?_
        have r_7 : 0 ≤ linesK n h 0 k n ∧ linesK n h 0 k n ≤ 6 := by have := YOk.n hY; have := linesK_rg (n := n) (h := h) 0 k (k := n) (by omega); omega
        refine lv_aload_n hx hb dX3_fewestAlike_18 rfl (lv_at hl 0 rfl) ?_
        refine lv_iconst (v := iI 1) hx hb dX3_fewestAlike_19 rfl ?_
        refine lv_iload_n hx hb dX3_fewestAlike_20 rfl (lv_at hl 2 rfl) ?_
        have hPc_8 := hP.sub (ws' := [(qy, .inr (3, [.ref qh, .ref qc, .int (iI n), .int (iI ho)])), (qh, .inl (gI g, 36, .inl (aI h))), (qc, .inl (gI g, 36, .inl (aI c)))]) [0, 1, 2] rfl
        refine pc_i (va_runV (As := [.int (iI 1), .int (iI k)]) (rest := [.int (iI (linesK n h 0 k n)), .int (iI k), .int (iI (fewestK n h (k - 1)))]) ⟨hx, hb, hml, hown, hts⟩ (c_X3_linesWith l g qy qh qc n ho h c 1 k hY (by omega) (by omega)) (cwV 2 hts gX3_fewestAlike_X3_linesWith rfl rfl rfl (by decide +kernel) ⟨Nat.le_of_ble_eq_true rfl, Nat.le_of_ble_eq_true rfl⟩) (puV hE hS hPc_8 rfl rfl) rfl rfl hl.1 rfl (lv_room (Nat.le_of_ble_eq_true rfl)) dX3_fewestAlike_21 ⟨Nat.le_of_ble_eq_true rfl, Nat.le_of_ble_eq_true rfl⟩) ?_
        have r_9 : 0 ≤ linesK n h 1 k n ∧ linesK n h 1 k n ≤ 6 := by have := YOk.n hY; have := linesK_rg (n := n) (h := h) 1 k (k := n) (by omega); omega
        refine va_mmax hx hb (hml.trans hl.1.symm) hown w0 w1 w2 w3 (Nat.le_of_ble_eq_true rfl) (Nat.le_of_ble_eq_true rfl) (Nat.le_of_ble_eq_true rfl) (Nat.le_of_ble_eq_true rfl) dX3_fewestAlike_24 ?_
        refine ln_topv (maxI_row ⟨by omega, by omega⟩ ⟨by omega, by omega⟩) ?_
        refine ln_imul hx hb (k * maxI (linesK n h 0 k n) (linesK n h 1 k n)) (rfl) dX3_fewestAlike_27 ?_
        refine ln_iadd hx hb (fewestK n h (k - 1) + k * maxI (linesK n h 0 k n) (linesK n h 1 k n)) (rfl) dX3_fewestAlike_28 ?_
        refine lv_istore_n (lv' := [(1, .int (iI (fewestK n h (k - 1) + k * maxI (linesK n h 0 k n) (linesK n h 1 k n)))), (0, .ref qy), (2, .int (iI k))]) hx hb dX3_fewestAlike_29 rfl hl (by decide) rfl (fun ls hl => ?_)
        refine lv_iinc (v := iI (k + 1)) (lv' := [(2, .int (iI (k + 1))), (1, .int (iI (fewestK n h (k - 1) + k * maxI (linesK n h 0 k n) (linesK n h 1 k n)))), (0, .ref qy)]) hx hb dX3_fewestAlike_30 hl (k := 2) rfl (iI_add _ _) (by decide) rfl (fun ls hl => ?_)
        refine lv_goto (tgt := 4) hx hb dX3_fewestAlike_33 (by decide) ?_
        have hl := lv_re hl 1 rfl (.int (iI (fewestK n h ((k + 1) - 1)))) (congrArg (fun z => Value.int (iI z)) (show fewestK n h (k - 1) + k * maxI (linesK n h 0 k n) (linesK n h 1 k n) = fewestK n h ((k + 1) - 1) from by have e9 := fewestK_s (n := n) (h := h) (k := k - 1) (by omega); rw [show k - 1 + 1 = k by omega] at e9; rw [show k + 1 - 1 = k by omega]; exact e9))
        have hl : lv_has ls 3 [(2, .int (iI (k + 1))), (1, .int (iI (fewestK n h ((k + 1) - 1)))), (0, .ref qy)] := hl
        exact ih_2 (k + 1) (by omega) (by omega) _ (lv_sub hl [2, 1, 0] rfl) (by omega)
  have hl := lv_re hl 1 rfl (.int (iI (fewestK n h (1 - 1)))) (congrArg (fun z => Value.int (iI z)) (show 0 = fewestK n h (1 - 1) from by first | rfl | omega))
  have hl : lv_has ls 3 [(2, .int (iI 1)), (1, .int (iI (fewestK n h (1 - 1)))), (0, .ref qy)] := hl
  exact L4 _ 1 (by omega) (by omega) _ (lv_sub hl [2, 1, 0] rfl) (Nat.lt_succ_self _)
set_option maxHeartbeats 800000 in
set_option maxRecDepth 100000 in
theorem c_X3_mostAlike (l : Launch) (g : GT) (qy : Nat) (qh : Nat) (qc : Nat) (n : Int) (ho : Int) (h : Int → Int) (c : Int → Int) (hY : YOk n ho h c) : MetI l yX3_mostAlike wsX3_mostAlike ({ frames := 4, cells := 0, slots := 0, locals := 91 }) g [(qy, .inr (3, [.ref qh, .ref qc, .int (iI n), .int (iI ho)])), (qh, .inl (gI g, 36, .inl (aI h))), (qc, .inl (gI g, 36, .inl (aI c)))] [.ref qy] (mostK n h n) := by
  refine pure_of (cc := cX3_mostAlike) (maxL := 5) (ret := (some .int)) (by decide) rfl (Nat.le_of_ble_eq_true rfl) ?_
  intro pZ eZ sZ mZ bZ meZ cZ F hP hE hS ls hl
  obtain ⟨hx, hb, hr, hml, hts, hown, hlk⟩ := F
  have hown : sZ.vm.findClass RX3 = some mZ.cls := hown
  have hl : lv_has ls 5 [(0, .ref qy)] := hl
  have w0 := hts (.fieldLink RX3 18 "SlantYard$Yard" "size" "I") (by decide +kernel)
  have w1 := hts (.methodLink RX3 92 Lib.Math.min.name) (by decide +kernel)
  have w2 := hts (.static Lib.Math.min.name) (by decide +kernel)
  have w3 := hts (.initialized "java/lang/Math") (by decide +kernel)
  have w4 := hts (.code Lib.Math.min.name Lib.Math.min.code 2 (some .int)) (by decide +kernel)
  have in3 : ∀ w ∈ u_ws RX3 TX3 4, w ∈ wsX3_mostAlike := by decide +kernel
  have hnn := hY.n
  have hho := hY.hr
  refine lv_iconst (v := iI 0) hx hb dX3_mostAlike_0 rfl ?_
  refine lv_istore_n (lv' := [(1, .int (iI 0)), (0, .ref qy)]) hx hb dX3_mostAlike_1 rfl hl (by decide) rfl (fun ls hl => ?_)
  refine lv_iconst (v := iI 0) hx hb dX3_mostAlike_2 rfl ?_
  refine lv_istore_n (lv' := [(2, .int (iI 0)), (1, .int (iI 0)), (0, .ref qy)]) hx hb dX3_mostAlike_3 rfl hl (by decide) rfl (fun ls hl => ?_)
  have L4 : ∀ (k_1 : Nat) (k : Int) (gk : 0 ≤ k) (gl : k ≤ n) (ls : Array Slot), lv_has ls 5 [(0, .ref qy), (1, .int (iI (mostK n h k))), (2, .int (iI k))] → (n - k).toNat < k_1 → W pZ l eZ ({ frames := 4, cells := 0, slots := 0, locals := 91 } : Room) sZ mZ [.ref qy].toArray bZ meZ cZ sZ.heap [] 0 0 (MQ bZ (vp_Si (fun y9 => y9 = iI (mostK n h n))) [.ref qy].toArray sZ 0 0 (fun _ => False)) (F0 mZ 4 ls []) := by
    intro k_1
    induction k_1 with
    | zero => intro k gk gl ls hl hm_3; exact absurd hm_3 (Nat.not_lt_zero _)
    | succ k_1 ih_2 =>
      intro k gk gl ls hl hm_3
      have b_4 : 0 ≤ mostK n h k ∧ mostK n h k ≤ k * 48 := mostK_rg (YOk.h hY) (by omega) gk
      refine lv_iload_n hx hb dX3_mostAlike_4 rfl (lv_at hl 2 rfl) ?_
      refine lv_aload_n hx hb dX3_mostAlike_5 rfl (lv_at hl 0 rfl) ?_
      refine va_get (D := g.1) (ci := 3) (v := .int (iI n)) (C := RX3) (T := TX3) (N := 4) hx hb hts in3 hown hE.1 hP 0 rfl rfl 2 (by decide) w0 (fun _ h9 => h9) rfl dX3_mostAlike_6 ?_
      refine ln_icmp_ge (tgt := 57) hx hb dX3_mostAlike_9 (by decide) ⟨by omega, by omega⟩ ⟨by omega, by omega⟩ (fun c_5 => ?_) (fun c_5 => ?_)
      · skip
        refine lv_iload_n hx hb dX3_mostAlike_57 rfl (lv_at hl 1 rfl) ?_
        exact pend_i hx hb hr hlk hS rfl (by rw [show k = n by omega]) dX3_mostAlike_58
      · skip
        refine lv_aload_n hx hb dX3_mostAlike_12 rfl (lv_at hl 0 rfl) ?_
        refine lv_iconst (v := iI 0) hx hb dX3_mostAlike_13 rfl ?_
        refine lv_iload_n hx hb dX3_mostAlike_14 rfl (lv_at hl 2 rfl) ?_
        have hPc_6 := hP.sub (ws' := [(qy, .inr (3, [.ref qh, .ref qc, .int (iI n), .int (iI ho)])), (qh, .inl (gI g, 36, .inl (aI h))), (qc, .inl (gI g, 36, .inl (aI c)))]) [0, 1, 2] rfl
        refine pc_i (va_runV (As := [.int (iI 0), .int (iI k)]) (rest := []) ⟨hx, hb, hml, hown, hts⟩ (c_X3_greatestIn l g qy qh qc n ho h c 0 k hY (by omega) gk (by omega)) (cwV 2 hts gX3_mostAlike_X3_greatestIn rfl rfl rfl (by decide +kernel) ⟨Nat.le_of_ble_eq_true rfl, Nat.le_of_ble_eq_true rfl⟩) (puV hE hS hPc_6 rfl rfl) rfl rfl hl.1 rfl (lv_room (Nat.le_of_ble_eq_true rfl)) dX3_mostAlike_15 ⟨Nat.le_of_ble_eq_true rfl, Nat.le_of_ble_eq_true rfl⟩) ?_
        have r_7 : 0 ≤ greatK h 0 k n ∧ greatK h 0 k n ≤ 8 := greatK_rg (YOk.h hY) 0 k (by have := YOk.n hY; omega)
        refine lv_istore_n (lv' := [(3, .int (iI (greatK h 0 k n))), (0, .ref qy), (1, .int (iI (mostK n h k))), (2, .int (iI k))]) hx hb dX3_mostAlike_18 rfl hl (by decide) rfl (fun ls hl => ?_)
        refine lv_iconst (v := iI 0) hx hb dX3_mostAlike_19 rfl ?_
        refine lv_istore (lv' := [(4, .int (iI 0)), (3, .int (iI (greatK h 0 k n))), (0, .ref qy), (1, .int (iI (mostK n h k))), (2, .int (iI k))]) hx hb dX3_mostAlike_20 hl (by decide) rfl (fun ls hl => ?_)
        have L22 : ∀ (k_8 : Nat) (j : Int) (gj : 0 ≤ j) (gm : j ≤ n) (ls : Array Slot), lv_has ls 5 [(0, .ref qy), (1, .int (iI (mostR n h k (mostK n h k) j))), (2, .int (iI k)), (3, .int (iI (greatK h 0 k n))), (4, .int (iI j))] → (n - j).toNat < k_8 → W pZ l eZ ({ frames := 4, cells := 0, slots := 0, locals := 91 } : Room) sZ mZ [.ref qy].toArray bZ meZ cZ sZ.heap [] 0 0 (MQ bZ (vp_Si (fun y9 => y9 = iI (mostK n h n))) [.ref qy].toArray sZ 0 0 (fun _ => False)) (F0 mZ 22 ls []) := by
          intro k_8
          induction k_8 with
          | zero => intro j gj gm ls hl hm_10; exact absurd hm_10 (Nat.not_lt_zero _)
          | succ k_8 ih_9 =>
            intro j gj gm ls hl hm_10
            have b_11 : mostK n h k ≤ mostR n h k (mostK n h k) j ∧ mostR n h k (mostK n h k) j ≤ mostK n h k + j * 8 := mostR_rg (YOk.h hY) (by omega) k (mostK n h k) gj
            refine lv_iload hx hb dX3_mostAlike_22 (lv_at hl 4 rfl) ?_
            refine lv_aload_n hx hb dX3_mostAlike_24 rfl (lv_at hl 0 rfl) ?_
            refine va_get (D := g.1) (ci := 3) (v := .int (iI n)) (C := RX3) (T := TX3) (N := 4) hx hb hts in3 hown hE.1 hP 0 rfl rfl 2 (by decide) w0 (fun _ h9 => h9) rfl dX3_mostAlike_25 ?_
            refine ln_icmp_ge (tgt := 51) hx hb dX3_mostAlike_28 (by decide) ⟨by omega, by omega⟩ ⟨by omega, by omega⟩ (fun c_12 => ?_) (fun c_12 => ?_)
            · skip
              refine lv_iinc (v := iI (k + 1)) (lv' := [(2, .int (iI (k + 1))), (0, .ref qy), (1, .int (iI (mostR n h k (mostK n h k) j))), (3, .int (iI (greatK h 0 k n))), (4, .int (iI j))]) hx hb dX3_mostAlike_51 hl (k := 2) rfl (iI_add _ _) (by decide) rfl (fun ls hl => ?_)
              refine lv_goto (tgt := 4) hx hb dX3_mostAlike_54 (by decide) ?_
              have hl := lv_re hl 2 rfl (.int (iI (mostK n h (k + 1)))) (congrArg (fun z => Value.int (iI z)) (show mostR n h k (mostK n h k) j = mostK n h (k + 1) from by rw [show j = n by omega]; exact mostK_s gk))
              have hl : lv_has ls 5 [(2, .int (iI (k + 1))), (0, .ref qy), (1, .int (iI (mostK n h (k + 1)))), (3, .int (iI (greatK h 0 k n))), (4, .int (iI j))] := hl
              exact ih_2 (k + 1) (by omega) (by omega) _ (lv_sub hl [1, 2, 0] rfl) (by omega)
            · skip
              refine lv_iload_n hx hb dX3_mostAlike_31 rfl (lv_at hl 1 rfl) ?_
              refine lv_iload_n hx hb dX3_mostAlike_32 rfl (lv_at hl 3 rfl) ?_
              refine lv_aload_n hx hb dX3_mostAlike_33 rfl (lv_at hl 0 rfl) ?_
              refine lv_iconst (v := iI 1) hx hb dX3_mostAlike_34 rfl ?_
              refine lv_iload hx hb dX3_mostAlike_35 (lv_at hl 4 rfl) ?_
              have hPc_13 := hP.sub (ws' := [(qy, .inr (3, [.ref qh, .ref qc, .int (iI n), .int (iI ho)])), (qh, .inl (gI g, 36, .inl (aI h))), (qc, .inl (gI g, 36, .inl (aI c)))]) [0, 1, 2] rfl
              refine pc_i (va_runV (As := [.int (iI 1), .int (iI j)]) (rest := [.int (iI (greatK h 0 k n)), .int (iI (mostR n h k (mostK n h k) j))]) ⟨hx, hb, hml, hown, hts⟩ (c_X3_greatestIn l g qy qh qc n ho h c 1 j hY (by omega) gj (by omega)) (cwV 2 hts gX3_mostAlike_X3_greatestIn rfl rfl rfl (by decide +kernel) ⟨Nat.le_of_ble_eq_true rfl, Nat.le_of_ble_eq_true rfl⟩) (puV hE hS hPc_13 rfl rfl) rfl rfl hl.1 rfl (lv_room (Nat.le_of_ble_eq_true rfl)) dX3_mostAlike_37 ⟨Nat.le_of_ble_eq_true rfl, Nat.le_of_ble_eq_true rfl⟩) ?_
              have r_14 : 0 ≤ greatK h 1 j n ∧ greatK h 1 j n ≤ 8 := greatK_rg (YOk.h hY) 1 j (by have := YOk.n hY; omega)
              refine va_mmin hx hb (hml.trans hl.1.symm) hown w1 w2 w3 w4 (Nat.le_of_ble_eq_true rfl) (Nat.le_of_ble_eq_true rfl) (Nat.le_of_ble_eq_true rfl) (Nat.le_of_ble_eq_true rfl) dX3_mostAlike_40 ?_
              refine ln_topv (minI_row ⟨by omega, by omega⟩ ⟨by omega, by omega⟩) ?_
              refine ln_iadd hx hb (mostR n h k (mostK n h k) j + minI (greatK h 0 k n) (greatK h 1 j n)) (rfl) dX3_mostAlike_43 ?_
              refine lv_istore_n (lv' := [(1, .int (iI (mostR n h k (mostK n h k) j + minI (greatK h 0 k n) (greatK h 1 j n)))), (0, .ref qy), (2, .int (iI k)), (3, .int (iI (greatK h 0 k n))), (4, .int (iI j))]) hx hb dX3_mostAlike_44 rfl hl (by decide) rfl (fun ls hl => ?_)
              refine lv_iinc (v := iI (j + 1)) (lv' := [(4, .int (iI (j + 1))), (1, .int (iI (mostR n h k (mostK n h k) j + minI (greatK h 0 k n) (greatK h 1 j n)))), (0, .ref qy), (2, .int (iI k)), (3, .int (iI (greatK h 0 k n)))]) hx hb dX3_mostAlike_45 hl (k := 4) rfl (iI_add _ _) (by decide) rfl (fun ls hl => ?_)
              refine lv_goto (tgt := 22) hx hb dX3_mostAlike_48 (by decide) ?_
              have hl := lv_re hl 1 rfl (.int (iI (mostR n h k (mostK n h k) (j + 1)))) (congrArg (fun z => Value.int (iI z)) (show mostR n h k (mostK n h k) j + minI (greatK h 0 k n) (greatK h 1 j n) = mostR n h k (mostK n h k) (j + 1) from mostR_s gj))
              have hl : lv_has ls 5 [(4, .int (iI (j + 1))), (1, .int (iI (mostR n h k (mostK n h k) (j + 1)))), (0, .ref qy), (2, .int (iI k)), (3, .int (iI (greatK h 0 k n)))] := hl
              exact ih_9 (j + 1) (by omega) (by omega) _ (lv_sub hl [2, 1, 3, 4, 0] rfl) (by omega)
        have hl := lv_re hl 3 rfl (.int (iI (mostR n h k (mostK n h k) 0))) (congrArg (fun z => Value.int (iI z)) (show mostK n h k = mostR n h k (mostK n h k) 0 from by first | rfl | omega))
        have hl : lv_has ls 5 [(4, .int (iI 0)), (3, .int (iI (greatK h 0 k n))), (0, .ref qy), (1, .int (iI (mostR n h k (mostK n h k) 0))), (2, .int (iI k))] := hl
        exact L22 _ 0 (by omega) (by omega) _ (lv_sub hl [2, 3, 4, 1, 0] rfl) (Nat.lt_succ_self _)
  have hl := lv_re hl 1 rfl (.int (iI (mostK n h 0))) (congrArg (fun z => Value.int (iI z)) (show 0 = mostK n h 0 from by first | rfl | omega))
  have hl : lv_has ls 5 [(2, .int (iI 0)), (1, .int (iI (mostK n h 0))), (0, .ref qy)] := hl
  exact L4 _ 0 (by omega) (by omega) _ (lv_sub hl [2, 1, 0] rfl) (Nat.lt_succ_self _)
set_option maxHeartbeats 800000 in
set_option maxRecDepth 100000 in
theorem c_X3_inShadow (l : Launch) (g : GT) (qy : Nat) (qh : Nat) (qc : Nat) (n : Int) (ho : Int) (h : Int → Int) (c : Int → Int) (x : Int) (y : Int) (t : Int) (hY : YOk n ho h c) (h1 : 0 ≤ x) (h2 : x < n) (h3 : 0 ≤ y) (h4 : y < n) (gt : 0 ≤ t ∧ t ≤ 7) : MetI l yX3_inShadow wsX3_inShadow ({ frames := 2, cells := 0, slots := 0, locals := 44 }) g [(qy, .inr (3, [.ref qh, .ref qc, .int (iI n), .int (iI ho)])), (qh, .inl (gI g, 36, .inl (aI h))), (qc, .inl (gI g, 36, .inl (aI c)))] [.ref qy, .int (iI x), .int (iI y), .int (iI t)] (shadeI n h t x y) := by
  refine pure_of (cc := cX3_inShadow) (maxL := 11) (ret := (some .boolean)) (by decide) rfl (Nat.le_of_ble_eq_true rfl) ?_
  intro pZ eZ sZ mZ bZ meZ cZ F hP hE hS ls hl
  obtain ⟨hx, hb, hr, hml, hts, hown, hlk⟩ := F
  have hown : sZ.vm.findClass RX3 = some mZ.cls := hown
  have hl : lv_has ls 11 [(0, .ref qy), (1, .int (iI x)), (2, .int (iI y)), (3, .int (iI t))] := hl
  have w0 := hts (.initialized RX4) (by decide +kernel)
  have w1 := hts (.static yX4_valueAt) (by decide +kernel)
  have w2 := hts (.fieldLink RX3 18 "SlantYard$Yard" "size" "I") (by decide +kernel)
  have in3 : ∀ w ∈ u_ws RX3 TX3 4, w ∈ wsX3_inShadow := by decide +kernel
  have hnn := hY.n
  have hho := hY.hr
  have hsu := sun_rg t gt
  refine va_getsN hx hb (hE.2.2.1 3 _ rfl).1 hS hown (va_Nw.use rfl (hE.2.1.2.1 (RX3, 69, "SlantYard", "SUN_X", "[I", RX4) (by decide +kernel))) (fun _ h9 => h9) dX3_inShadow_0 ?_
  refine lv_iload_n hx hb dX3_inShadow_3 rfl (lv_at hl 3 rfl) ?_
  refine pc_i (va_runSN (As := [.ref (g.2.2 3), .int (iI t)]) (rest := []) ⟨hx, hb, hml, hown, hts⟩ (c_X4_valueAt_in l g (g.2.2 3) 8 (atI [1, 1, 0, -1, -1, -1, 0, 1]) t (by omega) (by omega) (by omega)) ⟨va_cnB 2 hts gX3_inShadow_X4_valueAt_n31 rfl rfl rfl (hE.2.1.1 (RX3, 31, yX4_valueAt, RX4) (by decide +kernel)) w0 (by decide +kernel) ⟨Nat.le_of_ble_eq_true rfl, Nat.le_of_ble_eq_true rfl⟩, w1, trivial⟩ (ruS (RA.ofT ((hE.2.2.1 3 _ rfl).2.kept hS.2.1))) rfl rfl hl.1 rfl (lv_room (Nat.le_of_ble_eq_true rfl)) dX3_inShadow_4 ⟨Nat.le_of_ble_eq_true rfl, Nat.le_of_ble_eq_true rfl⟩) ?_
  refine ln_top (y := sunX t) (rfl) ?_
  refine lv_istore (lv' := [(4, .int (iI (sunX t))), (0, .ref qy), (1, .int (iI x)), (2, .int (iI y)), (3, .int (iI t))]) hx hb dX3_inShadow_7 hl (by decide) rfl (fun ls hl => ?_)
  refine va_getsN hx hb (hE.2.2.1 4 _ rfl).1 hS hown (va_Nw.use rfl (hE.2.1.2.1 (RX3, 72, "SlantYard", "SUN_Y", "[I", RX4) (by decide +kernel))) (fun _ h9 => h9) dX3_inShadow_9 ?_
  refine lv_iload_n hx hb dX3_inShadow_12 rfl (lv_at hl 4 rfl) ?_
  refine pc_i (va_runSN (As := [.ref (g.2.2 4), .int (iI t)]) (rest := []) ⟨hx, hb, hml, hown, hts⟩ (c_X4_valueAt_in l g (g.2.2 4) 8 (atI [0, 1, 1, 1, 0, -1, -1, -1]) t (by omega) (by omega) (by omega)) ⟨va_cnB 2 hts gX3_inShadow_X4_valueAt_n31 rfl rfl rfl (hE.2.1.1 (RX3, 31, yX4_valueAt, RX4) (by decide +kernel)) w0 (by decide +kernel) ⟨Nat.le_of_ble_eq_true rfl, Nat.le_of_ble_eq_true rfl⟩, w1, trivial⟩ (ruS (RA.ofT ((hE.2.2.1 4 _ rfl).2.kept hS.2.1))) rfl rfl hl.1 rfl (lv_room (Nat.le_of_ble_eq_true rfl)) dX3_inShadow_13 ⟨Nat.le_of_ble_eq_true rfl, Nat.le_of_ble_eq_true rfl⟩) ?_
  refine ln_top (y := sunY t) (rfl) ?_
  refine lv_istore (lv' := [(5, .int (iI (sunY t))), (4, .int (iI (sunX t))), (0, .ref qy), (1, .int (iI x)), (2, .int (iI y)), (3, .int (iI t))]) hx hb dX3_inShadow_16 hl (by decide) rfl (fun ls hl => ?_)
  refine va_getsN hx hb (hE.2.2.1 5 _ rfl).1 hS hown (va_Nw.use rfl (hE.2.1.2.1 (RX3, 75, "SlantYard", "SUN_STEEP", "[I", RX4) (by decide +kernel))) (fun _ h9 => h9) dX3_inShadow_18 ?_
  refine lv_iload_n hx hb dX3_inShadow_21 rfl (lv_at hl 5 rfl) ?_
  refine pc_i (va_runSN (As := [.ref (g.2.2 5), .int (iI t)]) (rest := []) ⟨hx, hb, hml, hown, hts⟩ (c_X4_valueAt_in l g (g.2.2 5) 8 (atI [1, 2, 3, 3, 2, 1, 1, 1]) t (by omega) (by omega) (by omega)) ⟨va_cnB 2 hts gX3_inShadow_X4_valueAt_n31 rfl rfl rfl (hE.2.1.1 (RX3, 31, yX4_valueAt, RX4) (by decide +kernel)) w0 (by decide +kernel) ⟨Nat.le_of_ble_eq_true rfl, Nat.le_of_ble_eq_true rfl⟩, w1, trivial⟩ (ruS (RA.ofT ((hE.2.2.1 5 _ rfl).2.kept hS.2.1))) rfl rfl hl.1 rfl (lv_room (Nat.le_of_ble_eq_true rfl)) dX3_inShadow_22 ⟨Nat.le_of_ble_eq_true rfl, Nat.le_of_ble_eq_true rfl⟩) ?_
  refine ln_top (y := sunS t) (rfl) ?_
  refine lv_istore (lv' := [(6, .int (iI (sunS t))), (5, .int (iI (sunY t))), (4, .int (iI (sunX t))), (0, .ref qy), (1, .int (iI x)), (2, .int (iI y)), (3, .int (iI t))]) hx hb dX3_inShadow_25 hl (by decide) rfl (fun ls hl => ?_)
  refine lv_aload_n hx hb dX3_inShadow_27 rfl (lv_at hl 3 rfl) ?_
  refine lv_iload_n hx hb dX3_inShadow_28 rfl (lv_at hl 4 rfl) ?_
  refine lv_iload_n hx hb dX3_inShadow_29 rfl (lv_at hl 5 rfl) ?_
  have hPc_1 := hP.sub (ws' := [(qy, .inr (3, [.ref qh, .ref qc, .int (iI n), .int (iI ho)])), (qh, .inl (gI g, 36, .inl (aI h))), (qc, .inl (gI g, 36, .inl (aI c)))]) [0, 1, 2] rfl
  refine pc_i (va_runV (As := [.int (iI x), .int (iI y)]) (rest := []) ⟨hx, hb, hml, hown, hts⟩ (c_X3_heightAt l g qy qh qc n ho h c x y hY h1 h2 h3 h4) (cwV 2 hts gX3_inShadow_X3_heightAt rfl rfl rfl (by decide +kernel) ⟨Nat.le_of_ble_eq_true rfl, Nat.le_of_ble_eq_true rfl⟩) (puV hE hS hPc_1 rfl rfl) rfl rfl hl.1 rfl (lv_room (Nat.le_of_ble_eq_true rfl)) dX3_inShadow_30 ⟨Nat.le_of_ble_eq_true rfl, Nat.le_of_ble_eq_true rfl⟩) ?_
  have r_2 : 0 ≤ h (y * 6 + x) ∧ h (y * 6 + x) ≤ 8 := YOk.h hY (y * 6 + x)
  refine lv_istore (lv' := [(7, .int (iI (h (y * 6 + x)))), (6, .int (iI (sunS t))), (5, .int (iI (sunY t))), (4, .int (iI (sunX t))), (0, .ref qy), (1, .int (iI x)), (2, .int (iI y)), (3, .int (iI t))]) hx hb dX3_inShadow_33 hl (by decide) rfl (fun ls hl => ?_)
  refine lv_iconst (v := iI 1) hx hb dX3_inShadow_35 rfl ?_
  refine lv_istore (lv' := [(8, .int (iI 1)), (7, .int (iI (h (y * 6 + x)))), (6, .int (iI (sunS t))), (5, .int (iI (sunY t))), (4, .int (iI (sunX t))), (0, .ref qy), (1, .int (iI x)), (2, .int (iI y)), (3, .int (iI t))]) hx hb dX3_inShadow_36 hl (by decide) rfl (fun ls hl => ?_)
  have L38 : ∀ (k_3 : Nat) (k : Int) (gk : 1 ≤ k) (gl : k ≤ n) (gf : shadeK n h t x y (k - 1) = 0) (ls : Array Slot), lv_has ls 11 [(0, .ref qy), (1, .int (iI x)), (2, .int (iI y)), (3, .int (iI t)), (4, .int (iI (sunX t))), (5, .int (iI (sunY t))), (6, .int (iI (sunS t))), (7, .int (iI (h (y * 6 + x)))), (8, .int (iI k))] → (n - k).toNat < k_3 → W pZ l eZ ({ frames := 2, cells := 0, slots := 0, locals := 44 } : Room) sZ mZ [.ref qy, .int (iI x), .int (iI y), .int (iI t)].toArray bZ meZ cZ sZ.heap [] 0 0 (MQ bZ (vp_Si (fun y9 => y9 = iI (shadeI n h t x y))) [.ref qy, .int (iI x), .int (iI y), .int (iI t)].toArray sZ 0 0 (fun _ => False)) (F0 mZ 38 ls []) := by
    intro k_3
    induction k_3 with
    | zero => intro k gk gl gf ls hl hm_5; exact absurd hm_5 (Nat.not_lt_zero _)
    | succ k_3 ih_4 =>
      intro k gk gl gf ls hl hm_5
      have b_6 : -6 ≤ k * sunX t ∧ k * sunX t ≤ 6 := mulsun (by omega) hsu.1
      have b_7 : -6 ≤ k * sunY t ∧ k * sunY t ≤ 6 := mulsun (by omega) hsu.2.1
      have b_8 : -6 ≤ k * sunS t ∧ k * sunS t ≤ 18 := mulsun3 (by omega) hsu.2.2
      refine lv_iload hx hb dX3_inShadow_38 (lv_at hl 8 rfl) ?_
      refine lv_aload_n hx hb dX3_inShadow_40 rfl (lv_at hl 0 rfl) ?_
      refine va_get (D := g.1) (ci := 3) (v := .int (iI n)) (C := RX3) (T := TX3) (N := 4) hx hb hts in3 hown hE.1 hP 0 rfl rfl 2 (by decide) w2 (fun _ h9 => h9) rfl dX3_inShadow_41 ?_
      refine ln_icmp_ge (tgt := 103) hx hb dX3_inShadow_44 (by decide) ⟨by omega, by omega⟩ ⟨by omega, by omega⟩ (fun c_9 => ?_) (fun c_9 => ?_)
      · skip
        refine lv_iconst (v := iI 0) hx hb dX3_inShadow_103 rfl ?_
        exact pend_z hx hb hr hlk hS rfl (Or.inl rfl) (by (unfold shadeI; rw [show n - 1 = k - 1 by omega]; exact gf.symm)) dX3_inShadow_104
      · skip
        refine lv_iload_n hx hb dX3_inShadow_47 rfl (lv_at hl 1 rfl) ?_
        refine lv_iload hx hb dX3_inShadow_48 (lv_at hl 8 rfl) ?_
        refine lv_iload hx hb dX3_inShadow_50 (lv_at hl 4 rfl) ?_
        refine ln_imul hx hb (k * (sunX t)) (rfl) dX3_inShadow_52 ?_
        refine ln_iadd hx hb (x + k * (sunX t)) (rfl) dX3_inShadow_53 ?_
        refine lv_istore (lv' := [(9, .int (iI (x + k * (sunX t)))), (0, .ref qy), (1, .int (iI x)), (2, .int (iI y)), (3, .int (iI t)), (4, .int (iI (sunX t))), (5, .int (iI (sunY t))), (6, .int (iI (sunS t))), (7, .int (iI (h (y * 6 + x)))), (8, .int (iI k))]) hx hb dX3_inShadow_54 hl (by decide) rfl (fun ls hl => ?_)
        refine lv_iload_n hx hb dX3_inShadow_56 rfl (lv_at hl 3 rfl) ?_
        refine lv_iload hx hb dX3_inShadow_57 (lv_at hl 9 rfl) ?_
        refine lv_iload hx hb dX3_inShadow_59 (lv_at hl 6 rfl) ?_
        refine ln_imul hx hb (k * (sunY t)) (rfl) dX3_inShadow_61 ?_
        refine ln_iadd hx hb (y + k * (sunY t)) (rfl) dX3_inShadow_62 ?_
        refine lv_istore (lv' := [(10, .int (iI (y + k * (sunY t)))), (9, .int (iI (x + k * (sunX t)))), (0, .ref qy), (1, .int (iI x)), (2, .int (iI y)), (3, .int (iI t)), (4, .int (iI (sunX t))), (5, .int (iI (sunY t))), (6, .int (iI (sunS t))), (7, .int (iI (h (y * 6 + x)))), (8, .int (iI k))]) hx hb dX3_inShadow_63 hl (by decide) rfl (fun ls hl => ?_)
        refine lv_aload_n hx hb dX3_inShadow_65 rfl (lv_at hl 2 rfl) ?_
        refine lv_iload hx hb dX3_inShadow_66 (lv_at hl 1 rfl) ?_
        refine lv_iload hx hb dX3_inShadow_68 (lv_at hl 0 rfl) ?_
        have hPc_10 := hP.sub (ws' := [(qy, .inr (3, [.ref qh, .ref qc, .int (iI n), .int (iI ho)]))]) [0] rfl
        refine pc_i (va_runV (As := [.int (iI (x + k * (sunX t))), .int (iI (y + k * (sunY t)))]) (rest := []) ⟨hx, hb, hml, hown, hts⟩ (c_X3_hasSquare l g qy qh qc n ho (x + k * (sunX t)) (y + k * (sunY t)) hnn (by omega) (by omega)) (cwV 2 hts gX3_inShadow_X3_hasSquare rfl rfl rfl (by decide +kernel) ⟨Nat.le_of_ble_eq_true rfl, Nat.le_of_ble_eq_true rfl⟩) (puV hE hS hPc_10 rfl rfl) rfl rfl hl.1 rfl (lv_room (Nat.le_of_ble_eq_true rfl)) dX3_inShadow_70 ⟨Nat.le_of_ble_eq_true rfl, Nat.le_of_ble_eq_true rfl⟩) ?_
        refine lb_if_eq (tgt := 97) hx hb dX3_inShadow_73 (by decide) (fun c_11 => ?_) (fun c_11 => ?_)
        · skip
          refine lv_iinc (v := iI (k + 1)) (lv' := [(8, .int (iI (k + 1))), (10, .int (iI (y + k * (sunY t)))), (9, .int (iI (x + k * (sunX t)))), (0, .ref qy), (1, .int (iI x)), (2, .int (iI y)), (3, .int (iI t)), (4, .int (iI (sunX t))), (5, .int (iI (sunY t))), (6, .int (iI (sunS t))), (7, .int (iI (h (y * 6 + x))))]) hx hb dX3_inShadow_97 hl (k := 10) rfl (iI_add _ _) (by decide) rfl (fun ls hl => ?_)
          refine lv_goto (tgt := 38) hx hb dX3_inShadow_100 (by decide) ?_
          have hl : lv_has ls 11 [(8, .int (iI (k + 1))), (10, .int (iI (y + k * (sunY t)))), (9, .int (iI (x + k * (sunX t)))), (0, .ref qy), (1, .int (iI x)), (2, .int (iI y)), (3, .int (iI t)), (4, .int (iI (sunX t))), (5, .int (iI (sunY t))), (6, .int (iI (sunS t))), (7, .int (iI (h (y * 6 + x))))] := hl
          exact ih_4 (k + 1) (by omega) (by omega) (by rw [show k + 1 - 1 = k by omega, shadeK_s gk (by unfold shP; rintro ⟨q1, q2⟩; first | omega | (rcases q1 with ⟨⟨q3, q4⟩, q5, q6⟩; omega))]; exact gf) _ (lv_sub hl [3, 4, 5, 6, 7, 8, 9, 10, 0] rfl) (by omega)
        · skip
          refine lv_aload_n hx hb dX3_inShadow_76 rfl (lv_at hl 2 rfl) ?_
          refine lv_iload hx hb dX3_inShadow_77 (lv_at hl 1 rfl) ?_
          refine lv_iload hx hb dX3_inShadow_79 (lv_at hl 0 rfl) ?_
          have hPc_12 := hP.sub (ws' := [(qy, .inr (3, [.ref qh, .ref qc, .int (iI n), .int (iI ho)])), (qh, .inl (gI g, 36, .inl (aI h))), (qc, .inl (gI g, 36, .inl (aI c)))]) [0, 1, 2] rfl
          refine pc_i (va_runV (As := [.int (iI (x + k * (sunX t))), .int (iI (y + k * (sunY t)))]) (rest := []) ⟨hx, hb, hml, hown, hts⟩ (c_X3_heightAt l g qy qh qc n ho h c (x + k * (sunX t)) (y + k * (sunY t)) hY (by omega) (by omega) (by omega) (by omega)) (cwV 2 hts gX3_inShadow_X3_heightAt rfl rfl rfl (by decide +kernel) ⟨Nat.le_of_ble_eq_true rfl, Nat.le_of_ble_eq_true rfl⟩) (puV hE hS hPc_12 rfl rfl) rfl rfl hl.1 rfl (lv_room (Nat.le_of_ble_eq_true rfl)) dX3_inShadow_81 ⟨Nat.le_of_ble_eq_true rfl, Nat.le_of_ble_eq_true rfl⟩) ?_
          have r_13 : 0 ≤ h ((y + k * (sunY t)) * 6 + (x + k * (sunX t))) ∧ h ((y + k * (sunY t)) * 6 + (x + k * (sunX t))) ≤ 8 := YOk.h hY ((y + k * (sunY t)) * 6 + (x + k * (sunX t)))
          refine lv_iload hx hb dX3_inShadow_84 (lv_at hl 9 rfl) ?_
          refine ln_isub hx hb (h ((y + k * (sunY t)) * 6 + (x + k * (sunX t))) - h (y * 6 + x)) (rfl) dX3_inShadow_86 ?_
          refine lv_iload hx hb dX3_inShadow_87 (lv_at hl 10 rfl) ?_
          refine lv_iload hx hb dX3_inShadow_89 (lv_at hl 8 rfl) ?_
          refine ln_imul hx hb (k * (sunS t)) (rfl) dX3_inShadow_91 ?_
          refine ln_icmp_lt (tgt := 97) hx hb dX3_inShadow_92 (by decide) ⟨by omega, by omega⟩ ⟨by omega, by omega⟩ (fun c_14 => ?_) (fun c_14 => ?_)
          · skip
            refine lv_iinc (v := iI (k + 1)) (lv' := [(8, .int (iI (k + 1))), (10, .int (iI (y + k * (sunY t)))), (9, .int (iI (x + k * (sunX t)))), (0, .ref qy), (1, .int (iI x)), (2, .int (iI y)), (3, .int (iI t)), (4, .int (iI (sunX t))), (5, .int (iI (sunY t))), (6, .int (iI (sunS t))), (7, .int (iI (h (y * 6 + x))))]) hx hb dX3_inShadow_97 hl (k := 10) rfl (iI_add _ _) (by decide) rfl (fun ls hl => ?_)
            refine lv_goto (tgt := 38) hx hb dX3_inShadow_100 (by decide) ?_
            have hl : lv_has ls 11 [(8, .int (iI (k + 1))), (10, .int (iI (y + k * (sunY t)))), (9, .int (iI (x + k * (sunX t)))), (0, .ref qy), (1, .int (iI x)), (2, .int (iI y)), (3, .int (iI t)), (4, .int (iI (sunX t))), (5, .int (iI (sunY t))), (6, .int (iI (sunS t))), (7, .int (iI (h (y * 6 + x))))] := hl
            exact ih_4 (k + 1) (by omega) (by omega) (by rw [show k + 1 - 1 = k by omega, shadeK_s gk (by unfold shP; rintro ⟨q1, q2⟩; first | omega | (rcases q1 with ⟨⟨q3, q4⟩, q5, q6⟩; omega))]; exact gf) _ (lv_sub hl [3, 4, 5, 6, 7, 8, 9, 10, 0] rfl) (by omega)
          · skip
            refine lv_iconst (v := iI 1) hx hb dX3_inShadow_95 rfl ?_
            exact pend_z hx hb hr hlk hS rfl (Or.inr rfl) (by exact (shadeI_1 (k := k) gk (by omega) (by unfold shP; exact ⟨by assumption, by omega⟩)).symm) dX3_inShadow_96
  have hl : lv_has ls 11 [(8, .int (iI 1)), (7, .int (iI (h (y * 6 + x)))), (6, .int (iI (sunS t))), (5, .int (iI (sunY t))), (4, .int (iI (sunX t))), (0, .ref qy), (1, .int (iI x)), (2, .int (iI y)), (3, .int (iI t))] := hl
  exact L38 _ 1 (by omega) (by omega) (rfl) _ (lv_sub hl [5, 6, 7, 8, 4, 3, 2, 1, 0] rfl) (Nat.lt_succ_self _)

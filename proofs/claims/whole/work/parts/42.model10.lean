set_option maxHeartbeats 800000 in
set_option maxRecDepth 100000 in
theorem c_X5_brightestNow (l : Launch) (g : GT) (qm : Nat) (th : Int) (mz : Nat) (ms : Nat) (hn : Int) (mp : Nat) (mb : Nat) (L : Int) (m1 : Nat) (m2 : Nat) (m3 : Nat) (mB : Nat) (mF : Nat) (mN : Nat) (mS : Nat) (sT : Int) (mW : Nat) (acc : Int64) (n : Int) (ho : Int) (h : Int → Int) (c : Int → Int) (hY : YOk n ho h c) : MetI l yX5_brightestNow wsX5_brightestNow ({ frames := 4, cells := 0, slots := 0, locals := 95 }) g [(qm, .inr (5, [.int (iI th), .ref mz, .ref ms, .int (iI hn), .ref mp, .ref mb, .int (iI L), .ref m1, .ref m2, .ref m3, .ref mB, .ref mF, .ref mN, .ref mS, .int (iI sT), .ref mW, .long acc])), (mz, .inl (gI g, 326, .inl (aI (zF n ho h c)))), (m1, .inl (gI g, 8, .inl (aI sunX))), (m2, .inl (gI g, 8, .inl (aI sunY))), (m3, .inl (gI g, 8, .inl (aI sunS)))] [.ref qm] (brK n h 7) := by
  refine pure_of (cc := cX5_brightestNow) (maxL := 3) (ret := (some .int)) (by decide) rfl (Nat.le_of_ble_eq_true rfl) ?_
  intro pZ eZ sZ mZ bZ meZ cZ F hP hE hS ls hl
  obtain ⟨hx, hb, hr, hml, hts, hown, hlk⟩ := F
  have hown : sZ.vm.findClass RX5 = some mZ.cls := hown
  have hl : lv_has ls 3 [(0, .ref qm)] := hl
  have hnn := hY.n
  have hho := hY.hr
  refine lv_iconst (v := iI 0) hx hb dX5_brightestNow_0 rfl ?_
  refine lv_istore_n (lv' := [(1, .int (iI 0)), (0, .ref qm)]) hx hb dX5_brightestNow_1 rfl hl (by decide) rfl (fun ls hl => ?_)
  refine lv_iconst (v := iI 1) hx hb dX5_brightestNow_2 rfl ?_
  refine lv_istore_n (lv' := [(2, .int (iI 1)), (1, .int (iI 0)), (0, .ref qm)]) hx hb dX5_brightestNow_3 rfl hl (by decide) rfl (fun ls hl => ?_)
  have L4 : ∀ (k_1 : Nat) (k : Int) (gk : 1 ≤ k) (gl : k ≤ 8) (ls : Array Slot), lv_has ls 3 [(0, .ref qm), (1, .int (iI (brK n h (k - 1)))), (2, .int (iI k))] → (8 - k).toNat < k_1 → W pZ l eZ ({ frames := 4, cells := 0, slots := 0, locals := 95 } : Room) sZ mZ [.ref qm].toArray bZ meZ cZ sZ.heap [] 0 0 (MQ bZ (vp_Si (fun y9 => y9 = iI (brK n h 7))) [.ref qm].toArray sZ 0 0 (fun _ => False)) (F0 mZ 4 ls []) := by
    intro k_1
    induction k_1 with
    | zero => intro k gk gl ls hl hm_3; exact absurd hm_3 (Nat.not_lt_zero _)
    | succ k_1 ih_2 =>
      intro k gk gl ls hl hm_3
      have b_4 : 0 ≤ brK n h (k - 1) ∧ brK n h (k - 1) ≤ k - 1 := brK_rg n h (by omega)
      refine lv_iload_n hx hb dX5_brightestNow_4 rfl (lv_at hl 2 rfl) ?_
      refine lv_bipush (v := iI 8) hx hb dX5_brightestNow_5 (by decide) ?_
      refine ln_icmp_ge (tgt := 35) hx hb dX5_brightestNow_7 (by decide) ⟨by omega, by omega⟩ (by decide) (fun c_5 => ?_) (fun c_5 => ?_)
      · skip
        refine lv_iload_n hx hb dX5_brightestNow_35 rfl (lv_at hl 1 rfl) ?_
        exact pend_i hx hb hr hlk hS rfl (by rw [show k - 1 = 7 by omega]) dX5_brightestNow_36
      · skip
        refine lv_aload_n hx hb dX5_brightestNow_10 rfl (lv_at hl 0 rfl) ?_
        refine lv_iload_n hx hb dX5_brightestNow_11 rfl (lv_at hl 2 rfl) ?_
        have hPc_6 := hP.sub (ws' := [(qm, .inr (5, [.int (iI th), .ref mz, .ref ms, .int (iI hn), .ref mp, .ref mb, .int (iI L), .ref m1, .ref m2, .ref m3, .ref mB, .ref mF, .ref mN, .ref mS, .int (iI sT), .ref mW, .long acc])), (mz, .inl (gI g, 326, .inl (aI (zF n ho h c)))), (m1, .inl (gI g, 8, .inl (aI sunX))), (m2, .inl (gI g, 8, .inl (aI sunY))), (m3, .inl (gI g, 8, .inl (aI sunS)))]) [0, 1, 2, 3, 4] rfl
        refine pc_i (va_runV (As := [.int (iI k)]) (rest := []) ⟨hx, hb, hml, hown, hts⟩ (c_X5_shaded l g qm th mz ms hn mp mb L m1 m2 m3 mB mF mN mS sT mW acc n ho h c k hY (by omega)) (cwV 1 hts gX5_brightestNow_X5_shaded rfl rfl rfl (by decide +kernel) ⟨Nat.le_of_ble_eq_true rfl, Nat.le_of_ble_eq_true rfl⟩) (puV hE hS hPc_6 rfl rfl) rfl rfl hl.1 rfl (lv_room (Nat.le_of_ble_eq_true rfl)) dX5_brightestNow_12 ⟨Nat.le_of_ble_eq_true rfl, Nat.le_of_ble_eq_true rfl⟩) ?_
        have r_7 : 0 ≤ shK n h k n ∧ shK n h k n ≤ 36 := by have := YOk.n hY; have := @shK_rg n h k (by omega) n (by omega); omega
        refine lv_aload_n hx hb dX5_brightestNow_15 rfl (lv_at hl 0 rfl) ?_
        refine lv_iload_n hx hb dX5_brightestNow_16 rfl (lv_at hl 1 rfl) ?_
        have hPc_8 := hP.sub (ws' := [(qm, .inr (5, [.int (iI th), .ref mz, .ref ms, .int (iI hn), .ref mp, .ref mb, .int (iI L), .ref m1, .ref m2, .ref m3, .ref mB, .ref mF, .ref mN, .ref mS, .int (iI sT), .ref mW, .long acc])), (mz, .inl (gI g, 326, .inl (aI (zF n ho h c)))), (m1, .inl (gI g, 8, .inl (aI sunX))), (m2, .inl (gI g, 8, .inl (aI sunY))), (m3, .inl (gI g, 8, .inl (aI sunS)))]) [0, 1, 2, 3, 4] rfl
        refine pc_i (va_runV (As := [.int (iI (brK n h (k - 1)))]) (rest := [.int (iI (shK n h k n))]) ⟨hx, hb, hml, hown, hts⟩ (c_X5_shaded l g qm th mz ms hn mp mb L m1 m2 m3 mB mF mN mS sT mW acc n ho h c (brK n h (k - 1)) hY (by omega)) (cwV 1 hts gX5_brightestNow_X5_shaded rfl rfl rfl (by decide +kernel) ⟨Nat.le_of_ble_eq_true rfl, Nat.le_of_ble_eq_true rfl⟩) (puV hE hS hPc_8 rfl rfl) rfl rfl hl.1 rfl (lv_room (Nat.le_of_ble_eq_true rfl)) dX5_brightestNow_17 ⟨Nat.le_of_ble_eq_true rfl, Nat.le_of_ble_eq_true rfl⟩) ?_
        have r_9 : 0 ≤ shK n h (brK n h (k - 1)) n ∧ shK n h (brK n h (k - 1)) n ≤ 36 := by have := YOk.n hY; have := @shK_rg n h (brK n h (k - 1)) (by omega) n (by omega); omega
        refine ln_icmp_ge (tgt := 27) hx hb dX5_brightestNow_20 (by decide) ⟨by omega, by omega⟩ ⟨by omega, by omega⟩ (fun c_10 => ?_) (fun c_10 => ?_)
        · skip
          refine lv_iload_n hx hb dX5_brightestNow_27 rfl (lv_at hl 1 rfl) ?_
          refine lv_istore_n (lv' := [(1, .int (iI (brK n h (k - 1)))), (0, .ref qm), (2, .int (iI k))]) hx hb dX5_brightestNow_28 rfl hl (by decide) rfl (fun ls hl => ?_)
          refine lv_iinc (v := iI (k + 1)) (lv' := [(2, .int (iI (k + 1))), (1, .int (iI (brK n h (k - 1)))), (0, .ref qm)]) hx hb dX5_brightestNow_29 hl (k := 2) rfl (iI_add _ _) (by decide) rfl (fun ls hl => ?_)
          refine lv_goto (tgt := 4) hx hb dX5_brightestNow_32 (by decide) ?_
          have hl := lv_re hl 1 rfl (.int (iI (brK n h ((k + 1) - 1)))) (congrArg (fun z => Value.int (iI z)) (show brK n h (k - 1) = brK n h ((k + 1) - 1) from by have e8 := least_br (n := n) (h := h) (k := k - 1) (by omega); have e9 := brK_s (n := n) (h := h) (k := k - 1) (by omega); rw [show k - 1 + 1 = k by omega] at e9; rw [show k + 1 - 1 = k by omega, e9]; first | (rw [if_pos (by omega)]) | (rw [if_neg (by omega)])))
          have hl : lv_has ls 3 [(2, .int (iI (k + 1))), (1, .int (iI (brK n h ((k + 1) - 1)))), (0, .ref qm)] := hl
          exact ih_2 (k + 1) (by omega) (by omega) _ (lv_sub hl [2, 1, 0] rfl) (by omega)
        · skip
          refine lv_iload_n hx hb dX5_brightestNow_23 rfl (lv_at hl 2 rfl) ?_
          refine lv_goto (tgt := 28) hx hb dX5_brightestNow_24 (by decide) ?_
          refine lv_istore_n (lv' := [(1, .int (iI k)), (0, .ref qm), (2, .int (iI k))]) hx hb dX5_brightestNow_28 rfl hl (by decide) rfl (fun ls hl => ?_)
          refine lv_iinc (v := iI (k + 1)) (lv' := [(2, .int (iI (k + 1))), (1, .int (iI k)), (0, .ref qm)]) hx hb dX5_brightestNow_29 hl (k := 2) rfl (iI_add _ _) (by decide) rfl (fun ls hl => ?_)
          refine lv_goto (tgt := 4) hx hb dX5_brightestNow_32 (by decide) ?_
          have hl := lv_re hl 1 rfl (.int (iI (brK n h ((k + 1) - 1)))) (congrArg (fun z => Value.int (iI z)) (show k = brK n h ((k + 1) - 1) from by have e8 := least_br (n := n) (h := h) (k := k - 1) (by omega); have e9 := brK_s (n := n) (h := h) (k := k - 1) (by omega); rw [show k - 1 + 1 = k by omega] at e9; rw [show k + 1 - 1 = k by omega, e9]; first | (rw [if_pos (by omega)]) | (rw [if_neg (by omega)])))
          have hl : lv_has ls 3 [(2, .int (iI (k + 1))), (1, .int (iI (brK n h ((k + 1) - 1)))), (0, .ref qm)] := hl
          exact ih_2 (k + 1) (by omega) (by omega) _ (lv_sub hl [2, 1, 0] rfl) (by omega)
  have hl := lv_re hl 1 rfl (.int (iI (brK n h (1 - 1)))) (congrArg (fun z => Value.int (iI z)) (show 0 = brK n h (1 - 1) from rfl))
  have hl : lv_has ls 3 [(2, .int (iI 1)), (1, .int (iI (brK n h (1 - 1)))), (0, .ref qm)] := hl
  exact L4 _ 1 (by omega) (by omega) _ (lv_sub hl [2, 1, 0] rfl) (Nat.lt_succ_self _)
set_option maxHeartbeats 800000 in
set_option maxRecDepth 100000 in
theorem c_X5_mostAlike (l : Launch) (g : GT) (qm : Nat) (th : Int) (mz : Nat) (ms : Nat) (hn : Int) (mp : Nat) (mb : Nat) (L : Int) (m1 : Nat) (m2 : Nat) (m3 : Nat) (mB : Nat) (mF : Nat) (mN : Nat) (mS : Nat) (sT : Int) (mW : Nat) (acc : Int64) (n : Int) (ho : Int) (h : Int → Int) (c : Int → Int) (hY : YOk n ho h c) : MetI l yX5_mostAlike wsX5_mostAlike ({ frames := 3, cells := 0, slots := 0, locals := 69 }) g [(qm, .inr (5, [.int (iI th), .ref mz, .ref ms, .int (iI hn), .ref mp, .ref mb, .int (iI L), .ref m1, .ref m2, .ref m3, .ref mB, .ref mF, .ref mN, .ref mS, .int (iI sT), .ref mW, .long acc])), (mz, .inl (gI g, 326, .inl (aI (zF n ho h c))))] [.ref qm] (mostK n h n) := by
  refine pure_of (cc := cX5_mostAlike) (maxL := 5) (ret := (some .int)) (by decide) rfl (Nat.le_of_ble_eq_true rfl) ?_
  intro pZ eZ sZ mZ bZ meZ cZ F hP hE hS ls hl
  obtain ⟨hx, hb, hr, hml, hts, hown, hlk⟩ := F
  have hown : sZ.vm.findClass RX5 = some mZ.cls := hown
  have hl : lv_has ls 5 [(0, .ref qm)] := hl
  have w0 := hts (.fieldLink RX5 7 "SlantYardModel" "z" "[I") (by decide +kernel)
  have in5 : ∀ w ∈ u_ws RX5 TX5 17, w ∈ wsX5_mostAlike := by decide +kernel
  have hnn := hY.n
  have hho := hY.hr
  have hsq9 := sqn hnn
  refine lv_iconst (v := iI 0) hx hb dX5_mostAlike_0 rfl ?_
  refine lv_istore_n (lv' := [(1, .int (iI 0)), (0, .ref qm)]) hx hb dX5_mostAlike_1 rfl hl (by decide) rfl (fun ls hl => ?_)
  refine lv_iconst (v := iI 0) hx hb dX5_mostAlike_2 rfl ?_
  refine lv_istore_n (lv' := [(2, .int (iI 0)), (1, .int (iI 0)), (0, .ref qm)]) hx hb dX5_mostAlike_3 rfl hl (by decide) rfl (fun ls hl => ?_)
  have L4 : ∀ (k_1 : Nat) (k : Int) (gk : 0 ≤ k) (gl : k ≤ n * n) (ls : Array Slot), lv_has ls 5 [(0, .ref qm), (1, .int (iI (mlK n h k))), (2, .int (iI k))] → (n * n - k).toNat < k_1 → W pZ l eZ ({ frames := 3, cells := 0, slots := 0, locals := 69 } : Room) sZ mZ [.ref qm].toArray bZ meZ cZ sZ.heap [] 0 0 (MQ bZ (vp_Si (fun y9 => y9 = iI (mostK n h n))) [.ref qm].toArray sZ 0 0 (fun _ => False)) (F0 mZ 4 ls []) := by
    intro k_1
    induction k_1 with
    | zero => intro k gk gl ls hl hm_3; exact absurd hm_3 (Nat.not_lt_zero _)
    | succ k_1 ih_2 =>
      intro k gk gl ls hl hm_3
      have b_4 : 0 ≤ mlK n h k ∧ mlK n h k ≤ k * 8 := mlK_rg (YOk.h hY) (by omega) gk
      refine lv_iload_n hx hb dX5_mostAlike_4 rfl (lv_at hl 2 rfl) ?_
      refine lv_aload_n hx hb dX5_mostAlike_5 rfl (lv_at hl 0 rfl) ?_
      refine va_get (D := g.1) (ci := 5) (v := .ref mz) (C := RX5) (T := TX5) (N := 17) hx hb hts in5 hown hE.1 hP 0 rfl rfl 1 (by decide) w0 (fun _ h9 => h9) rfl dX5_mostAlike_6 ?_
      refine lv_iconst (v := iI 0) hx hb dX5_mostAlike_9 rfl ?_
      refine ln_iald hx hb hE hP 1 rfl (by decide) (by decide) (Nat.le_of_ble_eq_true rfl) n (rfl) dX5_mostAlike_10 ?_
      refine lv_aload_n hx hb dX5_mostAlike_11 rfl (lv_at hl 0 rfl) ?_
      refine va_get (D := g.1) (ci := 5) (v := .ref mz) (C := RX5) (T := TX5) (N := 17) hx hb hts in5 hown hE.1 hP 0 rfl rfl 1 (by decide) w0 (fun _ h9 => h9) rfl dX5_mostAlike_12 ?_
      refine lv_iconst (v := iI 0) hx hb dX5_mostAlike_15 rfl ?_
      refine ln_iald hx hb hE hP 1 rfl (by decide) (by decide) (Nat.le_of_ble_eq_true rfl) n (rfl) dX5_mostAlike_16 ?_
      refine ln_imul hx hb (n * n) (rfl) dX5_mostAlike_17 ?_
      refine ln_icmp_ge (tgt := 71) hx hb dX5_mostAlike_18 (by decide) ⟨by omega, by omega⟩ ⟨by omega, by omega⟩ (fun c_5 => ?_) (fun c_5 => ?_)
      · skip
        refine lv_iload_n hx hb dX5_mostAlike_71 rfl (lv_at hl 1 rfl) ?_
        exact pend_i hx hb hr hlk hS rfl (by (rw [show k = n * n by omega]; exact mlK_all hnn h)) dX5_mostAlike_72
      · skip
        have hdv9 := divn hnn gk (by omega)
        refine lv_aload_n hx hb dX5_mostAlike_21 rfl (lv_at hl 0 rfl) ?_
        refine lv_iconst (v := iI 0) hx hb dX5_mostAlike_22 rfl ?_
        refine lv_iload_n hx hb dX5_mostAlike_23 rfl (lv_at hl 2 rfl) ?_
        refine lv_aload_n hx hb dX5_mostAlike_24 rfl (lv_at hl 0 rfl) ?_
        refine va_get (D := g.1) (ci := 5) (v := .ref mz) (C := RX5) (T := TX5) (N := 17) hx hb hts in5 hown hE.1 hP 0 rfl rfl 1 (by decide) w0 (fun _ h9 => h9) rfl dX5_mostAlike_25 ?_
        refine lv_iconst (v := iI 0) hx hb dX5_mostAlike_28 rfl ?_
        refine ln_iald hx hb hE hP 1 rfl (by decide) (by decide) (Nat.le_of_ble_eq_true rfl) n (rfl) dX5_mostAlike_29 ?_
        refine ln_idiv hx hb (by omega) (by omega) (by omega) (by omega) (k / n) (rfl) dX5_mostAlike_30 ?_
        have hPc_6 := hP.sub (ws' := [(qm, .inr (5, [.int (iI th), .ref mz, .ref ms, .int (iI hn), .ref mp, .ref mb, .int (iI L), .ref m1, .ref m2, .ref m3, .ref mB, .ref mF, .ref mN, .ref mS, .int (iI sT), .ref mW, .long acc])), (mz, .inl (gI g, 326, .inl (aI (zF n ho h c))))]) [0, 1] rfl
        refine pc_i (va_runV (As := [.int (iI 0), .int (iI (k / n))]) (rest := []) ⟨hx, hb, hml, hown, hts⟩ (c_X5_tallest l g qm th mz ms hn mp mb L m1 m2 m3 mB mF mN mS sT mW acc n ho h c 0 (k / n) hY (by omega) (hdv9.1.1) (hdv9.1.2)) (cwV 2 hts gX5_mostAlike_X5_tallest rfl rfl rfl (by decide +kernel) ⟨Nat.le_of_ble_eq_true rfl, Nat.le_of_ble_eq_true rfl⟩) (puV hE hS hPc_6 rfl rfl) rfl rfl hl.1 rfl (lv_room (Nat.le_of_ble_eq_true rfl)) dX5_mostAlike_31 ⟨Nat.le_of_ble_eq_true rfl, Nat.le_of_ble_eq_true rfl⟩) ?_
        have r_7 : 0 ≤ greatK h 0 (k / n) n ∧ greatK h 0 (k / n) n ≤ 8 := greatK_rg (YOk.h hY) 0 (k / n) (by have := YOk.n hY; omega)
        refine lv_istore_n (lv' := [(3, .int (iI (greatK h 0 (k / n) n))), (0, .ref qm), (1, .int (iI (mlK n h k))), (2, .int (iI k))]) hx hb dX5_mostAlike_34 rfl hl (by decide) rfl (fun ls hl => ?_)
        refine lv_aload_n hx hb dX5_mostAlike_35 rfl (lv_at hl 1 rfl) ?_
        refine lv_iconst (v := iI 1) hx hb dX5_mostAlike_36 rfl ?_
        refine lv_iload_n hx hb dX5_mostAlike_37 rfl (lv_at hl 3 rfl) ?_
        refine lv_aload_n hx hb dX5_mostAlike_38 rfl (lv_at hl 1 rfl) ?_
        refine va_get (D := g.1) (ci := 5) (v := .ref mz) (C := RX5) (T := TX5) (N := 17) hx hb hts in5 hown hE.1 hP 0 rfl rfl 1 (by decide) w0 (fun _ h9 => h9) rfl dX5_mostAlike_39 ?_
        refine lv_iconst (v := iI 0) hx hb dX5_mostAlike_42 rfl ?_
        refine ln_iald hx hb hE hP 1 rfl (by decide) (by decide) (Nat.le_of_ble_eq_true rfl) n (rfl) dX5_mostAlike_43 ?_
        refine ln_irem hx hb (by omega) (by omega) (by omega) (by omega) (k % n) (rfl) dX5_mostAlike_44 ?_
        have hPc_8 := hP.sub (ws' := [(qm, .inr (5, [.int (iI th), .ref mz, .ref ms, .int (iI hn), .ref mp, .ref mb, .int (iI L), .ref m1, .ref m2, .ref m3, .ref mB, .ref mF, .ref mN, .ref mS, .int (iI sT), .ref mW, .long acc])), (mz, .inl (gI g, 326, .inl (aI (zF n ho h c))))]) [0, 1] rfl
        refine pc_i (va_runV (As := [.int (iI 1), .int (iI (k % n))]) (rest := []) ⟨hx, hb, hml, hown, hts⟩ (c_X5_tallest l g qm th mz ms hn mp mb L m1 m2 m3 mB mF mN mS sT mW acc n ho h c 1 (k % n) hY (by omega) (hdv9.2.1) (hdv9.2.2)) (cwV 2 hts gX5_mostAlike_X5_tallest rfl rfl rfl (by decide +kernel) ⟨Nat.le_of_ble_eq_true rfl, Nat.le_of_ble_eq_true rfl⟩) (puV hE hS hPc_8 rfl rfl) rfl rfl hl.1 rfl (lv_room (Nat.le_of_ble_eq_true rfl)) dX5_mostAlike_45 ⟨Nat.le_of_ble_eq_true rfl, Nat.le_of_ble_eq_true rfl⟩) ?_
        have r_9 : 0 ≤ greatK h 1 (k % n) n ∧ greatK h 1 (k % n) n ≤ 8 := greatK_rg (YOk.h hY) 1 (k % n) (by have := YOk.n hY; omega)
        refine lv_istore (lv' := [(4, .int (iI (greatK h 1 (k % n) n))), (3, .int (iI (greatK h 0 (k / n) n))), (0, .ref qm), (1, .int (iI (mlK n h k))), (2, .int (iI k))]) hx hb dX5_mostAlike_48 hl (by decide) rfl (fun ls hl => ?_)
        refine lv_iload_n hx hb dX5_mostAlike_50 rfl (lv_at hl 3 rfl) ?_
        refine lv_iload_n hx hb dX5_mostAlike_51 rfl (lv_at hl 1 rfl) ?_
        refine lv_iload hx hb dX5_mostAlike_52 (lv_at hl 0 rfl) ?_
        refine ln_icmp_ge (tgt := 61) hx hb dX5_mostAlike_54 (by decide) ⟨by omega, by omega⟩ ⟨by omega, by omega⟩ (fun c_10 => ?_) (fun c_10 => ?_)
        · skip
          refine lv_iload hx hb dX5_mostAlike_61 (lv_at hl 0 rfl) ?_
          refine ln_iadd hx hb ((mlK n h k) + greatK h 1 (k % n) n) (rfl) dX5_mostAlike_63 ?_
          refine lv_istore_n (lv' := [(1, .int (iI ((mlK n h k) + greatK h 1 (k % n) n))), (4, .int (iI (greatK h 1 (k % n) n))), (3, .int (iI (greatK h 0 (k / n) n))), (0, .ref qm), (2, .int (iI k))]) hx hb dX5_mostAlike_64 rfl hl (by decide) rfl (fun ls hl => ?_)
          refine lv_iinc (v := iI (k + 1)) (lv' := [(2, .int (iI (k + 1))), (1, .int (iI ((mlK n h k) + greatK h 1 (k % n) n))), (4, .int (iI (greatK h 1 (k % n) n))), (3, .int (iI (greatK h 0 (k / n) n))), (0, .ref qm)]) hx hb dX5_mostAlike_65 hl (k := 4) rfl (iI_add _ _) (by decide) rfl (fun ls hl => ?_)
          refine lv_goto (tgt := 4) hx hb dX5_mostAlike_68 (by decide) ?_
          have hl := lv_re hl 1 rfl (.int (iI (mlK n h (k + 1)))) (congrArg (fun z => Value.int (iI z)) (show (mlK n h k) + greatK h 1 (k % n) n = mlK n h (k + 1) from by rw [mlK_s gk]; unfold minI; split <;> first | rfl | omega))
          have hl : lv_has ls 5 [(2, .int (iI (k + 1))), (1, .int (iI (mlK n h (k + 1)))), (4, .int (iI (greatK h 1 (k % n) n))), (3, .int (iI (greatK h 0 (k / n) n))), (0, .ref qm)] := hl
          exact ih_2 (k + 1) (by omega) (by omega) _ (lv_sub hl [4, 1, 0] rfl) (by omega)
        · skip
          refine lv_iload_n hx hb dX5_mostAlike_57 rfl (lv_at hl 1 rfl) ?_
          refine lv_goto (tgt := 63) hx hb dX5_mostAlike_58 (by decide) ?_
          refine ln_iadd hx hb ((mlK n h k) + greatK h 0 (k / n) n) (rfl) dX5_mostAlike_63 ?_
          refine lv_istore_n (lv' := [(1, .int (iI ((mlK n h k) + greatK h 0 (k / n) n))), (4, .int (iI (greatK h 1 (k % n) n))), (3, .int (iI (greatK h 0 (k / n) n))), (0, .ref qm), (2, .int (iI k))]) hx hb dX5_mostAlike_64 rfl hl (by decide) rfl (fun ls hl => ?_)
          refine lv_iinc (v := iI (k + 1)) (lv' := [(2, .int (iI (k + 1))), (1, .int (iI ((mlK n h k) + greatK h 0 (k / n) n))), (4, .int (iI (greatK h 1 (k % n) n))), (3, .int (iI (greatK h 0 (k / n) n))), (0, .ref qm)]) hx hb dX5_mostAlike_65 hl (k := 4) rfl (iI_add _ _) (by decide) rfl (fun ls hl => ?_)
          refine lv_goto (tgt := 4) hx hb dX5_mostAlike_68 (by decide) ?_
          have hl := lv_re hl 1 rfl (.int (iI (mlK n h (k + 1)))) (congrArg (fun z => Value.int (iI z)) (show (mlK n h k) + greatK h 0 (k / n) n = mlK n h (k + 1) from by rw [mlK_s gk]; unfold minI; split <;> first | rfl | omega))
          have hl : lv_has ls 5 [(2, .int (iI (k + 1))), (1, .int (iI (mlK n h (k + 1)))), (4, .int (iI (greatK h 1 (k % n) n))), (3, .int (iI (greatK h 0 (k / n) n))), (0, .ref qm)] := hl
          exact ih_2 (k + 1) (by omega) (by omega) _ (lv_sub hl [4, 1, 0] rfl) (by omega)
  have hl := lv_re hl 1 rfl (.int (iI (mlK n h 0))) (congrArg (fun z => Value.int (iI z)) (show 0 = mlK n h 0 from rfl))
  have hl : lv_has ls 5 [(2, .int (iI 0)), (1, .int (iI (mlK n h 0))), (0, .ref qm)] := hl
  exact L4 _ 0 (by omega) (by omega) _ (lv_sub hl [2, 1, 0] rfl) (Nat.lt_succ_self _)
set_option maxHeartbeats 800000 in
set_option maxRecDepth 100000 in
theorem c_X5_save (l : Launch) (g : GT) (qm : Nat) (th : Int) (mz : Nat) (ms : Nat) (hn : Int) (mp : Nat) (mb : Nat) (L : Int) (m1 : Nat) (m2 : Nat) (m3 : Nat) (mB : Nat) (mF : Nat) (mN : Nat) (mS : Nat) (sT : Int) (mW : Nat) (acc : Int64) (n : Int) (ho : Int) (h : Int → Int) (c : Int → Int) (f : Int → Int) (hh : 0 ≤ hn ∧ hn ≤ 6) : MutV l yX5_save wsX5_save ({ frames := 0, cells := 0, slots := 0, locals := 0 }) 0 0 g [(qm, .inr (5, [.int (iI th), .ref mz, .ref ms, .int (iI hn), .ref mp, .ref mb, .int (iI L), .ref m1, .ref m2, .ref m3, .ref mB, .ref mF, .ref mN, .ref mS, .int (iI sT), .ref mW, .long acc])), (mz, .inl (gI g, 326, .inl (aI (zF n ho h c)))), (ms, .inl (gI g, 1956, .inl (aI f)))] [.ref qm] (S := Unit) (fun _ => True) (fun _ => [(qm, .inr (5, [.int (iI th), .ref mz, .ref ms, .int (iI (svL hn + 1)), .ref mp, .ref mb, .int (iI L), .ref m1, .ref m2, .ref m3, .ref mB, .ref mF, .ref mN, .ref mS, .int (iI sT), .ref mW, .long acc])), (mz, .inl (gI g, 326, .inl (aI (zF n ho h c)))), (ms, .inl (gI g, 1956, .inl (aI ((svM (olF f hn) (svL hn) (zF n ho h c) 326)))))]) := by
  refine mut_of (y := yX5_save) (ws := wsX5_save) (av := [.ref qm]) (w := [(qm, .inr (5, [.int (iI th), .ref mz, .ref ms, .int (iI hn), .ref mp, .ref mb, .int (iI L), .ref m1, .ref m2, .ref m3, .ref mB, .ref mF, .ref mN, .ref mS, .int (iI sT), .ref mW, .long acc])), (mz, .inl (gI g, 326, .inl (aI (zF n ho h c)))), (ms, .inl (gI g, 1956, .inl (aI f)))]) (Qc := fun A => va_Qv (fun (u9 : Unit) => (fun _ => True) u9) (fun u9 t9 => MB g ((fun _ => [(qm, .inr (5, [.int (iI th), .ref mz, .ref ms, .int (iI (svL hn + 1)), .ref mp, .ref mb, .int (iI L), .ref m1, .ref m2, .ref m3, .ref mB, .ref mF, .ref mN, .ref mS, .int (iI sT), .ref mW, .long acc])), (mz, .inl (gI g, 326, .inl (aI (zF n ho h c)))), (ms, .inl (gI g, 1956, .inl (aI ((svM (olF f hn) (svL hn) (zF n ho h c) 326)))))]) u9) A t9) A) (cc := cX5_save) (maxL := 2) (ret := none) (by decide) rfl (Nat.le_of_ble_eq_true rfl) ?_
  intro pZ eZ sZ mZ bZ meZ cZ A F hin hA hP hD hE hS ls hl
  obtain ⟨hx, hb, hr, hml, hts, hown, hlk⟩ := F
  skip
  have hown : sZ.vm.findClass RX5 = some mZ.cls := hown
  have hl : lv_has ls 2 [(0, .ref qm)] := hl
  skip
  have w0 := hts (.fieldLink RX5 55 "SlantYardModel" "savedMany" "I") (by decide +kernel)
  have w1 := hts (.fieldLink RX5 13 "SlantYardModel" "saved" "[I") (by decide +kernel)
  have w2 := hts (.fieldLink RX5 7 "SlantYardModel" "z" "[I") (by decide +kernel)
  have in5 : ∀ w ∈ u_ws RX5 TX5 17, w ∈ wsX5_save := by decide +kernel
  refine lv_aload_n hx hb dX5_save_0 rfl (lv_at hl 0 rfl) ?_
  refine va_get (D := g.1) (ci := 5) (v := .int (iI hn)) (C := RX5) (T := TX5) (N := 17) hx hb hts in5 hown hE.1 hP 0 rfl rfl 3 (by decide) w0 (fun _ h9 => h9) rfl dX5_save_1 ?_
  refine lv_bipush (v := iI 6) hx hb dX5_save_4 (by decide) ?_
  refine ln_icmp_ne (tgt := 50) hx hb dX5_save_6 (by decide) ⟨by omega, by omega⟩ (by decide) (fun c_1 => ?_) (fun c_1 => ?_)
  · skip
    have hP := hP.recell 2 rfl (olF f hn) (fun j _ _ => by unfold olF; rw [if_neg (by omega)])
    have hD := hD.set (p := 2) (e := .inl (gI g, 1956, .inl (aI (olF f hn)))) rfl
    have hP : va_P g.1 vwCl [(qm, .inr (5, [.int (iI th), .ref mz, .ref ms, .int (iI hn), .ref mp, .ref mb, .int (iI L), .ref m1, .ref m2, .ref m3, .ref mB, .ref mF, .ref mN, .ref mS, .int (iI sT), .ref mW, .long acc])), (mz, .inl (gI g, 326, .inl (aI (zF n ho h c)))), (ms, .inl (gI g, 1956, .inl (aI (olF f hn))))] _ := hP
    have hD : va_D A [(qm, .inr (5, [.int (iI th), .ref mz, .ref ms, .int (iI hn), .ref mp, .ref mb, .int (iI L), .ref m1, .ref m2, .ref m3, .ref mB, .ref mF, .ref mN, .ref mS, .int (iI sT), .ref mW, .long acc])), (mz, .inl (gI g, 326, .inl (aI (zF n ho h c)))), (ms, .inl (gI g, 1956, .inl (aI (olF f hn))))] := hD
    have hf_2 : hn = (svL hn) := by unfold svL; rw [if_neg (by omega)]
    have hP := hP.recl 0 rfl (.inr (5, [.int (iI th), .ref mz, .ref ms, .int (iI (svL hn)), .ref mp, .ref mb, .int (iI L), .ref m1, .ref m2, .ref m3, .ref mB, .ref mF, .ref mN, .ref mS, .int (iI sT), .ref mW, .long acc])) (congrArg (fun z9 => (Sum.inr (5, [.int (iI th), .ref mz, .ref ms, .int (iI z9), .ref mp, .ref mb, .int (iI L), .ref m1, .ref m2, .ref m3, .ref mB, .ref mF, .ref mN, .ref mS, .int (iI sT), .ref mW, .long acc]) : va_E)) hf_2)
    have hD := hD.set (p := 0) (e := .inr (5, [.int (iI th), .ref mz, .ref ms, .int (iI (svL hn)), .ref mp, .ref mb, .int (iI L), .ref m1, .ref m2, .ref m3, .ref mB, .ref mF, .ref mN, .ref mS, .int (iI sT), .ref mW, .long acc])) rfl
    have hsl9 : 0 ≤ svL hn ∧ svL hn ≤ 5 := by unfold svL; split <;> omega
    refine lv_iconst (v := iI 0) hx hb dX5_save_50 rfl ?_
    refine lv_istore_n (lv' := [(1, .int (iI 0)), (0, .ref qm)]) hx hb dX5_save_51 rfl hl (by decide) rfl (fun ls hl => ?_)
    have L52 : ∀ (k_3 : Nat) (k : Int) (gk : 0 ≤ k) (gl : k ≤ 326) (H : Heap) (locs : List Loc), va_P g.1 vwCl [(qm, .inr (5, [.int (iI th), .ref mz, .ref ms, .int (iI (svL hn)), .ref mp, .ref mb, .int (iI L), .ref m1, .ref m2, .ref m3, .ref mB, .ref mF, .ref mN, .ref mS, .int (iI sT), .ref mW, .long acc])), (mz, .inl (gI g, 326, .inl (aI (zF n ho h c)))), (ms, .inl (gI g, 1956, .inl (aI ((svM (olF f hn) (svL hn) (zF n ho h c) k)))))] H → va_D A [(qm, .inr (5, [.int (iI th), .ref mz, .ref ms, .int (iI (svL hn)), .ref mp, .ref mb, .int (iI L), .ref m1, .ref m2, .ref m3, .ref mB, .ref mF, .ref mN, .ref mS, .int (iI sT), .ref mW, .long acc])), (mz, .inl (gI g, 326, .inl (aI (zF n ho h c)))), (ms, .inl (gI g, 1956, .inl (aI ((svM (olF f hn) (svL hn) (zF n ho h c) k)))))] → va_S A sZ.heap H locs → ∀ (ls : Array Slot), lv_has ls 2 [(0, .ref qm), (1, .int (iI k))] → (326 - k).toNat < k_3 → W pZ l eZ ({ frames := 0, cells := 0, slots := 0, locals := 0 } : Room) sZ mZ [.ref qm].toArray bZ meZ cZ H locs 0 0 (MQ bZ (va_Qv (fun (u9 : Unit) => (fun _ => True) u9) (fun u9 t9 => MB g ((fun _ => [(qm, .inr (5, [.int (iI th), .ref mz, .ref ms, .int (iI (svL hn + 1)), .ref mp, .ref mb, .int (iI L), .ref m1, .ref m2, .ref m3, .ref mB, .ref mF, .ref mN, .ref mS, .int (iI sT), .ref mW, .long acc])), (mz, .inl (gI g, 326, .inl (aI (zF n ho h c)))), (ms, .inl (gI g, 1956, .inl (aI ((svM (olF f hn) (svL hn) (zF n ho h c) 326)))))]) u9) A t9) A) [.ref qm].toArray sZ 0 0 A) (F0 mZ 52 ls []) := by
      intro k_3
      induction k_3 with
      | zero => intro k gk gl H locs hP hD hS ls hl hm_5; exact absurd hm_5 (Nat.not_lt_zero _)
      | succ k_3 ih_4 =>
        intro k gk gl H locs hP hD hS ls hl hm_5
        refine lv_iload_n hx hb dX5_save_52 rfl (lv_at hl 1 rfl) ?_
        refine lv_sipush (v := iI 326) hx hb dX5_save_53 (by decide) ?_
        refine ln_icmp_ge (tgt := 86) hx hb dX5_save_56 (by decide) ⟨by omega, by omega⟩ (by decide) (fun c_6 => ?_) (fun c_6 => ?_)
        · skip
          refine lv_aload_n hx hb dX5_save_86 rfl (lv_at hl 0 rfl) ?_
          refine lv_dup hx hb dX5_save_87 rfl ?_
          refine va_get (D := g.1) (ci := 5) (v := .int (iI (svL hn))) (C := RX5) (T := TX5) (N := 17) hx hb hts in5 hown hE.1 hP 0 rfl rfl 3 (by decide) w0 (fun _ h9 => h9) rfl dX5_save_88 ?_
          refine lv_iconst (v := iI 1) hx hb dX5_save_91 rfl ?_
          refine ln_iadd hx hb ((svL hn) + 1) (rfl) dX5_save_92 ?_
          refine va_put (D := g.1) (ci := 5) (v := .int (iI ((svL hn) + 1))) (ty := .int) (C := RX5) (T := TX5) (N := 17) hx hb hts in5 tyX5 tyX5_ok nmX5 hown hE.1 hP hD hS 0 rfl rfl 3 (by decide) w0 (fun _ h9 => h9) rfl (by decide +kernel) rfl rfl (Nat.le_of_ble_eq_true rfl) dX5_save_93 (fun H locs hP hD hS => ?_)
          have hP : va_P g.1 vwCl [(qm, .inr (5, [.int (iI th), .ref mz, .ref ms, .int (iI ((svL hn) + 1)), .ref mp, .ref mb, .int (iI L), .ref m1, .ref m2, .ref m3, .ref mB, .ref mF, .ref mN, .ref mS, .int (iI sT), .ref mW, .long acc])), (mz, .inl (gI g, 326, .inl (aI (zF n ho h c)))), (ms, .inl (gI g, 1956, .inl (aI ((svM (olF f hn) (svL hn) (zF n ho h c) k)))))] H := hP
          have hD : va_D A [(qm, .inr (5, [.int (iI th), .ref mz, .ref ms, .int (iI ((svL hn) + 1)), .ref mp, .ref mb, .int (iI L), .ref m1, .ref m2, .ref m3, .ref mB, .ref mF, .ref mN, .ref mS, .int (iI sT), .ref mW, .long acc])), (mz, .inl (gI g, 326, .inl (aI (zF n ho h c)))), (ms, .inl (gI g, 1956, .inl (aI ((svM (olF f hn) (svL hn) (zF n ho h c) k)))))] := hD
          have hf_7 : (svL hn) + 1 = (svL hn + 1) := by omega
          have hP := hP.recl 0 rfl (.inr (5, [.int (iI th), .ref mz, .ref ms, .int (iI (svL hn + 1)), .ref mp, .ref mb, .int (iI L), .ref m1, .ref m2, .ref m3, .ref mB, .ref mF, .ref mN, .ref mS, .int (iI sT), .ref mW, .long acc])) (congrArg (fun z9 => (Sum.inr (5, [.int (iI th), .ref mz, .ref ms, .int (iI z9), .ref mp, .ref mb, .int (iI L), .ref m1, .ref m2, .ref m3, .ref mB, .ref mF, .ref mN, .ref mS, .int (iI sT), .ref mW, .long acc]) : va_E)) hf_7)
          have hD := hD.set (p := 0) (e := .inr (5, [.int (iI th), .ref mz, .ref ms, .int (iI (svL hn + 1)), .ref mp, .ref mb, .int (iI L), .ref m1, .ref m2, .ref m3, .ref mB, .ref mF, .ref mN, .ref mS, .int (iI sT), .ref mW, .long acc])) rfl
          have hP := hP.recell 2 rfl ((svM (olF f hn) (svL hn) (zF n ho h c) 326)) (fun j _ _ => by rw [show k = 326 by omega])
          have hD := hD.set (p := 2) (e := .inl (gI g, 1956, .inl (aI ((svM (olF f hn) (svL hn) (zF n ho h c) 326))))) rfl
          have hP : va_P g.1 vwCl [(qm, .inr (5, [.int (iI th), .ref mz, .ref ms, .int (iI (svL hn + 1)), .ref mp, .ref mb, .int (iI L), .ref m1, .ref m2, .ref m3, .ref mB, .ref mF, .ref mN, .ref mS, .int (iI sT), .ref mW, .long acc])), (mz, .inl (gI g, 326, .inl (aI (zF n ho h c)))), (ms, .inl (gI g, 1956, .inl (aI ((svM (olF f hn) (svL hn) (zF n ho h c) 326)))))] _ := hP
          have hD : va_D A [(qm, .inr (5, [.int (iI th), .ref mz, .ref ms, .int (iI (svL hn + 1)), .ref mp, .ref mb, .int (iI L), .ref m1, .ref m2, .ref m3, .ref mB, .ref mF, .ref mN, .ref mS, .int (iI sT), .ref mW, .long acc])), (mz, .inl (gI g, 326, .inl (aI (zF n ho h c)))), (ms, .inl (gI g, 1956, .inl (aI ((svM (olF f hn) (svL hn) (zF n ho h c) 326)))))] := hD
          exact mend_v (S := Unit) (w' := (fun _ => [(qm, .inr (5, [.int (iI th), .ref mz, .ref ms, .int (iI (svL hn + 1)), .ref mp, .ref mb, .int (iI L), .ref m1, .ref m2, .ref m3, .ref mB, .ref mF, .ref mN, .ref mS, .int (iI sT), .ref mW, .long acc])), (mz, .inl (gI g, 326, .inl (aI (zF n ho h c)))), (ms, .inl (gI g, 1956, .inl (aI ((svM (olF f hn) (svL hn) (zF n ho h c) 326)))))])) (post := (fun _ => True)) hx hb hr hlk hS () hP hD (trivial) (Nat.le_of_ble_eq_true rfl) (Nat.le_of_ble_eq_true rfl) dX5_save_96
        · skip
          refine lv_aload_n hx hb dX5_save_59 rfl (lv_at hl 0 rfl) ?_
          refine va_get (D := g.1) (ci := 5) (v := .ref ms) (C := RX5) (T := TX5) (N := 17) hx hb hts in5 hown hE.1 hP 0 rfl rfl 2 (by decide) w1 (fun _ h9 => h9) rfl dX5_save_60 ?_
          refine lv_aload_n hx hb dX5_save_63 rfl (lv_at hl 0 rfl) ?_
          refine va_get (D := g.1) (ci := 5) (v := .int (iI (svL hn))) (C := RX5) (T := TX5) (N := 17) hx hb hts in5 hown hE.1 hP 0 rfl rfl 3 (by decide) w0 (fun _ h9 => h9) rfl dX5_save_64 ?_
          refine lv_sipush (v := iI 326) hx hb dX5_save_67 (by decide) ?_
          refine ln_imul hx hb ((svL hn) * 326) (rfl) dX5_save_70 ?_
          refine lv_iload_n hx hb dX5_save_71 rfl (lv_at hl 1 rfl) ?_
          refine ln_iadd hx hb ((svL hn) * 326 + k) (rfl) dX5_save_72 ?_
          refine lv_aload_n hx hb dX5_save_73 rfl (lv_at hl 0 rfl) ?_
          refine va_get (D := g.1) (ci := 5) (v := .ref mz) (C := RX5) (T := TX5) (N := 17) hx hb hts in5 hown hE.1 hP 0 rfl rfl 1 (by decide) w2 (fun _ h9 => h9) rfl dX5_save_74 ?_
          refine lv_iload_n hx hb dX5_save_77 rfl (lv_at hl 1 rfl) ?_
          refine ln_iald hx hb hE hP 1 rfl (by omega) (by omega) (Nat.le_of_ble_eq_true rfl) ((zF n ho h c) k) (rfl) dX5_save_78 ?_
          refine ln_iast hx hb hE hP hD hS 2 rfl (by omega) (by omega) (Nat.le_of_ble_eq_true rfl) (updI ((svM (olF f hn) (svL hn) (zF n ho h c) k)) ((svL hn) * 326 + k) ((zF n ho h c) k)) (fun _ _ _ => rfl) dX5_save_79 (fun H locs hP hD hS => ?_)
          have hP : va_P g.1 vwCl [(qm, .inr (5, [.int (iI th), .ref mz, .ref ms, .int (iI (svL hn)), .ref mp, .ref mb, .int (iI L), .ref m1, .ref m2, .ref m3, .ref mB, .ref mF, .ref mN, .ref mS, .int (iI sT), .ref mW, .long acc])), (mz, .inl (gI g, 326, .inl (aI (zF n ho h c)))), (ms, .inl (gI g, 1956, .inl (aI (updI ((svM (olF f hn) (svL hn) (zF n ho h c) k)) ((svL hn) * 326 + k) ((zF n ho h c) k)))))] H := hP
          have hD : va_D A [(qm, .inr (5, [.int (iI th), .ref mz, .ref ms, .int (iI (svL hn)), .ref mp, .ref mb, .int (iI L), .ref m1, .ref m2, .ref m3, .ref mB, .ref mF, .ref mN, .ref mS, .int (iI sT), .ref mW, .long acc])), (mz, .inl (gI g, 326, .inl (aI (zF n ho h c)))), (ms, .inl (gI g, 1956, .inl (aI (updI ((svM (olF f hn) (svL hn) (zF n ho h c) k)) ((svL hn) * 326 + k) ((zF n ho h c) k)))))] := hD
          refine lv_iinc (v := iI (k + 1)) (lv' := [(1, .int (iI (k + 1))), (0, .ref qm)]) hx hb dX5_save_80 hl (k := 1) rfl (iI_add _ _) (by decide) rfl (fun ls hl => ?_)
          refine lv_goto (tgt := 52) hx hb dX5_save_83 (by decide) ?_
          have hl : lv_has ls 2 [(1, .int (iI (k + 1))), (0, .ref qm)] := hl
          have hP := hP.recell 2 rfl ((svM (olF f hn) (svL hn) (zF n ho h c) (k + 1))) (fun j _ _ => by have q9 := sv_s (f := olF f hn) (z := zF n ho h c) (m := svL hn) (k := k) (j := j); rw [if_pos gk] at q9; exact q9)
          have hD := hD.set (p := 2) (e := .inl (gI g, 1956, .inl (aI ((svM (olF f hn) (svL hn) (zF n ho h c) (k + 1)))))) rfl
          exact ih_4 (k + 1) (by omega) (by omega) _ _ hP hD hS _ (lv_sub hl [1, 0] rfl) (by omega)
    have hl : lv_has ls 2 [(1, .int (iI 0)), (0, .ref qm)] := hl
    have hP := hP.recell 2 rfl ((svM (olF f hn) (svL hn) (zF n ho h c) 0)) (fun j q7 _ => (if_neg (by omega)).symm)
    have hD := hD.set (p := 2) (e := .inl (gI g, 1956, .inl (aI ((svM (olF f hn) (svL hn) (zF n ho h c) 0))))) rfl
    exact L52 _ 0 (by omega) (by omega) _ _ hP hD hS _ (lv_sub hl [1, 0] rfl) (Nat.lt_succ_self _)
  · skip
    refine lv_iconst (v := iI 0) hx hb dX5_save_9 rfl ?_
    refine lv_istore_n (lv' := [(1, .int (iI 0)), (0, .ref qm)]) hx hb dX5_save_10 rfl hl (by decide) rfl (fun ls hl => ?_)
    have L11 : ∀ (k_8 : Nat) (k : Int) (gk : 0 ≤ k) (gl : k ≤ 1630) (H : Heap) (locs : List Loc), va_P g.1 vwCl [(qm, .inr (5, [.int (iI th), .ref mz, .ref ms, .int (iI hn), .ref mp, .ref mb, .int (iI L), .ref m1, .ref m2, .ref m3, .ref mB, .ref mF, .ref mN, .ref mS, .int (iI sT), .ref mW, .long acc])), (mz, .inl (gI g, 326, .inl (aI (zF n ho h c)))), (ms, .inl (gI g, 1956, .inl (aI (mvF f k))))] H → va_D A [(qm, .inr (5, [.int (iI th), .ref mz, .ref ms, .int (iI hn), .ref mp, .ref mb, .int (iI L), .ref m1, .ref m2, .ref m3, .ref mB, .ref mF, .ref mN, .ref mS, .int (iI sT), .ref mW, .long acc])), (mz, .inl (gI g, 326, .inl (aI (zF n ho h c)))), (ms, .inl (gI g, 1956, .inl (aI (mvF f k))))] → va_S A sZ.heap H locs → ∀ (ls : Array Slot), lv_has ls 2 [(0, .ref qm), (1, .int (iI k))] → (1630 - k).toNat < k_8 → W pZ l eZ ({ frames := 0, cells := 0, slots := 0, locals := 0 } : Room) sZ mZ [.ref qm].toArray bZ meZ cZ H locs 0 0 (MQ bZ (va_Qv (fun (u9 : Unit) => (fun _ => True) u9) (fun u9 t9 => MB g ((fun _ => [(qm, .inr (5, [.int (iI th), .ref mz, .ref ms, .int (iI (svL hn + 1)), .ref mp, .ref mb, .int (iI L), .ref m1, .ref m2, .ref m3, .ref mB, .ref mF, .ref mN, .ref mS, .int (iI sT), .ref mW, .long acc])), (mz, .inl (gI g, 326, .inl (aI (zF n ho h c)))), (ms, .inl (gI g, 1956, .inl (aI ((svM (olF f hn) (svL hn) (zF n ho h c) 326)))))]) u9) A t9) A) [.ref qm].toArray sZ 0 0 A) (F0 mZ 11 ls []) := by
      intro k_8
      induction k_8 with
      | zero => intro k gk gl H locs hP hD hS ls hl hm_10; exact absurd hm_10 (Nat.not_lt_zero _)
      | succ k_8 ih_9 =>
        intro k gk gl H locs hP hD hS ls hl hm_10
        refine lv_iload_n hx hb dX5_save_11 rfl (lv_at hl 1 rfl) ?_
        refine lv_sipush (v := iI 1630) hx hb dX5_save_12 (by decide) ?_
        refine ln_icmp_ge (tgt := 40) hx hb dX5_save_15 (by decide) ⟨by omega, by omega⟩ (by decide) (fun c_11 => ?_) (fun c_11 => ?_)
        · skip
          refine lv_aload_n hx hb dX5_save_40 rfl (lv_at hl 0 rfl) ?_
          refine lv_dup hx hb dX5_save_41 rfl ?_
          refine va_get (D := g.1) (ci := 5) (v := .int (iI hn)) (C := RX5) (T := TX5) (N := 17) hx hb hts in5 hown hE.1 hP 0 rfl rfl 3 (by decide) w0 (fun _ h9 => h9) rfl dX5_save_42 ?_
          refine lv_iconst (v := iI 1) hx hb dX5_save_45 rfl ?_
          refine ln_isub hx hb (hn - 1) (rfl) dX5_save_46 ?_
          refine va_put (D := g.1) (ci := 5) (v := .int (iI (hn - 1))) (ty := .int) (C := RX5) (T := TX5) (N := 17) hx hb hts in5 tyX5 tyX5_ok nmX5 hown hE.1 hP hD hS 0 rfl rfl 3 (by decide) w0 (fun _ h9 => h9) rfl (by decide +kernel) rfl rfl (Nat.le_of_ble_eq_true rfl) dX5_save_47 (fun H locs hP hD hS => ?_)
          have hP : va_P g.1 vwCl [(qm, .inr (5, [.int (iI th), .ref mz, .ref ms, .int (iI (hn - 1)), .ref mp, .ref mb, .int (iI L), .ref m1, .ref m2, .ref m3, .ref mB, .ref mF, .ref mN, .ref mS, .int (iI sT), .ref mW, .long acc])), (mz, .inl (gI g, 326, .inl (aI (zF n ho h c)))), (ms, .inl (gI g, 1956, .inl (aI (mvF f k))))] H := hP
          have hD : va_D A [(qm, .inr (5, [.int (iI th), .ref mz, .ref ms, .int (iI (hn - 1)), .ref mp, .ref mb, .int (iI L), .ref m1, .ref m2, .ref m3, .ref mB, .ref mF, .ref mN, .ref mS, .int (iI sT), .ref mW, .long acc])), (mz, .inl (gI g, 326, .inl (aI (zF n ho h c)))), (ms, .inl (gI g, 1956, .inl (aI (mvF f k))))] := hD
          have hP := hP.recell 2 rfl (olF f hn) (fun j _ _ => by unfold olF; rw [if_pos (by omega), show k = 1630 by omega])
          have hD := hD.set (p := 2) (e := .inl (gI g, 1956, .inl (aI (olF f hn)))) rfl
          have hP : va_P g.1 vwCl [(qm, .inr (5, [.int (iI th), .ref mz, .ref ms, .int (iI (hn - 1)), .ref mp, .ref mb, .int (iI L), .ref m1, .ref m2, .ref m3, .ref mB, .ref mF, .ref mN, .ref mS, .int (iI sT), .ref mW, .long acc])), (mz, .inl (gI g, 326, .inl (aI (zF n ho h c)))), (ms, .inl (gI g, 1956, .inl (aI (olF f hn))))] _ := hP
          have hD : va_D A [(qm, .inr (5, [.int (iI th), .ref mz, .ref ms, .int (iI (hn - 1)), .ref mp, .ref mb, .int (iI L), .ref m1, .ref m2, .ref m3, .ref mB, .ref mF, .ref mN, .ref mS, .int (iI sT), .ref mW, .long acc])), (mz, .inl (gI g, 326, .inl (aI (zF n ho h c)))), (ms, .inl (gI g, 1956, .inl (aI (olF f hn))))] := hD
          have hf_12 : hn - 1 = (svL hn) := by unfold svL; rw [if_pos (by omega)]; omega
          have hP := hP.recl 0 rfl (.inr (5, [.int (iI th), .ref mz, .ref ms, .int (iI (svL hn)), .ref mp, .ref mb, .int (iI L), .ref m1, .ref m2, .ref m3, .ref mB, .ref mF, .ref mN, .ref mS, .int (iI sT), .ref mW, .long acc])) (congrArg (fun z9 => (Sum.inr (5, [.int (iI th), .ref mz, .ref ms, .int (iI z9), .ref mp, .ref mb, .int (iI L), .ref m1, .ref m2, .ref m3, .ref mB, .ref mF, .ref mN, .ref mS, .int (iI sT), .ref mW, .long acc]) : va_E)) hf_12)
          have hD := hD.set (p := 0) (e := .inr (5, [.int (iI th), .ref mz, .ref ms, .int (iI (svL hn)), .ref mp, .ref mb, .int (iI L), .ref m1, .ref m2, .ref m3, .ref mB, .ref mF, .ref mN, .ref mS, .int (iI sT), .ref mW, .long acc])) rfl
          have hsl9 : 0 ≤ svL hn ∧ svL hn ≤ 5 := by unfold svL; split <;> omega
          refine lv_iconst (v := iI 0) hx hb dX5_save_50 rfl ?_
          refine lv_istore_n (lv' := [(1, .int (iI 0)), (0, .ref qm)]) hx hb dX5_save_51 rfl hl (by decide) rfl (fun ls hl => ?_)
          have L52_13 : ∀ (k_14 : Nat) (k : Int) (gk : 0 ≤ k) (gl : k ≤ 326) (H : Heap) (locs : List Loc), va_P g.1 vwCl [(qm, .inr (5, [.int (iI th), .ref mz, .ref ms, .int (iI (svL hn)), .ref mp, .ref mb, .int (iI L), .ref m1, .ref m2, .ref m3, .ref mB, .ref mF, .ref mN, .ref mS, .int (iI sT), .ref mW, .long acc])), (mz, .inl (gI g, 326, .inl (aI (zF n ho h c)))), (ms, .inl (gI g, 1956, .inl (aI ((svM (olF f hn) (svL hn) (zF n ho h c) k)))))] H → va_D A [(qm, .inr (5, [.int (iI th), .ref mz, .ref ms, .int (iI (svL hn)), .ref mp, .ref mb, .int (iI L), .ref m1, .ref m2, .ref m3, .ref mB, .ref mF, .ref mN, .ref mS, .int (iI sT), .ref mW, .long acc])), (mz, .inl (gI g, 326, .inl (aI (zF n ho h c)))), (ms, .inl (gI g, 1956, .inl (aI ((svM (olF f hn) (svL hn) (zF n ho h c) k)))))] → va_S A sZ.heap H locs → ∀ (ls : Array Slot), lv_has ls 2 [(0, .ref qm), (1, .int (iI k))] → (326 - k).toNat < k_14 → W pZ l eZ ({ frames := 0, cells := 0, slots := 0, locals := 0 } : Room) sZ mZ [.ref qm].toArray bZ meZ cZ H locs 0 0 (MQ bZ (va_Qv (fun (u9 : Unit) => (fun _ => True) u9) (fun u9 t9 => MB g ((fun _ => [(qm, .inr (5, [.int (iI th), .ref mz, .ref ms, .int (iI (svL hn + 1)), .ref mp, .ref mb, .int (iI L), .ref m1, .ref m2, .ref m3, .ref mB, .ref mF, .ref mN, .ref mS, .int (iI sT), .ref mW, .long acc])), (mz, .inl (gI g, 326, .inl (aI (zF n ho h c)))), (ms, .inl (gI g, 1956, .inl (aI ((svM (olF f hn) (svL hn) (zF n ho h c) 326)))))]) u9) A t9) A) [.ref qm].toArray sZ 0 0 A) (F0 mZ 52 ls []) := by
            intro k_14
            induction k_14 with
            | zero => intro k gk gl H locs hP hD hS ls hl hm_16; exact absurd hm_16 (Nat.not_lt_zero _)
            | succ k_14 ih_15 =>
              intro k gk gl H locs hP hD hS ls hl hm_16
              refine lv_iload_n hx hb dX5_save_52 rfl (lv_at hl 1 rfl) ?_
              refine lv_sipush (v := iI 326) hx hb dX5_save_53 (by decide) ?_
              refine ln_icmp_ge (tgt := 86) hx hb dX5_save_56 (by decide) ⟨by omega, by omega⟩ (by decide) (fun c_17 => ?_) (fun c_17 => ?_)
              · skip
                refine lv_aload_n hx hb dX5_save_86 rfl (lv_at hl 0 rfl) ?_
                refine lv_dup hx hb dX5_save_87 rfl ?_
                refine va_get (D := g.1) (ci := 5) (v := .int (iI (svL hn))) (C := RX5) (T := TX5) (N := 17) hx hb hts in5 hown hE.1 hP 0 rfl rfl 3 (by decide) w0 (fun _ h9 => h9) rfl dX5_save_88 ?_
                refine lv_iconst (v := iI 1) hx hb dX5_save_91 rfl ?_
                refine ln_iadd hx hb ((svL hn) + 1) (rfl) dX5_save_92 ?_
                refine va_put (D := g.1) (ci := 5) (v := .int (iI ((svL hn) + 1))) (ty := .int) (C := RX5) (T := TX5) (N := 17) hx hb hts in5 tyX5 tyX5_ok nmX5 hown hE.1 hP hD hS 0 rfl rfl 3 (by decide) w0 (fun _ h9 => h9) rfl (by decide +kernel) rfl rfl (Nat.le_of_ble_eq_true rfl) dX5_save_93 (fun H locs hP hD hS => ?_)
                have hP : va_P g.1 vwCl [(qm, .inr (5, [.int (iI th), .ref mz, .ref ms, .int (iI ((svL hn) + 1)), .ref mp, .ref mb, .int (iI L), .ref m1, .ref m2, .ref m3, .ref mB, .ref mF, .ref mN, .ref mS, .int (iI sT), .ref mW, .long acc])), (mz, .inl (gI g, 326, .inl (aI (zF n ho h c)))), (ms, .inl (gI g, 1956, .inl (aI ((svM (olF f hn) (svL hn) (zF n ho h c) k)))))] H := hP
                have hD : va_D A [(qm, .inr (5, [.int (iI th), .ref mz, .ref ms, .int (iI ((svL hn) + 1)), .ref mp, .ref mb, .int (iI L), .ref m1, .ref m2, .ref m3, .ref mB, .ref mF, .ref mN, .ref mS, .int (iI sT), .ref mW, .long acc])), (mz, .inl (gI g, 326, .inl (aI (zF n ho h c)))), (ms, .inl (gI g, 1956, .inl (aI ((svM (olF f hn) (svL hn) (zF n ho h c) k)))))] := hD
                have hf_18 : (svL hn) + 1 = (svL hn + 1) := by omega
                have hP := hP.recl 0 rfl (.inr (5, [.int (iI th), .ref mz, .ref ms, .int (iI (svL hn + 1)), .ref mp, .ref mb, .int (iI L), .ref m1, .ref m2, .ref m3, .ref mB, .ref mF, .ref mN, .ref mS, .int (iI sT), .ref mW, .long acc])) (congrArg (fun z9 => (Sum.inr (5, [.int (iI th), .ref mz, .ref ms, .int (iI z9), .ref mp, .ref mb, .int (iI L), .ref m1, .ref m2, .ref m3, .ref mB, .ref mF, .ref mN, .ref mS, .int (iI sT), .ref mW, .long acc]) : va_E)) hf_18)
                have hD := hD.set (p := 0) (e := .inr (5, [.int (iI th), .ref mz, .ref ms, .int (iI (svL hn + 1)), .ref mp, .ref mb, .int (iI L), .ref m1, .ref m2, .ref m3, .ref mB, .ref mF, .ref mN, .ref mS, .int (iI sT), .ref mW, .long acc])) rfl
                have hP := hP.recell 2 rfl ((svM (olF f hn) (svL hn) (zF n ho h c) 326)) (fun j _ _ => by rw [show k = 326 by omega])
                have hD := hD.set (p := 2) (e := .inl (gI g, 1956, .inl (aI ((svM (olF f hn) (svL hn) (zF n ho h c) 326))))) rfl
                have hP : va_P g.1 vwCl [(qm, .inr (5, [.int (iI th), .ref mz, .ref ms, .int (iI (svL hn + 1)), .ref mp, .ref mb, .int (iI L), .ref m1, .ref m2, .ref m3, .ref mB, .ref mF, .ref mN, .ref mS, .int (iI sT), .ref mW, .long acc])), (mz, .inl (gI g, 326, .inl (aI (zF n ho h c)))), (ms, .inl (gI g, 1956, .inl (aI ((svM (olF f hn) (svL hn) (zF n ho h c) 326)))))] _ := hP
                have hD : va_D A [(qm, .inr (5, [.int (iI th), .ref mz, .ref ms, .int (iI (svL hn + 1)), .ref mp, .ref mb, .int (iI L), .ref m1, .ref m2, .ref m3, .ref mB, .ref mF, .ref mN, .ref mS, .int (iI sT), .ref mW, .long acc])), (mz, .inl (gI g, 326, .inl (aI (zF n ho h c)))), (ms, .inl (gI g, 1956, .inl (aI ((svM (olF f hn) (svL hn) (zF n ho h c) 326)))))] := hD
                exact mend_v (S := Unit) (w' := (fun _ => [(qm, .inr (5, [.int (iI th), .ref mz, .ref ms, .int (iI (svL hn + 1)), .ref mp, .ref mb, .int (iI L), .ref m1, .ref m2, .ref m3, .ref mB, .ref mF, .ref mN, .ref mS, .int (iI sT), .ref mW, .long acc])), (mz, .inl (gI g, 326, .inl (aI (zF n ho h c)))), (ms, .inl (gI g, 1956, .inl (aI ((svM (olF f hn) (svL hn) (zF n ho h c) 326)))))])) (post := (fun _ => True)) hx hb hr hlk hS () hP hD (trivial) (Nat.le_of_ble_eq_true rfl) (Nat.le_of_ble_eq_true rfl) dX5_save_96
              · skip
                refine lv_aload_n hx hb dX5_save_59 rfl (lv_at hl 0 rfl) ?_
                refine va_get (D := g.1) (ci := 5) (v := .ref ms) (C := RX5) (T := TX5) (N := 17) hx hb hts in5 hown hE.1 hP 0 rfl rfl 2 (by decide) w1 (fun _ h9 => h9) rfl dX5_save_60 ?_
                refine lv_aload_n hx hb dX5_save_63 rfl (lv_at hl 0 rfl) ?_
                refine va_get (D := g.1) (ci := 5) (v := .int (iI (svL hn))) (C := RX5) (T := TX5) (N := 17) hx hb hts in5 hown hE.1 hP 0 rfl rfl 3 (by decide) w0 (fun _ h9 => h9) rfl dX5_save_64 ?_
                refine lv_sipush (v := iI 326) hx hb dX5_save_67 (by decide) ?_
                refine ln_imul hx hb ((svL hn) * 326) (rfl) dX5_save_70 ?_
                refine lv_iload_n hx hb dX5_save_71 rfl (lv_at hl 1 rfl) ?_
                refine ln_iadd hx hb ((svL hn) * 326 + k) (rfl) dX5_save_72 ?_
                refine lv_aload_n hx hb dX5_save_73 rfl (lv_at hl 0 rfl) ?_
                refine va_get (D := g.1) (ci := 5) (v := .ref mz) (C := RX5) (T := TX5) (N := 17) hx hb hts in5 hown hE.1 hP 0 rfl rfl 1 (by decide) w2 (fun _ h9 => h9) rfl dX5_save_74 ?_
                refine lv_iload_n hx hb dX5_save_77 rfl (lv_at hl 1 rfl) ?_
                refine ln_iald hx hb hE hP 1 rfl (by omega) (by omega) (Nat.le_of_ble_eq_true rfl) ((zF n ho h c) k) (rfl) dX5_save_78 ?_
                refine ln_iast hx hb hE hP hD hS 2 rfl (by omega) (by omega) (Nat.le_of_ble_eq_true rfl) (updI ((svM (olF f hn) (svL hn) (zF n ho h c) k)) ((svL hn) * 326 + k) ((zF n ho h c) k)) (fun _ _ _ => rfl) dX5_save_79 (fun H locs hP hD hS => ?_)
                have hP : va_P g.1 vwCl [(qm, .inr (5, [.int (iI th), .ref mz, .ref ms, .int (iI (svL hn)), .ref mp, .ref mb, .int (iI L), .ref m1, .ref m2, .ref m3, .ref mB, .ref mF, .ref mN, .ref mS, .int (iI sT), .ref mW, .long acc])), (mz, .inl (gI g, 326, .inl (aI (zF n ho h c)))), (ms, .inl (gI g, 1956, .inl (aI (updI ((svM (olF f hn) (svL hn) (zF n ho h c) k)) ((svL hn) * 326 + k) ((zF n ho h c) k)))))] H := hP
                have hD : va_D A [(qm, .inr (5, [.int (iI th), .ref mz, .ref ms, .int (iI (svL hn)), .ref mp, .ref mb, .int (iI L), .ref m1, .ref m2, .ref m3, .ref mB, .ref mF, .ref mN, .ref mS, .int (iI sT), .ref mW, .long acc])), (mz, .inl (gI g, 326, .inl (aI (zF n ho h c)))), (ms, .inl (gI g, 1956, .inl (aI (updI ((svM (olF f hn) (svL hn) (zF n ho h c) k)) ((svL hn) * 326 + k) ((zF n ho h c) k)))))] := hD
                refine lv_iinc (v := iI (k + 1)) (lv' := [(1, .int (iI (k + 1))), (0, .ref qm)]) hx hb dX5_save_80 hl (k := 1) rfl (iI_add _ _) (by decide) rfl (fun ls hl => ?_)
                refine lv_goto (tgt := 52) hx hb dX5_save_83 (by decide) ?_
                have hl : lv_has ls 2 [(1, .int (iI (k + 1))), (0, .ref qm)] := hl
                have hP := hP.recell 2 rfl ((svM (olF f hn) (svL hn) (zF n ho h c) (k + 1))) (fun j _ _ => by have q9 := sv_s (f := olF f hn) (z := zF n ho h c) (m := svL hn) (k := k) (j := j); rw [if_pos gk] at q9; exact q9)
                have hD := hD.set (p := 2) (e := .inl (gI g, 1956, .inl (aI ((svM (olF f hn) (svL hn) (zF n ho h c) (k + 1)))))) rfl
                exact ih_15 (k + 1) (by omega) (by omega) _ _ hP hD hS _ (lv_sub hl [1, 0] rfl) (by omega)
          have hl : lv_has ls 2 [(1, .int (iI 0)), (0, .ref qm)] := hl
          have hP := hP.recell 2 rfl ((svM (olF f hn) (svL hn) (zF n ho h c) 0)) (fun j q7 _ => (if_neg (by omega)).symm)
          have hD := hD.set (p := 2) (e := .inl (gI g, 1956, .inl (aI ((svM (olF f hn) (svL hn) (zF n ho h c) 0))))) rfl
          exact L52_13 _ 0 (by omega) (by omega) _ _ hP hD hS _ (lv_sub hl [1, 0] rfl) (Nat.lt_succ_self _)
        · skip
          refine lv_aload_n hx hb dX5_save_18 rfl (lv_at hl 0 rfl) ?_
          refine va_get (D := g.1) (ci := 5) (v := .ref ms) (C := RX5) (T := TX5) (N := 17) hx hb hts in5 hown hE.1 hP 0 rfl rfl 2 (by decide) w1 (fun _ h9 => h9) rfl dX5_save_19 ?_
          refine lv_iload_n hx hb dX5_save_22 rfl (lv_at hl 1 rfl) ?_
          refine lv_aload_n hx hb dX5_save_23 rfl (lv_at hl 0 rfl) ?_
          refine va_get (D := g.1) (ci := 5) (v := .ref ms) (C := RX5) (T := TX5) (N := 17) hx hb hts in5 hown hE.1 hP 0 rfl rfl 2 (by decide) w1 (fun _ h9 => h9) rfl dX5_save_24 ?_
          refine lv_iload_n hx hb dX5_save_27 rfl (lv_at hl 1 rfl) ?_
          refine lv_sipush (v := iI 326) hx hb dX5_save_28 (by decide) ?_
          refine ln_iadd hx hb (k + 326) (rfl) dX5_save_31 ?_
          refine ln_iald hx hb hE hP 2 rfl (by omega) (by omega) (Nat.le_of_ble_eq_true rfl) ((mvF f k) (k + 326)) (rfl) dX5_save_32 ?_
          refine ln_iast hx hb hE hP hD hS 2 rfl (by omega) (by omega) (Nat.le_of_ble_eq_true rfl) (updI (mvF f k) k ((mvF f k) (k + 326))) (fun _ _ _ => rfl) dX5_save_33 (fun H locs hP hD hS => ?_)
          have hP : va_P g.1 vwCl [(qm, .inr (5, [.int (iI th), .ref mz, .ref ms, .int (iI hn), .ref mp, .ref mb, .int (iI L), .ref m1, .ref m2, .ref m3, .ref mB, .ref mF, .ref mN, .ref mS, .int (iI sT), .ref mW, .long acc])), (mz, .inl (gI g, 326, .inl (aI (zF n ho h c)))), (ms, .inl (gI g, 1956, .inl (aI (updI (mvF f k) k ((mvF f k) (k + 326))))))] H := hP
          have hD : va_D A [(qm, .inr (5, [.int (iI th), .ref mz, .ref ms, .int (iI hn), .ref mp, .ref mb, .int (iI L), .ref m1, .ref m2, .ref m3, .ref mB, .ref mF, .ref mN, .ref mS, .int (iI sT), .ref mW, .long acc])), (mz, .inl (gI g, 326, .inl (aI (zF n ho h c)))), (ms, .inl (gI g, 1956, .inl (aI (updI (mvF f k) k ((mvF f k) (k + 326))))))] := hD
          refine lv_iinc (v := iI (k + 1)) (lv' := [(1, .int (iI (k + 1))), (0, .ref qm)]) hx hb dX5_save_34 hl (k := 1) rfl (iI_add _ _) (by decide) rfl (fun ls hl => ?_)
          refine lv_goto (tgt := 11) hx hb dX5_save_37 (by decide) ?_
          have hl : lv_has ls 2 [(1, .int (iI (k + 1))), (0, .ref qm)] := hl
          have hP := hP.recell 2 rfl (mvF f (k + 1)) (fun j _ _ => mv_s gk)
          have hD := hD.set (p := 2) (e := .inl (gI g, 1956, .inl (aI (mvF f (k + 1))))) rfl
          exact ih_9 (k + 1) (by omega) (by omega) _ _ hP hD hS _ (lv_sub hl [1, 0] rfl) (by omega)
    have hl : lv_has ls 2 [(1, .int (iI 0)), (0, .ref qm)] := hl
    have hP := hP.recell 2 rfl (mvF f 0) (fun j q7 _ => (if_neg (by omega)).symm)
    have hD := hD.set (p := 2) (e := .inl (gI g, 1956, .inl (aI (mvF f 0)))) rfl
    exact L11 _ 0 (by omega) (by omega) _ _ hP hD hS _ (lv_sub hl [1, 0] rfl) (Nat.lt_succ_self _)

set_option maxHeartbeats 800000 in
set_option maxRecDepth 100000 in
theorem c_X5_height_g (l : Launch) (g : GT) (qm : Nat) (th : Int) (mz : Nat) (ms : Nat) (hn : Int) (mp : Nat) (mb : Nat) (L : Int) (m1 : Nat) (m2 : Nat) (m3 : Nat) (mB : Nat) (mF : Nat) (mN : Nat) (mS : Nat) (sT : Int) (mW : Nat) (acc : Int64) (f : Int → Int) (x : Int) (y : Int) (gx : 0 ≤ x ∧ x ≤ 5) (gy : 0 ≤ y ∧ y ≤ 5) : MetI l yX5_height wsX5_height ({ frames := 0, cells := 0, slots := 0, locals := 0 }) g [(qm, .inr (5, [.int (iI th), .ref mz, .ref ms, .int (iI hn), .ref mp, .ref mb, .int (iI L), .ref m1, .ref m2, .ref m3, .ref mB, .ref mF, .ref mN, .ref mS, .int (iI sT), .ref mW, .long acc])), (mz, .inl (gI g, 326, .inl (aI f)))] [.ref qm, .int (iI x), .int (iI y)] (f (2 + 6 * y + x)) := by
  refine pure_of (cc := cX5_height) (maxL := 3) (ret := (some .int)) (by decide) rfl (Nat.le_of_ble_eq_true rfl) ?_
  intro pZ eZ sZ mZ bZ meZ cZ F hP hE hS ls hl
  obtain ⟨hx, hb, hr, hml, hts, hown, hlk⟩ := F
  have hown : sZ.vm.findClass RX5 = some mZ.cls := hown
  have hl : lv_has ls 3 [(0, .ref qm), (1, .int (iI x)), (2, .int (iI y))] := hl
  have w0 := hts (.fieldLink RX5 7 "SlantYardModel" "z" "[I") (by decide +kernel)
  have in5 : ∀ w ∈ u_ws RX5 TX5 17, w ∈ wsX5_height := by decide +kernel
  refine lv_aload_n hx hb dX5_height_0 rfl (lv_at hl 0 rfl) ?_
  refine va_get (D := g.1) (ci := 5) (v := .ref mz) (C := RX5) (T := TX5) (N := 17) hx hb hts in5 hown hE.1 hP 0 rfl rfl 1 (by decide) w0 (fun _ h9 => h9) rfl dX5_height_1 ?_
  refine lv_iconst (v := iI 2) hx hb dX5_height_4 rfl ?_
  refine lv_bipush (v := iI 6) hx hb dX5_height_5 (by decide) ?_
  refine lv_iload_n hx hb dX5_height_7 rfl (lv_at hl 2 rfl) ?_
  refine ln_imul hx hb (6 * y) (rfl) dX5_height_8 ?_
  refine ln_iadd hx hb (2 + 6 * y) (rfl) dX5_height_9 ?_
  refine lv_iload_n hx hb dX5_height_10 rfl (lv_at hl 1 rfl) ?_
  refine ln_iadd hx hb (2 + 6 * y + x) (rfl) dX5_height_11 ?_
  refine ln_iald hx hb hE hP 1 rfl (by omega) (by omega) (Nat.le_of_ble_eq_true rfl) (f (2 + 6 * y + x)) (rfl) dX5_height_12 ?_
  exact pend_i hx hb hr hlk hS rfl (by rfl) dX5_height_13
set_option maxHeartbeats 800000 in
set_option maxRecDepth 100000 in
theorem c_X5_clear (l : Launch) (g : GT) (qm : Nat) (th : Int) (mz : Nat) (ms : Nat) (hn : Int) (mp : Nat) (mb : Nat) (L : Int) (m1 : Nat) (m2 : Nat) (m3 : Nat) (mB : Nat) (mF : Nat) (mN : Nat) (mS : Nat) (sT : Int) (mW : Nat) (acc : Int64) (n : Int) (ho : Int) (h : Int → Int) (c : Int → Int) : MutV l yX5_clear wsX5_clear ({ frames := 0, cells := 0, slots := 0, locals := 0 }) 0 0 g [(qm, .inr (5, [.int (iI th), .ref mz, .ref ms, .int (iI hn), .ref mp, .ref mb, .int (iI L), .ref m1, .ref m2, .ref m3, .ref mB, .ref mF, .ref mN, .ref mS, .int (iI sT), .ref mW, .long acc])), (mz, .inl (gI g, 326, .inl (aI (zF n ho h c))))] [.ref qm] (S := Unit) (fun _ => True) (fun _ => [(qm, .inr (5, [.int (iI th), .ref mz, .ref ms, .int (iI hn), .ref mp, .ref mb, .int (iI L), .ref m1, .ref m2, .ref m3, .ref mB, .ref mF, .ref mN, .ref mS, .int (iI sT), .ref mW, .long acc])), (mz, .inl (gI g, 326, .inl (aI ((zF n ho (fun _ => 0) (fun _ => 0))))))]) := by
  refine mut_of (y := yX5_clear) (ws := wsX5_clear) (av := [.ref qm]) (w := [(qm, .inr (5, [.int (iI th), .ref mz, .ref ms, .int (iI hn), .ref mp, .ref mb, .int (iI L), .ref m1, .ref m2, .ref m3, .ref mB, .ref mF, .ref mN, .ref mS, .int (iI sT), .ref mW, .long acc])), (mz, .inl (gI g, 326, .inl (aI (zF n ho h c))))]) (Qc := fun A => va_Qv (fun (u9 : Unit) => (fun _ => True) u9) (fun u9 t9 => MB g ((fun _ => [(qm, .inr (5, [.int (iI th), .ref mz, .ref ms, .int (iI hn), .ref mp, .ref mb, .int (iI L), .ref m1, .ref m2, .ref m3, .ref mB, .ref mF, .ref mN, .ref mS, .int (iI sT), .ref mW, .long acc])), (mz, .inl (gI g, 326, .inl (aI ((zF n ho (fun _ => 0) (fun _ => 0))))))]) u9) A t9) A) (cc := cX5_clear) (maxL := 2) (ret := none) (by decide) rfl (Nat.le_of_ble_eq_true rfl) ?_
  intro pZ eZ sZ mZ bZ meZ cZ A F hin hA hP hD hE hS ls hl
  obtain ⟨hx, hb, hr, hml, hts, hown, hlk⟩ := F
  skip
  have hown : sZ.vm.findClass RX5 = some mZ.cls := hown
  have hl : lv_has ls 2 [(0, .ref qm)] := hl
  skip
  have w0 := hts (.fieldLink RX5 7 "SlantYardModel" "z" "[I") (by decide +kernel)
  have in5 : ∀ w ∈ u_ws RX5 TX5 17, w ∈ wsX5_clear := by decide +kernel
  refine lv_iconst (v := iI 2) hx hb dX5_clear_0 rfl ?_
  refine lv_istore_n (lv' := [(1, .int (iI 2)), (0, .ref qm)]) hx hb dX5_clear_1 rfl hl (by decide) rfl (fun ls hl => ?_)
  have L2 : ∀ (k_1 : Nat) (k : Int) (e : Int → Int) (gk : 2 ≤ k) (gl : k ≤ 326) (ge : ∀ j, 0 ≤ j → j < k → e j = zF n ho (fun _ => 0) (fun _ => 0) j) (H : Heap) (locs : List Loc), va_P g.1 vwCl [(qm, .inr (5, [.int (iI th), .ref mz, .ref ms, .int (iI hn), .ref mp, .ref mb, .int (iI L), .ref m1, .ref m2, .ref m3, .ref mB, .ref mF, .ref mN, .ref mS, .int (iI sT), .ref mW, .long acc])), (mz, .inl (gI g, 326, .inl (aI e)))] H → va_D A [(qm, .inr (5, [.int (iI th), .ref mz, .ref ms, .int (iI hn), .ref mp, .ref mb, .int (iI L), .ref m1, .ref m2, .ref m3, .ref mB, .ref mF, .ref mN, .ref mS, .int (iI sT), .ref mW, .long acc])), (mz, .inl (gI g, 326, .inl (aI e)))] → va_S A sZ.heap H locs → ∀ (ls : Array Slot), lv_has ls 2 [(0, .ref qm), (1, .int (iI k))] → (326 - k).toNat < k_1 → W pZ l eZ ({ frames := 0, cells := 0, slots := 0, locals := 0 } : Room) sZ mZ [.ref qm].toArray bZ meZ cZ H locs 0 0 (MQ bZ (va_Qv (fun (u9 : Unit) => (fun _ => True) u9) (fun u9 t9 => MB g ((fun _ => [(qm, .inr (5, [.int (iI th), .ref mz, .ref ms, .int (iI hn), .ref mp, .ref mb, .int (iI L), .ref m1, .ref m2, .ref m3, .ref mB, .ref mF, .ref mN, .ref mS, .int (iI sT), .ref mW, .long acc])), (mz, .inl (gI g, 326, .inl (aI ((zF n ho (fun _ => 0) (fun _ => 0))))))]) u9) A t9) A) [.ref qm].toArray sZ 0 0 A) (F0 mZ 2 ls []) := by
    intro k_1
    induction k_1 with
    | zero => intro k e gk gl ge H locs hP hD hS ls hl hm_3; exact absurd hm_3 (Nat.not_lt_zero _)
    | succ k_1 ih_2 =>
      intro k e gk gl ge H locs hP hD hS ls hl hm_3
      refine lv_iload_n hx hb dX5_clear_2 rfl (lv_at hl 1 rfl) ?_
      refine lv_sipush (v := iI 326) hx hb dX5_clear_3 (by decide) ?_
      refine ln_icmp_ge (tgt := 22) hx hb dX5_clear_6 (by decide) ⟨by omega, by omega⟩ (by decide) (fun c_4 => ?_) (fun c_4 => ?_)
      · skip
        have hP := hP.recell 1 rfl ((zF n ho (fun _ => 0) (fun _ => 0))) (fun j h0 h1 => ge j h0 (by omega))
        have hD := hD.set (p := 1) (e := .inl (gI g, 326, .inl (aI ((zF n ho (fun _ => 0) (fun _ => 0)))))) rfl
        have hP : va_P g.1 vwCl [(qm, .inr (5, [.int (iI th), .ref mz, .ref ms, .int (iI hn), .ref mp, .ref mb, .int (iI L), .ref m1, .ref m2, .ref m3, .ref mB, .ref mF, .ref mN, .ref mS, .int (iI sT), .ref mW, .long acc])), (mz, .inl (gI g, 326, .inl (aI ((zF n ho (fun _ => 0) (fun _ => 0))))))] _ := hP
        have hD : va_D A [(qm, .inr (5, [.int (iI th), .ref mz, .ref ms, .int (iI hn), .ref mp, .ref mb, .int (iI L), .ref m1, .ref m2, .ref m3, .ref mB, .ref mF, .ref mN, .ref mS, .int (iI sT), .ref mW, .long acc])), (mz, .inl (gI g, 326, .inl (aI ((zF n ho (fun _ => 0) (fun _ => 0))))))] := hD
        exact mend_v (S := Unit) (w' := (fun _ => [(qm, .inr (5, [.int (iI th), .ref mz, .ref ms, .int (iI hn), .ref mp, .ref mb, .int (iI L), .ref m1, .ref m2, .ref m3, .ref mB, .ref mF, .ref mN, .ref mS, .int (iI sT), .ref mW, .long acc])), (mz, .inl (gI g, 326, .inl (aI ((zF n ho (fun _ => 0) (fun _ => 0))))))])) (post := (fun _ => True)) hx hb hr hlk hS () hP hD (trivial) (Nat.le_of_ble_eq_true rfl) (Nat.le_of_ble_eq_true rfl) dX5_clear_22
      · skip
        refine lv_aload_n hx hb dX5_clear_9 rfl (lv_at hl 0 rfl) ?_
        refine va_get (D := g.1) (ci := 5) (v := .ref mz) (C := RX5) (T := TX5) (N := 17) hx hb hts in5 hown hE.1 hP 0 rfl rfl 1 (by decide) w0 (fun _ h9 => h9) rfl dX5_clear_10 ?_
        refine lv_iload_n hx hb dX5_clear_13 rfl (lv_at hl 1 rfl) ?_
        refine lv_iconst (v := iI 0) hx hb dX5_clear_14 rfl ?_
        refine ln_iast hx hb hE hP hD hS 1 rfl (by omega) (by omega) (Nat.le_of_ble_eq_true rfl) (updI e k 0) (fun _ _ _ => rfl) dX5_clear_15 (fun H locs hP hD hS => ?_)
        have hP : va_P g.1 vwCl [(qm, .inr (5, [.int (iI th), .ref mz, .ref ms, .int (iI hn), .ref mp, .ref mb, .int (iI L), .ref m1, .ref m2, .ref m3, .ref mB, .ref mF, .ref mN, .ref mS, .int (iI sT), .ref mW, .long acc])), (mz, .inl (gI g, 326, .inl (aI (updI e k 0))))] H := hP
        have hD : va_D A [(qm, .inr (5, [.int (iI th), .ref mz, .ref ms, .int (iI hn), .ref mp, .ref mb, .int (iI L), .ref m1, .ref m2, .ref m3, .ref mB, .ref mF, .ref mN, .ref mS, .int (iI sT), .ref mW, .long acc])), (mz, .inl (gI g, 326, .inl (aI (updI e k 0))))] := hD
        refine lv_iinc (v := iI (k + 1)) (lv' := [(1, .int (iI (k + 1))), (0, .ref qm)]) hx hb dX5_clear_16 hl (k := 1) rfl (iI_add _ _) (by decide) rfl (fun ls hl => ?_)
        refine lv_goto (tgt := 2) hx hb dX5_clear_19 (by decide) ?_
        have hl : lv_has ls 2 [(1, .int (iI (k + 1))), (0, .ref qm)] := hl
        have hP := hP.recell 1 rfl (updI e k 0) (fun j h0 h1 => rfl)
        have hD := hD.set (p := 1) (e := .inl (gI g, 326, .inl (aI (updI e k 0)))) rfl
        exact ih_2 (k + 1) (updI e k 0) (by omega) (by omega) (fun j a b => by unfold updI; split; (rename_i q9; rw [q9, z_none, if_neg (by omega), if_neg (by omega)]); exact ge j a (by omega)) _ _ hP hD hS _ (lv_sub hl [1, 0] rfl) (by omega)
  have hl : lv_has ls 2 [(1, .int (iI 2)), (0, .ref qm)] := hl
  exact L2 _ 2 (zF n ho h c) (by omega) (by omega) (fun j a b => by rcases (show j = 0 ∨ j = 1 by omega) with q9 | q9 <;> rw [q9] <;> rfl) _ _ hP hD hS _ (lv_sub hl [1, 0] rfl) (Nat.lt_succ_self _)
set_option maxHeartbeats 800000 in
set_option maxRecDepth 100000 in
theorem c_X5_putOn (l : Launch) (g : GT) (qm : Nat) (th : Int) (mz : Nat) (ms : Nat) (hn : Int) (mp : Nat) (mb : Nat) (L : Int) (m1 : Nat) (m2 : Nat) (m3 : Nat) (mB : Nat) (mF : Nat) (mN : Nat) (mS : Nat) (sT : Int) (mW : Nat) (acc : Int64) (n : Int) (ho : Int) (h : Int → Int) (c : Int → Int) (x : Int) (y : Int) (d : Int) (hY : YOk n ho h c) (h1 : 0 ≤ x) (h2 : x < n) (h3 : 0 ≤ y) (h4 : y < n) (gd : 0 ≤ d ∧ d ≤ 3) (g8 : h (y * 6 + x) < 8) : MutV l yX5_putOn wsX5_putOn ({ frames := 1, cells := 0, slots := 0, locals := 22 }) 0 0 g [(qm, .inr (5, [.int (iI th), .ref mz, .ref ms, .int (iI hn), .ref mp, .ref mb, .int (iI L), .ref m1, .ref m2, .ref m3, .ref mB, .ref mF, .ref mN, .ref mS, .int (iI sT), .ref mW, .long acc])), (mz, .inl (gI g, 326, .inl (aI (zF n ho h c))))] [.ref qm, .int (iI x), .int (iI y), .int (iI d)] (S := Unit) (fun _ => True) (fun _ => [(qm, .inr (5, [.int (iI th), .ref mz, .ref ms, .int (iI hn), .ref mp, .ref mb, .int (iI L), .ref m1, .ref m2, .ref m3, .ref mB, .ref mF, .ref mN, .ref mS, .int (iI sT), .ref mW, .long acc])), (mz, .inl (gI g, 326, .inl (aI ((zF n ho (updI h (y * 6 + x) (h (y * 6 + x) + 1)) (updI c (y * 6 + x) (c (y * 6 + x) + d * p4 (h (y * 6 + x)))))))))]) := by
  refine mut_of (y := yX5_putOn) (ws := wsX5_putOn) (av := [.ref qm, .int (iI x), .int (iI y), .int (iI d)]) (w := [(qm, .inr (5, [.int (iI th), .ref mz, .ref ms, .int (iI hn), .ref mp, .ref mb, .int (iI L), .ref m1, .ref m2, .ref m3, .ref mB, .ref mF, .ref mN, .ref mS, .int (iI sT), .ref mW, .long acc])), (mz, .inl (gI g, 326, .inl (aI (zF n ho h c))))]) (Qc := fun A => va_Qv (fun (u9 : Unit) => (fun _ => True) u9) (fun u9 t9 => MB g ((fun _ => [(qm, .inr (5, [.int (iI th), .ref mz, .ref ms, .int (iI hn), .ref mp, .ref mb, .int (iI L), .ref m1, .ref m2, .ref m3, .ref mB, .ref mF, .ref mN, .ref mS, .int (iI sT), .ref mW, .long acc])), (mz, .inl (gI g, 326, .inl (aI ((zF n ho (updI h (y * 6 + x) (h (y * 6 + x) + 1)) (updI c (y * 6 + x) (c (y * 6 + x) + d * p4 (h (y * 6 + x)))))))))]) u9) A t9) A) (cc := cX5_putOn) (maxL := 4) (ret := none) (by decide) rfl (Nat.le_of_ble_eq_true rfl) ?_
  intro pZ eZ sZ mZ bZ meZ cZ A F hin hA hP hD hE hS ls hl
  obtain ⟨hx, hb, hr, hml, hts, hown, hlk⟩ := F
  skip
  have hown : sZ.vm.findClass RX5 = some mZ.cls := hown
  have hl : lv_has ls 4 [(0, .ref qm), (1, .int (iI x)), (2, .int (iI y)), (3, .int (iI d))] := hl
  skip
  have w0 := hts (.fieldLink RX5 7 "SlantYardModel" "z" "[I") (by decide +kernel)
  have in5 : ∀ w ∈ u_ws RX5 TX5 17, w ∈ wsX5_putOn := by decide +kernel
  have hnn := hY.n
  have hho := hY.hr
  have hh9 := YOk.h hY (y * 6 + x)
  refine lv_aload_n hx hb dX5_putOn_0 rfl (lv_at hl 0 rfl) ?_
  refine va_get (D := g.1) (ci := 5) (v := .ref mz) (C := RX5) (T := TX5) (N := 17) hx hb hts in5 hown hE.1 hP 0 rfl rfl 1 (by decide) w0 (fun _ h9 => h9) rfl dX5_putOn_1 ?_
  refine lv_bipush (v := iI 38) hx hb dX5_putOn_4 (by decide) ?_
  refine lv_bipush (v := iI 8) hx hb dX5_putOn_6 (by decide) ?_
  refine lv_bipush (v := iI 6) hx hb dX5_putOn_8 (by decide) ?_
  refine lv_iload_n hx hb dX5_putOn_10 rfl (lv_at hl 2 rfl) ?_
  refine ln_imul hx hb (6 * y) (rfl) dX5_putOn_11 ?_
  refine lv_iload_n hx hb dX5_putOn_12 rfl (lv_at hl 1 rfl) ?_
  refine ln_iadd hx hb (6 * y + x) (rfl) dX5_putOn_13 ?_
  refine ln_imul hx hb (8 * (6 * y + x)) (rfl) dX5_putOn_14 ?_
  refine ln_iadd hx hb (38 + 8 * (6 * y + x)) (rfl) dX5_putOn_15 ?_
  refine lv_aload_n hx hb dX5_putOn_16 rfl (lv_at hl 0 rfl) ?_
  refine lv_iload_n hx hb dX5_putOn_17 rfl (lv_at hl 1 rfl) ?_
  refine lv_iload_n hx hb dX5_putOn_18 rfl (lv_at hl 2 rfl) ?_
  have hPc_1 := hP.sub (ws' := [(qm, .inr (5, [.int (iI th), .ref mz, .ref ms, .int (iI hn), .ref mp, .ref mb, .int (iI L), .ref m1, .ref m2, .ref m3, .ref mB, .ref mF, .ref mN, .ref mS, .int (iI sT), .ref mW, .long acc])), (mz, .inl (gI g, 326, .inl (aI (zF n ho h c))))]) [0, 1] rfl
  refine pc_i (va_runV (As := [.int (iI x), .int (iI y)]) (rest := [.int (iI (38 + 8 * (6 * y + x))), .ref mz]) ⟨hx, hb, hml, hown, hts⟩ (c_X5_height l g qm th mz ms hn mp mb L m1 m2 m3 mB mF mN mS sT mW acc n ho h c x y hY h1 h2 h3 h4) (cwV 2 hts gX5_putOn_X5_height rfl rfl rfl (by decide +kernel) ⟨Nat.le_of_ble_eq_true rfl, Nat.le_of_ble_eq_true rfl⟩) (puV hE hS hPc_1 rfl rfl) rfl rfl hl.1 rfl (lv_room (Nat.le_of_ble_eq_true rfl)) dX5_putOn_19 ⟨Nat.le_of_ble_eq_true rfl, Nat.le_of_ble_eq_true rfl⟩) ?_
  have r_2 : 0 ≤ h (y * 6 + x) ∧ h (y * 6 + x) ≤ 8 := YOk.h hY (y * 6 + x)
  refine ln_iadd hx hb (38 + 8 * (6 * y + x) + h (y * 6 + x)) (rfl) dX5_putOn_22 ?_
  refine lv_iload_n hx hb dX5_putOn_23 rfl (lv_at hl 3 rfl) ?_
  refine ln_iast hx hb hE hP hD hS 1 rfl (by omega) (by omega) (Nat.le_of_ble_eq_true rfl) (updI (zF n ho h c) (38 + 8 * (y * 6 + x) + h (y * 6 + x)) d) (fun j _ _ => by rw [show 38 + 8 * (6 * y + x) + h (y * 6 + x) = 38 + 8 * (y * 6 + x) + h (y * 6 + x) by omega]) dX5_putOn_24 (fun H locs hP hD hS => ?_)
  have hP : va_P g.1 vwCl [(qm, .inr (5, [.int (iI th), .ref mz, .ref ms, .int (iI hn), .ref mp, .ref mb, .int (iI L), .ref m1, .ref m2, .ref m3, .ref mB, .ref mF, .ref mN, .ref mS, .int (iI sT), .ref mW, .long acc])), (mz, .inl (gI g, 326, .inl (aI (updI (zF n ho h c) (38 + 8 * (y * 6 + x) + h (y * 6 + x)) d))))] H := hP
  have hD : va_D A [(qm, .inr (5, [.int (iI th), .ref mz, .ref ms, .int (iI hn), .ref mp, .ref mb, .int (iI L), .ref m1, .ref m2, .ref m3, .ref mB, .ref mF, .ref mN, .ref mS, .int (iI sT), .ref mW, .long acc])), (mz, .inl (gI g, 326, .inl (aI (updI (zF n ho h c) (38 + 8 * (y * 6 + x) + h (y * 6 + x)) d))))] := hD
  refine lv_aload_n hx hb dX5_putOn_25 rfl (lv_at hl 0 rfl) ?_
  refine va_get (D := g.1) (ci := 5) (v := .ref mz) (C := RX5) (T := TX5) (N := 17) hx hb hts in5 hown hE.1 hP 0 rfl rfl 1 (by decide) w0 (fun _ h9 => h9) rfl dX5_putOn_26 ?_
  refine lv_iconst (v := iI 2) hx hb dX5_putOn_29 rfl ?_
  refine lv_bipush (v := iI 6) hx hb dX5_putOn_30 (by decide) ?_
  refine lv_iload_n hx hb dX5_putOn_32 rfl (lv_at hl 2 rfl) ?_
  refine ln_imul hx hb (6 * y) (rfl) dX5_putOn_33 ?_
  refine ln_iadd hx hb (2 + 6 * y) (rfl) dX5_putOn_34 ?_
  refine lv_iload_n hx hb dX5_putOn_35 rfl (lv_at hl 1 rfl) ?_
  refine ln_iadd hx hb (2 + 6 * y + x) (rfl) dX5_putOn_36 ?_
  refine lv_dup2_11 hx hb dX5_putOn_37 rfl rfl ?_
  refine ln_iald hx hb hE hP 1 rfl (by omega) (by omega) (Nat.le_of_ble_eq_true rfl) (h (y * 6 + x)) (by rw [updI_n (by omega)]; exact zF_h (by omega) (by omega) (by omega) (by omega)) dX5_putOn_38 ?_
  refine lv_iconst (v := iI 1) hx hb dX5_putOn_39 rfl ?_
  refine ln_iadd hx hb ((h (y * 6 + x)) + 1) (rfl) dX5_putOn_40 ?_
  refine ln_iast hx hb hE hP hD hS 1 rfl (by omega) (by omega) (Nat.le_of_ble_eq_true rfl) (zF n ho (updI h (y * 6 + x) (h (y * 6 + x) + 1)) (updI c (y * 6 + x) (c (y * 6 + x) + d * p4 (h (y * 6 + x))))) (fun j q7 q8 => by rw [show 2 + 6 * y + x = 2 + (y * 6 + x) by omega]; exact z_put hY (by omega) gd g8 q7 (by omega)) dX5_putOn_41 (fun H locs hP hD hS => ?_)
  have hP : va_P g.1 vwCl [(qm, .inr (5, [.int (iI th), .ref mz, .ref ms, .int (iI hn), .ref mp, .ref mb, .int (iI L), .ref m1, .ref m2, .ref m3, .ref mB, .ref mF, .ref mN, .ref mS, .int (iI sT), .ref mW, .long acc])), (mz, .inl (gI g, 326, .inl (aI (zF n ho (updI h (y * 6 + x) (h (y * 6 + x) + 1)) (updI c (y * 6 + x) (c (y * 6 + x) + d * p4 (h (y * 6 + x))))))))] H := hP
  have hD : va_D A [(qm, .inr (5, [.int (iI th), .ref mz, .ref ms, .int (iI hn), .ref mp, .ref mb, .int (iI L), .ref m1, .ref m2, .ref m3, .ref mB, .ref mF, .ref mN, .ref mS, .int (iI sT), .ref mW, .long acc])), (mz, .inl (gI g, 326, .inl (aI (zF n ho (updI h (y * 6 + x) (h (y * 6 + x) + 1)) (updI c (y * 6 + x) (c (y * 6 + x) + d * p4 (h (y * 6 + x))))))))] := hD
  have hP := hP.recell 1 rfl ((zF n ho (updI h (y * 6 + x) (h (y * 6 + x) + 1)) (updI c (y * 6 + x) (c (y * 6 + x) + d * p4 (h (y * 6 + x)))))) (fun j h0 h1 => by omega)
  have hD := hD.set (p := 1) (e := .inl (gI g, 326, .inl (aI ((zF n ho (updI h (y * 6 + x) (h (y * 6 + x) + 1)) (updI c (y * 6 + x) (c (y * 6 + x) + d * p4 (h (y * 6 + x))))))))) rfl
  have hP : va_P g.1 vwCl [(qm, .inr (5, [.int (iI th), .ref mz, .ref ms, .int (iI hn), .ref mp, .ref mb, .int (iI L), .ref m1, .ref m2, .ref m3, .ref mB, .ref mF, .ref mN, .ref mS, .int (iI sT), .ref mW, .long acc])), (mz, .inl (gI g, 326, .inl (aI ((zF n ho (updI h (y * 6 + x) (h (y * 6 + x) + 1)) (updI c (y * 6 + x) (c (y * 6 + x) + d * p4 (h (y * 6 + x)))))))))] _ := hP
  have hD : va_D A [(qm, .inr (5, [.int (iI th), .ref mz, .ref ms, .int (iI hn), .ref mp, .ref mb, .int (iI L), .ref m1, .ref m2, .ref m3, .ref mB, .ref mF, .ref mN, .ref mS, .int (iI sT), .ref mW, .long acc])), (mz, .inl (gI g, 326, .inl (aI ((zF n ho (updI h (y * 6 + x) (h (y * 6 + x) + 1)) (updI c (y * 6 + x) (c (y * 6 + x) + d * p4 (h (y * 6 + x)))))))))] := hD
  exact mend_v (S := Unit) (w' := (fun _ => [(qm, .inr (5, [.int (iI th), .ref mz, .ref ms, .int (iI hn), .ref mp, .ref mb, .int (iI L), .ref m1, .ref m2, .ref m3, .ref mB, .ref mF, .ref mN, .ref mS, .int (iI sT), .ref mW, .long acc])), (mz, .inl (gI g, 326, .inl (aI ((zF n ho (updI h (y * 6 + x) (h (y * 6 + x) + 1)) (updI c (y * 6 + x) (c (y * 6 + x) + d * p4 (h (y * 6 + x)))))))))])) (post := (fun _ => True)) hx hb hr hlk hS () hP hD (trivial) (Nat.le_of_ble_eq_true rfl) (Nat.le_of_ble_eq_true rfl) dX5_putOn_42
set_option maxHeartbeats 800000 in
set_option maxRecDepth 100000 in
theorem c_X5_takeFrom (l : Launch) (g : GT) (qm : Nat) (th : Int) (mz : Nat) (ms : Nat) (hn : Int) (mp : Nat) (mb : Nat) (L : Int) (m1 : Nat) (m2 : Nat) (m3 : Nat) (mB : Nat) (mF : Nat) (mN : Nat) (mS : Nat) (sT : Int) (mW : Nat) (acc : Int64) (n : Int) (ho : Int) (h : Int → Int) (c : Int → Int) (x : Int) (y : Int) (hY : YOk n ho h c) (h1 : 0 ≤ x) (h2 : x < n) (h3 : 0 ≤ y) (h4 : y < n) (g5 : h (y * 6 + x) ≠ 0) : MutI l yX5_takeFrom wsX5_takeFrom ({ frames := 1, cells := 0, slots := 0, locals := 22 }) 0 0 g [(qm, .inr (5, [.int (iI th), .ref mz, .ref ms, .int (iI hn), .ref mp, .ref mb, .int (iI L), .ref m1, .ref m2, .ref m3, .ref mB, .ref mF, .ref mN, .ref mS, .int (iI sT), .ref mW, .long acc])), (mz, .inl (gI g, 326, .inl (aI (zF n ho h c))))] [.ref qm, .int (iI x), .int (iI y)] (S := Unit) (fun _ => True) (fun _ => colZ (c (y * 6 + x)) (h (y * 6 + x) - 1)) (fun _ => [(qm, .inr (5, [.int (iI th), .ref mz, .ref ms, .int (iI hn), .ref mp, .ref mb, .int (iI L), .ref m1, .ref m2, .ref m3, .ref mB, .ref mF, .ref mN, .ref mS, .int (iI sT), .ref mW, .long acc])), (mz, .inl (gI g, 326, .inl (aI ((zF n ho (lowH h (y * 6 + x) (h (y * 6 + x) - 1)) (lowC h c (y * 6 + x) (h (y * 6 + x) - 1)))))))]) := by
  refine mut_of (y := yX5_takeFrom) (ws := wsX5_takeFrom) (av := [.ref qm, .int (iI x), .int (iI y)]) (w := [(qm, .inr (5, [.int (iI th), .ref mz, .ref ms, .int (iI hn), .ref mp, .ref mb, .int (iI L), .ref m1, .ref m2, .ref m3, .ref mB, .ref mF, .ref mN, .ref mS, .int (iI sT), .ref mW, .long acc])), (mz, .inl (gI g, 326, .inl (aI (zF n ho h c))))]) (Qc := fun A => va_Qi (fun x9 (u9 : Unit) => x9 = iI ((fun _ => colZ (c (y * 6 + x)) (h (y * 6 + x) - 1)) u9) ∧ (fun _ => True) u9) (fun u9 t9 => MB g ((fun _ => [(qm, .inr (5, [.int (iI th), .ref mz, .ref ms, .int (iI hn), .ref mp, .ref mb, .int (iI L), .ref m1, .ref m2, .ref m3, .ref mB, .ref mF, .ref mN, .ref mS, .int (iI sT), .ref mW, .long acc])), (mz, .inl (gI g, 326, .inl (aI ((zF n ho (lowH h (y * 6 + x) (h (y * 6 + x) - 1)) (lowC h c (y * 6 + x) (h (y * 6 + x) - 1)))))))]) u9) A t9) A) (cc := cX5_takeFrom) (maxL := 5) (ret := (some .int)) (by decide) rfl (Nat.le_of_ble_eq_true rfl) ?_
  intro pZ eZ sZ mZ bZ meZ cZ A F hin hA hP hD hE hS ls hl
  obtain ⟨hx, hb, hr, hml, hts, hown, hlk⟩ := F
  skip
  have hown : sZ.vm.findClass RX5 = some mZ.cls := hown
  have hl : lv_has ls 5 [(0, .ref qm), (1, .int (iI x)), (2, .int (iI y))] := hl
  skip
  have w0 := hts (.fieldLink RX5 7 "SlantYardModel" "z" "[I") (by decide +kernel)
  have in5 : ∀ w ∈ u_ws RX5 TX5 17, w ∈ wsX5_takeFrom := by decide +kernel
  have hnn := hY.n
  have hho := hY.hr
  have hh9 := YOk.h hY (y * 6 + x)
  refine lv_aload_n hx hb dX5_takeFrom_0 rfl (lv_at hl 0 rfl) ?_
  refine va_get (D := g.1) (ci := 5) (v := .ref mz) (C := RX5) (T := TX5) (N := 17) hx hb hts in5 hown hE.1 hP 0 rfl rfl 1 (by decide) w0 (fun _ h9 => h9) rfl dX5_takeFrom_1 ?_
  refine lv_iconst (v := iI 2) hx hb dX5_takeFrom_4 rfl ?_
  refine lv_bipush (v := iI 6) hx hb dX5_takeFrom_5 (by decide) ?_
  refine lv_iload_n hx hb dX5_takeFrom_7 rfl (lv_at hl 2 rfl) ?_
  refine ln_imul hx hb (6 * y) (rfl) dX5_takeFrom_8 ?_
  refine ln_iadd hx hb (2 + 6 * y) (rfl) dX5_takeFrom_9 ?_
  refine lv_iload_n hx hb dX5_takeFrom_10 rfl (lv_at hl 1 rfl) ?_
  refine ln_iadd hx hb (2 + 6 * y + x) (rfl) dX5_takeFrom_11 ?_
  refine lv_dup2_11 hx hb dX5_takeFrom_12 rfl rfl ?_
  refine ln_iald hx hb hE hP 1 rfl (by omega) (by omega) (Nat.le_of_ble_eq_true rfl) (h (y * 6 + x)) (zF_h (by omega) (by omega) (by omega) (by omega)) dX5_takeFrom_13 ?_
  refine lv_iconst (v := iI 1) hx hb dX5_takeFrom_14 rfl ?_
  refine ln_isub hx hb ((h (y * 6 + x)) - 1) (rfl) dX5_takeFrom_15 ?_
  refine ln_iast hx hb hE hP hD hS 1 rfl (by omega) (by omega) (Nat.le_of_ble_eq_true rfl) (updI (zF n ho h c) (2 + (y * 6 + x)) (h (y * 6 + x) - 1)) (fun j _ _ => by rw [show 2 + 6 * y + x = 2 + (y * 6 + x) by omega]) dX5_takeFrom_16 (fun H locs hP hD hS => ?_)
  have hP : va_P g.1 vwCl [(qm, .inr (5, [.int (iI th), .ref mz, .ref ms, .int (iI hn), .ref mp, .ref mb, .int (iI L), .ref m1, .ref m2, .ref m3, .ref mB, .ref mF, .ref mN, .ref mS, .int (iI sT), .ref mW, .long acc])), (mz, .inl (gI g, 326, .inl (aI (updI (zF n ho h c) (2 + (y * 6 + x)) (h (y * 6 + x) - 1)))))] H := hP
  have hD : va_D A [(qm, .inr (5, [.int (iI th), .ref mz, .ref ms, .int (iI hn), .ref mp, .ref mb, .int (iI L), .ref m1, .ref m2, .ref m3, .ref mB, .ref mF, .ref mN, .ref mS, .int (iI sT), .ref mW, .long acc])), (mz, .inl (gI g, 326, .inl (aI (updI (zF n ho h c) (2 + (y * 6 + x)) (h (y * 6 + x) - 1)))))] := hD
  refine lv_bipush (v := iI 38) hx hb dX5_takeFrom_17 (by decide) ?_
  refine lv_bipush (v := iI 8) hx hb dX5_takeFrom_19 (by decide) ?_
  refine lv_bipush (v := iI 6) hx hb dX5_takeFrom_21 (by decide) ?_
  refine lv_iload_n hx hb dX5_takeFrom_23 rfl (lv_at hl 2 rfl) ?_
  refine ln_imul hx hb (6 * y) (rfl) dX5_takeFrom_24 ?_
  refine lv_iload_n hx hb dX5_takeFrom_25 rfl (lv_at hl 1 rfl) ?_
  refine ln_iadd hx hb (6 * y + x) (rfl) dX5_takeFrom_26 ?_
  refine ln_imul hx hb (8 * (6 * y + x)) (rfl) dX5_takeFrom_27 ?_
  refine ln_iadd hx hb (38 + 8 * (6 * y + x)) (rfl) dX5_takeFrom_28 ?_
  refine lv_aload_n hx hb dX5_takeFrom_29 rfl (lv_at hl 0 rfl) ?_
  refine lv_iload_n hx hb dX5_takeFrom_30 rfl (lv_at hl 1 rfl) ?_
  refine lv_iload_n hx hb dX5_takeFrom_31 rfl (lv_at hl 2 rfl) ?_
  have hPc_1 := hP.sub (ws' := [(qm, .inr (5, [.int (iI th), .ref mz, .ref ms, .int (iI hn), .ref mp, .ref mb, .int (iI L), .ref m1, .ref m2, .ref m3, .ref mB, .ref mF, .ref mN, .ref mS, .int (iI sT), .ref mW, .long acc])), (mz, .inl (gI g, 326, .inl (aI (updI (zF n ho h c) (2 + (y * 6 + x)) (h (y * 6 + x) - 1)))))]) [0, 1] rfl
  refine pc_i (va_runV (As := [.int (iI x), .int (iI y)]) (rest := [.int (iI (38 + 8 * (6 * y + x)))]) ⟨hx, hb, hml, hown, hts⟩ (c_X5_height_g l g qm th mz ms hn mp mb L m1 m2 m3 mB mF mN mS sT mW acc (updI (zF n ho h c) (2 + (y * 6 + x)) (h (y * 6 + x) - 1)) x y (by omega) (by omega)) (cwV 2 hts gX5_takeFrom_X5_height rfl rfl rfl (by decide +kernel) ⟨Nat.le_of_ble_eq_true rfl, Nat.le_of_ble_eq_true rfl⟩) (puV hE hS hPc_1 rfl rfl) rfl rfl hl.1 rfl (lv_room (Nat.le_of_ble_eq_true rfl)) dX5_takeFrom_32 ⟨Nat.le_of_ble_eq_true rfl, Nat.le_of_ble_eq_true rfl⟩) ?_
  refine ln_top (y := h (y * 6 + x) - 1) (by rw [show 2 + 6 * y + x = 2 + (y * 6 + x) by omega]; exact updI_s) ?_
  refine ln_iadd hx hb (38 + 8 * (6 * y + x) + (h (y * 6 + x) - 1)) (rfl) dX5_takeFrom_35 ?_
  refine lv_istore_n (lv' := [(3, .int (iI (38 + 8 * (6 * y + x) + (h (y * 6 + x) - 1)))), (0, .ref qm), (1, .int (iI x)), (2, .int (iI y))]) hx hb dX5_takeFrom_36 rfl hl (by decide) rfl (fun ls hl => ?_)
  refine lv_aload_n hx hb dX5_takeFrom_37 rfl (lv_at hl 1 rfl) ?_
  refine va_get (D := g.1) (ci := 5) (v := .ref mz) (C := RX5) (T := TX5) (N := 17) hx hb hts in5 hown hE.1 hP 0 rfl rfl 1 (by decide) w0 (fun _ h9 => h9) rfl dX5_takeFrom_38 ?_
  refine lv_iload_n hx hb dX5_takeFrom_41 rfl (lv_at hl 0 rfl) ?_
  refine ln_iald hx hb hE hP 1 rfl (by omega) (by omega) (Nat.le_of_ble_eq_true rfl) (colZ (c (y * 6 + x)) (h (y * 6 + x) - 1)) (by rw [updI_n (by omega), zF_c (by omega) (by omega) (by omega) (by omega) (by omega) (by omega), if_pos (by omega)]) dX5_takeFrom_42 ?_
  refine lv_istore (lv' := [(4, .int (iI (colZ (c (y * 6 + x)) (h (y * 6 + x) - 1)))), (3, .int (iI (38 + 8 * (6 * y + x) + (h (y * 6 + x) - 1)))), (0, .ref qm), (1, .int (iI x)), (2, .int (iI y))]) hx hb dX5_takeFrom_43 hl (by decide) rfl (fun ls hl => ?_)
  refine lv_aload_n hx hb dX5_takeFrom_45 rfl (lv_at hl 2 rfl) ?_
  refine va_get (D := g.1) (ci := 5) (v := .ref mz) (C := RX5) (T := TX5) (N := 17) hx hb hts in5 hown hE.1 hP 0 rfl rfl 1 (by decide) w0 (fun _ h9 => h9) rfl dX5_takeFrom_46 ?_
  refine lv_iload_n hx hb dX5_takeFrom_49 rfl (lv_at hl 1 rfl) ?_
  refine lv_iconst (v := iI 0) hx hb dX5_takeFrom_50 rfl ?_
  refine ln_iast hx hb hE hP hD hS 1 rfl (by omega) (by omega) (Nat.le_of_ble_eq_true rfl) (zF n ho (lowH h (y * 6 + x) (h (y * 6 + x) - 1)) (lowC h c (y * 6 + x) (h (y * 6 + x) - 1))) (fun j q7 q8 => by rw [show 38 + 8 * (6 * y + x) + (h (y * 6 + x) - 1) = 38 + 8 * (y * 6 + x) + (h (y * 6 + x) - 1) by omega]; exact z_take hY (by omega) g5 q7 (by omega)) dX5_takeFrom_51 (fun H locs hP hD hS => ?_)
  have hP : va_P g.1 vwCl [(qm, .inr (5, [.int (iI th), .ref mz, .ref ms, .int (iI hn), .ref mp, .ref mb, .int (iI L), .ref m1, .ref m2, .ref m3, .ref mB, .ref mF, .ref mN, .ref mS, .int (iI sT), .ref mW, .long acc])), (mz, .inl (gI g, 326, .inl (aI (zF n ho (lowH h (y * 6 + x) (h (y * 6 + x) - 1)) (lowC h c (y * 6 + x) (h (y * 6 + x) - 1))))))] H := hP
  have hD : va_D A [(qm, .inr (5, [.int (iI th), .ref mz, .ref ms, .int (iI hn), .ref mp, .ref mb, .int (iI L), .ref m1, .ref m2, .ref m3, .ref mB, .ref mF, .ref mN, .ref mS, .int (iI sT), .ref mW, .long acc])), (mz, .inl (gI g, 326, .inl (aI (zF n ho (lowH h (y * 6 + x) (h (y * 6 + x) - 1)) (lowC h c (y * 6 + x) (h (y * 6 + x) - 1))))))] := hD
  refine lv_iload hx hb dX5_takeFrom_52 (lv_at hl 0 rfl) ?_
  have hP := hP.recell 1 rfl ((zF n ho (lowH h (y * 6 + x) (h (y * 6 + x) - 1)) (lowC h c (y * 6 + x) (h (y * 6 + x) - 1)))) (fun j h0 h1 => by omega)
  have hD := hD.set (p := 1) (e := .inl (gI g, 326, .inl (aI ((zF n ho (lowH h (y * 6 + x) (h (y * 6 + x) - 1)) (lowC h c (y * 6 + x) (h (y * 6 + x) - 1))))))) rfl
  have hP : va_P g.1 vwCl [(qm, .inr (5, [.int (iI th), .ref mz, .ref ms, .int (iI hn), .ref mp, .ref mb, .int (iI L), .ref m1, .ref m2, .ref m3, .ref mB, .ref mF, .ref mN, .ref mS, .int (iI sT), .ref mW, .long acc])), (mz, .inl (gI g, 326, .inl (aI ((zF n ho (lowH h (y * 6 + x) (h (y * 6 + x) - 1)) (lowC h c (y * 6 + x) (h (y * 6 + x) - 1)))))))] _ := hP
  have hD : va_D A [(qm, .inr (5, [.int (iI th), .ref mz, .ref ms, .int (iI hn), .ref mp, .ref mb, .int (iI L), .ref m1, .ref m2, .ref m3, .ref mB, .ref mF, .ref mN, .ref mS, .int (iI sT), .ref mW, .long acc])), (mz, .inl (gI g, 326, .inl (aI ((zF n ho (lowH h (y * 6 + x) (h (y * 6 + x) - 1)) (lowC h c (y * 6 + x) (h (y * 6 + x) - 1)))))))] := hD
  exact mend_i (S := Unit) (w' := (fun _ => [(qm, .inr (5, [.int (iI th), .ref mz, .ref ms, .int (iI hn), .ref mp, .ref mb, .int (iI L), .ref m1, .ref m2, .ref m3, .ref mB, .ref mF, .ref mN, .ref mS, .int (iI sT), .ref mW, .long acc])), (mz, .inl (gI g, 326, .inl (aI ((zF n ho (lowH h (y * 6 + x) (h (y * 6 + x) - 1)) (lowC h c (y * 6 + x) (h (y * 6 + x) - 1)))))))])) (post := (fun _ => True)) (r := (fun _ => colZ (c (y * 6 + x)) (h (y * 6 + x) - 1))) hx hb hr hlk hS () hP hD (trivial) (by rfl) (Nat.le_of_ble_eq_true rfl) (Nat.le_of_ble_eq_true rfl) dX5_takeFrom_54

set_option maxHeartbeats 800000 in
set_option maxRecDepth 100000 in
theorem c_X5_overtaken (l : Launch) (g : GT) (qm : Nat) (th : Int) (mz : Nat) (ms : Nat) (hn : Int) (mp : Nat) (mb : Nat) (L : Int) (m1 : Nat) (m2 : Nat) (m3 : Nat) (mB : Nat) (mF : Nat) (mN : Nat) (mS : Nat) (sT : Int) (mW : Nat) (acc : Int64) (e : Int → Int) (v : Int → Int) (b : Int) (gv : ∀ j, 0 ≤ j → j < 512 → v j = 0 ∨ v j = 1) (ge : ∀ j, -1 ≤ e j ∧ e j < 288) (gb : 0 ≤ b ∧ b < 288) : MetI l yX5_overtaken wsX5_overtaken ({ frames := 0, cells := 0, slots := 0, locals := 0 }) g [(qm, .inr (5, [.int (iI th), .ref mz, .ref ms, .int (iI hn), .ref mp, .ref mb, .int (iI L), .ref m1, .ref m2, .ref m3, .ref mB, .ref mF, .ref mN, .ref mS, .int (iI sT), .ref mW, .long acc])), (mB, .inl (gI g, 512, .inl (aI e))), (mW, .inl (gZ g, 512, .inl (aI v)))] [.ref qm, .int (iI b)] (sm (fun t => bI (v t ≠ 0 ∧ e t = b)) 512) := by
  refine pure_of (cc := cX5_overtaken) (maxL := 4) (ret := (some .int)) (by decide) rfl (Nat.le_of_ble_eq_true rfl) ?_
  intro pZ eZ sZ mZ bZ meZ cZ F hP hE hS ls hl
  obtain ⟨hx, hb, hr, hml, hts, hown, hlk⟩ := F
  have hown : sZ.vm.findClass RX5 = some mZ.cls := hown
  have hl : lv_has ls 4 [(0, .ref qm), (1, .int (iI b))] := hl
  have w0 := hts (.fieldLink RX5 43 "SlantYardModel" "wasSeen" "[Z") (by decide +kernel)
  have w1 := hts (.fieldLink RX5 31 "SlantYardModel" "blocks" "[I") (by decide +kernel)
  have in5 : ∀ w ∈ u_ws RX5 TX5 17, w ∈ wsX5_overtaken := by decide +kernel
  refine lv_iconst (v := iI 0) hx hb dX5_overtaken_0 rfl ?_
  refine lv_istore_n (lv' := [(2, .int (iI 0)), (0, .ref qm), (1, .int (iI b))]) hx hb dX5_overtaken_1 rfl hl (by decide) rfl (fun ls hl => ?_)
  refine lv_iconst (v := iI 0) hx hb dX5_overtaken_2 rfl ?_
  refine lv_istore_n (lv' := [(3, .int (iI 0)), (2, .int (iI 0)), (0, .ref qm), (1, .int (iI b))]) hx hb dX5_overtaken_3 rfl hl (by decide) rfl (fun ls hl => ?_)
  have L4 : ∀ (k_1 : Nat) (k : Int) (gk : 0 ≤ k) (gl : k ≤ 512) (ls : Array Slot), lv_has ls 4 [(0, .ref qm), (1, .int (iI b)), (2, .int (iI ((sm (fun t => bI (v t ≠ 0 ∧ e t = b)) k)))), (3, .int (iI k))] → (512 - k).toNat < k_1 → W pZ l eZ ({ frames := 0, cells := 0, slots := 0, locals := 0 } : Room) sZ mZ [.ref qm, .int (iI b)].toArray bZ meZ cZ sZ.heap [] 0 0 (MQ bZ (vp_Si (fun y9 => y9 = iI (sm (fun t => bI (v t ≠ 0 ∧ e t = b)) 512))) [.ref qm, .int (iI b)].toArray sZ 0 0 (fun _ => False)) (F0 mZ 4 ls []) := by
    intro k_1
    induction k_1 with
    | zero => intro k gk gl ls hl hm_3; exact absurd hm_3 (Nat.not_lt_zero _)
    | succ k_1 ih_2 =>
      intro k gk gl ls hl hm_3
      refine lv_iload_n hx hb dX5_overtaken_4 rfl (lv_at hl 3 rfl) ?_
      refine lv_sipush (v := iI 512) hx hb dX5_overtaken_5 (by decide) ?_
      refine ln_icmp_ge (tgt := 44) hx hb dX5_overtaken_8 (by decide) ⟨by omega, by omega⟩ (by decide) (fun c_4 => ?_) (fun c_4 => ?_)
      · skip
        refine lv_iload_n hx hb dX5_overtaken_44 rfl (lv_at hl 2 rfl) ?_
        exact pend_i hx hb hr hlk hS rfl (by rw [show k = 512 by omega]) dX5_overtaken_45
      · skip
        have hv9 := gv k gk (by omega)
        have he9 := ge k
        refine lv_iload_n hx hb dX5_overtaken_11 rfl (lv_at hl 2 rfl) ?_
        refine lv_aload_n hx hb dX5_overtaken_12 rfl (lv_at hl 0 rfl) ?_
        refine va_get (D := g.1) (ci := 5) (v := .ref mW) (C := RX5) (T := TX5) (N := 17) hx hb hts in5 hown hE.1 hP 0 rfl rfl 15 (by decide) w0 (fun _ h9 => h9) rfl dX5_overtaken_13 ?_
        refine lv_iload_n hx hb dX5_overtaken_16 rfl (lv_at hl 3 rfl) ?_
        refine ln_zald hx hb hE hP 2 rfl (by omega) (by omega) (Nat.le_of_ble_eq_true rfl) (v k) (rfl) dX5_overtaken_17 ?_
        refine ln_if_eq (tgt := 35) hx hb dX5_overtaken_18 (by decide) ⟨by omega, by omega⟩ (fun c_5 => ?_) (fun c_5 => ?_)
        · skip
          refine lv_iconst (v := iI 0) hx hb dX5_overtaken_35 rfl ?_
          refine ln_iadd hx hb (((sm (fun t => bI (v t ≠ 0 ∧ e t = b)) k)) + 0) (rfl) dX5_overtaken_36 ?_
          refine lv_istore_n (lv' := [(2, .int (iI (((sm (fun t => bI (v t ≠ 0 ∧ e t = b)) k)) + 0))), (0, .ref qm), (1, .int (iI b)), (3, .int (iI k))]) hx hb dX5_overtaken_37 rfl hl (by decide) rfl (fun ls hl => ?_)
          refine lv_iinc (v := iI (k + 1)) (lv' := [(3, .int (iI (k + 1))), (2, .int (iI (((sm (fun t => bI (v t ≠ 0 ∧ e t = b)) k)) + 0))), (0, .ref qm), (1, .int (iI b))]) hx hb dX5_overtaken_38 hl (k := 3) rfl (iI_add _ _) (by decide) rfl (fun ls hl => ?_)
          refine lv_goto (tgt := 4) hx hb dX5_overtaken_41 (by decide) ?_
          have hl := lv_re hl 1 rfl (.int (iI ((sm (fun t => bI (v t ≠ 0 ∧ e t = b)) (k + 1))))) (congrArg (fun z => Value.int (iI z)) (show ((sm (fun t => bI (v t ≠ 0 ∧ e t = b)) k)) + 0 = (sm (fun t => bI (v t ≠ 0 ∧ e t = b)) (k + 1)) from by rw [sm_s gk]; show _ = _ + bI (v k ≠ 0 ∧ e k = b); first | (rw [bI_t ⟨by omega, by omega⟩]; done) | (rw [bI_f (by omega)]; done)))
          have hl : lv_has ls 4 [(3, .int (iI (k + 1))), (2, .int (iI ((sm (fun t => bI (v t ≠ 0 ∧ e t = b)) (k + 1))))), (0, .ref qm), (1, .int (iI b))] := hl
          exact ih_2 (k + 1) (by omega) (by omega) _ (lv_sub hl [2, 3, 1, 0] rfl) (by omega)
        · skip
          refine lv_aload_n hx hb dX5_overtaken_21 rfl (lv_at hl 0 rfl) ?_
          refine va_get (D := g.1) (ci := 5) (v := .ref mB) (C := RX5) (T := TX5) (N := 17) hx hb hts in5 hown hE.1 hP 0 rfl rfl 10 (by decide) w1 (fun _ h9 => h9) rfl dX5_overtaken_22 ?_
          refine lv_iload_n hx hb dX5_overtaken_25 rfl (lv_at hl 3 rfl) ?_
          refine ln_iald hx hb hE hP 1 rfl (by omega) (by omega) (Nat.le_of_ble_eq_true rfl) (e k) (rfl) dX5_overtaken_26 ?_
          refine lv_iload_n hx hb dX5_overtaken_27 rfl (lv_at hl 1 rfl) ?_
          refine ln_icmp_ne (tgt := 35) hx hb dX5_overtaken_28 (by decide) ⟨by omega, by omega⟩ ⟨by omega, by omega⟩ (fun c_6 => ?_) (fun c_6 => ?_)
          · skip
            refine lv_iconst (v := iI 0) hx hb dX5_overtaken_35 rfl ?_
            refine ln_iadd hx hb (((sm (fun t => bI (v t ≠ 0 ∧ e t = b)) k)) + 0) (rfl) dX5_overtaken_36 ?_
            refine lv_istore_n (lv' := [(2, .int (iI (((sm (fun t => bI (v t ≠ 0 ∧ e t = b)) k)) + 0))), (0, .ref qm), (1, .int (iI b)), (3, .int (iI k))]) hx hb dX5_overtaken_37 rfl hl (by decide) rfl (fun ls hl => ?_)
            refine lv_iinc (v := iI (k + 1)) (lv' := [(3, .int (iI (k + 1))), (2, .int (iI (((sm (fun t => bI (v t ≠ 0 ∧ e t = b)) k)) + 0))), (0, .ref qm), (1, .int (iI b))]) hx hb dX5_overtaken_38 hl (k := 3) rfl (iI_add _ _) (by decide) rfl (fun ls hl => ?_)
            refine lv_goto (tgt := 4) hx hb dX5_overtaken_41 (by decide) ?_
            have hl := lv_re hl 1 rfl (.int (iI ((sm (fun t => bI (v t ≠ 0 ∧ e t = b)) (k + 1))))) (congrArg (fun z => Value.int (iI z)) (show ((sm (fun t => bI (v t ≠ 0 ∧ e t = b)) k)) + 0 = (sm (fun t => bI (v t ≠ 0 ∧ e t = b)) (k + 1)) from by rw [sm_s gk]; show _ = _ + bI (v k ≠ 0 ∧ e k = b); first | (rw [bI_t ⟨by omega, by omega⟩]; done) | (rw [bI_f (by omega)]; done)))
            have hl : lv_has ls 4 [(3, .int (iI (k + 1))), (2, .int (iI ((sm (fun t => bI (v t ≠ 0 ∧ e t = b)) (k + 1))))), (0, .ref qm), (1, .int (iI b))] := hl
            exact ih_2 (k + 1) (by omega) (by omega) _ (lv_sub hl [2, 3, 1, 0] rfl) (by omega)
          · skip
            refine lv_iconst (v := iI 1) hx hb dX5_overtaken_31 rfl ?_
            refine lv_goto (tgt := 36) hx hb dX5_overtaken_32 (by decide) ?_
            refine ln_iadd hx hb (((sm (fun t => bI (v t ≠ 0 ∧ e t = b)) k)) + 1) (rfl) dX5_overtaken_36 ?_
            refine lv_istore_n (lv' := [(2, .int (iI (((sm (fun t => bI (v t ≠ 0 ∧ e t = b)) k)) + 1))), (0, .ref qm), (1, .int (iI b)), (3, .int (iI k))]) hx hb dX5_overtaken_37 rfl hl (by decide) rfl (fun ls hl => ?_)
            refine lv_iinc (v := iI (k + 1)) (lv' := [(3, .int (iI (k + 1))), (2, .int (iI (((sm (fun t => bI (v t ≠ 0 ∧ e t = b)) k)) + 1))), (0, .ref qm), (1, .int (iI b))]) hx hb dX5_overtaken_38 hl (k := 3) rfl (iI_add _ _) (by decide) rfl (fun ls hl => ?_)
            refine lv_goto (tgt := 4) hx hb dX5_overtaken_41 (by decide) ?_
            have hl := lv_re hl 1 rfl (.int (iI ((sm (fun t => bI (v t ≠ 0 ∧ e t = b)) (k + 1))))) (congrArg (fun z => Value.int (iI z)) (show ((sm (fun t => bI (v t ≠ 0 ∧ e t = b)) k)) + 1 = (sm (fun t => bI (v t ≠ 0 ∧ e t = b)) (k + 1)) from by rw [sm_s gk]; show _ = _ + bI (v k ≠ 0 ∧ e k = b); first | (rw [bI_t ⟨by omega, by omega⟩]; done) | (rw [bI_f (by omega)]; done)))
            have hl : lv_has ls 4 [(3, .int (iI (k + 1))), (2, .int (iI ((sm (fun t => bI (v t ≠ 0 ∧ e t = b)) (k + 1))))), (0, .ref qm), (1, .int (iI b))] := hl
            exact ih_2 (k + 1) (by omega) (by omega) _ (lv_sub hl [2, 3, 1, 0] rfl) (by omega)
  have hl := lv_re hl 1 rfl (.int (iI ((sm (fun t => bI (v t ≠ 0 ∧ e t = b)) 0)))) (congrArg (fun z => Value.int (iI z)) (show 0 = (sm (fun t => bI (v t ≠ 0 ∧ e t = b)) 0) from rfl))
  have hl : lv_has ls 4 [(3, .int (iI 0)), (2, .int (iI ((sm (fun t => bI (v t ≠ 0 ∧ e t = b)) 0)))), (0, .ref qm), (1, .int (iI b))] := hl
  exact L4 _ 0 (by omega) (by omega) _ (lv_sub hl [2, 3, 1, 0] rfl) (Nat.lt_succ_self _)
set_option maxHeartbeats 4000000 in
set_option maxRecDepth 100000 in
theorem c_X5_wouldPut (l : Launch) (g : GT) (qm : Nat) (th : Int) (mz : Nat) (ms : Nat) (hn : Int) (mp : Nat) (mb : Nat) (L : Int) (m1 : Nat) (m2 : Nat) (m3 : Nat) (mB : Nat) (mF : Nat) (mN : Nat) (mS : Nat) (sT : Int) (mW : Nat) (acc : Int64) (n : Int) (ho : Int) (h : Int → Int) (c : Int → Int) (B0 : Int → Int) (G : Int → Int) (N : Int → Int) (S0 : Int → Int) (wB : Int → Int) (x : Int) (y : Int) (w : Int) (hY : YOk n ho h c) (h1 : 0 ≤ x) (h2 : x < n) (h3 : 0 ≤ y) (h4 : y < n) (gw : 0 ≤ w ∧ w ≤ 2) : MutI l yX5_wouldPut wsX5_wouldPut ({ frames := 5, cells := 0, slots := 0, locals := 119 }) 0 0 g [(qm, .inr (5, [.int (iI th), .ref mz, .ref ms, .int (iI hn), .ref mp, .ref mb, .int (iI L), .ref m1, .ref m2, .ref m3, .ref mB, .ref mF, .ref mN, .ref mS, .int (iI sT), .ref mW, .long acc])), (mz, .inl (gI g, 326, .inl (aI (zF n ho h c)))), (mB, .inl (gI g, 512, .inl (aI B0))), (mF, .inl (gI g, 512, .inl (aI G))), (mN, .inl (gI g, 512, .inl (aI N))), (mS, .inl (gI g, 864, .inl (aI S0))), (m1, .inl (gI g, 8, .inl (aI sunX))), (m2, .inl (gI g, 8, .inl (aI sunY))), (m3, .inl (gI g, 8, .inl (aI sunS))), (mW, .inl (gZ g, 512, .inl (aI wB)))] [.ref qm, .int (iI x), .int (iI y), .int (iI w)] (S := (Int → Int) × (Int → Int) × (Int → Int) × (Int → Int) × (Int → Int)) (fun (u9 : (Int → Int) × (Int → Int) × (Int → Int) × (Int → Int) × (Int → Int)) => match u9 with | (B2, G2, N2, S2, wB2) => True) (fun (u9 : (Int → Int) × (Int → Int) × (Int → Int) × (Int → Int) × (Int → Int)) => match u9 with | (B2, G2, N2, S2, wB2) => putV n ho h x y w) (fun (u9 : (Int → Int) × (Int → Int) × (Int → Int) × (Int → Int) × (Int → Int)) => match u9 with | (B2, G2, N2, S2, wB2) => [(qm, .inr (5, [.int (iI th), .ref mz, .ref ms, .int (iI hn), .ref mp, .ref mb, .int (iI L), .ref m1, .ref m2, .ref m3, .ref mB, .ref mF, .ref mN, .ref mS, .int (iI sT), .ref mW, .long acc])), (mz, .inl (gI g, 326, .inl (aI (zF n ho h c)))), (mB, .inl (gI g, 512, .inl (aI B2))), (mF, .inl (gI g, 512, .inl (aI G2))), (mN, .inl (gI g, 512, .inl (aI N2))), (mS, .inl (gI g, 864, .inl (aI S2))), (m1, .inl (gI g, 8, .inl (aI sunX))), (m2, .inl (gI g, 8, .inl (aI sunY))), (m3, .inl (gI g, 8, .inl (aI sunS))), (mW, .inl (gZ g, 512, .inl (aI wB2)))]) := by
  refine mut_of (y := yX5_wouldPut) (ws := wsX5_wouldPut) (av := [.ref qm, .int (iI x), .int (iI y), .int (iI w)]) (w := [(qm, .inr (5, [.int (iI th), .ref mz, .ref ms, .int (iI hn), .ref mp, .ref mb, .int (iI L), .ref m1, .ref m2, .ref m3, .ref mB, .ref mF, .ref mN, .ref mS, .int (iI sT), .ref mW, .long acc])), (mz, .inl (gI g, 326, .inl (aI (zF n ho h c)))), (mB, .inl (gI g, 512, .inl (aI B0))), (mF, .inl (gI g, 512, .inl (aI G))), (mN, .inl (gI g, 512, .inl (aI N))), (mS, .inl (gI g, 864, .inl (aI S0))), (m1, .inl (gI g, 8, .inl (aI sunX))), (m2, .inl (gI g, 8, .inl (aI sunY))), (m3, .inl (gI g, 8, .inl (aI sunS))), (mW, .inl (gZ g, 512, .inl (aI wB)))]) (Qc := fun A => va_Qi (fun x9 (u9 : (Int → Int) × (Int → Int) × (Int → Int) × (Int → Int) × (Int → Int)) => x9 = iI ((fun (u9 : (Int → Int) × (Int → Int) × (Int → Int) × (Int → Int) × (Int → Int)) => match u9 with | (B2, G2, N2, S2, wB2) => putV n ho h x y w) u9) ∧ (fun (u9 : (Int → Int) × (Int → Int) × (Int → Int) × (Int → Int) × (Int → Int)) => match u9 with | (B2, G2, N2, S2, wB2) => True) u9) (fun u9 t9 => MB g ((fun (u9 : (Int → Int) × (Int → Int) × (Int → Int) × (Int → Int) × (Int → Int)) => match u9 with | (B2, G2, N2, S2, wB2) => [(qm, .inr (5, [.int (iI th), .ref mz, .ref ms, .int (iI hn), .ref mp, .ref mb, .int (iI L), .ref m1, .ref m2, .ref m3, .ref mB, .ref mF, .ref mN, .ref mS, .int (iI sT), .ref mW, .long acc])), (mz, .inl (gI g, 326, .inl (aI (zF n ho h c)))), (mB, .inl (gI g, 512, .inl (aI B2))), (mF, .inl (gI g, 512, .inl (aI G2))), (mN, .inl (gI g, 512, .inl (aI N2))), (mS, .inl (gI g, 864, .inl (aI S2))), (m1, .inl (gI g, 8, .inl (aI sunX))), (m2, .inl (gI g, 8, .inl (aI sunY))), (m3, .inl (gI g, 8, .inl (aI sunS))), (mW, .inl (gZ g, 512, .inl (aI wB2)))]) u9) A t9) A) (cc := cX5_wouldPut) (maxL := 8) (ret := (some .int)) (by decide) rfl (Nat.le_of_ble_eq_true rfl) ?_
  intro pZ eZ sZ mZ bZ meZ cZ A F hin hA hP hD hE hS ls hl
  obtain ⟨hx, hb, hr, hml, hts, hown, hlk⟩ := F
  skip
  have hown : sZ.vm.findClass RX5 = some mZ.cls := hown
  have hl : lv_has ls 8 [(0, .ref qm), (1, .int (iI x)), (2, .int (iI y)), (3, .int (iI w))] := hl
  skip
  have w0 := hts (.fieldLink RX5 7 "SlantYardModel" "z" "[I") (by decide +kernel)
  have w1 := hts (.fieldLink RX5 43 "SlantYardModel" "wasSeen" "[Z") (by decide +kernel)
  have w2 := hts (.fieldLink RX5 31 "SlantYardModel" "blocks" "[I") (by decide +kernel)
  have in5 : ∀ w ∈ u_ws RX5 TX5 17, w ∈ wsX5_wouldPut := by decide +kernel
  have hnn := hY.n
  have hho := hY.hr
  have hM9 : MOk (picM n h) := picM_ok hY
  have hI9 : MIn n h (picM n h) := picM_in hY
  have hh9 := YOk.h hY (y * 6 + x)
  have hsk9 := shK_rg (n := n) (h := h) ho (by omega) (k := n) (by omega)
  have hsl9 := shK_rg (n := n) (h := (updI h (y * 6 + x) (h (y * 6 + x) + 1))) ho (by omega) (k := n) (by omega)
  refine lv_aload_n hx hb dX5_wouldPut_0 rfl (lv_at hl 0 rfl) ?_
  refine lv_iload_n hx hb dX5_wouldPut_1 rfl (lv_at hl 1 rfl) ?_
  refine lv_iload_n hx hb dX5_wouldPut_2 rfl (lv_at hl 2 rfl) ?_
  have hPc_1 := hP.sub (ws' := [(qm, .inr (5, [.int (iI th), .ref mz, .ref ms, .int (iI hn), .ref mp, .ref mb, .int (iI L), .ref m1, .ref m2, .ref m3, .ref mB, .ref mF, .ref mN, .ref mS, .int (iI sT), .ref mW, .long acc])), (mz, .inl (gI g, 326, .inl (aI (zF n ho h c))))]) [0, 1] rfl
  refine pc_i (va_runV (As := [.int (iI x), .int (iI y)]) (rest := []) ⟨hx, hb, hml, hown, hts⟩ (c_X5_height l g qm th mz ms hn mp mb L m1 m2 m3 mB mF mN mS sT mW acc n ho h c x y hY h1 h2 h3 h4) (cwV 2 hts gX5_wouldPut_X5_height rfl rfl rfl (by decide +kernel) ⟨Nat.le_of_ble_eq_true rfl, Nat.le_of_ble_eq_true rfl⟩) (puV hE hS hPc_1 rfl rfl) rfl rfl hl.1 rfl (lv_room (Nat.le_of_ble_eq_true rfl)) dX5_wouldPut_3 ⟨Nat.le_of_ble_eq_true rfl, Nat.le_of_ble_eq_true rfl⟩) ?_
  have r_2 : 0 ≤ h (y * 6 + x) ∧ h (y * 6 + x) ≤ 8 := YOk.h hY (y * 6 + x)
  refine lv_istore (lv' := [(4, .int (iI (h (y * 6 + x)))), (0, .ref qm), (1, .int (iI x)), (2, .int (iI y)), (3, .int (iI w))]) hx hb dX5_wouldPut_6 hl (by decide) rfl (fun ls hl => ?_)
  refine lv_iload hx hb dX5_wouldPut_8 (lv_at hl 0 rfl) ?_
  refine lv_bipush (v := iI 8) hx hb dX5_wouldPut_10 (by decide) ?_
  refine ln_icmp_ne (tgt := 17) hx hb dX5_wouldPut_12 (by decide) ⟨by omega, by omega⟩ (by decide) (fun c_3 => ?_) (fun c_3 => ?_)
  · skip
    refine lv_aload_n hx hb dX5_wouldPut_17 rfl (lv_at hl 1 rfl) ?_
    have hPc_4 := hP.sub (ws' := [(qm, .inr (5, [.int (iI th), .ref mz, .ref ms, .int (iI hn), .ref mp, .ref mb, .int (iI L), .ref m1, .ref m2, .ref m3, .ref mB, .ref mF, .ref mN, .ref mS, .int (iI sT), .ref mW, .long acc])), (mz, .inl (gI g, 326, .inl (aI (zF n ho h c)))), (mB, .inl (gI g, 512, .inl (aI B0))), (mF, .inl (gI g, 512, .inl (aI G))), (mN, .inl (gI g, 512, .inl (aI N))), (mS, .inl (gI g, 864, .inl (aI S0)))]) [0, 1, 2, 3, 4, 5] rfl
    have hDc_5 := hD.sub (ws' := [(qm, .inr (5, [.int (iI th), .ref mz, .ref ms, .int (iI hn), .ref mp, .ref mb, .int (iI L), .ref m1, .ref m2, .ref m3, .ref mB, .ref mF, .ref mN, .ref mS, .int (iI sT), .ref mW, .long acc])), (mz, .inl (gI g, 326, .inl (aI (zF n ho h c)))), (mB, .inl (gI g, 512, .inl (aI B0))), (mF, .inl (gI g, 512, .inl (aI G))), (mN, .inl (gI g, 512, .inl (aI N))), (mS, .inl (gI g, 864, .inl (aI S0)))]) [0, 1, 2, 3, 4, 5] (by decide) rfl
    have hFc_6 := va_free (wc := [(qm, .inr (5, [.int (iI th), .ref mz, .ref ms, .int (iI hn), .ref mp, .ref mb, .int (iI L), .ref m1, .ref m2, .ref m3, .ref mB, .ref mF, .ref mN, .ref mS, .int (iI sT), .ref mW, .long acc])), (mz, .inl (gI g, 326, .inl (aI (zF n ho h c)))), (mB, .inl (gI g, 512, .inl (aI B0))), (mF, .inl (gI g, 512, .inl (aI G))), (mN, .inl (gI g, 512, .inl (aI N))), (mS, .inl (gI g, 864, .inl (aI S0)))]) hD hS hA [0, 1, 2, 3, 4, 5] rfl
    refine mc_i (wr := [(m1, .inl (gI g, 8, .inl (aI sunX))), (m2, .inl (gI g, 8, .inl (aI sunY))), (m3, .inl (gI g, 8, .inl (aI sunS))), (mW, .inl (gZ g, 512, .inl (aI wB)))]) (cells1 := 0) (slots1 := 0) (va_runV (As := []) (rest := []) ⟨hx, hb, hml, hown, hts⟩ (c_X5_seenNow l g qm th mz ms hn mp mb L m1 m2 m3 mB mF mN mS sT mW acc n ho h c B0 G N S0 hY sZ.heap.size) (cwV 0 hts gX5_wouldPut_X5_seenNow rfl rfl rfl (by decide +kernel) ⟨Nat.le_of_ble_eq_true rfl, Nat.le_of_ble_eq_true rfl⟩) (muV hE hS hPc_4 hDc_5 hFc_6 rfl rfl) rfl rfl hl.1 rfl (lv_room (Nat.le_of_ble_eq_true rfl)) dX5_wouldPut_18 ⟨Nat.le_of_ble_eq_true rfl, Nat.le_of_ble_eq_true rfl⟩) hP hD hS hA [0, 1, 2, 3, 4, 5] [6, 7, 8, 9] [4, 5, 6, 7, 8, 9, 0, 1, 2, 3] rfl rfl (by decide) (by decide) (fun (u9 : (Int → Int) × (Int → Int)) => match u9 with | (u_7, u_8) => [(qm, .inr (5, [.int (iI th), .ref mz, .ref ms, .int (iI hn), .ref mp, .ref mb, .int (iI L), .ref m1, .ref m2, .ref m3, .ref mB, .ref mF, .ref mN, .ref mS, .int (iI sT), .ref mW, .long acc])), (mz, .inl (gI g, 326, .inl (aI (zF n ho h c)))), (mB, .inl (gI g, 512, .inl (aI ((mbF (picM n h)))))), (mF, .inl (gI g, 512, .inl (aI u_7))), (mN, .inl (gI g, 512, .inl (aI u_8))), (mS, .inl (gI g, 864, .inl (aI ((sdF (picM n h) 512))))), (m1, .inl (gI g, 8, .inl (aI sunX))), (m2, .inl (gI g, 8, .inl (aI sunY))), (m3, .inl (gI g, 8, .inl (aI sunS))), (mW, .inl (gZ g, 512, .inl (aI wB)))]) (fun _ => rfl) (by decide) (Nat.le_of_ble_eq_true rfl) (Nat.le_of_ble_eq_true rfl) (fun u9 H locs hu_9 hP hD hS => ?_)
    obtain ⟨u_7, u_8⟩ := u9
    have hu_9 : GOk (picM n h) u_7 u_8 := hu_9
    have hP : va_P g.1 vwCl [(qm, .inr (5, [.int (iI th), .ref mz, .ref ms, .int (iI hn), .ref mp, .ref mb, .int (iI L), .ref m1, .ref m2, .ref m3, .ref mB, .ref mF, .ref mN, .ref mS, .int (iI sT), .ref mW, .long acc])), (mz, .inl (gI g, 326, .inl (aI (zF n ho h c)))), (mB, .inl (gI g, 512, .inl (aI ((mbF (picM n h)))))), (mF, .inl (gI g, 512, .inl (aI u_7))), (mN, .inl (gI g, 512, .inl (aI u_8))), (mS, .inl (gI g, 864, .inl (aI ((sdF (picM n h) 512))))), (m1, .inl (gI g, 8, .inl (aI sunX))), (m2, .inl (gI g, 8, .inl (aI sunY))), (m3, .inl (gI g, 8, .inl (aI sunS))), (mW, .inl (gZ g, 512, .inl (aI wB)))] H := hP
    have hD : va_D A [(qm, .inr (5, [.int (iI th), .ref mz, .ref ms, .int (iI hn), .ref mp, .ref mb, .int (iI L), .ref m1, .ref m2, .ref m3, .ref mB, .ref mF, .ref mN, .ref mS, .int (iI sT), .ref mW, .long acc])), (mz, .inl (gI g, 326, .inl (aI (zF n ho h c)))), (mB, .inl (gI g, 512, .inl (aI ((mbF (picM n h)))))), (mF, .inl (gI g, 512, .inl (aI u_7))), (mN, .inl (gI g, 512, .inl (aI u_8))), (mS, .inl (gI g, 864, .inl (aI ((sdF (picM n h) 512))))), (m1, .inl (gI g, 8, .inl (aI sunX))), (m2, .inl (gI g, 8, .inl (aI sunY))), (m3, .inl (gI g, 8, .inl (aI sunS))), (mW, .inl (gZ g, 512, .inl (aI wB)))] := hD
    refine ln_topv (w := .int (iI (seenD n h))) rfl ?_
    refine lv_istore (lv' := [(5, .int (iI (seenD n h))), (4, .int (iI (h (y * 6 + x)))), (0, .ref qm), (1, .int (iI x)), (2, .int (iI y)), (3, .int (iI w))]) hx hb dX5_wouldPut_21 hl (by decide) rfl (fun ls hl => ?_)
    refine lv_aload_n hx hb dX5_wouldPut_23 rfl (lv_at hl 2 rfl) ?_
    refine lv_aload_n hx hb dX5_wouldPut_24 rfl (lv_at hl 2 rfl) ?_
    refine va_get (D := g.1) (ci := 5) (v := .ref mz) (C := RX5) (T := TX5) (N := 17) hx hb hts in5 hown hE.1 hP 0 rfl rfl 1 (by decide) w0 (fun _ h9 => h9) rfl dX5_wouldPut_25 ?_
    refine lv_iconst (v := iI 1) hx hb dX5_wouldPut_28 rfl ?_
    refine ln_iald hx hb hE hP 1 rfl (by decide) (by decide) (Nat.le_of_ble_eq_true rfl) ho (rfl) dX5_wouldPut_29 ?_
    have hPc_10 := hP.sub (ws' := [(qm, .inr (5, [.int (iI th), .ref mz, .ref ms, .int (iI hn), .ref mp, .ref mb, .int (iI L), .ref m1, .ref m2, .ref m3, .ref mB, .ref mF, .ref mN, .ref mS, .int (iI sT), .ref mW, .long acc])), (mz, .inl (gI g, 326, .inl (aI (zF n ho h c)))), (m1, .inl (gI g, 8, .inl (aI sunX))), (m2, .inl (gI g, 8, .inl (aI sunY))), (m3, .inl (gI g, 8, .inl (aI sunS)))]) [0, 1, 6, 7, 8] rfl
    refine pc_i (va_runV (As := [.int (iI ho)]) (rest := []) ⟨hx, hb, hml, hown, hts⟩ (c_X5_shaded l g qm th mz ms hn mp mb L m1 m2 m3 mB mF mN mS sT mW acc n ho h c ho hY (by omega)) (cwV 1 hts gX5_wouldPut_X5_shaded rfl rfl rfl (by decide +kernel) ⟨Nat.le_of_ble_eq_true rfl, Nat.le_of_ble_eq_true rfl⟩) (puV hE hS hPc_10 rfl rfl) rfl rfl hl.1 rfl (lv_room (Nat.le_of_ble_eq_true rfl)) dX5_wouldPut_30 ⟨Nat.le_of_ble_eq_true rfl, Nat.le_of_ble_eq_true rfl⟩) ?_
    have r_11 : 0 ≤ shK n h ho n ∧ shK n h ho n ≤ 36 := by have := YOk.n hY; have := @shK_rg n h ho (by omega) n (by omega); omega
    refine lv_istore (lv' := [(6, .int (iI (shK n h ho n))), (5, .int (iI (seenD n h))), (4, .int (iI (h (y * 6 + x)))), (0, .ref qm), (1, .int (iI x)), (2, .int (iI y)), (3, .int (iI w))]) hx hb dX5_wouldPut_33 hl (by decide) rfl (fun ls hl => ?_)
    refine lv_iconst (v := iI 0) hx hb dX5_wouldPut_35 rfl ?_
    refine lv_istore (lv' := [(7, .int (iI 0)), (6, .int (iI (shK n h ho n))), (5, .int (iI (seenD n h))), (4, .int (iI (h (y * 6 + x)))), (0, .ref qm), (1, .int (iI x)), (2, .int (iI y)), (3, .int (iI w))]) hx hb dX5_wouldPut_36 hl (by decide) rfl (fun ls hl => ?_)
    have L38 : ∀ (k_12 : Nat) (k : Int) (v : Int → Int) (gk : 0 ≤ k) (gl : k ≤ 512) (ge : ∀ j, 0 ≤ j → j < k → v j = bI (picM n h j ≠ 0)) (H : Heap) (locs : List Loc), va_P g.1 vwCl [(qm, .inr (5, [.int (iI th), .ref mz, .ref ms, .int (iI hn), .ref mp, .ref mb, .int (iI L), .ref m1, .ref m2, .ref m3, .ref mB, .ref mF, .ref mN, .ref mS, .int (iI sT), .ref mW, .long acc])), (mz, .inl (gI g, 326, .inl (aI (zF n ho h c)))), (mB, .inl (gI g, 512, .inl (aI ((mbF (picM n h)))))), (mF, .inl (gI g, 512, .inl (aI u_7))), (mN, .inl (gI g, 512, .inl (aI u_8))), (mS, .inl (gI g, 864, .inl (aI ((sdF (picM n h) 512))))), (m1, .inl (gI g, 8, .inl (aI sunX))), (m2, .inl (gI g, 8, .inl (aI sunY))), (m3, .inl (gI g, 8, .inl (aI sunS))), (mW, .inl (gZ g, 512, .inl (aI v)))] H → va_D A [(qm, .inr (5, [.int (iI th), .ref mz, .ref ms, .int (iI hn), .ref mp, .ref mb, .int (iI L), .ref m1, .ref m2, .ref m3, .ref mB, .ref mF, .ref mN, .ref mS, .int (iI sT), .ref mW, .long acc])), (mz, .inl (gI g, 326, .inl (aI (zF n ho h c)))), (mB, .inl (gI g, 512, .inl (aI ((mbF (picM n h)))))), (mF, .inl (gI g, 512, .inl (aI u_7))), (mN, .inl (gI g, 512, .inl (aI u_8))), (mS, .inl (gI g, 864, .inl (aI ((sdF (picM n h) 512))))), (m1, .inl (gI g, 8, .inl (aI sunX))), (m2, .inl (gI g, 8, .inl (aI sunY))), (m3, .inl (gI g, 8, .inl (aI sunS))), (mW, .inl (gZ g, 512, .inl (aI v)))] → va_S A sZ.heap H locs → ∀ (ls : Array Slot), lv_has ls 8 [(0, .ref qm), (1, .int (iI x)), (2, .int (iI y)), (3, .int (iI w)), (4, .int (iI (h (y * 6 + x)))), (5, .int (iI (seenD n h))), (6, .int (iI (shK n h ho n))), (7, .int (iI k))] → (512 - k).toNat < k_12 → W pZ l eZ ({ frames := 5, cells := 0, slots := 0, locals := 119 } : Room) sZ mZ [.ref qm, .int (iI x), .int (iI y), .int (iI w)].toArray bZ meZ cZ H locs 0 0 (MQ bZ (va_Qi (fun x9 (u9 : (Int → Int) × (Int → Int) × (Int → Int) × (Int → Int) × (Int → Int)) => x9 = iI ((fun (u9 : (Int → Int) × (Int → Int) × (Int → Int) × (Int → Int) × (Int → Int)) => match u9 with | (B2, G2, N2, S2, wB2) => putV n ho h x y w) u9) ∧ (fun (u9 : (Int → Int) × (Int → Int) × (Int → Int) × (Int → Int) × (Int → Int)) => match u9 with | (B2, G2, N2, S2, wB2) => True) u9) (fun u9 t9 => MB g ((fun (u9 : (Int → Int) × (Int → Int) × (Int → Int) × (Int → Int) × (Int → Int)) => match u9 with | (B2, G2, N2, S2, wB2) => [(qm, .inr (5, [.int (iI th), .ref mz, .ref ms, .int (iI hn), .ref mp, .ref mb, .int (iI L), .ref m1, .ref m2, .ref m3, .ref mB, .ref mF, .ref mN, .ref mS, .int (iI sT), .ref mW, .long acc])), (mz, .inl (gI g, 326, .inl (aI (zF n ho h c)))), (mB, .inl (gI g, 512, .inl (aI B2))), (mF, .inl (gI g, 512, .inl (aI G2))), (mN, .inl (gI g, 512, .inl (aI N2))), (mS, .inl (gI g, 864, .inl (aI S2))), (m1, .inl (gI g, 8, .inl (aI sunX))), (m2, .inl (gI g, 8, .inl (aI sunY))), (m3, .inl (gI g, 8, .inl (aI sunS))), (mW, .inl (gZ g, 512, .inl (aI wB2)))]) u9) A t9) A) [.ref qm, .int (iI x), .int (iI y), .int (iI w)].toArray sZ 0 0 A) (F0 mZ 38 ls []) := by
      intro k_12
      induction k_12 with
      | zero => intro k v gk gl ge H locs hP hD hS ls hl hm_14; exact absurd hm_14 (Nat.not_lt_zero _)
      | succ k_12 ih_13 =>
        intro k v gk gl ge H locs hP hD hS ls hl hm_14
        refine lv_iload hx hb dX5_wouldPut_38 (lv_at hl 7 rfl) ?_
        refine lv_sipush (v := iI 512) hx hb dX5_wouldPut_40 (by decide) ?_
        refine ln_icmp_ge (tgt := 75) hx hb dX5_wouldPut_43 (by decide) ⟨by omega, by omega⟩ (by decide) (fun c_15 => ?_) (fun c_15 => ?_)
        · skip
          refine lv_aload_n hx hb dX5_wouldPut_75 rfl (lv_at hl 0 rfl) ?_
          refine lv_iload_n hx hb dX5_wouldPut_76 rfl (lv_at hl 1 rfl) ?_
          refine lv_iload_n hx hb dX5_wouldPut_77 rfl (lv_at hl 2 rfl) ?_
          refine lv_iconst (v := iI 0) hx hb dX5_wouldPut_78 rfl ?_
          have hPc_16 := hP.sub (ws' := [(qm, .inr (5, [.int (iI th), .ref mz, .ref ms, .int (iI hn), .ref mp, .ref mb, .int (iI L), .ref m1, .ref m2, .ref m3, .ref mB, .ref mF, .ref mN, .ref mS, .int (iI sT), .ref mW, .long acc])), (mz, .inl (gI g, 326, .inl (aI (zF n ho h c))))]) [0, 1] rfl
          have hDc_17 := hD.sub (ws' := [(qm, .inr (5, [.int (iI th), .ref mz, .ref ms, .int (iI hn), .ref mp, .ref mb, .int (iI L), .ref m1, .ref m2, .ref m3, .ref mB, .ref mF, .ref mN, .ref mS, .int (iI sT), .ref mW, .long acc])), (mz, .inl (gI g, 326, .inl (aI (zF n ho h c))))]) [0, 1] (by decide) rfl
          have hFc_18 := va_free (wc := [(qm, .inr (5, [.int (iI th), .ref mz, .ref ms, .int (iI hn), .ref mp, .ref mb, .int (iI L), .ref m1, .ref m2, .ref m3, .ref mB, .ref mF, .ref mN, .ref mS, .int (iI sT), .ref mW, .long acc])), (mz, .inl (gI g, 326, .inl (aI (zF n ho h c))))]) hD hS hA [0, 1] rfl
          refine mc_v (wr := [(mB, .inl (gI g, 512, .inl (aI ((mbF (picM n h)))))), (mF, .inl (gI g, 512, .inl (aI u_7))), (mN, .inl (gI g, 512, .inl (aI u_8))), (mS, .inl (gI g, 864, .inl (aI ((sdF (picM n h) 512))))), (m1, .inl (gI g, 8, .inl (aI sunX))), (m2, .inl (gI g, 8, .inl (aI sunY))), (m3, .inl (gI g, 8, .inl (aI sunS))), (mW, .inl (gZ g, 512, .inl (aI v)))]) (cells1 := 0) (slots1 := 0) (va_runV (As := [.int (iI x), .int (iI y), .int (iI 0)]) (rest := []) ⟨hx, hb, hml, hown, hts⟩ (c_X5_putOn l g qm th mz ms hn mp mb L m1 m2 m3 mB mF mN mS sT mW acc n ho h c x y 0 hY h1 h2 h3 h4 (by omega) (by omega) H.size) (cwV 3 hts gX5_wouldPut_X5_putOn rfl rfl rfl (by decide +kernel) ⟨Nat.le_of_ble_eq_true rfl, Nat.le_of_ble_eq_true rfl⟩) (muV hE hS hPc_16 hDc_17 hFc_18 rfl rfl) rfl rfl hl.1 rfl (lv_room (Nat.le_of_ble_eq_true rfl)) dX5_wouldPut_79 ⟨Nat.le_of_ble_eq_true rfl, Nat.le_of_ble_eq_true rfl⟩) hP hD hS hA [0, 1] [2, 3, 4, 5, 6, 7, 8, 9] [8, 9, 0, 1, 2, 3, 4, 5, 6, 7] rfl rfl (by decide) (by decide) (fun _ => [(qm, .inr (5, [.int (iI th), .ref mz, .ref ms, .int (iI hn), .ref mp, .ref mb, .int (iI L), .ref m1, .ref m2, .ref m3, .ref mB, .ref mF, .ref mN, .ref mS, .int (iI sT), .ref mW, .long acc])), (mz, .inl (gI g, 326, .inl (aI ((zF n ho (updI h (y * 6 + x) (h (y * 6 + x) + 1)) (updI c (y * 6 + x) (c (y * 6 + x) + 0 * p4 (h (y * 6 + x))))))))), (mB, .inl (gI g, 512, .inl (aI ((mbF (picM n h)))))), (mF, .inl (gI g, 512, .inl (aI u_7))), (mN, .inl (gI g, 512, .inl (aI u_8))), (mS, .inl (gI g, 864, .inl (aI ((sdF (picM n h) 512))))), (m1, .inl (gI g, 8, .inl (aI sunX))), (m2, .inl (gI g, 8, .inl (aI sunY))), (m3, .inl (gI g, 8, .inl (aI sunS))), (mW, .inl (gZ g, 512, .inl (aI v)))]) (fun _ => rfl) (by decide) (Nat.le_of_ble_eq_true rfl) (Nat.le_of_ble_eq_true rfl) (fun u9 H locs hu_19 hP hD hS => ?_)
          have hP : va_P g.1 vwCl [(qm, .inr (5, [.int (iI th), .ref mz, .ref ms, .int (iI hn), .ref mp, .ref mb, .int (iI L), .ref m1, .ref m2, .ref m3, .ref mB, .ref mF, .ref mN, .ref mS, .int (iI sT), .ref mW, .long acc])), (mz, .inl (gI g, 326, .inl (aI ((zF n ho (updI h (y * 6 + x) (h (y * 6 + x) + 1)) (updI c (y * 6 + x) (c (y * 6 + x) + 0 * p4 (h (y * 6 + x))))))))), (mB, .inl (gI g, 512, .inl (aI ((mbF (picM n h)))))), (mF, .inl (gI g, 512, .inl (aI u_7))), (mN, .inl (gI g, 512, .inl (aI u_8))), (mS, .inl (gI g, 864, .inl (aI ((sdF (picM n h) 512))))), (m1, .inl (gI g, 8, .inl (aI sunX))), (m2, .inl (gI g, 8, .inl (aI sunY))), (m3, .inl (gI g, 8, .inl (aI sunS))), (mW, .inl (gZ g, 512, .inl (aI v)))] H := hP
          have hD : va_D A [(qm, .inr (5, [.int (iI th), .ref mz, .ref ms, .int (iI hn), .ref mp, .ref mb, .int (iI L), .ref m1, .ref m2, .ref m3, .ref mB, .ref mF, .ref mN, .ref mS, .int (iI sT), .ref mW, .long acc])), (mz, .inl (gI g, 326, .inl (aI ((zF n ho (updI h (y * 6 + x) (h (y * 6 + x) + 1)) (updI c (y * 6 + x) (c (y * 6 + x) + 0 * p4 (h (y * 6 + x))))))))), (mB, .inl (gI g, 512, .inl (aI ((mbF (picM n h)))))), (mF, .inl (gI g, 512, .inl (aI u_7))), (mN, .inl (gI g, 512, .inl (aI u_8))), (mS, .inl (gI g, 864, .inl (aI ((sdF (picM n h) 512))))), (m1, .inl (gI g, 8, .inl (aI sunX))), (m2, .inl (gI g, 8, .inl (aI sunY))), (m3, .inl (gI g, 8, .inl (aI sunS))), (mW, .inl (gZ g, 512, .inl (aI v)))] := hD
          have hY2 : YOk n ho (updI h (y * 6 + x) (h (y * 6 + x) + 1)) (updI c (y * 6 + x) (c (y * 6 + x) + 0 * p4 (h (y * 6 + x)))) := YOk.add hY (sq_in (by omega) h1 h2 h3 h4) (by omega) (by omega)
          have hX9 : okX x y (h (y * 6 + x)) := ⟨⟨by omega, by omega⟩, ⟨by omega, by omega⟩, by omega, by omega⟩
          have hpa9 := pic_add hY h1 h2 h3 h4 hY2
          have hA9 : (updI h (y * 6 + x) (h (y * 6 + x) + 1)) (y * 6 + x) = h (y * 6 + x) + 1 := updI_s
          have hsA9 := seenD_rg n (updI h (y * 6 + x) (h (y * 6 + x) + 1))
          have hsB9 := seenD_rg n h
          have hs9 : seenD n (updI h (y * 6 + x) (h (y * 6 + x) + 1)) - seenD n h = moreK (picM n h) x y (h (y * 6 + x)) 6 := by unfold seenD; rw [hpa9]; exact seen_add hI9 hX9
          refine lv_iload_n hx hb dX5_wouldPut_82 rfl (lv_at hl 3 rfl) ?_
          refine ln_if_ne (tgt := 99) hx hb dX5_wouldPut_83 (by decide) ⟨by omega, by omega⟩ (fun c_20 => ?_) (fun c_20 => ?_)
          · skip
            refine lv_aload_n hx hb dX5_wouldPut_99 rfl (lv_at hl 0 rfl) ?_
            refine lv_aload_n hx hb dX5_wouldPut_100 rfl (lv_at hl 0 rfl) ?_
            refine va_get (D := g.1) (ci := 5) (v := .ref mz) (C := RX5) (T := TX5) (N := 17) hx hb hts in5 hown hE.1 hP 0 rfl rfl 1 (by decide) w0 (fun _ h9 => h9) rfl dX5_wouldPut_101 ?_
            refine lv_iconst (v := iI 1) hx hb dX5_wouldPut_104 rfl ?_
            refine ln_iald hx hb hE hP 1 rfl (by decide) (by decide) (Nat.le_of_ble_eq_true rfl) ho (rfl) dX5_wouldPut_105 ?_
            have hPc_21 := hP.sub (ws' := [(qm, .inr (5, [.int (iI th), .ref mz, .ref ms, .int (iI hn), .ref mp, .ref mb, .int (iI L), .ref m1, .ref m2, .ref m3, .ref mB, .ref mF, .ref mN, .ref mS, .int (iI sT), .ref mW, .long acc])), (mz, .inl (gI g, 326, .inl (aI ((zF n ho (updI h (y * 6 + x) (h (y * 6 + x) + 1)) (updI c (y * 6 + x) (c (y * 6 + x) + 0 * p4 (h (y * 6 + x))))))))), (m1, .inl (gI g, 8, .inl (aI sunX))), (m2, .inl (gI g, 8, .inl (aI sunY))), (m3, .inl (gI g, 8, .inl (aI sunS)))]) [0, 1, 6, 7, 8] rfl
            refine pc_i (va_runV (As := [.int (iI ho)]) (rest := []) ⟨hx, hb, hml, hown, hts⟩ (c_X5_shaded l g qm th mz ms hn mp mb L m1 m2 m3 mB mF mN mS sT mW acc n ho ((updI h (y * 6 + x) (h (y * 6 + x) + 1))) ((updI c (y * 6 + x) (c (y * 6 + x) + 0 * p4 (h (y * 6 + x))))) ho hY2 (by omega)) (cwV 1 hts gX5_wouldPut_X5_shaded rfl rfl rfl (by decide +kernel) ⟨Nat.le_of_ble_eq_true rfl, Nat.le_of_ble_eq_true rfl⟩) (puV hE hS hPc_21 rfl rfl) rfl rfl hl.1 rfl (lv_room (Nat.le_of_ble_eq_true rfl)) dX5_wouldPut_106 ⟨Nat.le_of_ble_eq_true rfl, Nat.le_of_ble_eq_true rfl⟩) ?_
            have r_22 : 0 ≤ shK n ((updI h (y * 6 + x) (h (y * 6 + x) + 1))) ho n ∧ shK n ((updI h (y * 6 + x) (h (y * 6 + x) + 1))) ho n ≤ 36 := by have := YOk.n hY2; have := @shK_rg n ((updI h (y * 6 + x) (h (y * 6 + x) + 1))) ho (by omega) n (by omega); omega
            refine lv_iload hx hb dX5_wouldPut_109 (lv_at hl 6 rfl) ?_
            refine ln_isub hx hb (shK n ((updI h (y * 6 + x) (h (y * 6 + x) + 1))) ho n - shK n h ho n) (rfl) dX5_wouldPut_111 ?_
            refine lv_bipush (v := iI 100) hx hb dX5_wouldPut_112 (by decide) ?_
            refine ln_iadd hx hb (shK n ((updI h (y * 6 + x) (h (y * 6 + x) + 1))) ho n - shK n h ho n + 100) (rfl) dX5_wouldPut_114 ?_
            refine lv_istore (lv' := [(7, .int (iI (shK n ((updI h (y * 6 + x) (h (y * 6 + x) + 1))) ho n - shK n h ho n + 100))), (0, .ref qm), (1, .int (iI x)), (2, .int (iI y)), (3, .int (iI w)), (4, .int (iI (h (y * 6 + x)))), (5, .int (iI (seenD n h))), (6, .int (iI (shK n h ho n)))]) hx hb dX5_wouldPut_115 hl (by decide) rfl (fun ls hl => ?_)
            refine lv_iload_n hx hb dX5_wouldPut_117 rfl (lv_at hl 4 rfl) ?_
            refine lv_iconst (v := iI 1) hx hb dX5_wouldPut_118 rfl ?_
            refine ln_icmp_ne (tgt := 144) hx hb dX5_wouldPut_119 (by decide) ⟨by omega, by omega⟩ (by decide) (fun c_23 => ?_) (fun c_23 => ?_)
            · skip
              refine lv_aload_n hx hb dX5_wouldPut_144 rfl (lv_at hl 1 rfl) ?_
              refine lv_iload_n hx hb dX5_wouldPut_145 rfl (lv_at hl 2 rfl) ?_
              refine lv_iload_n hx hb dX5_wouldPut_146 rfl (lv_at hl 3 rfl) ?_
              have hPc_24 := hP.sub (ws' := [(qm, .inr (5, [.int (iI th), .ref mz, .ref ms, .int (iI hn), .ref mp, .ref mb, .int (iI L), .ref m1, .ref m2, .ref m3, .ref mB, .ref mF, .ref mN, .ref mS, .int (iI sT), .ref mW, .long acc])), (mz, .inl (gI g, 326, .inl (aI ((zF n ho (updI h (y * 6 + x) (h (y * 6 + x) + 1)) (updI c (y * 6 + x) (c (y * 6 + x) + 0 * p4 (h (y * 6 + x)))))))))]) [0, 1] rfl
              have hDc_25 := hD.sub (ws' := [(qm, .inr (5, [.int (iI th), .ref mz, .ref ms, .int (iI hn), .ref mp, .ref mb, .int (iI L), .ref m1, .ref m2, .ref m3, .ref mB, .ref mF, .ref mN, .ref mS, .int (iI sT), .ref mW, .long acc])), (mz, .inl (gI g, 326, .inl (aI ((zF n ho (updI h (y * 6 + x) (h (y * 6 + x) + 1)) (updI c (y * 6 + x) (c (y * 6 + x) + 0 * p4 (h (y * 6 + x)))))))))]) [0, 1] (by decide) rfl
              have hFc_26 := va_free (wc := [(qm, .inr (5, [.int (iI th), .ref mz, .ref ms, .int (iI hn), .ref mp, .ref mb, .int (iI L), .ref m1, .ref m2, .ref m3, .ref mB, .ref mF, .ref mN, .ref mS, .int (iI sT), .ref mW, .long acc])), (mz, .inl (gI g, 326, .inl (aI ((zF n ho (updI h (y * 6 + x) (h (y * 6 + x) + 1)) (updI c (y * 6 + x) (c (y * 6 + x) + 0 * p4 (h (y * 6 + x)))))))))]) hD hS hA [0, 1] rfl
              refine mc_i (wr := [(mB, .inl (gI g, 512, .inl (aI ((mbF (picM n h)))))), (mF, .inl (gI g, 512, .inl (aI u_7))), (mN, .inl (gI g, 512, .inl (aI u_8))), (mS, .inl (gI g, 864, .inl (aI ((sdF (picM n h) 512))))), (m1, .inl (gI g, 8, .inl (aI sunX))), (m2, .inl (gI g, 8, .inl (aI sunY))), (m3, .inl (gI g, 8, .inl (aI sunS))), (mW, .inl (gZ g, 512, .inl (aI v)))]) (cells1 := 0) (slots1 := 0) (va_runV (As := [.int (iI x), .int (iI y)]) (rest := []) ⟨hx, hb, hml, hown, hts⟩ (c_X5_takeFrom l g qm th mz ms hn mp mb L m1 m2 m3 mB mF mN mS sT mW acc n ho ((updI h (y * 6 + x) (h (y * 6 + x) + 1))) ((updI c (y * 6 + x) (c (y * 6 + x) + 0 * p4 (h (y * 6 + x))))) x y hY2 h1 h2 h3 h4 (by rw [hA9]; omega) H.size) (cwV 2 hts gX5_wouldPut_X5_takeFrom rfl rfl rfl (by decide +kernel) ⟨Nat.le_of_ble_eq_true rfl, Nat.le_of_ble_eq_true rfl⟩) (muV hE hS hPc_24 hDc_25 hFc_26 rfl rfl) rfl rfl hl.1 rfl (lv_room (Nat.le_of_ble_eq_true rfl)) dX5_wouldPut_147 ⟨Nat.le_of_ble_eq_true rfl, Nat.le_of_ble_eq_true rfl⟩) hP hD hS hA [0, 1] [2, 3, 4, 5, 6, 7, 8, 9] [8, 9, 0, 1, 2, 3, 4, 5, 6, 7] rfl rfl (by decide) (by decide) (fun _ => [(qm, .inr (5, [.int (iI th), .ref mz, .ref ms, .int (iI hn), .ref mp, .ref mb, .int (iI L), .ref m1, .ref m2, .ref m3, .ref mB, .ref mF, .ref mN, .ref mS, .int (iI sT), .ref mW, .long acc])), (mz, .inl (gI g, 326, .inl (aI ((zF n ho (lowH ((updI h (y * 6 + x) (h (y * 6 + x) + 1))) (y * 6 + x) (((updI h (y * 6 + x) (h (y * 6 + x) + 1))) (y * 6 + x) - 1)) (lowC ((updI h (y * 6 + x) (h (y * 6 + x) + 1))) ((updI c (y * 6 + x) (c (y * 6 + x) + 0 * p4 (h (y * 6 + x))))) (y * 6 + x) (((updI h (y * 6 + x) (h (y * 6 + x) + 1))) (y * 6 + x) - 1))))))), (mB, .inl (gI g, 512, .inl (aI ((mbF (picM n h)))))), (mF, .inl (gI g, 512, .inl (aI u_7))), (mN, .inl (gI g, 512, .inl (aI u_8))), (mS, .inl (gI g, 864, .inl (aI ((sdF (picM n h) 512))))), (m1, .inl (gI g, 8, .inl (aI sunX))), (m2, .inl (gI g, 8, .inl (aI sunY))), (m3, .inl (gI g, 8, .inl (aI sunS))), (mW, .inl (gZ g, 512, .inl (aI v)))]) (fun _ => rfl) (by decide) (Nat.le_of_ble_eq_true rfl) (Nat.le_of_ble_eq_true rfl) (fun u9 H locs hu_27 hP hD hS => ?_)
              have hP : va_P g.1 vwCl [(qm, .inr (5, [.int (iI th), .ref mz, .ref ms, .int (iI hn), .ref mp, .ref mb, .int (iI L), .ref m1, .ref m2, .ref m3, .ref mB, .ref mF, .ref mN, .ref mS, .int (iI sT), .ref mW, .long acc])), (mz, .inl (gI g, 326, .inl (aI ((zF n ho (lowH ((updI h (y * 6 + x) (h (y * 6 + x) + 1))) (y * 6 + x) (((updI h (y * 6 + x) (h (y * 6 + x) + 1))) (y * 6 + x) - 1)) (lowC ((updI h (y * 6 + x) (h (y * 6 + x) + 1))) ((updI c (y * 6 + x) (c (y * 6 + x) + 0 * p4 (h (y * 6 + x))))) (y * 6 + x) (((updI h (y * 6 + x) (h (y * 6 + x) + 1))) (y * 6 + x) - 1))))))), (mB, .inl (gI g, 512, .inl (aI ((mbF (picM n h)))))), (mF, .inl (gI g, 512, .inl (aI u_7))), (mN, .inl (gI g, 512, .inl (aI u_8))), (mS, .inl (gI g, 864, .inl (aI ((sdF (picM n h) 512))))), (m1, .inl (gI g, 8, .inl (aI sunX))), (m2, .inl (gI g, 8, .inl (aI sunY))), (m3, .inl (gI g, 8, .inl (aI sunS))), (mW, .inl (gZ g, 512, .inl (aI v)))] H := hP
              have hD : va_D A [(qm, .inr (5, [.int (iI th), .ref mz, .ref ms, .int (iI hn), .ref mp, .ref mb, .int (iI L), .ref m1, .ref m2, .ref m3, .ref mB, .ref mF, .ref mN, .ref mS, .int (iI sT), .ref mW, .long acc])), (mz, .inl (gI g, 326, .inl (aI ((zF n ho (lowH ((updI h (y * 6 + x) (h (y * 6 + x) + 1))) (y * 6 + x) (((updI h (y * 6 + x) (h (y * 6 + x) + 1))) (y * 6 + x) - 1)) (lowC ((updI h (y * 6 + x) (h (y * 6 + x) + 1))) ((updI c (y * 6 + x) (c (y * 6 + x) + 0 * p4 (h (y * 6 + x))))) (y * 6 + x) (((updI h (y * 6 + x) (h (y * 6 + x) + 1))) (y * 6 + x) - 1))))))), (mB, .inl (gI g, 512, .inl (aI ((mbF (picM n h)))))), (mF, .inl (gI g, 512, .inl (aI u_7))), (mN, .inl (gI g, 512, .inl (aI u_8))), (mS, .inl (gI g, 864, .inl (aI ((sdF (picM n h) 512))))), (m1, .inl (gI g, 8, .inl (aI sunX))), (m2, .inl (gI g, 8, .inl (aI sunY))), (m3, .inl (gI g, 8, .inl (aI sunS))), (mW, .inl (gZ g, 512, .inl (aI v)))] := hD
              refine ln_topv (w := .int (iI (colZ (((updI c (y * 6 + x) (c (y * 6 + x) + 0 * p4 (h (y * 6 + x))))) (y * 6 + x)) (((updI h (y * 6 + x) (h (y * 6 + x) + 1))) (y * 6 + x) - 1)))) rfl ?_
              refine lv_pop hx hb dX5_wouldPut_150 rfl ?_
              refine lv_iload hx hb dX5_wouldPut_151 (lv_at hl 0 rfl) ?_
              have hP := hP.recell 1 rfl (zF n ho h c) (fun j _ _ => zF_cg (fun i => pt_h hY (by omega) i) (fun i => pt_c hY (by omega) i) j)
              have hD := hD.set (p := 1) (e := .inl (gI g, 326, .inl (aI (zF n ho h c)))) rfl
              have hP := hP.recell 2 rfl (((mbF (picM n h)))) (fun j h0 h1 => by omega)
              have hD := hD.set (p := 2) (e := .inl (gI g, 512, .inl (aI (((mbF (picM n h))))))) rfl
              have hP := hP.recell 5 rfl (((sdF (picM n h) 512))) (fun j h0 h1 => by omega)
              have hD := hD.set (p := 5) (e := .inl (gI g, 864, .inl (aI (((sdF (picM n h) 512)))))) rfl
              have hP : va_P g.1 vwCl [(qm, .inr (5, [.int (iI th), .ref mz, .ref ms, .int (iI hn), .ref mp, .ref mb, .int (iI L), .ref m1, .ref m2, .ref m3, .ref mB, .ref mF, .ref mN, .ref mS, .int (iI sT), .ref mW, .long acc])), (mz, .inl (gI g, 326, .inl (aI (zF n ho h c)))), (mB, .inl (gI g, 512, .inl (aI (((mbF (picM n h))))))), (mF, .inl (gI g, 512, .inl (aI u_7))), (mN, .inl (gI g, 512, .inl (aI u_8))), (mS, .inl (gI g, 864, .inl (aI (((sdF (picM n h) 512)))))), (m1, .inl (gI g, 8, .inl (aI sunX))), (m2, .inl (gI g, 8, .inl (aI sunY))), (m3, .inl (gI g, 8, .inl (aI sunS))), (mW, .inl (gZ g, 512, .inl (aI v)))] _ := hP
              have hD : va_D A [(qm, .inr (5, [.int (iI th), .ref mz, .ref ms, .int (iI hn), .ref mp, .ref mb, .int (iI L), .ref m1, .ref m2, .ref m3, .ref mB, .ref mF, .ref mN, .ref mS, .int (iI sT), .ref mW, .long acc])), (mz, .inl (gI g, 326, .inl (aI (zF n ho h c)))), (mB, .inl (gI g, 512, .inl (aI (((mbF (picM n h))))))), (mF, .inl (gI g, 512, .inl (aI u_7))), (mN, .inl (gI g, 512, .inl (aI u_8))), (mS, .inl (gI g, 864, .inl (aI (((sdF (picM n h) 512)))))), (m1, .inl (gI g, 8, .inl (aI sunX))), (m2, .inl (gI g, 8, .inl (aI sunY))), (m3, .inl (gI g, 8, .inl (aI sunS))), (mW, .inl (gZ g, 512, .inl (aI v)))] := hD
              exact mend_i (S := (Int → Int) × (Int → Int) × (Int → Int) × (Int → Int) × (Int → Int)) (w' := (fun (u9 : (Int → Int) × (Int → Int) × (Int → Int) × (Int → Int) × (Int → Int)) => match u9 with | (B2, G2, N2, S2, wB2) => [(qm, .inr (5, [.int (iI th), .ref mz, .ref ms, .int (iI hn), .ref mp, .ref mb, .int (iI L), .ref m1, .ref m2, .ref m3, .ref mB, .ref mF, .ref mN, .ref mS, .int (iI sT), .ref mW, .long acc])), (mz, .inl (gI g, 326, .inl (aI (zF n ho h c)))), (mB, .inl (gI g, 512, .inl (aI B2))), (mF, .inl (gI g, 512, .inl (aI G2))), (mN, .inl (gI g, 512, .inl (aI N2))), (mS, .inl (gI g, 864, .inl (aI S2))), (m1, .inl (gI g, 8, .inl (aI sunX))), (m2, .inl (gI g, 8, .inl (aI sunY))), (m3, .inl (gI g, 8, .inl (aI sunS))), (mW, .inl (gZ g, 512, .inl (aI wB2)))])) (post := (fun (u9 : (Int → Int) × (Int → Int) × (Int → Int) × (Int → Int) × (Int → Int)) => match u9 with | (B2, G2, N2, S2, wB2) => True)) (r := (fun (u9 : (Int → Int) × (Int → Int) × (Int → Int) × (Int → Int) × (Int → Int)) => match u9 with | (B2, G2, N2, S2, wB2) => putV n ho h x y w)) hx hb hr hlk hS (((mbF (picM n h))), u_7, u_8, ((sdF (picM n h) 512)), v) hP hD (trivial) (by (show _ = putV n ho h x y w; unfold putV; rw [if_neg (by omega), if_neg (by omega), if_neg (by omega)])) (Nat.le_of_ble_eq_true rfl) (Nat.le_of_ble_eq_true rfl) dX5_wouldPut_153
            · skip
              refine lv_aload_n hx hb dX5_wouldPut_122 rfl (lv_at hl 1 rfl) ?_
              have hPc_28 := hP.sub (ws' := [(qm, .inr (5, [.int (iI th), .ref mz, .ref ms, .int (iI hn), .ref mp, .ref mb, .int (iI L), .ref m1, .ref m2, .ref m3, .ref mB, .ref mF, .ref mN, .ref mS, .int (iI sT), .ref mW, .long acc])), (mz, .inl (gI g, 326, .inl (aI ((zF n ho (updI h (y * 6 + x) (h (y * 6 + x) + 1)) (updI c (y * 6 + x) (c (y * 6 + x) + 0 * p4 (h (y * 6 + x))))))))), (mB, .inl (gI g, 512, .inl (aI ((mbF (picM n h)))))), (mF, .inl (gI g, 512, .inl (aI u_7))), (mN, .inl (gI g, 512, .inl (aI u_8))), (mS, .inl (gI g, 864, .inl (aI ((sdF (picM n h) 512)))))]) [0, 1, 2, 3, 4, 5] rfl
              have hDc_29 := hD.sub (ws' := [(qm, .inr (5, [.int (iI th), .ref mz, .ref ms, .int (iI hn), .ref mp, .ref mb, .int (iI L), .ref m1, .ref m2, .ref m3, .ref mB, .ref mF, .ref mN, .ref mS, .int (iI sT), .ref mW, .long acc])), (mz, .inl (gI g, 326, .inl (aI ((zF n ho (updI h (y * 6 + x) (h (y * 6 + x) + 1)) (updI c (y * 6 + x) (c (y * 6 + x) + 0 * p4 (h (y * 6 + x))))))))), (mB, .inl (gI g, 512, .inl (aI ((mbF (picM n h)))))), (mF, .inl (gI g, 512, .inl (aI u_7))), (mN, .inl (gI g, 512, .inl (aI u_8))), (mS, .inl (gI g, 864, .inl (aI ((sdF (picM n h) 512)))))]) [0, 1, 2, 3, 4, 5] (by decide) rfl
              have hFc_30 := va_free (wc := [(qm, .inr (5, [.int (iI th), .ref mz, .ref ms, .int (iI hn), .ref mp, .ref mb, .int (iI L), .ref m1, .ref m2, .ref m3, .ref mB, .ref mF, .ref mN, .ref mS, .int (iI sT), .ref mW, .long acc])), (mz, .inl (gI g, 326, .inl (aI ((zF n ho (updI h (y * 6 + x) (h (y * 6 + x) + 1)) (updI c (y * 6 + x) (c (y * 6 + x) + 0 * p4 (h (y * 6 + x))))))))), (mB, .inl (gI g, 512, .inl (aI ((mbF (picM n h)))))), (mF, .inl (gI g, 512, .inl (aI u_7))), (mN, .inl (gI g, 512, .inl (aI u_8))), (mS, .inl (gI g, 864, .inl (aI ((sdF (picM n h) 512)))))]) hD hS hA [0, 1, 2, 3, 4, 5] rfl
              refine mc_v (wr := [(m1, .inl (gI g, 8, .inl (aI sunX))), (m2, .inl (gI g, 8, .inl (aI sunY))), (m3, .inl (gI g, 8, .inl (aI sunS))), (mW, .inl (gZ g, 512, .inl (aI v)))]) (cells1 := 0) (slots1 := 0) (va_runV (As := []) (rest := []) ⟨hx, hb, hml, hown, hts⟩ (c_X5_layPicture l g qm th mz ms hn mp mb L m1 m2 m3 mB mF mN mS sT mW acc n ho ((updI h (y * 6 + x) (h (y * 6 + x) + 1))) ((updI c (y * 6 + x) (c (y * 6 + x) + 0 * p4 (h (y * 6 + x))))) ((mbF (picM n h))) u_7 u_8 ((sdF (picM n h) 512)) hY2 H.size) (cwV 0 hts gX5_wouldPut_X5_layPicture rfl rfl rfl (by decide +kernel) ⟨Nat.le_of_ble_eq_true rfl, Nat.le_of_ble_eq_true rfl⟩) (muV hE hS hPc_28 hDc_29 hFc_30 rfl rfl) rfl rfl hl.1 rfl (lv_room (Nat.le_of_ble_eq_true rfl)) dX5_wouldPut_123 ⟨Nat.le_of_ble_eq_true rfl, Nat.le_of_ble_eq_true rfl⟩) hP hD hS hA [0, 1, 2, 3, 4, 5] [6, 7, 8, 9] [4, 5, 6, 7, 8, 9, 0, 1, 2, 3] rfl rfl (by decide) (by decide) (fun (u9 : (Int → Int) × (Int → Int)) => match u9 with | (u_31, u_32) => [(qm, .inr (5, [.int (iI th), .ref mz, .ref ms, .int (iI hn), .ref mp, .ref mb, .int (iI L), .ref m1, .ref m2, .ref m3, .ref mB, .ref mF, .ref mN, .ref mS, .int (iI sT), .ref mW, .long acc])), (mz, .inl (gI g, 326, .inl (aI (zF n ho ((updI h (y * 6 + x) (h (y * 6 + x) + 1))) ((updI c (y * 6 + x) (c (y * 6 + x) + 0 * p4 (h (y * 6 + x))))))))), (mB, .inl (gI g, 512, .inl (aI ((mbF (picM n ((updI h (y * 6 + x) (h (y * 6 + x) + 1))))))))), (mF, .inl (gI g, 512, .inl (aI u_31))), (mN, .inl (gI g, 512, .inl (aI u_32))), (mS, .inl (gI g, 864, .inl (aI ((sdF (picM n ((updI h (y * 6 + x) (h (y * 6 + x) + 1)))) 512))))), (m1, .inl (gI g, 8, .inl (aI sunX))), (m2, .inl (gI g, 8, .inl (aI sunY))), (m3, .inl (gI g, 8, .inl (aI sunS))), (mW, .inl (gZ g, 512, .inl (aI v)))]) (fun _ => rfl) (by decide) (Nat.le_of_ble_eq_true rfl) (Nat.le_of_ble_eq_true rfl) (fun u9 H locs hu_33 hP hD hS => ?_)
              obtain ⟨u_31, u_32⟩ := u9
              have hu_33 : GOk (picM n ((updI h (y * 6 + x) (h (y * 6 + x) + 1)))) u_31 u_32 := hu_33
              have hP : va_P g.1 vwCl [(qm, .inr (5, [.int (iI th), .ref mz, .ref ms, .int (iI hn), .ref mp, .ref mb, .int (iI L), .ref m1, .ref m2, .ref m3, .ref mB, .ref mF, .ref mN, .ref mS, .int (iI sT), .ref mW, .long acc])), (mz, .inl (gI g, 326, .inl (aI (zF n ho ((updI h (y * 6 + x) (h (y * 6 + x) + 1))) ((updI c (y * 6 + x) (c (y * 6 + x) + 0 * p4 (h (y * 6 + x))))))))), (mB, .inl (gI g, 512, .inl (aI ((mbF (picM n ((updI h (y * 6 + x) (h (y * 6 + x) + 1))))))))), (mF, .inl (gI g, 512, .inl (aI u_31))), (mN, .inl (gI g, 512, .inl (aI u_32))), (mS, .inl (gI g, 864, .inl (aI ((sdF (picM n ((updI h (y * 6 + x) (h (y * 6 + x) + 1)))) 512))))), (m1, .inl (gI g, 8, .inl (aI sunX))), (m2, .inl (gI g, 8, .inl (aI sunY))), (m3, .inl (gI g, 8, .inl (aI sunS))), (mW, .inl (gZ g, 512, .inl (aI v)))] H := hP
              have hD : va_D A [(qm, .inr (5, [.int (iI th), .ref mz, .ref ms, .int (iI hn), .ref mp, .ref mb, .int (iI L), .ref m1, .ref m2, .ref m3, .ref mB, .ref mF, .ref mN, .ref mS, .int (iI sT), .ref mW, .long acc])), (mz, .inl (gI g, 326, .inl (aI (zF n ho ((updI h (y * 6 + x) (h (y * 6 + x) + 1))) ((updI c (y * 6 + x) (c (y * 6 + x) + 0 * p4 (h (y * 6 + x))))))))), (mB, .inl (gI g, 512, .inl (aI ((mbF (picM n ((updI h (y * 6 + x) (h (y * 6 + x) + 1))))))))), (mF, .inl (gI g, 512, .inl (aI u_31))), (mN, .inl (gI g, 512, .inl (aI u_32))), (mS, .inl (gI g, 864, .inl (aI ((sdF (picM n ((updI h (y * 6 + x) (h (y * 6 + x) + 1)))) 512))))), (m1, .inl (gI g, 8, .inl (aI sunX))), (m2, .inl (gI g, 8, .inl (aI sunY))), (m3, .inl (gI g, 8, .inl (aI sunS))), (mW, .inl (gZ g, 512, .inl (aI v)))] := hD
              refine lv_aload_n hx hb dX5_wouldPut_126 rfl (lv_at hl 1 rfl) ?_
              refine lv_bipush (v := iI 8) hx hb dX5_wouldPut_127 (by decide) ?_
              refine lv_bipush (v := iI 6) hx hb dX5_wouldPut_129 (by decide) ?_
              refine lv_iload_n hx hb dX5_wouldPut_131 rfl (lv_at hl 3 rfl) ?_
              refine ln_imul hx hb (6 * y) (rfl) dX5_wouldPut_132 ?_
              refine lv_iload_n hx hb dX5_wouldPut_133 rfl (lv_at hl 2 rfl) ?_
              refine ln_iadd hx hb (6 * y + x) (rfl) dX5_wouldPut_134 ?_
              refine ln_imul hx hb (8 * (6 * y + x)) (rfl) dX5_wouldPut_135 ?_
              refine lv_iload hx hb dX5_wouldPut_136 (lv_at hl 5 rfl) ?_
              refine ln_iadd hx hb (8 * (6 * y + x) + h (y * 6 + x)) (rfl) dX5_wouldPut_138 ?_
              have hw9 : ∀ t, 0 ≤ t → t < 512 → (v t ≠ 0 ↔ picM n h t ≠ 0) := fun t a b => by rw [ge t a (by omega)]; unfold bI; split <;> omega
              have ho9 : sm (fun t => bI (v t ≠ 0 ∧ mbF (picM n (updI h (y * 6 + x) (h (y * 6 + x) + 1))) t = 8 * (6 * y + x) + h (y * 6 + x))) 512 = takK (picM n h) x y (h (y * 6 + x)) 1 6 := (sm_cg (fun t a b => bI_c (and_congr (hw9 t a b) (by rw [hpa9]; exact mb_eq (drawBK_ok hM9 hX9.1 hX9.2.1 hX9.2.2 (by decide) (by decide)) hX9 t)))).trans (over_add hI9 hX9)
              have hmr9 : ∀ j, -1 ≤ mbF (picM n (updI h (y * 6 + x) (h (y * 6 + x) + 1))) j ∧ mbF (picM n (updI h (y * 6 + x) (h (y * 6 + x) + 1))) j < 288 := fun j => mb_rg (picM_ok hY2) j
              have hPc_34 := hP.sub (ws' := [(qm, .inr (5, [.int (iI th), .ref mz, .ref ms, .int (iI hn), .ref mp, .ref mb, .int (iI L), .ref m1, .ref m2, .ref m3, .ref mB, .ref mF, .ref mN, .ref mS, .int (iI sT), .ref mW, .long acc])), (mB, .inl (gI g, 512, .inl (aI ((mbF (picM n ((updI h (y * 6 + x) (h (y * 6 + x) + 1))))))))), (mW, .inl (gZ g, 512, .inl (aI v)))]) [0, 2, 9] rfl
              refine pc_i (va_runV (As := [.int (iI (8 * (6 * y + x) + h (y * 6 + x)))]) (rest := []) ⟨hx, hb, hml, hown, hts⟩ (c_X5_overtaken l g qm th mz ms hn mp mb L m1 m2 m3 mB mF mN mS sT mW acc ((mbF (picM n ((updI h (y * 6 + x) (h (y * 6 + x) + 1)))))) v (8 * (6 * y + x) + h (y * 6 + x)) (fun j a b => by rw [ge j a (by omega)]; exact bI_01 _) (hmr9) (by omega)) (cwV 1 hts gX5_wouldPut_X5_overtaken rfl rfl rfl (by decide +kernel) ⟨Nat.le_of_ble_eq_true rfl, Nat.le_of_ble_eq_true rfl⟩) (puV hE hS hPc_34 rfl rfl) rfl rfl hl.1 rfl (lv_room (Nat.le_of_ble_eq_true rfl)) dX5_wouldPut_139 ⟨Nat.le_of_ble_eq_true rfl, Nat.le_of_ble_eq_true rfl⟩) ?_
              refine ln_top (y := takK (picM n h) x y (h (y * 6 + x)) 1 6) (ho9) ?_
              refine lv_istore (lv' := [(7, .int (iI (takK (picM n h) x y (h (y * 6 + x)) 1 6))), (0, .ref qm), (1, .int (iI x)), (2, .int (iI y)), (3, .int (iI w)), (4, .int (iI (h (y * 6 + x)))), (5, .int (iI (seenD n h))), (6, .int (iI (shK n h ho n)))]) hx hb dX5_wouldPut_142 hl (by decide) rfl (fun ls hl => ?_)
              refine lv_aload_n hx hb dX5_wouldPut_144 rfl (lv_at hl 1 rfl) ?_
              refine lv_iload_n hx hb dX5_wouldPut_145 rfl (lv_at hl 2 rfl) ?_
              refine lv_iload_n hx hb dX5_wouldPut_146 rfl (lv_at hl 3 rfl) ?_
              have hPc_35 := hP.sub (ws' := [(qm, .inr (5, [.int (iI th), .ref mz, .ref ms, .int (iI hn), .ref mp, .ref mb, .int (iI L), .ref m1, .ref m2, .ref m3, .ref mB, .ref mF, .ref mN, .ref mS, .int (iI sT), .ref mW, .long acc])), (mz, .inl (gI g, 326, .inl (aI (zF n ho ((updI h (y * 6 + x) (h (y * 6 + x) + 1))) ((updI c (y * 6 + x) (c (y * 6 + x) + 0 * p4 (h (y * 6 + x)))))))))]) [0, 1] rfl
              have hDc_36 := hD.sub (ws' := [(qm, .inr (5, [.int (iI th), .ref mz, .ref ms, .int (iI hn), .ref mp, .ref mb, .int (iI L), .ref m1, .ref m2, .ref m3, .ref mB, .ref mF, .ref mN, .ref mS, .int (iI sT), .ref mW, .long acc])), (mz, .inl (gI g, 326, .inl (aI (zF n ho ((updI h (y * 6 + x) (h (y * 6 + x) + 1))) ((updI c (y * 6 + x) (c (y * 6 + x) + 0 * p4 (h (y * 6 + x)))))))))]) [0, 1] (by decide) rfl
              have hFc_37 := va_free (wc := [(qm, .inr (5, [.int (iI th), .ref mz, .ref ms, .int (iI hn), .ref mp, .ref mb, .int (iI L), .ref m1, .ref m2, .ref m3, .ref mB, .ref mF, .ref mN, .ref mS, .int (iI sT), .ref mW, .long acc])), (mz, .inl (gI g, 326, .inl (aI (zF n ho ((updI h (y * 6 + x) (h (y * 6 + x) + 1))) ((updI c (y * 6 + x) (c (y * 6 + x) + 0 * p4 (h (y * 6 + x)))))))))]) hD hS hA [0, 1] rfl
              refine mc_i (wr := [(mB, .inl (gI g, 512, .inl (aI ((mbF (picM n ((updI h (y * 6 + x) (h (y * 6 + x) + 1))))))))), (mF, .inl (gI g, 512, .inl (aI u_31))), (mN, .inl (gI g, 512, .inl (aI u_32))), (mS, .inl (gI g, 864, .inl (aI ((sdF (picM n ((updI h (y * 6 + x) (h (y * 6 + x) + 1)))) 512))))), (m1, .inl (gI g, 8, .inl (aI sunX))), (m2, .inl (gI g, 8, .inl (aI sunY))), (m3, .inl (gI g, 8, .inl (aI sunS))), (mW, .inl (gZ g, 512, .inl (aI v)))]) (cells1 := 0) (slots1 := 0) (va_runV (As := [.int (iI x), .int (iI y)]) (rest := []) ⟨hx, hb, hml, hown, hts⟩ (c_X5_takeFrom l g qm th mz ms hn mp mb L m1 m2 m3 mB mF mN mS sT mW acc n ho (((updI h (y * 6 + x) (h (y * 6 + x) + 1)))) (((updI c (y * 6 + x) (c (y * 6 + x) + 0 * p4 (h (y * 6 + x)))))) x y hY2 h1 h2 h3 h4 (by rw [hA9]; omega) H.size) (cwV 2 hts gX5_wouldPut_X5_takeFrom rfl rfl rfl (by decide +kernel) ⟨Nat.le_of_ble_eq_true rfl, Nat.le_of_ble_eq_true rfl⟩) (muV hE hS hPc_35 hDc_36 hFc_37 rfl rfl) rfl rfl hl.1 rfl (lv_room (Nat.le_of_ble_eq_true rfl)) dX5_wouldPut_147 ⟨Nat.le_of_ble_eq_true rfl, Nat.le_of_ble_eq_true rfl⟩) hP hD hS hA [0, 1] [2, 3, 4, 5, 6, 7, 8, 9] [8, 9, 0, 1, 2, 3, 4, 5, 6, 7] rfl rfl (by decide) (by decide) (fun _ => [(qm, .inr (5, [.int (iI th), .ref mz, .ref ms, .int (iI hn), .ref mp, .ref mb, .int (iI L), .ref m1, .ref m2, .ref m3, .ref mB, .ref mF, .ref mN, .ref mS, .int (iI sT), .ref mW, .long acc])), (mz, .inl (gI g, 326, .inl (aI ((zF n ho (lowH (((updI h (y * 6 + x) (h (y * 6 + x) + 1)))) (y * 6 + x) ((((updI h (y * 6 + x) (h (y * 6 + x) + 1)))) (y * 6 + x) - 1)) (lowC (((updI h (y * 6 + x) (h (y * 6 + x) + 1)))) (((updI c (y * 6 + x) (c (y * 6 + x) + 0 * p4 (h (y * 6 + x)))))) (y * 6 + x) ((((updI h (y * 6 + x) (h (y * 6 + x) + 1)))) (y * 6 + x) - 1))))))), (mB, .inl (gI g, 512, .inl (aI ((mbF (picM n ((updI h (y * 6 + x) (h (y * 6 + x) + 1))))))))), (mF, .inl (gI g, 512, .inl (aI u_31))), (mN, .inl (gI g, 512, .inl (aI u_32))), (mS, .inl (gI g, 864, .inl (aI ((sdF (picM n ((updI h (y * 6 + x) (h (y * 6 + x) + 1)))) 512))))), (m1, .inl (gI g, 8, .inl (aI sunX))), (m2, .inl (gI g, 8, .inl (aI sunY))), (m3, .inl (gI g, 8, .inl (aI sunS))), (mW, .inl (gZ g, 512, .inl (aI v)))]) (fun _ => rfl) (by decide) (Nat.le_of_ble_eq_true rfl) (Nat.le_of_ble_eq_true rfl) (fun u9 H locs hu_38 hP hD hS => ?_)
              have hP : va_P g.1 vwCl [(qm, .inr (5, [.int (iI th), .ref mz, .ref ms, .int (iI hn), .ref mp, .ref mb, .int (iI L), .ref m1, .ref m2, .ref m3, .ref mB, .ref mF, .ref mN, .ref mS, .int (iI sT), .ref mW, .long acc])), (mz, .inl (gI g, 326, .inl (aI ((zF n ho (lowH (((updI h (y * 6 + x) (h (y * 6 + x) + 1)))) (y * 6 + x) ((((updI h (y * 6 + x) (h (y * 6 + x) + 1)))) (y * 6 + x) - 1)) (lowC (((updI h (y * 6 + x) (h (y * 6 + x) + 1)))) (((updI c (y * 6 + x) (c (y * 6 + x) + 0 * p4 (h (y * 6 + x)))))) (y * 6 + x) ((((updI h (y * 6 + x) (h (y * 6 + x) + 1)))) (y * 6 + x) - 1))))))), (mB, .inl (gI g, 512, .inl (aI ((mbF (picM n ((updI h (y * 6 + x) (h (y * 6 + x) + 1))))))))), (mF, .inl (gI g, 512, .inl (aI u_31))), (mN, .inl (gI g, 512, .inl (aI u_32))), (mS, .inl (gI g, 864, .inl (aI ((sdF (picM n ((updI h (y * 6 + x) (h (y * 6 + x) + 1)))) 512))))), (m1, .inl (gI g, 8, .inl (aI sunX))), (m2, .inl (gI g, 8, .inl (aI sunY))), (m3, .inl (gI g, 8, .inl (aI sunS))), (mW, .inl (gZ g, 512, .inl (aI v)))] H := hP
              have hD : va_D A [(qm, .inr (5, [.int (iI th), .ref mz, .ref ms, .int (iI hn), .ref mp, .ref mb, .int (iI L), .ref m1, .ref m2, .ref m3, .ref mB, .ref mF, .ref mN, .ref mS, .int (iI sT), .ref mW, .long acc])), (mz, .inl (gI g, 326, .inl (aI ((zF n ho (lowH (((updI h (y * 6 + x) (h (y * 6 + x) + 1)))) (y * 6 + x) ((((updI h (y * 6 + x) (h (y * 6 + x) + 1)))) (y * 6 + x) - 1)) (lowC (((updI h (y * 6 + x) (h (y * 6 + x) + 1)))) (((updI c (y * 6 + x) (c (y * 6 + x) + 0 * p4 (h (y * 6 + x)))))) (y * 6 + x) ((((updI h (y * 6 + x) (h (y * 6 + x) + 1)))) (y * 6 + x) - 1))))))), (mB, .inl (gI g, 512, .inl (aI ((mbF (picM n ((updI h (y * 6 + x) (h (y * 6 + x) + 1))))))))), (mF, .inl (gI g, 512, .inl (aI u_31))), (mN, .inl (gI g, 512, .inl (aI u_32))), (mS, .inl (gI g, 864, .inl (aI ((sdF (picM n ((updI h (y * 6 + x) (h (y * 6 + x) + 1)))) 512))))), (m1, .inl (gI g, 8, .inl (aI sunX))), (m2, .inl (gI g, 8, .inl (aI sunY))), (m3, .inl (gI g, 8, .inl (aI sunS))), (mW, .inl (gZ g, 512, .inl (aI v)))] := hD
              refine ln_topv (w := .int (iI (colZ ((((updI c (y * 6 + x) (c (y * 6 + x) + 0 * p4 (h (y * 6 + x)))))) (y * 6 + x)) ((((updI h (y * 6 + x) (h (y * 6 + x) + 1)))) (y * 6 + x) - 1)))) rfl ?_
              refine lv_pop hx hb dX5_wouldPut_150 rfl ?_
              refine lv_iload hx hb dX5_wouldPut_151 (lv_at hl 0 rfl) ?_
              have hP := hP.recell 1 rfl (zF n ho h c) (fun j _ _ => zF_cg (fun i => pt_h hY (by omega) i) (fun i => pt_c hY (by omega) i) j)
              have hD := hD.set (p := 1) (e := .inl (gI g, 326, .inl (aI (zF n ho h c)))) rfl
              have hP := hP.recell 2 rfl (((mbF (picM n ((updI h (y * 6 + x) (h (y * 6 + x) + 1))))))) (fun j h0 h1 => by omega)
              have hD := hD.set (p := 2) (e := .inl (gI g, 512, .inl (aI (((mbF (picM n ((updI h (y * 6 + x) (h (y * 6 + x) + 1)))))))))) rfl
              have hP := hP.recell 5 rfl (((sdF (picM n ((updI h (y * 6 + x) (h (y * 6 + x) + 1)))) 512))) (fun j h0 h1 => by omega)
              have hD := hD.set (p := 5) (e := .inl (gI g, 864, .inl (aI (((sdF (picM n ((updI h (y * 6 + x) (h (y * 6 + x) + 1)))) 512)))))) rfl
              have hP : va_P g.1 vwCl [(qm, .inr (5, [.int (iI th), .ref mz, .ref ms, .int (iI hn), .ref mp, .ref mb, .int (iI L), .ref m1, .ref m2, .ref m3, .ref mB, .ref mF, .ref mN, .ref mS, .int (iI sT), .ref mW, .long acc])), (mz, .inl (gI g, 326, .inl (aI (zF n ho h c)))), (mB, .inl (gI g, 512, .inl (aI (((mbF (picM n ((updI h (y * 6 + x) (h (y * 6 + x) + 1)))))))))), (mF, .inl (gI g, 512, .inl (aI u_31))), (mN, .inl (gI g, 512, .inl (aI u_32))), (mS, .inl (gI g, 864, .inl (aI (((sdF (picM n ((updI h (y * 6 + x) (h (y * 6 + x) + 1)))) 512)))))), (m1, .inl (gI g, 8, .inl (aI sunX))), (m2, .inl (gI g, 8, .inl (aI sunY))), (m3, .inl (gI g, 8, .inl (aI sunS))), (mW, .inl (gZ g, 512, .inl (aI v)))] _ := hP
              have hD : va_D A [(qm, .inr (5, [.int (iI th), .ref mz, .ref ms, .int (iI hn), .ref mp, .ref mb, .int (iI L), .ref m1, .ref m2, .ref m3, .ref mB, .ref mF, .ref mN, .ref mS, .int (iI sT), .ref mW, .long acc])), (mz, .inl (gI g, 326, .inl (aI (zF n ho h c)))), (mB, .inl (gI g, 512, .inl (aI (((mbF (picM n ((updI h (y * 6 + x) (h (y * 6 + x) + 1)))))))))), (mF, .inl (gI g, 512, .inl (aI u_31))), (mN, .inl (gI g, 512, .inl (aI u_32))), (mS, .inl (gI g, 864, .inl (aI (((sdF (picM n ((updI h (y * 6 + x) (h (y * 6 + x) + 1)))) 512)))))), (m1, .inl (gI g, 8, .inl (aI sunX))), (m2, .inl (gI g, 8, .inl (aI sunY))), (m3, .inl (gI g, 8, .inl (aI sunS))), (mW, .inl (gZ g, 512, .inl (aI v)))] := hD
              exact mend_i (S := (Int → Int) × (Int → Int) × (Int → Int) × (Int → Int) × (Int → Int)) (w' := (fun (u9 : (Int → Int) × (Int → Int) × (Int → Int) × (Int → Int) × (Int → Int)) => match u9 with | (B2, G2, N2, S2, wB2) => [(qm, .inr (5, [.int (iI th), .ref mz, .ref ms, .int (iI hn), .ref mp, .ref mb, .int (iI L), .ref m1, .ref m2, .ref m3, .ref mB, .ref mF, .ref mN, .ref mS, .int (iI sT), .ref mW, .long acc])), (mz, .inl (gI g, 326, .inl (aI (zF n ho h c)))), (mB, .inl (gI g, 512, .inl (aI B2))), (mF, .inl (gI g, 512, .inl (aI G2))), (mN, .inl (gI g, 512, .inl (aI N2))), (mS, .inl (gI g, 864, .inl (aI S2))), (m1, .inl (gI g, 8, .inl (aI sunX))), (m2, .inl (gI g, 8, .inl (aI sunY))), (m3, .inl (gI g, 8, .inl (aI sunS))), (mW, .inl (gZ g, 512, .inl (aI wB2)))])) (post := (fun (u9 : (Int → Int) × (Int → Int) × (Int → Int) × (Int → Int) × (Int → Int)) => match u9 with | (B2, G2, N2, S2, wB2) => True)) (r := (fun (u9 : (Int → Int) × (Int → Int) × (Int → Int) × (Int → Int) × (Int → Int)) => match u9 with | (B2, G2, N2, S2, wB2) => putV n ho h x y w)) hx hb hr hlk hS (((mbF (picM n ((updI h (y * 6 + x) (h (y * 6 + x) + 1)))))), u_31, u_32, ((sdF (picM n ((updI h (y * 6 + x) (h (y * 6 + x) + 1)))) 512)), v) hP hD (trivial) (by (show _ = putV n ho h x y w; unfold putV; rw [if_neg (by omega), if_neg (by omega), if_pos (by omega)])) (Nat.le_of_ble_eq_true rfl) (Nat.le_of_ble_eq_true rfl) dX5_wouldPut_153
          · skip
            refine lv_aload_n hx hb dX5_wouldPut_86 rfl (lv_at hl 0 rfl) ?_
            have hPc_39 := hP.sub (ws' := [(qm, .inr (5, [.int (iI th), .ref mz, .ref ms, .int (iI hn), .ref mp, .ref mb, .int (iI L), .ref m1, .ref m2, .ref m3, .ref mB, .ref mF, .ref mN, .ref mS, .int (iI sT), .ref mW, .long acc])), (mz, .inl (gI g, 326, .inl (aI ((zF n ho (updI h (y * 6 + x) (h (y * 6 + x) + 1)) (updI c (y * 6 + x) (c (y * 6 + x) + 0 * p4 (h (y * 6 + x))))))))), (mB, .inl (gI g, 512, .inl (aI ((mbF (picM n h)))))), (mF, .inl (gI g, 512, .inl (aI u_7))), (mN, .inl (gI g, 512, .inl (aI u_8))), (mS, .inl (gI g, 864, .inl (aI ((sdF (picM n h) 512)))))]) [0, 1, 2, 3, 4, 5] rfl
            have hDc_40 := hD.sub (ws' := [(qm, .inr (5, [.int (iI th), .ref mz, .ref ms, .int (iI hn), .ref mp, .ref mb, .int (iI L), .ref m1, .ref m2, .ref m3, .ref mB, .ref mF, .ref mN, .ref mS, .int (iI sT), .ref mW, .long acc])), (mz, .inl (gI g, 326, .inl (aI ((zF n ho (updI h (y * 6 + x) (h (y * 6 + x) + 1)) (updI c (y * 6 + x) (c (y * 6 + x) + 0 * p4 (h (y * 6 + x))))))))), (mB, .inl (gI g, 512, .inl (aI ((mbF (picM n h)))))), (mF, .inl (gI g, 512, .inl (aI u_7))), (mN, .inl (gI g, 512, .inl (aI u_8))), (mS, .inl (gI g, 864, .inl (aI ((sdF (picM n h) 512)))))]) [0, 1, 2, 3, 4, 5] (by decide) rfl
            have hFc_41 := va_free (wc := [(qm, .inr (5, [.int (iI th), .ref mz, .ref ms, .int (iI hn), .ref mp, .ref mb, .int (iI L), .ref m1, .ref m2, .ref m3, .ref mB, .ref mF, .ref mN, .ref mS, .int (iI sT), .ref mW, .long acc])), (mz, .inl (gI g, 326, .inl (aI ((zF n ho (updI h (y * 6 + x) (h (y * 6 + x) + 1)) (updI c (y * 6 + x) (c (y * 6 + x) + 0 * p4 (h (y * 6 + x))))))))), (mB, .inl (gI g, 512, .inl (aI ((mbF (picM n h)))))), (mF, .inl (gI g, 512, .inl (aI u_7))), (mN, .inl (gI g, 512, .inl (aI u_8))), (mS, .inl (gI g, 864, .inl (aI ((sdF (picM n h) 512)))))]) hD hS hA [0, 1, 2, 3, 4, 5] rfl
            refine mc_i (wr := [(m1, .inl (gI g, 8, .inl (aI sunX))), (m2, .inl (gI g, 8, .inl (aI sunY))), (m3, .inl (gI g, 8, .inl (aI sunS))), (mW, .inl (gZ g, 512, .inl (aI v)))]) (cells1 := 0) (slots1 := 0) (va_runV (As := []) (rest := []) ⟨hx, hb, hml, hown, hts⟩ (c_X5_seenNow l g qm th mz ms hn mp mb L m1 m2 m3 mB mF mN mS sT mW acc n ho ((updI h (y * 6 + x) (h (y * 6 + x) + 1))) ((updI c (y * 6 + x) (c (y * 6 + x) + 0 * p4 (h (y * 6 + x))))) ((mbF (picM n h))) u_7 u_8 ((sdF (picM n h) 512)) hY2 H.size) (cwV 0 hts gX5_wouldPut_X5_seenNow rfl rfl rfl (by decide +kernel) ⟨Nat.le_of_ble_eq_true rfl, Nat.le_of_ble_eq_true rfl⟩) (muV hE hS hPc_39 hDc_40 hFc_41 rfl rfl) rfl rfl hl.1 rfl (lv_room (Nat.le_of_ble_eq_true rfl)) dX5_wouldPut_87 ⟨Nat.le_of_ble_eq_true rfl, Nat.le_of_ble_eq_true rfl⟩) hP hD hS hA [0, 1, 2, 3, 4, 5] [6, 7, 8, 9] [4, 5, 6, 7, 8, 9, 0, 1, 2, 3] rfl rfl (by decide) (by decide) (fun (u9 : (Int → Int) × (Int → Int)) => match u9 with | (u_42, u_43) => [(qm, .inr (5, [.int (iI th), .ref mz, .ref ms, .int (iI hn), .ref mp, .ref mb, .int (iI L), .ref m1, .ref m2, .ref m3, .ref mB, .ref mF, .ref mN, .ref mS, .int (iI sT), .ref mW, .long acc])), (mz, .inl (gI g, 326, .inl (aI (zF n ho ((updI h (y * 6 + x) (h (y * 6 + x) + 1))) ((updI c (y * 6 + x) (c (y * 6 + x) + 0 * p4 (h (y * 6 + x))))))))), (mB, .inl (gI g, 512, .inl (aI ((mbF (picM n ((updI h (y * 6 + x) (h (y * 6 + x) + 1))))))))), (mF, .inl (gI g, 512, .inl (aI u_42))), (mN, .inl (gI g, 512, .inl (aI u_43))), (mS, .inl (gI g, 864, .inl (aI ((sdF (picM n ((updI h (y * 6 + x) (h (y * 6 + x) + 1)))) 512))))), (m1, .inl (gI g, 8, .inl (aI sunX))), (m2, .inl (gI g, 8, .inl (aI sunY))), (m3, .inl (gI g, 8, .inl (aI sunS))), (mW, .inl (gZ g, 512, .inl (aI v)))]) (fun _ => rfl) (by decide) (Nat.le_of_ble_eq_true rfl) (Nat.le_of_ble_eq_true rfl) (fun u9 H locs hu_44 hP hD hS => ?_)
            obtain ⟨u_42, u_43⟩ := u9
            have hu_44 : GOk (picM n ((updI h (y * 6 + x) (h (y * 6 + x) + 1)))) u_42 u_43 := hu_44
            have hP : va_P g.1 vwCl [(qm, .inr (5, [.int (iI th), .ref mz, .ref ms, .int (iI hn), .ref mp, .ref mb, .int (iI L), .ref m1, .ref m2, .ref m3, .ref mB, .ref mF, .ref mN, .ref mS, .int (iI sT), .ref mW, .long acc])), (mz, .inl (gI g, 326, .inl (aI (zF n ho ((updI h (y * 6 + x) (h (y * 6 + x) + 1))) ((updI c (y * 6 + x) (c (y * 6 + x) + 0 * p4 (h (y * 6 + x))))))))), (mB, .inl (gI g, 512, .inl (aI ((mbF (picM n ((updI h (y * 6 + x) (h (y * 6 + x) + 1))))))))), (mF, .inl (gI g, 512, .inl (aI u_42))), (mN, .inl (gI g, 512, .inl (aI u_43))), (mS, .inl (gI g, 864, .inl (aI ((sdF (picM n ((updI h (y * 6 + x) (h (y * 6 + x) + 1)))) 512))))), (m1, .inl (gI g, 8, .inl (aI sunX))), (m2, .inl (gI g, 8, .inl (aI sunY))), (m3, .inl (gI g, 8, .inl (aI sunS))), (mW, .inl (gZ g, 512, .inl (aI v)))] H := hP
            have hD : va_D A [(qm, .inr (5, [.int (iI th), .ref mz, .ref ms, .int (iI hn), .ref mp, .ref mb, .int (iI L), .ref m1, .ref m2, .ref m3, .ref mB, .ref mF, .ref mN, .ref mS, .int (iI sT), .ref mW, .long acc])), (mz, .inl (gI g, 326, .inl (aI (zF n ho ((updI h (y * 6 + x) (h (y * 6 + x) + 1))) ((updI c (y * 6 + x) (c (y * 6 + x) + 0 * p4 (h (y * 6 + x))))))))), (mB, .inl (gI g, 512, .inl (aI ((mbF (picM n ((updI h (y * 6 + x) (h (y * 6 + x) + 1))))))))), (mF, .inl (gI g, 512, .inl (aI u_42))), (mN, .inl (gI g, 512, .inl (aI u_43))), (mS, .inl (gI g, 864, .inl (aI ((sdF (picM n ((updI h (y * 6 + x) (h (y * 6 + x) + 1)))) 512))))), (m1, .inl (gI g, 8, .inl (aI sunX))), (m2, .inl (gI g, 8, .inl (aI sunY))), (m3, .inl (gI g, 8, .inl (aI sunS))), (mW, .inl (gZ g, 512, .inl (aI v)))] := hD
            refine ln_topv (w := .int (iI (seenD n ((updI h (y * 6 + x) (h (y * 6 + x) + 1)))))) rfl ?_
            refine lv_iload hx hb dX5_wouldPut_90 (lv_at hl 5 rfl) ?_
            refine ln_isub hx hb ((seenD n ((updI h (y * 6 + x) (h (y * 6 + x) + 1)))) - (seenD n h)) (rfl) dX5_wouldPut_92 ?_
            refine lv_bipush (v := iI 100) hx hb dX5_wouldPut_93 (by decide) ?_
            refine ln_iadd hx hb ((seenD n ((updI h (y * 6 + x) (h (y * 6 + x) + 1)))) - (seenD n h) + 100) (rfl) dX5_wouldPut_95 ?_
            refine lv_goto (tgt := 115) hx hb dX5_wouldPut_96 (by decide) ?_
            refine lv_istore (lv' := [(7, .int (iI ((seenD n ((updI h (y * 6 + x) (h (y * 6 + x) + 1)))) - (seenD n h) + 100))), (0, .ref qm), (1, .int (iI x)), (2, .int (iI y)), (3, .int (iI w)), (4, .int (iI (h (y * 6 + x)))), (5, .int (iI (seenD n h))), (6, .int (iI (shK n h ho n)))]) hx hb dX5_wouldPut_115 hl (by decide) rfl (fun ls hl => ?_)
            refine lv_iload_n hx hb dX5_wouldPut_117 rfl (lv_at hl 4 rfl) ?_
            refine lv_iconst (v := iI 1) hx hb dX5_wouldPut_118 rfl ?_
            refine ln_icmp_ne (tgt := 144) hx hb dX5_wouldPut_119 (by decide) ⟨by omega, by omega⟩ (by decide) (fun c_45 => ?_) (fun c_45 => ?_)
            · skip
              refine lv_aload_n hx hb dX5_wouldPut_144 rfl (lv_at hl 1 rfl) ?_
              refine lv_iload_n hx hb dX5_wouldPut_145 rfl (lv_at hl 2 rfl) ?_
              refine lv_iload_n hx hb dX5_wouldPut_146 rfl (lv_at hl 3 rfl) ?_
              have hPc_46 := hP.sub (ws' := [(qm, .inr (5, [.int (iI th), .ref mz, .ref ms, .int (iI hn), .ref mp, .ref mb, .int (iI L), .ref m1, .ref m2, .ref m3, .ref mB, .ref mF, .ref mN, .ref mS, .int (iI sT), .ref mW, .long acc])), (mz, .inl (gI g, 326, .inl (aI (zF n ho ((updI h (y * 6 + x) (h (y * 6 + x) + 1))) ((updI c (y * 6 + x) (c (y * 6 + x) + 0 * p4 (h (y * 6 + x)))))))))]) [0, 1] rfl
              have hDc_47 := hD.sub (ws' := [(qm, .inr (5, [.int (iI th), .ref mz, .ref ms, .int (iI hn), .ref mp, .ref mb, .int (iI L), .ref m1, .ref m2, .ref m3, .ref mB, .ref mF, .ref mN, .ref mS, .int (iI sT), .ref mW, .long acc])), (mz, .inl (gI g, 326, .inl (aI (zF n ho ((updI h (y * 6 + x) (h (y * 6 + x) + 1))) ((updI c (y * 6 + x) (c (y * 6 + x) + 0 * p4 (h (y * 6 + x)))))))))]) [0, 1] (by decide) rfl
              have hFc_48 := va_free (wc := [(qm, .inr (5, [.int (iI th), .ref mz, .ref ms, .int (iI hn), .ref mp, .ref mb, .int (iI L), .ref m1, .ref m2, .ref m3, .ref mB, .ref mF, .ref mN, .ref mS, .int (iI sT), .ref mW, .long acc])), (mz, .inl (gI g, 326, .inl (aI (zF n ho ((updI h (y * 6 + x) (h (y * 6 + x) + 1))) ((updI c (y * 6 + x) (c (y * 6 + x) + 0 * p4 (h (y * 6 + x)))))))))]) hD hS hA [0, 1] rfl
              refine mc_i (wr := [(mB, .inl (gI g, 512, .inl (aI ((mbF (picM n ((updI h (y * 6 + x) (h (y * 6 + x) + 1))))))))), (mF, .inl (gI g, 512, .inl (aI u_42))), (mN, .inl (gI g, 512, .inl (aI u_43))), (mS, .inl (gI g, 864, .inl (aI ((sdF (picM n ((updI h (y * 6 + x) (h (y * 6 + x) + 1)))) 512))))), (m1, .inl (gI g, 8, .inl (aI sunX))), (m2, .inl (gI g, 8, .inl (aI sunY))), (m3, .inl (gI g, 8, .inl (aI sunS))), (mW, .inl (gZ g, 512, .inl (aI v)))]) (cells1 := 0) (slots1 := 0) (va_runV (As := [.int (iI x), .int (iI y)]) (rest := []) ⟨hx, hb, hml, hown, hts⟩ (c_X5_takeFrom l g qm th mz ms hn mp mb L m1 m2 m3 mB mF mN mS sT mW acc n ho (((updI h (y * 6 + x) (h (y * 6 + x) + 1)))) (((updI c (y * 6 + x) (c (y * 6 + x) + 0 * p4 (h (y * 6 + x)))))) x y hY2 h1 h2 h3 h4 (by rw [hA9]; omega) H.size) (cwV 2 hts gX5_wouldPut_X5_takeFrom rfl rfl rfl (by decide +kernel) ⟨Nat.le_of_ble_eq_true rfl, Nat.le_of_ble_eq_true rfl⟩) (muV hE hS hPc_46 hDc_47 hFc_48 rfl rfl) rfl rfl hl.1 rfl (lv_room (Nat.le_of_ble_eq_true rfl)) dX5_wouldPut_147 ⟨Nat.le_of_ble_eq_true rfl, Nat.le_of_ble_eq_true rfl⟩) hP hD hS hA [0, 1] [2, 3, 4, 5, 6, 7, 8, 9] [8, 9, 0, 1, 2, 3, 4, 5, 6, 7] rfl rfl (by decide) (by decide) (fun _ => [(qm, .inr (5, [.int (iI th), .ref mz, .ref ms, .int (iI hn), .ref mp, .ref mb, .int (iI L), .ref m1, .ref m2, .ref m3, .ref mB, .ref mF, .ref mN, .ref mS, .int (iI sT), .ref mW, .long acc])), (mz, .inl (gI g, 326, .inl (aI ((zF n ho (lowH (((updI h (y * 6 + x) (h (y * 6 + x) + 1)))) (y * 6 + x) ((((updI h (y * 6 + x) (h (y * 6 + x) + 1)))) (y * 6 + x) - 1)) (lowC (((updI h (y * 6 + x) (h (y * 6 + x) + 1)))) (((updI c (y * 6 + x) (c (y * 6 + x) + 0 * p4 (h (y * 6 + x)))))) (y * 6 + x) ((((updI h (y * 6 + x) (h (y * 6 + x) + 1)))) (y * 6 + x) - 1))))))), (mB, .inl (gI g, 512, .inl (aI ((mbF (picM n ((updI h (y * 6 + x) (h (y * 6 + x) + 1))))))))), (mF, .inl (gI g, 512, .inl (aI u_42))), (mN, .inl (gI g, 512, .inl (aI u_43))), (mS, .inl (gI g, 864, .inl (aI ((sdF (picM n ((updI h (y * 6 + x) (h (y * 6 + x) + 1)))) 512))))), (m1, .inl (gI g, 8, .inl (aI sunX))), (m2, .inl (gI g, 8, .inl (aI sunY))), (m3, .inl (gI g, 8, .inl (aI sunS))), (mW, .inl (gZ g, 512, .inl (aI v)))]) (fun _ => rfl) (by decide) (Nat.le_of_ble_eq_true rfl) (Nat.le_of_ble_eq_true rfl) (fun u9 H locs hu_49 hP hD hS => ?_)
              have hP : va_P g.1 vwCl [(qm, .inr (5, [.int (iI th), .ref mz, .ref ms, .int (iI hn), .ref mp, .ref mb, .int (iI L), .ref m1, .ref m2, .ref m3, .ref mB, .ref mF, .ref mN, .ref mS, .int (iI sT), .ref mW, .long acc])), (mz, .inl (gI g, 326, .inl (aI ((zF n ho (lowH (((updI h (y * 6 + x) (h (y * 6 + x) + 1)))) (y * 6 + x) ((((updI h (y * 6 + x) (h (y * 6 + x) + 1)))) (y * 6 + x) - 1)) (lowC (((updI h (y * 6 + x) (h (y * 6 + x) + 1)))) (((updI c (y * 6 + x) (c (y * 6 + x) + 0 * p4 (h (y * 6 + x)))))) (y * 6 + x) ((((updI h (y * 6 + x) (h (y * 6 + x) + 1)))) (y * 6 + x) - 1))))))), (mB, .inl (gI g, 512, .inl (aI ((mbF (picM n ((updI h (y * 6 + x) (h (y * 6 + x) + 1))))))))), (mF, .inl (gI g, 512, .inl (aI u_42))), (mN, .inl (gI g, 512, .inl (aI u_43))), (mS, .inl (gI g, 864, .inl (aI ((sdF (picM n ((updI h (y * 6 + x) (h (y * 6 + x) + 1)))) 512))))), (m1, .inl (gI g, 8, .inl (aI sunX))), (m2, .inl (gI g, 8, .inl (aI sunY))), (m3, .inl (gI g, 8, .inl (aI sunS))), (mW, .inl (gZ g, 512, .inl (aI v)))] H := hP
              have hD : va_D A [(qm, .inr (5, [.int (iI th), .ref mz, .ref ms, .int (iI hn), .ref mp, .ref mb, .int (iI L), .ref m1, .ref m2, .ref m3, .ref mB, .ref mF, .ref mN, .ref mS, .int (iI sT), .ref mW, .long acc])), (mz, .inl (gI g, 326, .inl (aI ((zF n ho (lowH (((updI h (y * 6 + x) (h (y * 6 + x) + 1)))) (y * 6 + x) ((((updI h (y * 6 + x) (h (y * 6 + x) + 1)))) (y * 6 + x) - 1)) (lowC (((updI h (y * 6 + x) (h (y * 6 + x) + 1)))) (((updI c (y * 6 + x) (c (y * 6 + x) + 0 * p4 (h (y * 6 + x)))))) (y * 6 + x) ((((updI h (y * 6 + x) (h (y * 6 + x) + 1)))) (y * 6 + x) - 1))))))), (mB, .inl (gI g, 512, .inl (aI ((mbF (picM n ((updI h (y * 6 + x) (h (y * 6 + x) + 1))))))))), (mF, .inl (gI g, 512, .inl (aI u_42))), (mN, .inl (gI g, 512, .inl (aI u_43))), (mS, .inl (gI g, 864, .inl (aI ((sdF (picM n ((updI h (y * 6 + x) (h (y * 6 + x) + 1)))) 512))))), (m1, .inl (gI g, 8, .inl (aI sunX))), (m2, .inl (gI g, 8, .inl (aI sunY))), (m3, .inl (gI g, 8, .inl (aI sunS))), (mW, .inl (gZ g, 512, .inl (aI v)))] := hD
              refine ln_topv (w := .int (iI (colZ ((((updI c (y * 6 + x) (c (y * 6 + x) + 0 * p4 (h (y * 6 + x)))))) (y * 6 + x)) ((((updI h (y * 6 + x) (h (y * 6 + x) + 1)))) (y * 6 + x) - 1)))) rfl ?_
              refine lv_pop hx hb dX5_wouldPut_150 rfl ?_
              refine lv_iload hx hb dX5_wouldPut_151 (lv_at hl 0 rfl) ?_
              have hP := hP.recell 1 rfl (zF n ho h c) (fun j _ _ => zF_cg (fun i => pt_h hY (by omega) i) (fun i => pt_c hY (by omega) i) j)
              have hD := hD.set (p := 1) (e := .inl (gI g, 326, .inl (aI (zF n ho h c)))) rfl
              have hP := hP.recell 2 rfl (((mbF (picM n ((updI h (y * 6 + x) (h (y * 6 + x) + 1))))))) (fun j h0 h1 => by omega)
              have hD := hD.set (p := 2) (e := .inl (gI g, 512, .inl (aI (((mbF (picM n ((updI h (y * 6 + x) (h (y * 6 + x) + 1)))))))))) rfl
              have hP := hP.recell 5 rfl (((sdF (picM n ((updI h (y * 6 + x) (h (y * 6 + x) + 1)))) 512))) (fun j h0 h1 => by omega)
              have hD := hD.set (p := 5) (e := .inl (gI g, 864, .inl (aI (((sdF (picM n ((updI h (y * 6 + x) (h (y * 6 + x) + 1)))) 512)))))) rfl
              have hP : va_P g.1 vwCl [(qm, .inr (5, [.int (iI th), .ref mz, .ref ms, .int (iI hn), .ref mp, .ref mb, .int (iI L), .ref m1, .ref m2, .ref m3, .ref mB, .ref mF, .ref mN, .ref mS, .int (iI sT), .ref mW, .long acc])), (mz, .inl (gI g, 326, .inl (aI (zF n ho h c)))), (mB, .inl (gI g, 512, .inl (aI (((mbF (picM n ((updI h (y * 6 + x) (h (y * 6 + x) + 1)))))))))), (mF, .inl (gI g, 512, .inl (aI u_42))), (mN, .inl (gI g, 512, .inl (aI u_43))), (mS, .inl (gI g, 864, .inl (aI (((sdF (picM n ((updI h (y * 6 + x) (h (y * 6 + x) + 1)))) 512)))))), (m1, .inl (gI g, 8, .inl (aI sunX))), (m2, .inl (gI g, 8, .inl (aI sunY))), (m3, .inl (gI g, 8, .inl (aI sunS))), (mW, .inl (gZ g, 512, .inl (aI v)))] _ := hP
              have hD : va_D A [(qm, .inr (5, [.int (iI th), .ref mz, .ref ms, .int (iI hn), .ref mp, .ref mb, .int (iI L), .ref m1, .ref m2, .ref m3, .ref mB, .ref mF, .ref mN, .ref mS, .int (iI sT), .ref mW, .long acc])), (mz, .inl (gI g, 326, .inl (aI (zF n ho h c)))), (mB, .inl (gI g, 512, .inl (aI (((mbF (picM n ((updI h (y * 6 + x) (h (y * 6 + x) + 1)))))))))), (mF, .inl (gI g, 512, .inl (aI u_42))), (mN, .inl (gI g, 512, .inl (aI u_43))), (mS, .inl (gI g, 864, .inl (aI (((sdF (picM n ((updI h (y * 6 + x) (h (y * 6 + x) + 1)))) 512)))))), (m1, .inl (gI g, 8, .inl (aI sunX))), (m2, .inl (gI g, 8, .inl (aI sunY))), (m3, .inl (gI g, 8, .inl (aI sunS))), (mW, .inl (gZ g, 512, .inl (aI v)))] := hD
              exact mend_i (S := (Int → Int) × (Int → Int) × (Int → Int) × (Int → Int) × (Int → Int)) (w' := (fun (u9 : (Int → Int) × (Int → Int) × (Int → Int) × (Int → Int) × (Int → Int)) => match u9 with | (B2, G2, N2, S2, wB2) => [(qm, .inr (5, [.int (iI th), .ref mz, .ref ms, .int (iI hn), .ref mp, .ref mb, .int (iI L), .ref m1, .ref m2, .ref m3, .ref mB, .ref mF, .ref mN, .ref mS, .int (iI sT), .ref mW, .long acc])), (mz, .inl (gI g, 326, .inl (aI (zF n ho h c)))), (mB, .inl (gI g, 512, .inl (aI B2))), (mF, .inl (gI g, 512, .inl (aI G2))), (mN, .inl (gI g, 512, .inl (aI N2))), (mS, .inl (gI g, 864, .inl (aI S2))), (m1, .inl (gI g, 8, .inl (aI sunX))), (m2, .inl (gI g, 8, .inl (aI sunY))), (m3, .inl (gI g, 8, .inl (aI sunS))), (mW, .inl (gZ g, 512, .inl (aI wB2)))])) (post := (fun (u9 : (Int → Int) × (Int → Int) × (Int → Int) × (Int → Int) × (Int → Int)) => match u9 with | (B2, G2, N2, S2, wB2) => True)) (r := (fun (u9 : (Int → Int) × (Int → Int) × (Int → Int) × (Int → Int) × (Int → Int)) => match u9 with | (B2, G2, N2, S2, wB2) => putV n ho h x y w)) hx hb hr hlk hS (((mbF (picM n ((updI h (y * 6 + x) (h (y * 6 + x) + 1)))))), u_42, u_43, ((sdF (picM n ((updI h (y * 6 + x) (h (y * 6 + x) + 1)))) 512)), v) hP hD (trivial) (by (show _ = putV n ho h x y w; unfold putV; rw [if_neg (by omega), if_pos (by omega), hs9])) (Nat.le_of_ble_eq_true rfl) (Nat.le_of_ble_eq_true rfl) dX5_wouldPut_153
            · exfalso; omega
        · skip
          have hn9 := mb_none hM9 k
          have hr9 := mb_rg hM9 k
          refine lv_aload_n hx hb dX5_wouldPut_46 rfl (lv_at hl 0 rfl) ?_
          refine va_get (D := g.1) (ci := 5) (v := .ref mW) (C := RX5) (T := TX5) (N := 17) hx hb hts in5 hown hE.1 hP 0 rfl rfl 15 (by decide) w1 (fun _ h9 => h9) rfl dX5_wouldPut_47 ?_
          refine lv_iload hx hb dX5_wouldPut_50 (lv_at hl 7 rfl) ?_
          refine lv_aload_n hx hb dX5_wouldPut_52 rfl (lv_at hl 0 rfl) ?_
          refine va_get (D := g.1) (ci := 5) (v := .ref mB) (C := RX5) (T := TX5) (N := 17) hx hb hts in5 hown hE.1 hP 0 rfl rfl 10 (by decide) w2 (fun _ h9 => h9) rfl dX5_wouldPut_53 ?_
          refine lv_iload hx hb dX5_wouldPut_56 (lv_at hl 7 rfl) ?_
          refine ln_iald hx hb hE hP 2 rfl (by omega) (by omega) (Nat.le_of_ble_eq_true rfl) (((mbF (picM n h))) k) (rfl) dX5_wouldPut_58 ?_
          refine lv_iconst (v := iI (-1)) hx hb dX5_wouldPut_59 rfl ?_
          refine ln_icmp_eq (tgt := 67) hx hb dX5_wouldPut_60 (by decide) ⟨by omega, by omega⟩ (by decide) (fun c_50 => ?_) (fun c_50 => ?_)
          · skip
            refine lv_iconst (v := iI 0) hx hb dX5_wouldPut_67 rfl ?_
            refine ln_zast hx hb hE hP hD hS 9 rfl (by omega) (by omega) (Nat.le_of_ble_eq_true rfl) (Or.inl rfl) (updI v k 0) (fun _ _ _ => rfl) dX5_wouldPut_68 (fun H locs hP hD hS => ?_)
            have hP : va_P g.1 vwCl [(qm, .inr (5, [.int (iI th), .ref mz, .ref ms, .int (iI hn), .ref mp, .ref mb, .int (iI L), .ref m1, .ref m2, .ref m3, .ref mB, .ref mF, .ref mN, .ref mS, .int (iI sT), .ref mW, .long acc])), (mz, .inl (gI g, 326, .inl (aI (zF n ho h c)))), (mB, .inl (gI g, 512, .inl (aI ((mbF (picM n h)))))), (mF, .inl (gI g, 512, .inl (aI u_7))), (mN, .inl (gI g, 512, .inl (aI u_8))), (mS, .inl (gI g, 864, .inl (aI ((sdF (picM n h) 512))))), (m1, .inl (gI g, 8, .inl (aI sunX))), (m2, .inl (gI g, 8, .inl (aI sunY))), (m3, .inl (gI g, 8, .inl (aI sunS))), (mW, .inl (gZ g, 512, .inl (aI (updI v k 0))))] H := hP
            have hD : va_D A [(qm, .inr (5, [.int (iI th), .ref mz, .ref ms, .int (iI hn), .ref mp, .ref mb, .int (iI L), .ref m1, .ref m2, .ref m3, .ref mB, .ref mF, .ref mN, .ref mS, .int (iI sT), .ref mW, .long acc])), (mz, .inl (gI g, 326, .inl (aI (zF n ho h c)))), (mB, .inl (gI g, 512, .inl (aI ((mbF (picM n h)))))), (mF, .inl (gI g, 512, .inl (aI u_7))), (mN, .inl (gI g, 512, .inl (aI u_8))), (mS, .inl (gI g, 864, .inl (aI ((sdF (picM n h) 512))))), (m1, .inl (gI g, 8, .inl (aI sunX))), (m2, .inl (gI g, 8, .inl (aI sunY))), (m3, .inl (gI g, 8, .inl (aI sunS))), (mW, .inl (gZ g, 512, .inl (aI (updI v k 0))))] := hD
            refine lv_iinc (v := iI (k + 1)) (lv' := [(7, .int (iI (k + 1))), (0, .ref qm), (1, .int (iI x)), (2, .int (iI y)), (3, .int (iI w)), (4, .int (iI (h (y * 6 + x)))), (5, .int (iI (seenD n h))), (6, .int (iI (shK n h ho n)))]) hx hb dX5_wouldPut_69 hl (k := 7) rfl (iI_add _ _) (by decide) rfl (fun ls hl => ?_)
            refine lv_goto (tgt := 38) hx hb dX5_wouldPut_72 (by decide) ?_
            have hl : lv_has ls 8 [(7, .int (iI (k + 1))), (0, .ref qm), (1, .int (iI x)), (2, .int (iI y)), (3, .int (iI w)), (4, .int (iI (h (y * 6 + x)))), (5, .int (iI (seenD n h))), (6, .int (iI (shK n h ho n)))] := hl
            exact ih_13 (k + 1) (updI v k 0) (by omega) (by omega) (fun j a b => by unfold updI; split; (rename_i q9; rw [q9]; exact (bI_f (P := picM n h k ≠ 0) (fun r9 => r9 (hn9.mp (by omega)))).symm); exact ge j a (by omega)) _ _ hP hD hS _ (lv_sub hl [1, 2, 3, 4, 5, 6, 7, 0] rfl) (by omega)
          · skip
            refine lv_iconst (v := iI 1) hx hb dX5_wouldPut_63 rfl ?_
            refine lv_goto (tgt := 68) hx hb dX5_wouldPut_64 (by decide) ?_
            refine ln_zast hx hb hE hP hD hS 9 rfl (by omega) (by omega) (Nat.le_of_ble_eq_true rfl) (Or.inr rfl) (updI v k 1) (fun _ _ _ => rfl) dX5_wouldPut_68 (fun H locs hP hD hS => ?_)
            have hP : va_P g.1 vwCl [(qm, .inr (5, [.int (iI th), .ref mz, .ref ms, .int (iI hn), .ref mp, .ref mb, .int (iI L), .ref m1, .ref m2, .ref m3, .ref mB, .ref mF, .ref mN, .ref mS, .int (iI sT), .ref mW, .long acc])), (mz, .inl (gI g, 326, .inl (aI (zF n ho h c)))), (mB, .inl (gI g, 512, .inl (aI ((mbF (picM n h)))))), (mF, .inl (gI g, 512, .inl (aI u_7))), (mN, .inl (gI g, 512, .inl (aI u_8))), (mS, .inl (gI g, 864, .inl (aI ((sdF (picM n h) 512))))), (m1, .inl (gI g, 8, .inl (aI sunX))), (m2, .inl (gI g, 8, .inl (aI sunY))), (m3, .inl (gI g, 8, .inl (aI sunS))), (mW, .inl (gZ g, 512, .inl (aI (updI v k 1))))] H := hP
            have hD : va_D A [(qm, .inr (5, [.int (iI th), .ref mz, .ref ms, .int (iI hn), .ref mp, .ref mb, .int (iI L), .ref m1, .ref m2, .ref m3, .ref mB, .ref mF, .ref mN, .ref mS, .int (iI sT), .ref mW, .long acc])), (mz, .inl (gI g, 326, .inl (aI (zF n ho h c)))), (mB, .inl (gI g, 512, .inl (aI ((mbF (picM n h)))))), (mF, .inl (gI g, 512, .inl (aI u_7))), (mN, .inl (gI g, 512, .inl (aI u_8))), (mS, .inl (gI g, 864, .inl (aI ((sdF (picM n h) 512))))), (m1, .inl (gI g, 8, .inl (aI sunX))), (m2, .inl (gI g, 8, .inl (aI sunY))), (m3, .inl (gI g, 8, .inl (aI sunS))), (mW, .inl (gZ g, 512, .inl (aI (updI v k 1))))] := hD
            refine lv_iinc (v := iI (k + 1)) (lv' := [(7, .int (iI (k + 1))), (0, .ref qm), (1, .int (iI x)), (2, .int (iI y)), (3, .int (iI w)), (4, .int (iI (h (y * 6 + x)))), (5, .int (iI (seenD n h))), (6, .int (iI (shK n h ho n)))]) hx hb dX5_wouldPut_69 hl (k := 7) rfl (iI_add _ _) (by decide) rfl (fun ls hl => ?_)
            refine lv_goto (tgt := 38) hx hb dX5_wouldPut_72 (by decide) ?_
            have hl : lv_has ls 8 [(7, .int (iI (k + 1))), (0, .ref qm), (1, .int (iI x)), (2, .int (iI y)), (3, .int (iI w)), (4, .int (iI (h (y * 6 + x)))), (5, .int (iI (seenD n h))), (6, .int (iI (shK n h ho n)))] := hl
            exact ih_13 (k + 1) (updI v k 1) (by omega) (by omega) (fun j a b => by unfold updI; split; (rename_i q9; rw [q9]; exact (bI_t (P := picM n h k ≠ 0) (fun r9 => absurd (hn9.mpr r9) (by omega))).symm); exact ge j a (by omega)) _ _ hP hD hS _ (lv_sub hl [1, 2, 3, 4, 5, 6, 7, 0] rfl) (by omega)
    have hl : lv_has ls 8 [(7, .int (iI 0)), (6, .int (iI (shK n h ho n))), (5, .int (iI (seenD n h))), (4, .int (iI (h (y * 6 + x)))), (0, .ref qm), (1, .int (iI x)), (2, .int (iI y)), (3, .int (iI w))] := hl
    exact L38 _ 0 wB (by omega) (by omega) (fun j a b => absurd b (by omega)) _ _ hP hD hS _ (lv_sub hl [4, 5, 6, 7, 3, 2, 1, 0] rfl) (Nat.lt_succ_self _)
  · skip
    refine lv_iconst (v := iI (-1)) hx hb dX5_wouldPut_15 rfl ?_
    have hP : va_P g.1 vwCl [(qm, .inr (5, [.int (iI th), .ref mz, .ref ms, .int (iI hn), .ref mp, .ref mb, .int (iI L), .ref m1, .ref m2, .ref m3, .ref mB, .ref mF, .ref mN, .ref mS, .int (iI sT), .ref mW, .long acc])), (mz, .inl (gI g, 326, .inl (aI (zF n ho h c)))), (mB, .inl (gI g, 512, .inl (aI B0))), (mF, .inl (gI g, 512, .inl (aI G))), (mN, .inl (gI g, 512, .inl (aI N))), (mS, .inl (gI g, 864, .inl (aI S0))), (m1, .inl (gI g, 8, .inl (aI sunX))), (m2, .inl (gI g, 8, .inl (aI sunY))), (m3, .inl (gI g, 8, .inl (aI sunS))), (mW, .inl (gZ g, 512, .inl (aI wB)))] _ := hP
    have hD : va_D A [(qm, .inr (5, [.int (iI th), .ref mz, .ref ms, .int (iI hn), .ref mp, .ref mb, .int (iI L), .ref m1, .ref m2, .ref m3, .ref mB, .ref mF, .ref mN, .ref mS, .int (iI sT), .ref mW, .long acc])), (mz, .inl (gI g, 326, .inl (aI (zF n ho h c)))), (mB, .inl (gI g, 512, .inl (aI B0))), (mF, .inl (gI g, 512, .inl (aI G))), (mN, .inl (gI g, 512, .inl (aI N))), (mS, .inl (gI g, 864, .inl (aI S0))), (m1, .inl (gI g, 8, .inl (aI sunX))), (m2, .inl (gI g, 8, .inl (aI sunY))), (m3, .inl (gI g, 8, .inl (aI sunS))), (mW, .inl (gZ g, 512, .inl (aI wB)))] := hD
    exact mend_i (S := (Int → Int) × (Int → Int) × (Int → Int) × (Int → Int) × (Int → Int)) (w' := (fun (u9 : (Int → Int) × (Int → Int) × (Int → Int) × (Int → Int) × (Int → Int)) => match u9 with | (B2, G2, N2, S2, wB2) => [(qm, .inr (5, [.int (iI th), .ref mz, .ref ms, .int (iI hn), .ref mp, .ref mb, .int (iI L), .ref m1, .ref m2, .ref m3, .ref mB, .ref mF, .ref mN, .ref mS, .int (iI sT), .ref mW, .long acc])), (mz, .inl (gI g, 326, .inl (aI (zF n ho h c)))), (mB, .inl (gI g, 512, .inl (aI B2))), (mF, .inl (gI g, 512, .inl (aI G2))), (mN, .inl (gI g, 512, .inl (aI N2))), (mS, .inl (gI g, 864, .inl (aI S2))), (m1, .inl (gI g, 8, .inl (aI sunX))), (m2, .inl (gI g, 8, .inl (aI sunY))), (m3, .inl (gI g, 8, .inl (aI sunS))), (mW, .inl (gZ g, 512, .inl (aI wB2)))])) (post := (fun (u9 : (Int → Int) × (Int → Int) × (Int → Int) × (Int → Int) × (Int → Int)) => match u9 with | (B2, G2, N2, S2, wB2) => True)) (r := (fun (u9 : (Int → Int) × (Int → Int) × (Int → Int) × (Int → Int) × (Int → Int)) => match u9 with | (B2, G2, N2, S2, wB2) => putV n ho h x y w)) hx hb hr hlk hS (B0, G, N, S0, wB) hP hD (trivial) (by (show _ = putV n ho h x y w; unfold putV; rw [if_pos (by omega)])) (Nat.le_of_ble_eq_true rfl) (Nat.le_of_ble_eq_true rfl) dX5_wouldPut_16
set_option maxHeartbeats 800000 in
set_option maxRecDepth 100000 in
theorem c_X5_ifPut_ok (l : Launch) (g : GT) (qm : Nat) (th : Int) (mz : Nat) (ms : Nat) (hn : Int) (mp : Nat) (mb : Nat) (L : Int) (m1 : Nat) (m2 : Nat) (m3 : Nat) (mB : Nat) (mF : Nat) (mN : Nat) (mS : Nat) (sT : Int) (mW : Nat) (acc : Int64) (n : Int) (ho : Int) (h : Int → Int) (c : Int → Int) (B0 : Int → Int) (G : Int → Int) (N : Int → Int) (S0 : Int → Int) (wB : Int → Int) (x : Int) (y : Int) (w : Int) (hY : YOk n ho h c) (h1 : 0 ≤ x) (h2 : x < n) (h3 : 0 ≤ y) (h4 : y < n) (gw : 0 ≤ w ∧ w ≤ 2) : MutI l yX5_ifPut wsX5_ifPut ({ frames := 6, cells := 0, slots := 0, locals := 146 }) 0 0 g [(qm, .inr (5, [.int (iI th), .ref mz, .ref ms, .int (iI hn), .ref mp, .ref mb, .int (iI L), .ref m1, .ref m2, .ref m3, .ref mB, .ref mF, .ref mN, .ref mS, .int (iI sT), .ref mW, .long acc])), (mz, .inl (gI g, 326, .inl (aI (zF n ho h c)))), (mB, .inl (gI g, 512, .inl (aI B0))), (mF, .inl (gI g, 512, .inl (aI G))), (mN, .inl (gI g, 512, .inl (aI N))), (mS, .inl (gI g, 864, .inl (aI S0))), (m1, .inl (gI g, 8, .inl (aI sunX))), (m2, .inl (gI g, 8, .inl (aI sunY))), (m3, .inl (gI g, 8, .inl (aI sunS))), (mW, .inl (gZ g, 512, .inl (aI wB)))] [.ref qm, .int (iI x), .int (iI y), .int (iI w)] (S := (Int → Int) × (Int → Int) × (Int → Int) × (Int → Int) × (Int → Int)) (fun (u9 : (Int → Int) × (Int → Int) × (Int → Int) × (Int → Int) × (Int → Int)) => match u9 with | (B2, G2, N2, S2, wB2) => True) (fun (u9 : (Int → Int) × (Int → Int) × (Int → Int) × (Int → Int) × (Int → Int)) => match u9 with | (B2, G2, N2, S2, wB2) => putV n ho h x y w) (fun (u9 : (Int → Int) × (Int → Int) × (Int → Int) × (Int → Int) × (Int → Int)) => match u9 with | (B2, G2, N2, S2, wB2) => [(qm, .inr (5, [.int (iI 0), .ref mz, .ref ms, .int (iI hn), .ref mp, .ref mb, .int (iI L), .ref m1, .ref m2, .ref m3, .ref mB, .ref mF, .ref mN, .ref mS, .int (iI sT), .ref mW, .long acc])), (mz, .inl (gI g, 326, .inl (aI (zF n ho h c)))), (mB, .inl (gI g, 512, .inl (aI B2))), (mF, .inl (gI g, 512, .inl (aI G2))), (mN, .inl (gI g, 512, .inl (aI N2))), (mS, .inl (gI g, 864, .inl (aI S2))), (m1, .inl (gI g, 8, .inl (aI sunX))), (m2, .inl (gI g, 8, .inl (aI sunY))), (m3, .inl (gI g, 8, .inl (aI sunS))), (mW, .inl (gZ g, 512, .inl (aI wB2)))]) := by
  refine mut_of (y := yX5_ifPut) (ws := wsX5_ifPut) (av := [.ref qm, .int (iI x), .int (iI y), .int (iI w)]) (w := [(qm, .inr (5, [.int (iI th), .ref mz, .ref ms, .int (iI hn), .ref mp, .ref mb, .int (iI L), .ref m1, .ref m2, .ref m3, .ref mB, .ref mF, .ref mN, .ref mS, .int (iI sT), .ref mW, .long acc])), (mz, .inl (gI g, 326, .inl (aI (zF n ho h c)))), (mB, .inl (gI g, 512, .inl (aI B0))), (mF, .inl (gI g, 512, .inl (aI G))), (mN, .inl (gI g, 512, .inl (aI N))), (mS, .inl (gI g, 864, .inl (aI S0))), (m1, .inl (gI g, 8, .inl (aI sunX))), (m2, .inl (gI g, 8, .inl (aI sunY))), (m3, .inl (gI g, 8, .inl (aI sunS))), (mW, .inl (gZ g, 512, .inl (aI wB)))]) (Qc := fun A => va_Qi (fun x9 (u9 : (Int → Int) × (Int → Int) × (Int → Int) × (Int → Int) × (Int → Int)) => x9 = iI ((fun (u9 : (Int → Int) × (Int → Int) × (Int → Int) × (Int → Int) × (Int → Int)) => match u9 with | (B2, G2, N2, S2, wB2) => putV n ho h x y w) u9) ∧ (fun (u9 : (Int → Int) × (Int → Int) × (Int → Int) × (Int → Int) × (Int → Int)) => match u9 with | (B2, G2, N2, S2, wB2) => True) u9) (fun u9 t9 => MB g ((fun (u9 : (Int → Int) × (Int → Int) × (Int → Int) × (Int → Int) × (Int → Int)) => match u9 with | (B2, G2, N2, S2, wB2) => [(qm, .inr (5, [.int (iI 0), .ref mz, .ref ms, .int (iI hn), .ref mp, .ref mb, .int (iI L), .ref m1, .ref m2, .ref m3, .ref mB, .ref mF, .ref mN, .ref mS, .int (iI sT), .ref mW, .long acc])), (mz, .inl (gI g, 326, .inl (aI (zF n ho h c)))), (mB, .inl (gI g, 512, .inl (aI B2))), (mF, .inl (gI g, 512, .inl (aI G2))), (mN, .inl (gI g, 512, .inl (aI N2))), (mS, .inl (gI g, 864, .inl (aI S2))), (m1, .inl (gI g, 8, .inl (aI sunX))), (m2, .inl (gI g, 8, .inl (aI sunY))), (m3, .inl (gI g, 8, .inl (aI sunS))), (mW, .inl (gZ g, 512, .inl (aI wB2)))]) u9) A t9) A) (cc := cX5_ifPut) (maxL := 4) (ret := (some .int)) (by decide) rfl (Nat.le_of_ble_eq_true rfl) ?_
  intro pZ eZ sZ mZ bZ meZ cZ A F hin hA hP hD hE hS ls hl
  obtain ⟨hx, hb, hr, hml, hts, hown, hlk⟩ := F
  skip
  have hown : sZ.vm.findClass RX5 = some mZ.cls := hown
  have hl : lv_has ls 4 [(0, .ref qm), (1, .int (iI x)), (2, .int (iI y)), (3, .int (iI w))] := hl
  skip
  have w0 := hts (.fieldLink RX5 47 "SlantYardModel" "thrown" "I") (by decide +kernel)
  have in5 : ∀ w ∈ u_ws RX5 TX5 17, w ∈ wsX5_ifPut := by decide +kernel
  have hnn := hY.n
  have hho := hY.hr
  have hM9 : MOk (picM n h) := picM_ok hY
  have hI9 : MIn n h (picM n h) := picM_in hY
  refine lv_aload_n hx hb dX5_ifPut_0 rfl (lv_at hl 0 rfl) ?_
  refine lv_aload_n hx hb dX5_ifPut_1 rfl (lv_at hl 0 rfl) ?_
  refine lv_iload_n hx hb dX5_ifPut_2 rfl (lv_at hl 1 rfl) ?_
  refine lv_iload_n hx hb dX5_ifPut_3 rfl (lv_at hl 2 rfl) ?_
  have hPc_1 := hP.sub (ws' := [(qm, .inr (5, [.int (iI th), .ref mz, .ref ms, .int (iI hn), .ref mp, .ref mb, .int (iI L), .ref m1, .ref m2, .ref m3, .ref mB, .ref mF, .ref mN, .ref mS, .int (iI sT), .ref mW, .long acc])), (mz, .inl (gI g, 326, .inl (aI (zF n ho h c))))]) [0, 1] rfl
  refine pc_i (va_runV (As := [.int (iI x), .int (iI y)]) (rest := [.ref qm]) ⟨hx, hb, hml, hown, hts⟩ (c_X5_isSquare l g qm th mz ms hn mp mb L m1 m2 m3 mB mF mN mS sT mW acc n ho h c x y hY (by omega) (by omega)) (cwV 2 hts gX5_ifPut_X5_isSquare rfl rfl rfl (by decide +kernel) ⟨Nat.le_of_ble_eq_true rfl, Nat.le_of_ble_eq_true rfl⟩) (puV hE hS hPc_1 rfl rfl) rfl rfl hl.1 rfl (lv_room (Nat.le_of_ble_eq_true rfl)) dX5_ifPut_4 ⟨Nat.le_of_ble_eq_true rfl, Nat.le_of_ble_eq_true rfl⟩) ?_
  refine lb_if_ne (tgt := 14) hx hb dX5_ifPut_7 (by decide) (fun c_2 => ?_) (fun c_2 => ?_)
  · skip
    refine lv_iload_n hx hb dX5_ifPut_14 rfl (lv_at hl 3 rfl) ?_
    refine lv_iconst (v := iI 0) hx hb dX5_ifPut_15 rfl ?_
    refine lv_iconst (v := iI 2) hx hb dX5_ifPut_16 rfl ?_
    refine pc_i (va_runS (As := [.int (iI w), .int (iI 0), .int (iI 2)]) (rest := [.ref qm]) ⟨hx, hb, hml, hown, hts⟩ (c_X5_in l g w 0 2 (by omega) (by omega) (by omega)) (va_cwS 3 hts gX5_ifPut_X5_in rfl rfl rfl (by decide +kernel) ⟨Nat.le_of_ble_eq_true rfl, Nat.le_of_ble_eq_true rfl⟩) (puS hE hS (va_P_nil g.1 _)) rfl rfl hl.1 rfl (lv_room (Nat.le_of_ble_eq_true rfl)) dX5_ifPut_17 ⟨Nat.le_of_ble_eq_true rfl, Nat.le_of_ble_eq_true rfl⟩) ?_
    refine lb_if_eq (tgt := 27) hx hb dX5_ifPut_20 (by decide) (fun c_3 => ?_) (fun c_3 => ?_)
    · exfalso; omega
    · skip
      refine lv_iconst (v := iI 0) hx hb dX5_ifPut_23 rfl ?_
      refine lv_goto (tgt := 28) hx hb dX5_ifPut_24 (by decide) ?_
      refine va_put (D := g.1) (ci := 5) (v := .int (iI 0)) (ty := .int) (C := RX5) (T := TX5) (N := 17) hx hb hts in5 tyX5 tyX5_ok nmX5 hown hE.1 hP hD hS 0 rfl rfl 0 (by decide) w0 (fun _ h9 => h9) rfl (by decide +kernel) rfl rfl (Nat.le_of_ble_eq_true rfl) dX5_ifPut_28 (fun H locs hP hD hS => ?_)
      have hP : va_P g.1 vwCl [(qm, .inr (5, [.int (iI 0), .ref mz, .ref ms, .int (iI hn), .ref mp, .ref mb, .int (iI L), .ref m1, .ref m2, .ref m3, .ref mB, .ref mF, .ref mN, .ref mS, .int (iI sT), .ref mW, .long acc])), (mz, .inl (gI g, 326, .inl (aI (zF n ho h c)))), (mB, .inl (gI g, 512, .inl (aI B0))), (mF, .inl (gI g, 512, .inl (aI G))), (mN, .inl (gI g, 512, .inl (aI N))), (mS, .inl (gI g, 864, .inl (aI S0))), (m1, .inl (gI g, 8, .inl (aI sunX))), (m2, .inl (gI g, 8, .inl (aI sunY))), (m3, .inl (gI g, 8, .inl (aI sunS))), (mW, .inl (gZ g, 512, .inl (aI wB)))] H := hP
      have hD : va_D A [(qm, .inr (5, [.int (iI 0), .ref mz, .ref ms, .int (iI hn), .ref mp, .ref mb, .int (iI L), .ref m1, .ref m2, .ref m3, .ref mB, .ref mF, .ref mN, .ref mS, .int (iI sT), .ref mW, .long acc])), (mz, .inl (gI g, 326, .inl (aI (zF n ho h c)))), (mB, .inl (gI g, 512, .inl (aI B0))), (mF, .inl (gI g, 512, .inl (aI G))), (mN, .inl (gI g, 512, .inl (aI N))), (mS, .inl (gI g, 864, .inl (aI S0))), (m1, .inl (gI g, 8, .inl (aI sunX))), (m2, .inl (gI g, 8, .inl (aI sunY))), (m3, .inl (gI g, 8, .inl (aI sunS))), (mW, .inl (gZ g, 512, .inl (aI wB)))] := hD
      refine lv_aload_n hx hb dX5_ifPut_31 rfl (lv_at hl 0 rfl) ?_
      refine va_get (D := g.1) (ci := 5) (v := .int (iI 0)) (C := RX5) (T := TX5) (N := 17) hx hb hts in5 hown hE.1 hP 0 rfl rfl 0 (by decide) w0 (fun _ h9 => h9) rfl dX5_ifPut_32 ?_
      refine ln_if_le (tgt := 42) hx hb dX5_ifPut_35 (by decide) (by decide) (fun c_4 => ?_) (fun c_4 => ?_)
      · skip
        refine lv_aload_n hx hb dX5_ifPut_42 rfl (lv_at hl 0 rfl) ?_
        refine lv_iload_n hx hb dX5_ifPut_43 rfl (lv_at hl 1 rfl) ?_
        refine lv_iload_n hx hb dX5_ifPut_44 rfl (lv_at hl 2 rfl) ?_
        refine lv_iload_n hx hb dX5_ifPut_45 rfl (lv_at hl 3 rfl) ?_
        have hPc_5 := hP.sub (ws' := [(qm, .inr (5, [.int (iI 0), .ref mz, .ref ms, .int (iI hn), .ref mp, .ref mb, .int (iI L), .ref m1, .ref m2, .ref m3, .ref mB, .ref mF, .ref mN, .ref mS, .int (iI sT), .ref mW, .long acc])), (mz, .inl (gI g, 326, .inl (aI (zF n ho h c)))), (mB, .inl (gI g, 512, .inl (aI B0))), (mF, .inl (gI g, 512, .inl (aI G))), (mN, .inl (gI g, 512, .inl (aI N))), (mS, .inl (gI g, 864, .inl (aI S0))), (m1, .inl (gI g, 8, .inl (aI sunX))), (m2, .inl (gI g, 8, .inl (aI sunY))), (m3, .inl (gI g, 8, .inl (aI sunS))), (mW, .inl (gZ g, 512, .inl (aI wB)))]) [0, 1, 2, 3, 4, 5, 6, 7, 8, 9] rfl
        have hDc_6 := hD.sub (ws' := [(qm, .inr (5, [.int (iI 0), .ref mz, .ref ms, .int (iI hn), .ref mp, .ref mb, .int (iI L), .ref m1, .ref m2, .ref m3, .ref mB, .ref mF, .ref mN, .ref mS, .int (iI sT), .ref mW, .long acc])), (mz, .inl (gI g, 326, .inl (aI (zF n ho h c)))), (mB, .inl (gI g, 512, .inl (aI B0))), (mF, .inl (gI g, 512, .inl (aI G))), (mN, .inl (gI g, 512, .inl (aI N))), (mS, .inl (gI g, 864, .inl (aI S0))), (m1, .inl (gI g, 8, .inl (aI sunX))), (m2, .inl (gI g, 8, .inl (aI sunY))), (m3, .inl (gI g, 8, .inl (aI sunS))), (mW, .inl (gZ g, 512, .inl (aI wB)))]) [0, 1, 2, 3, 4, 5, 6, 7, 8, 9] (by decide) rfl
        have hFc_7 := va_free (wc := [(qm, .inr (5, [.int (iI 0), .ref mz, .ref ms, .int (iI hn), .ref mp, .ref mb, .int (iI L), .ref m1, .ref m2, .ref m3, .ref mB, .ref mF, .ref mN, .ref mS, .int (iI sT), .ref mW, .long acc])), (mz, .inl (gI g, 326, .inl (aI (zF n ho h c)))), (mB, .inl (gI g, 512, .inl (aI B0))), (mF, .inl (gI g, 512, .inl (aI G))), (mN, .inl (gI g, 512, .inl (aI N))), (mS, .inl (gI g, 864, .inl (aI S0))), (m1, .inl (gI g, 8, .inl (aI sunX))), (m2, .inl (gI g, 8, .inl (aI sunY))), (m3, .inl (gI g, 8, .inl (aI sunS))), (mW, .inl (gZ g, 512, .inl (aI wB)))]) hD hS hA [0, 1, 2, 3, 4, 5, 6, 7, 8, 9] rfl
        refine mc_i (wr := []) (cells1 := 0) (slots1 := 0) (va_runV (As := [.int (iI x), .int (iI y), .int (iI w)]) (rest := []) ⟨hx, hb, hml, hown, hts⟩ (c_X5_wouldPut l g qm 0 mz ms hn mp mb L m1 m2 m3 mB mF mN mS sT mW acc n ho h c B0 G N S0 wB x y w hY h1 h2 h3 h4 gw H.size) (cwV 3 hts gX5_ifPut_X5_wouldPut rfl rfl rfl (by decide +kernel) ⟨Nat.le_of_ble_eq_true rfl, Nat.le_of_ble_eq_true rfl⟩) (muV hE hS hPc_5 hDc_6 hFc_7 rfl rfl) rfl rfl hl.1 rfl (lv_room (Nat.le_of_ble_eq_true rfl)) dX5_ifPut_46 ⟨Nat.le_of_ble_eq_true rfl, Nat.le_of_ble_eq_true rfl⟩) hP hD hS hA [0, 1, 2, 3, 4, 5, 6, 7, 8, 9] [] [0, 1, 2, 3, 4, 5, 6, 7, 8, 9] rfl rfl (by decide) (by decide) (fun (u9 : (Int → Int) × (Int → Int) × (Int → Int) × (Int → Int) × (Int → Int)) => match u9 with | (u_8, u_9, u_10, u_11, u_12) => [(qm, .inr (5, [.int (iI 0), .ref mz, .ref ms, .int (iI hn), .ref mp, .ref mb, .int (iI L), .ref m1, .ref m2, .ref m3, .ref mB, .ref mF, .ref mN, .ref mS, .int (iI sT), .ref mW, .long acc])), (mz, .inl (gI g, 326, .inl (aI (zF n ho h c)))), (mB, .inl (gI g, 512, .inl (aI u_8))), (mF, .inl (gI g, 512, .inl (aI u_9))), (mN, .inl (gI g, 512, .inl (aI u_10))), (mS, .inl (gI g, 864, .inl (aI u_11))), (m1, .inl (gI g, 8, .inl (aI sunX))), (m2, .inl (gI g, 8, .inl (aI sunY))), (m3, .inl (gI g, 8, .inl (aI sunS))), (mW, .inl (gZ g, 512, .inl (aI u_12)))]) (fun _ => rfl) (by decide) (Nat.le_of_ble_eq_true rfl) (Nat.le_of_ble_eq_true rfl) (fun u9 H locs hu_13 hP hD hS => ?_)
        obtain ⟨u_8, u_9, u_10, u_11, u_12⟩ := u9
        have hP : va_P g.1 vwCl [(qm, .inr (5, [.int (iI 0), .ref mz, .ref ms, .int (iI hn), .ref mp, .ref mb, .int (iI L), .ref m1, .ref m2, .ref m3, .ref mB, .ref mF, .ref mN, .ref mS, .int (iI sT), .ref mW, .long acc])), (mz, .inl (gI g, 326, .inl (aI (zF n ho h c)))), (mB, .inl (gI g, 512, .inl (aI u_8))), (mF, .inl (gI g, 512, .inl (aI u_9))), (mN, .inl (gI g, 512, .inl (aI u_10))), (mS, .inl (gI g, 864, .inl (aI u_11))), (m1, .inl (gI g, 8, .inl (aI sunX))), (m2, .inl (gI g, 8, .inl (aI sunY))), (m3, .inl (gI g, 8, .inl (aI sunS))), (mW, .inl (gZ g, 512, .inl (aI u_12)))] H := hP
        have hD : va_D A [(qm, .inr (5, [.int (iI 0), .ref mz, .ref ms, .int (iI hn), .ref mp, .ref mb, .int (iI L), .ref m1, .ref m2, .ref m3, .ref mB, .ref mF, .ref mN, .ref mS, .int (iI sT), .ref mW, .long acc])), (mz, .inl (gI g, 326, .inl (aI (zF n ho h c)))), (mB, .inl (gI g, 512, .inl (aI u_8))), (mF, .inl (gI g, 512, .inl (aI u_9))), (mN, .inl (gI g, 512, .inl (aI u_10))), (mS, .inl (gI g, 864, .inl (aI u_11))), (m1, .inl (gI g, 8, .inl (aI sunX))), (m2, .inl (gI g, 8, .inl (aI sunY))), (m3, .inl (gI g, 8, .inl (aI sunS))), (mW, .inl (gZ g, 512, .inl (aI u_12)))] := hD
        refine ln_topv (w := .int (iI (putV n ho h x y w))) rfl ?_
        have hP : va_P g.1 vwCl [(qm, .inr (5, [.int (iI 0), .ref mz, .ref ms, .int (iI hn), .ref mp, .ref mb, .int (iI L), .ref m1, .ref m2, .ref m3, .ref mB, .ref mF, .ref mN, .ref mS, .int (iI sT), .ref mW, .long acc])), (mz, .inl (gI g, 326, .inl (aI (zF n ho h c)))), (mB, .inl (gI g, 512, .inl (aI u_8))), (mF, .inl (gI g, 512, .inl (aI u_9))), (mN, .inl (gI g, 512, .inl (aI u_10))), (mS, .inl (gI g, 864, .inl (aI u_11))), (m1, .inl (gI g, 8, .inl (aI sunX))), (m2, .inl (gI g, 8, .inl (aI sunY))), (m3, .inl (gI g, 8, .inl (aI sunS))), (mW, .inl (gZ g, 512, .inl (aI u_12)))] _ := hP
        have hD : va_D A [(qm, .inr (5, [.int (iI 0), .ref mz, .ref ms, .int (iI hn), .ref mp, .ref mb, .int (iI L), .ref m1, .ref m2, .ref m3, .ref mB, .ref mF, .ref mN, .ref mS, .int (iI sT), .ref mW, .long acc])), (mz, .inl (gI g, 326, .inl (aI (zF n ho h c)))), (mB, .inl (gI g, 512, .inl (aI u_8))), (mF, .inl (gI g, 512, .inl (aI u_9))), (mN, .inl (gI g, 512, .inl (aI u_10))), (mS, .inl (gI g, 864, .inl (aI u_11))), (m1, .inl (gI g, 8, .inl (aI sunX))), (m2, .inl (gI g, 8, .inl (aI sunY))), (m3, .inl (gI g, 8, .inl (aI sunS))), (mW, .inl (gZ g, 512, .inl (aI u_12)))] := hD
        exact mend_i (S := (Int → Int) × (Int → Int) × (Int → Int) × (Int → Int) × (Int → Int)) (w' := (fun (u9 : (Int → Int) × (Int → Int) × (Int → Int) × (Int → Int) × (Int → Int)) => match u9 with | (B2, G2, N2, S2, wB2) => [(qm, .inr (5, [.int (iI 0), .ref mz, .ref ms, .int (iI hn), .ref mp, .ref mb, .int (iI L), .ref m1, .ref m2, .ref m3, .ref mB, .ref mF, .ref mN, .ref mS, .int (iI sT), .ref mW, .long acc])), (mz, .inl (gI g, 326, .inl (aI (zF n ho h c)))), (mB, .inl (gI g, 512, .inl (aI B2))), (mF, .inl (gI g, 512, .inl (aI G2))), (mN, .inl (gI g, 512, .inl (aI N2))), (mS, .inl (gI g, 864, .inl (aI S2))), (m1, .inl (gI g, 8, .inl (aI sunX))), (m2, .inl (gI g, 8, .inl (aI sunY))), (m3, .inl (gI g, 8, .inl (aI sunS))), (mW, .inl (gZ g, 512, .inl (aI wB2)))])) (post := (fun (u9 : (Int → Int) × (Int → Int) × (Int → Int) × (Int → Int) × (Int → Int)) => match u9 with | (B2, G2, N2, S2, wB2) => True)) (r := (fun (u9 : (Int → Int) × (Int → Int) × (Int → Int) × (Int → Int) × (Int → Int)) => match u9 with | (B2, G2, N2, S2, wB2) => putV n ho h x y w)) hx hb hr hlk hS (u_8, u_9, u_10, u_11, u_12) hP hD (trivial) (by rfl) (Nat.le_of_ble_eq_true rfl) (Nat.le_of_ble_eq_true rfl) dX5_ifPut_49
      · exfalso; omega
  · exfalso; omega
set_option maxHeartbeats 800000 in
set_option maxRecDepth 100000 in
theorem c_X5_ifPut_x1 (l : Launch) (g : GT) (qm : Nat) (th : Int) (mz : Nat) (ms : Nat) (hn : Int) (mp : Nat) (mb : Nat) (L : Int) (m1 : Nat) (m2 : Nat) (m3 : Nat) (mB : Nat) (mF : Nat) (mN : Nat) (mS : Nat) (sT : Int) (mW : Nat) (acc : Int64) (n : Int) (ho : Int) (h : Int → Int) (c : Int → Int) (x : Int) (y : Int) (w : Int) (hY : YOk n ho h c) (gx : Rg x) (gy : Rg y) (g1 : ¬ okS n x y) : MutI l yX5_ifPut wsX5_ifPut ({ frames := 2, cells := 0, slots := 0, locals := 44 }) 0 0 g [(qm, .inr (5, [.int (iI th), .ref mz, .ref ms, .int (iI hn), .ref mp, .ref mb, .int (iI L), .ref m1, .ref m2, .ref m3, .ref mB, .ref mF, .ref mN, .ref mS, .int (iI sT), .ref mW, .long acc])), (mz, .inl (gI g, 326, .inl (aI (zF n ho h c))))] [.ref qm, .int (iI x), .int (iI y), .int (iI w)] (S := Unit) (fun _ => True) (fun _ => 0) (fun _ => [(qm, .inr (5, [.int (iI 1), .ref mz, .ref ms, .int (iI hn), .ref mp, .ref mb, .int (iI L), .ref m1, .ref m2, .ref m3, .ref mB, .ref mF, .ref mN, .ref mS, .int (iI sT), .ref mW, .long acc])), (mz, .inl (gI g, 326, .inl (aI (zF n ho h c))))]) := by
  refine mut_of (y := yX5_ifPut) (ws := wsX5_ifPut) (av := [.ref qm, .int (iI x), .int (iI y), .int (iI w)]) (w := [(qm, .inr (5, [.int (iI th), .ref mz, .ref ms, .int (iI hn), .ref mp, .ref mb, .int (iI L), .ref m1, .ref m2, .ref m3, .ref mB, .ref mF, .ref mN, .ref mS, .int (iI sT), .ref mW, .long acc])), (mz, .inl (gI g, 326, .inl (aI (zF n ho h c))))]) (Qc := fun A => va_Qi (fun x9 (u9 : Unit) => x9 = iI ((fun _ => 0) u9) ∧ (fun _ => True) u9) (fun u9 t9 => MB g ((fun _ => [(qm, .inr (5, [.int (iI 1), .ref mz, .ref ms, .int (iI hn), .ref mp, .ref mb, .int (iI L), .ref m1, .ref m2, .ref m3, .ref mB, .ref mF, .ref mN, .ref mS, .int (iI sT), .ref mW, .long acc])), (mz, .inl (gI g, 326, .inl (aI (zF n ho h c))))]) u9) A t9) A) (cc := cX5_ifPut) (maxL := 4) (ret := (some .int)) (by decide) rfl (Nat.le_of_ble_eq_true rfl) ?_
  intro pZ eZ sZ mZ bZ meZ cZ A F hin hA hP hD hE hS ls hl
  obtain ⟨hx, hb, hr, hml, hts, hown, hlk⟩ := F
  skip
  have hown : sZ.vm.findClass RX5 = some mZ.cls := hown
  have hl : lv_has ls 4 [(0, .ref qm), (1, .int (iI x)), (2, .int (iI y)), (3, .int (iI w))] := hl
  skip
  have w0 := hts (.fieldLink RX5 47 "SlantYardModel" "thrown" "I") (by decide +kernel)
  have in5 : ∀ w ∈ u_ws RX5 TX5 17, w ∈ wsX5_ifPut := by decide +kernel
  have hnn := hY.n
  have hho := hY.hr
  refine lv_aload_n hx hb dX5_ifPut_0 rfl (lv_at hl 0 rfl) ?_
  refine lv_aload_n hx hb dX5_ifPut_1 rfl (lv_at hl 0 rfl) ?_
  refine lv_iload_n hx hb dX5_ifPut_2 rfl (lv_at hl 1 rfl) ?_
  refine lv_iload_n hx hb dX5_ifPut_3 rfl (lv_at hl 2 rfl) ?_
  have hPc_1 := hP.sub (ws' := [(qm, .inr (5, [.int (iI th), .ref mz, .ref ms, .int (iI hn), .ref mp, .ref mb, .int (iI L), .ref m1, .ref m2, .ref m3, .ref mB, .ref mF, .ref mN, .ref mS, .int (iI sT), .ref mW, .long acc])), (mz, .inl (gI g, 326, .inl (aI (zF n ho h c))))]) [0, 1] rfl
  refine pc_i (va_runV (As := [.int (iI x), .int (iI y)]) (rest := [.ref qm]) ⟨hx, hb, hml, hown, hts⟩ (c_X5_isSquare l g qm th mz ms hn mp mb L m1 m2 m3 mB mF mN mS sT mW acc n ho h c x y hY gx gy) (cwV 2 hts gX5_ifPut_X5_isSquare rfl rfl rfl (by decide +kernel) ⟨Nat.le_of_ble_eq_true rfl, Nat.le_of_ble_eq_true rfl⟩) (puV hE hS hPc_1 rfl rfl) rfl rfl hl.1 rfl (lv_room (Nat.le_of_ble_eq_true rfl)) dX5_ifPut_4 ⟨Nat.le_of_ble_eq_true rfl, Nat.le_of_ble_eq_true rfl⟩) ?_
  refine lb_if_ne (tgt := 14) hx hb dX5_ifPut_7 (by decide) (fun c_2 => ?_) (fun c_2 => ?_)
  · exact absurd c_2 (g1)
  · skip
    refine lv_iconst (v := iI 1) hx hb dX5_ifPut_10 rfl ?_
    refine lv_goto (tgt := 28) hx hb dX5_ifPut_11 (by decide) ?_
    refine va_put (D := g.1) (ci := 5) (v := .int (iI 1)) (ty := .int) (C := RX5) (T := TX5) (N := 17) hx hb hts in5 tyX5 tyX5_ok nmX5 hown hE.1 hP hD hS 0 rfl rfl 0 (by decide) w0 (fun _ h9 => h9) rfl (by decide +kernel) rfl rfl (Nat.le_of_ble_eq_true rfl) dX5_ifPut_28 (fun H locs hP hD hS => ?_)
    have hP : va_P g.1 vwCl [(qm, .inr (5, [.int (iI 1), .ref mz, .ref ms, .int (iI hn), .ref mp, .ref mb, .int (iI L), .ref m1, .ref m2, .ref m3, .ref mB, .ref mF, .ref mN, .ref mS, .int (iI sT), .ref mW, .long acc])), (mz, .inl (gI g, 326, .inl (aI (zF n ho h c))))] H := hP
    have hD : va_D A [(qm, .inr (5, [.int (iI 1), .ref mz, .ref ms, .int (iI hn), .ref mp, .ref mb, .int (iI L), .ref m1, .ref m2, .ref m3, .ref mB, .ref mF, .ref mN, .ref mS, .int (iI sT), .ref mW, .long acc])), (mz, .inl (gI g, 326, .inl (aI (zF n ho h c))))] := hD
    refine lv_aload_n hx hb dX5_ifPut_31 rfl (lv_at hl 0 rfl) ?_
    refine va_get (D := g.1) (ci := 5) (v := .int (iI 1)) (C := RX5) (T := TX5) (N := 17) hx hb hts in5 hown hE.1 hP 0 rfl rfl 0 (by decide) w0 (fun _ h9 => h9) rfl dX5_ifPut_32 ?_
    refine ln_if_le (tgt := 42) hx hb dX5_ifPut_35 (by decide) (by decide) (fun c_3 => ?_) (fun c_3 => ?_)
    · exfalso; omega
    · skip
      refine lv_iconst (v := iI 0) hx hb dX5_ifPut_38 rfl ?_
      refine lv_goto (tgt := 49) hx hb dX5_ifPut_39 (by decide) ?_
      have hP : va_P g.1 vwCl [(qm, .inr (5, [.int (iI 1), .ref mz, .ref ms, .int (iI hn), .ref mp, .ref mb, .int (iI L), .ref m1, .ref m2, .ref m3, .ref mB, .ref mF, .ref mN, .ref mS, .int (iI sT), .ref mW, .long acc])), (mz, .inl (gI g, 326, .inl (aI (zF n ho h c))))] _ := hP
      have hD : va_D A [(qm, .inr (5, [.int (iI 1), .ref mz, .ref ms, .int (iI hn), .ref mp, .ref mb, .int (iI L), .ref m1, .ref m2, .ref m3, .ref mB, .ref mF, .ref mN, .ref mS, .int (iI sT), .ref mW, .long acc])), (mz, .inl (gI g, 326, .inl (aI (zF n ho h c))))] := hD
      exact mend_i (S := Unit) (w' := (fun _ => [(qm, .inr (5, [.int (iI 1), .ref mz, .ref ms, .int (iI hn), .ref mp, .ref mb, .int (iI L), .ref m1, .ref m2, .ref m3, .ref mB, .ref mF, .ref mN, .ref mS, .int (iI sT), .ref mW, .long acc])), (mz, .inl (gI g, 326, .inl (aI (zF n ho h c))))])) (post := (fun _ => True)) (r := (fun _ => 0)) hx hb hr hlk hS () hP hD (trivial) (by rfl) (Nat.le_of_ble_eq_true rfl) (Nat.le_of_ble_eq_true rfl) dX5_ifPut_49
set_option maxHeartbeats 800000 in
set_option maxRecDepth 100000 in
theorem c_X5_ifPut_x2 (l : Launch) (g : GT) (qm : Nat) (th : Int) (mz : Nat) (ms : Nat) (hn : Int) (mp : Nat) (mb : Nat) (L : Int) (m1 : Nat) (m2 : Nat) (m3 : Nat) (mB : Nat) (mF : Nat) (mN : Nat) (mS : Nat) (sT : Int) (mW : Nat) (acc : Int64) (n : Int) (ho : Int) (h : Int → Int) (c : Int → Int) (x : Int) (y : Int) (w : Int) (hY : YOk n ho h c) (h1 : 0 ≤ x) (h2 : x < n) (h3 : 0 ≤ y) (h4 : y < n) (gw : Rg w) (g1 : w < 0 ∨ 2 < w) : MutI l yX5_ifPut wsX5_ifPut ({ frames := 2, cells := 0, slots := 0, locals := 44 }) 0 0 g [(qm, .inr (5, [.int (iI th), .ref mz, .ref ms, .int (iI hn), .ref mp, .ref mb, .int (iI L), .ref m1, .ref m2, .ref m3, .ref mB, .ref mF, .ref mN, .ref mS, .int (iI sT), .ref mW, .long acc])), (mz, .inl (gI g, 326, .inl (aI (zF n ho h c))))] [.ref qm, .int (iI x), .int (iI y), .int (iI w)] (S := Unit) (fun _ => True) (fun _ => 0) (fun _ => [(qm, .inr (5, [.int (iI 2), .ref mz, .ref ms, .int (iI hn), .ref mp, .ref mb, .int (iI L), .ref m1, .ref m2, .ref m3, .ref mB, .ref mF, .ref mN, .ref mS, .int (iI sT), .ref mW, .long acc])), (mz, .inl (gI g, 326, .inl (aI (zF n ho h c))))]) := by
  refine mut_of (y := yX5_ifPut) (ws := wsX5_ifPut) (av := [.ref qm, .int (iI x), .int (iI y), .int (iI w)]) (w := [(qm, .inr (5, [.int (iI th), .ref mz, .ref ms, .int (iI hn), .ref mp, .ref mb, .int (iI L), .ref m1, .ref m2, .ref m3, .ref mB, .ref mF, .ref mN, .ref mS, .int (iI sT), .ref mW, .long acc])), (mz, .inl (gI g, 326, .inl (aI (zF n ho h c))))]) (Qc := fun A => va_Qi (fun x9 (u9 : Unit) => x9 = iI ((fun _ => 0) u9) ∧ (fun _ => True) u9) (fun u9 t9 => MB g ((fun _ => [(qm, .inr (5, [.int (iI 2), .ref mz, .ref ms, .int (iI hn), .ref mp, .ref mb, .int (iI L), .ref m1, .ref m2, .ref m3, .ref mB, .ref mF, .ref mN, .ref mS, .int (iI sT), .ref mW, .long acc])), (mz, .inl (gI g, 326, .inl (aI (zF n ho h c))))]) u9) A t9) A) (cc := cX5_ifPut) (maxL := 4) (ret := (some .int)) (by decide) rfl (Nat.le_of_ble_eq_true rfl) ?_
  intro pZ eZ sZ mZ bZ meZ cZ A F hin hA hP hD hE hS ls hl
  obtain ⟨hx, hb, hr, hml, hts, hown, hlk⟩ := F
  skip
  have hown : sZ.vm.findClass RX5 = some mZ.cls := hown
  have hl : lv_has ls 4 [(0, .ref qm), (1, .int (iI x)), (2, .int (iI y)), (3, .int (iI w))] := hl
  skip
  have w0 := hts (.fieldLink RX5 47 "SlantYardModel" "thrown" "I") (by decide +kernel)
  have in5 : ∀ w ∈ u_ws RX5 TX5 17, w ∈ wsX5_ifPut := by decide +kernel
  have hnn := hY.n
  have hho := hY.hr
  refine lv_aload_n hx hb dX5_ifPut_0 rfl (lv_at hl 0 rfl) ?_
  refine lv_aload_n hx hb dX5_ifPut_1 rfl (lv_at hl 0 rfl) ?_
  refine lv_iload_n hx hb dX5_ifPut_2 rfl (lv_at hl 1 rfl) ?_
  refine lv_iload_n hx hb dX5_ifPut_3 rfl (lv_at hl 2 rfl) ?_
  have hPc_1 := hP.sub (ws' := [(qm, .inr (5, [.int (iI th), .ref mz, .ref ms, .int (iI hn), .ref mp, .ref mb, .int (iI L), .ref m1, .ref m2, .ref m3, .ref mB, .ref mF, .ref mN, .ref mS, .int (iI sT), .ref mW, .long acc])), (mz, .inl (gI g, 326, .inl (aI (zF n ho h c))))]) [0, 1] rfl
  refine pc_i (va_runV (As := [.int (iI x), .int (iI y)]) (rest := [.ref qm]) ⟨hx, hb, hml, hown, hts⟩ (c_X5_isSquare l g qm th mz ms hn mp mb L m1 m2 m3 mB mF mN mS sT mW acc n ho h c x y hY (by omega) (by omega)) (cwV 2 hts gX5_ifPut_X5_isSquare rfl rfl rfl (by decide +kernel) ⟨Nat.le_of_ble_eq_true rfl, Nat.le_of_ble_eq_true rfl⟩) (puV hE hS hPc_1 rfl rfl) rfl rfl hl.1 rfl (lv_room (Nat.le_of_ble_eq_true rfl)) dX5_ifPut_4 ⟨Nat.le_of_ble_eq_true rfl, Nat.le_of_ble_eq_true rfl⟩) ?_
  refine lb_if_ne (tgt := 14) hx hb dX5_ifPut_7 (by decide) (fun c_2 => ?_) (fun c_2 => ?_)
  · skip
    refine lv_iload_n hx hb dX5_ifPut_14 rfl (lv_at hl 3 rfl) ?_
    refine lv_iconst (v := iI 0) hx hb dX5_ifPut_15 rfl ?_
    refine lv_iconst (v := iI 2) hx hb dX5_ifPut_16 rfl ?_
    refine pc_i (va_runS (As := [.int (iI w), .int (iI 0), .int (iI 2)]) (rest := [.ref qm]) ⟨hx, hb, hml, hown, hts⟩ (c_X5_in l g w 0 2 gw (by omega) (by omega)) (va_cwS 3 hts gX5_ifPut_X5_in rfl rfl rfl (by decide +kernel) ⟨Nat.le_of_ble_eq_true rfl, Nat.le_of_ble_eq_true rfl⟩) (puS hE hS (va_P_nil g.1 _)) rfl rfl hl.1 rfl (lv_room (Nat.le_of_ble_eq_true rfl)) dX5_ifPut_17 ⟨Nat.le_of_ble_eq_true rfl, Nat.le_of_ble_eq_true rfl⟩) ?_
    refine lb_if_eq (tgt := 27) hx hb dX5_ifPut_20 (by decide) (fun c_3 => ?_) (fun c_3 => ?_)
    · skip
      refine lv_iconst (v := iI 2) hx hb dX5_ifPut_27 rfl ?_
      refine va_put (D := g.1) (ci := 5) (v := .int (iI 2)) (ty := .int) (C := RX5) (T := TX5) (N := 17) hx hb hts in5 tyX5 tyX5_ok nmX5 hown hE.1 hP hD hS 0 rfl rfl 0 (by decide) w0 (fun _ h9 => h9) rfl (by decide +kernel) rfl rfl (Nat.le_of_ble_eq_true rfl) dX5_ifPut_28 (fun H locs hP hD hS => ?_)
      have hP : va_P g.1 vwCl [(qm, .inr (5, [.int (iI 2), .ref mz, .ref ms, .int (iI hn), .ref mp, .ref mb, .int (iI L), .ref m1, .ref m2, .ref m3, .ref mB, .ref mF, .ref mN, .ref mS, .int (iI sT), .ref mW, .long acc])), (mz, .inl (gI g, 326, .inl (aI (zF n ho h c))))] H := hP
      have hD : va_D A [(qm, .inr (5, [.int (iI 2), .ref mz, .ref ms, .int (iI hn), .ref mp, .ref mb, .int (iI L), .ref m1, .ref m2, .ref m3, .ref mB, .ref mF, .ref mN, .ref mS, .int (iI sT), .ref mW, .long acc])), (mz, .inl (gI g, 326, .inl (aI (zF n ho h c))))] := hD
      refine lv_aload_n hx hb dX5_ifPut_31 rfl (lv_at hl 0 rfl) ?_
      refine va_get (D := g.1) (ci := 5) (v := .int (iI 2)) (C := RX5) (T := TX5) (N := 17) hx hb hts in5 hown hE.1 hP 0 rfl rfl 0 (by decide) w0 (fun _ h9 => h9) rfl dX5_ifPut_32 ?_
      refine ln_if_le (tgt := 42) hx hb dX5_ifPut_35 (by decide) (by decide) (fun c_4 => ?_) (fun c_4 => ?_)
      · exfalso; omega
      · skip
        refine lv_iconst (v := iI 0) hx hb dX5_ifPut_38 rfl ?_
        refine lv_goto (tgt := 49) hx hb dX5_ifPut_39 (by decide) ?_
        have hP : va_P g.1 vwCl [(qm, .inr (5, [.int (iI 2), .ref mz, .ref ms, .int (iI hn), .ref mp, .ref mb, .int (iI L), .ref m1, .ref m2, .ref m3, .ref mB, .ref mF, .ref mN, .ref mS, .int (iI sT), .ref mW, .long acc])), (mz, .inl (gI g, 326, .inl (aI (zF n ho h c))))] _ := hP
        have hD : va_D A [(qm, .inr (5, [.int (iI 2), .ref mz, .ref ms, .int (iI hn), .ref mp, .ref mb, .int (iI L), .ref m1, .ref m2, .ref m3, .ref mB, .ref mF, .ref mN, .ref mS, .int (iI sT), .ref mW, .long acc])), (mz, .inl (gI g, 326, .inl (aI (zF n ho h c))))] := hD
        exact mend_i (S := Unit) (w' := (fun _ => [(qm, .inr (5, [.int (iI 2), .ref mz, .ref ms, .int (iI hn), .ref mp, .ref mb, .int (iI L), .ref m1, .ref m2, .ref m3, .ref mB, .ref mF, .ref mN, .ref mS, .int (iI sT), .ref mW, .long acc])), (mz, .inl (gI g, 326, .inl (aI (zF n ho h c))))])) (post := (fun _ => True)) (r := (fun _ => 0)) hx hb hr hlk hS () hP hD (trivial) (by rfl) (Nat.le_of_ble_eq_true rfl) (Nat.le_of_ble_eq_true rfl) dX5_ifPut_49
    · exfalso; omega
  · exfalso; omega
set_option maxHeartbeats 800000 in
set_option maxRecDepth 100000 in
theorem c_X5_stack_ok (l : Launch) (g : GT) (qm : Nat) (th : Int) (mz : Nat) (ms : Nat) (hn : Int) (mp : Nat) (mb : Nat) (L : Int) (m1 : Nat) (m2 : Nat) (m3 : Nat) (mB : Nat) (mF : Nat) (mN : Nat) (mS : Nat) (sT : Int) (mW : Nat) (acc : Int64) (n : Int) (ho : Int) (h : Int → Int) (c : Int → Int) (B0 : Int → Int) (G : Int → Int) (N : Int → Int) (S0 : Int → Int) (x : Int) (y : Int) (w : Int) (hY : YOk n ho h c) (h1 : 0 ≤ x) (h2 : x < n) (h3 : 0 ≤ y) (h4 : y < n) (gw : 0 ≤ w ∧ w ≤ 3) : MutI l yX5_stack wsX5_stack ({ frames := 5, cells := 0, slots := 0, locals := 122 }) 0 0 g [(qm, .inr (5, [.int (iI th), .ref mz, .ref ms, .int (iI hn), .ref mp, .ref mb, .int (iI L), .ref m1, .ref m2, .ref m3, .ref mB, .ref mF, .ref mN, .ref mS, .int (iI sT), .ref mW, .long acc])), (mz, .inl (gI g, 326, .inl (aI (zF n ho h c)))), (mB, .inl (gI g, 512, .inl (aI B0))), (mF, .inl (gI g, 512, .inl (aI G))), (mN, .inl (gI g, 512, .inl (aI N))), (mS, .inl (gI g, 864, .inl (aI S0))), (m1, .inl (gI g, 8, .inl (aI sunX))), (m2, .inl (gI g, 8, .inl (aI sunY))), (m3, .inl (gI g, 8, .inl (aI sunS)))] [.ref qm, .int (iI x), .int (iI y), .int (iI w)] (S := (Int → Int) × (Int → Int) × (Int → Int) × (Int → Int)) (fun (u9 : (Int → Int) × (Int → Int) × (Int → Int) × (Int → Int)) => match u9 with | (B2, G2, N2, S2) => True) (fun (u9 : (Int → Int) × (Int → Int) × (Int → Int) × (Int → Int)) => match u9 with | (B2, G2, N2, S2) => stkV n ho h c x y w) (fun (u9 : (Int → Int) × (Int → Int) × (Int → Int) × (Int → Int)) => match u9 with | (B2, G2, N2, S2) => [(qm, .inr (5, [.int (iI 0), .ref mz, .ref ms, .int (iI hn), .ref mp, .ref mb, .int (iI L), .ref m1, .ref m2, .ref m3, .ref mB, .ref mF, .ref mN, .ref mS, .int (iI sT), .ref mW, .long acc])), (mz, .inl (gI g, 326, .inl (aI (zF n ho h c)))), (mB, .inl (gI g, 512, .inl (aI B2))), (mF, .inl (gI g, 512, .inl (aI G2))), (mN, .inl (gI g, 512, .inl (aI N2))), (mS, .inl (gI g, 864, .inl (aI S2))), (m1, .inl (gI g, 8, .inl (aI sunX))), (m2, .inl (gI g, 8, .inl (aI sunY))), (m3, .inl (gI g, 8, .inl (aI sunS)))]) := by
  refine mut_of (y := yX5_stack) (ws := wsX5_stack) (av := [.ref qm, .int (iI x), .int (iI y), .int (iI w)]) (w := [(qm, .inr (5, [.int (iI th), .ref mz, .ref ms, .int (iI hn), .ref mp, .ref mb, .int (iI L), .ref m1, .ref m2, .ref m3, .ref mB, .ref mF, .ref mN, .ref mS, .int (iI sT), .ref mW, .long acc])), (mz, .inl (gI g, 326, .inl (aI (zF n ho h c)))), (mB, .inl (gI g, 512, .inl (aI B0))), (mF, .inl (gI g, 512, .inl (aI G))), (mN, .inl (gI g, 512, .inl (aI N))), (mS, .inl (gI g, 864, .inl (aI S0))), (m1, .inl (gI g, 8, .inl (aI sunX))), (m2, .inl (gI g, 8, .inl (aI sunY))), (m3, .inl (gI g, 8, .inl (aI sunS)))]) (Qc := fun A => va_Qi (fun x9 (u9 : (Int → Int) × (Int → Int) × (Int → Int) × (Int → Int)) => x9 = iI ((fun (u9 : (Int → Int) × (Int → Int) × (Int → Int) × (Int → Int)) => match u9 with | (B2, G2, N2, S2) => stkV n ho h c x y w) u9) ∧ (fun (u9 : (Int → Int) × (Int → Int) × (Int → Int) × (Int → Int)) => match u9 with | (B2, G2, N2, S2) => True) u9) (fun u9 t9 => MB g ((fun (u9 : (Int → Int) × (Int → Int) × (Int → Int) × (Int → Int)) => match u9 with | (B2, G2, N2, S2) => [(qm, .inr (5, [.int (iI 0), .ref mz, .ref ms, .int (iI hn), .ref mp, .ref mb, .int (iI L), .ref m1, .ref m2, .ref m3, .ref mB, .ref mF, .ref mN, .ref mS, .int (iI sT), .ref mW, .long acc])), (mz, .inl (gI g, 326, .inl (aI (zF n ho h c)))), (mB, .inl (gI g, 512, .inl (aI B2))), (mF, .inl (gI g, 512, .inl (aI G2))), (mN, .inl (gI g, 512, .inl (aI N2))), (mS, .inl (gI g, 864, .inl (aI S2))), (m1, .inl (gI g, 8, .inl (aI sunX))), (m2, .inl (gI g, 8, .inl (aI sunY))), (m3, .inl (gI g, 8, .inl (aI sunS)))]) u9) A t9) A) (cc := cX5_stack) (maxL := 4) (ret := (some .int)) (by decide) rfl (Nat.le_of_ble_eq_true rfl) ?_
  intro pZ eZ sZ mZ bZ meZ cZ A F hin hA hP hD hE hS ls hl
  obtain ⟨hx, hb, hr, hml, hts, hown, hlk⟩ := F
  skip
  have hown : sZ.vm.findClass RX5 = some mZ.cls := hown
  have hl : lv_has ls 4 [(0, .ref qm), (1, .int (iI x)), (2, .int (iI y)), (3, .int (iI w))] := hl
  skip
  have w0 := hts (.fieldLink RX5 47 "SlantYardModel" "thrown" "I") (by decide +kernel)
  have in5 : ∀ w ∈ u_ws RX5 TX5 17, w ∈ wsX5_stack := by decide +kernel
  have hnn := hY.n
  have hho := hY.hr
  have hM9 : MOk (picM n h) := picM_ok hY
  have hI9 : MIn n h (picM n h) := picM_in hY
  refine lv_aload_n hx hb dX5_stack_0 rfl (lv_at hl 0 rfl) ?_
  refine lv_aload_n hx hb dX5_stack_1 rfl (lv_at hl 0 rfl) ?_
  refine lv_iload_n hx hb dX5_stack_2 rfl (lv_at hl 1 rfl) ?_
  refine lv_iload_n hx hb dX5_stack_3 rfl (lv_at hl 2 rfl) ?_
  have hPc_1 := hP.sub (ws' := [(qm, .inr (5, [.int (iI th), .ref mz, .ref ms, .int (iI hn), .ref mp, .ref mb, .int (iI L), .ref m1, .ref m2, .ref m3, .ref mB, .ref mF, .ref mN, .ref mS, .int (iI sT), .ref mW, .long acc])), (mz, .inl (gI g, 326, .inl (aI (zF n ho h c))))]) [0, 1] rfl
  refine pc_i (va_runV (As := [.int (iI x), .int (iI y)]) (rest := [.ref qm]) ⟨hx, hb, hml, hown, hts⟩ (c_X5_isSquare l g qm th mz ms hn mp mb L m1 m2 m3 mB mF mN mS sT mW acc n ho h c x y hY (by omega) (by omega)) (cwV 2 hts gX5_stack_X5_isSquare rfl rfl rfl (by decide +kernel) ⟨Nat.le_of_ble_eq_true rfl, Nat.le_of_ble_eq_true rfl⟩) (puV hE hS hPc_1 rfl rfl) rfl rfl hl.1 rfl (lv_room (Nat.le_of_ble_eq_true rfl)) dX5_stack_4 ⟨Nat.le_of_ble_eq_true rfl, Nat.le_of_ble_eq_true rfl⟩) ?_
  refine lb_if_ne (tgt := 14) hx hb dX5_stack_7 (by decide) (fun c_2 => ?_) (fun c_2 => ?_)
  · skip
    refine lv_iload_n hx hb dX5_stack_14 rfl (lv_at hl 3 rfl) ?_
    refine lv_iconst (v := iI 0) hx hb dX5_stack_15 rfl ?_
    refine lv_iconst (v := iI 3) hx hb dX5_stack_16 rfl ?_
    refine pc_i (va_runS (As := [.int (iI w), .int (iI 0), .int (iI 3)]) (rest := [.ref qm]) ⟨hx, hb, hml, hown, hts⟩ (c_X5_in l g w 0 3 (by omega) (by omega) (by omega)) (va_cwS 3 hts gX5_stack_X5_in rfl rfl rfl (by decide +kernel) ⟨Nat.le_of_ble_eq_true rfl, Nat.le_of_ble_eq_true rfl⟩) (puS hE hS (va_P_nil g.1 _)) rfl rfl hl.1 rfl (lv_room (Nat.le_of_ble_eq_true rfl)) dX5_stack_17 ⟨Nat.le_of_ble_eq_true rfl, Nat.le_of_ble_eq_true rfl⟩) ?_
    refine lb_if_eq (tgt := 27) hx hb dX5_stack_20 (by decide) (fun c_3 => ?_) (fun c_3 => ?_)
    · exfalso; omega
    · skip
      refine lv_iconst (v := iI 0) hx hb dX5_stack_23 rfl ?_
      refine lv_goto (tgt := 28) hx hb dX5_stack_24 (by decide) ?_
      refine va_put (D := g.1) (ci := 5) (v := .int (iI 0)) (ty := .int) (C := RX5) (T := TX5) (N := 17) hx hb hts in5 tyX5 tyX5_ok nmX5 hown hE.1 hP hD hS 0 rfl rfl 0 (by decide) w0 (fun _ h9 => h9) rfl (by decide +kernel) rfl rfl (Nat.le_of_ble_eq_true rfl) dX5_stack_28 (fun H locs hP hD hS => ?_)
      have hP : va_P g.1 vwCl [(qm, .inr (5, [.int (iI 0), .ref mz, .ref ms, .int (iI hn), .ref mp, .ref mb, .int (iI L), .ref m1, .ref m2, .ref m3, .ref mB, .ref mF, .ref mN, .ref mS, .int (iI sT), .ref mW, .long acc])), (mz, .inl (gI g, 326, .inl (aI (zF n ho h c)))), (mB, .inl (gI g, 512, .inl (aI B0))), (mF, .inl (gI g, 512, .inl (aI G))), (mN, .inl (gI g, 512, .inl (aI N))), (mS, .inl (gI g, 864, .inl (aI S0))), (m1, .inl (gI g, 8, .inl (aI sunX))), (m2, .inl (gI g, 8, .inl (aI sunY))), (m3, .inl (gI g, 8, .inl (aI sunS)))] H := hP
      have hD : va_D A [(qm, .inr (5, [.int (iI 0), .ref mz, .ref ms, .int (iI hn), .ref mp, .ref mb, .int (iI L), .ref m1, .ref m2, .ref m3, .ref mB, .ref mF, .ref mN, .ref mS, .int (iI sT), .ref mW, .long acc])), (mz, .inl (gI g, 326, .inl (aI (zF n ho h c)))), (mB, .inl (gI g, 512, .inl (aI B0))), (mF, .inl (gI g, 512, .inl (aI G))), (mN, .inl (gI g, 512, .inl (aI N))), (mS, .inl (gI g, 864, .inl (aI S0))), (m1, .inl (gI g, 8, .inl (aI sunX))), (m2, .inl (gI g, 8, .inl (aI sunY))), (m3, .inl (gI g, 8, .inl (aI sunS)))] := hD
      refine lv_aload_n hx hb dX5_stack_31 rfl (lv_at hl 0 rfl) ?_
      refine va_get (D := g.1) (ci := 5) (v := .int (iI 0)) (C := RX5) (T := TX5) (N := 17) hx hb hts in5 hown hE.1 hP 0 rfl rfl 0 (by decide) w0 (fun _ h9 => h9) rfl dX5_stack_32 ?_
      refine ln_if_le (tgt := 42) hx hb dX5_stack_35 (by decide) (by decide) (fun c_4 => ?_) (fun c_4 => ?_)
      · skip
        refine lv_aload_n hx hb dX5_stack_42 rfl (lv_at hl 0 rfl) ?_
        refine lv_iload_n hx hb dX5_stack_43 rfl (lv_at hl 1 rfl) ?_
        refine lv_iload_n hx hb dX5_stack_44 rfl (lv_at hl 2 rfl) ?_
        refine lv_iload_n hx hb dX5_stack_45 rfl (lv_at hl 3 rfl) ?_
        have hPc_5 := hP.sub (ws' := [(qm, .inr (5, [.int (iI 0), .ref mz, .ref ms, .int (iI hn), .ref mp, .ref mb, .int (iI L), .ref m1, .ref m2, .ref m3, .ref mB, .ref mF, .ref mN, .ref mS, .int (iI sT), .ref mW, .long acc])), (mz, .inl (gI g, 326, .inl (aI (zF n ho h c)))), (mB, .inl (gI g, 512, .inl (aI B0))), (mF, .inl (gI g, 512, .inl (aI G))), (mN, .inl (gI g, 512, .inl (aI N))), (mS, .inl (gI g, 864, .inl (aI S0))), (m1, .inl (gI g, 8, .inl (aI sunX))), (m2, .inl (gI g, 8, .inl (aI sunY))), (m3, .inl (gI g, 8, .inl (aI sunS)))]) [0, 1, 2, 3, 4, 5, 6, 7, 8] rfl
        have hDc_6 := hD.sub (ws' := [(qm, .inr (5, [.int (iI 0), .ref mz, .ref ms, .int (iI hn), .ref mp, .ref mb, .int (iI L), .ref m1, .ref m2, .ref m3, .ref mB, .ref mF, .ref mN, .ref mS, .int (iI sT), .ref mW, .long acc])), (mz, .inl (gI g, 326, .inl (aI (zF n ho h c)))), (mB, .inl (gI g, 512, .inl (aI B0))), (mF, .inl (gI g, 512, .inl (aI G))), (mN, .inl (gI g, 512, .inl (aI N))), (mS, .inl (gI g, 864, .inl (aI S0))), (m1, .inl (gI g, 8, .inl (aI sunX))), (m2, .inl (gI g, 8, .inl (aI sunY))), (m3, .inl (gI g, 8, .inl (aI sunS)))]) [0, 1, 2, 3, 4, 5, 6, 7, 8] (by decide) rfl
        have hFc_7 := va_free (wc := [(qm, .inr (5, [.int (iI 0), .ref mz, .ref ms, .int (iI hn), .ref mp, .ref mb, .int (iI L), .ref m1, .ref m2, .ref m3, .ref mB, .ref mF, .ref mN, .ref mS, .int (iI sT), .ref mW, .long acc])), (mz, .inl (gI g, 326, .inl (aI (zF n ho h c)))), (mB, .inl (gI g, 512, .inl (aI B0))), (mF, .inl (gI g, 512, .inl (aI G))), (mN, .inl (gI g, 512, .inl (aI N))), (mS, .inl (gI g, 864, .inl (aI S0))), (m1, .inl (gI g, 8, .inl (aI sunX))), (m2, .inl (gI g, 8, .inl (aI sunY))), (m3, .inl (gI g, 8, .inl (aI sunS)))]) hD hS hA [0, 1, 2, 3, 4, 5, 6, 7, 8] rfl
        refine mc_i (wr := []) (cells1 := 0) (slots1 := 0) (va_runV (As := [.int (iI x), .int (iI y), .int (iI w)]) (rest := []) ⟨hx, hb, hml, hown, hts⟩ (c_X5_stackNow l g qm 0 mz ms hn mp mb L m1 m2 m3 mB mF mN mS sT mW acc n ho h c B0 G N S0 x y w hY h1 h2 h3 h4 gw H.size) (cwV 3 hts gX5_stack_X5_stackNow rfl rfl rfl (by decide +kernel) ⟨Nat.le_of_ble_eq_true rfl, Nat.le_of_ble_eq_true rfl⟩) (muV hE hS hPc_5 hDc_6 hFc_7 rfl rfl) rfl rfl hl.1 rfl (lv_room (Nat.le_of_ble_eq_true rfl)) dX5_stack_46 ⟨Nat.le_of_ble_eq_true rfl, Nat.le_of_ble_eq_true rfl⟩) hP hD hS hA [0, 1, 2, 3, 4, 5, 6, 7, 8] [] [0, 1, 2, 3, 4, 5, 6, 7, 8] rfl rfl (by decide) (by decide) (fun (u9 : (Int → Int) × (Int → Int) × (Int → Int) × (Int → Int)) => match u9 with | (u_8, u_9, u_10, u_11) => [(qm, .inr (5, [.int (iI 0), .ref mz, .ref ms, .int (iI hn), .ref mp, .ref mb, .int (iI L), .ref m1, .ref m2, .ref m3, .ref mB, .ref mF, .ref mN, .ref mS, .int (iI sT), .ref mW, .long acc])), (mz, .inl (gI g, 326, .inl (aI (zF n ho h c)))), (mB, .inl (gI g, 512, .inl (aI u_8))), (mF, .inl (gI g, 512, .inl (aI u_9))), (mN, .inl (gI g, 512, .inl (aI u_10))), (mS, .inl (gI g, 864, .inl (aI u_11))), (m1, .inl (gI g, 8, .inl (aI sunX))), (m2, .inl (gI g, 8, .inl (aI sunY))), (m3, .inl (gI g, 8, .inl (aI sunS)))]) (fun _ => rfl) (by decide) (Nat.le_of_ble_eq_true rfl) (Nat.le_of_ble_eq_true rfl) (fun u9 H locs hu_12 hP hD hS => ?_)
        obtain ⟨u_8, u_9, u_10, u_11⟩ := u9
        have hP : va_P g.1 vwCl [(qm, .inr (5, [.int (iI 0), .ref mz, .ref ms, .int (iI hn), .ref mp, .ref mb, .int (iI L), .ref m1, .ref m2, .ref m3, .ref mB, .ref mF, .ref mN, .ref mS, .int (iI sT), .ref mW, .long acc])), (mz, .inl (gI g, 326, .inl (aI (zF n ho h c)))), (mB, .inl (gI g, 512, .inl (aI u_8))), (mF, .inl (gI g, 512, .inl (aI u_9))), (mN, .inl (gI g, 512, .inl (aI u_10))), (mS, .inl (gI g, 864, .inl (aI u_11))), (m1, .inl (gI g, 8, .inl (aI sunX))), (m2, .inl (gI g, 8, .inl (aI sunY))), (m3, .inl (gI g, 8, .inl (aI sunS)))] H := hP
        have hD : va_D A [(qm, .inr (5, [.int (iI 0), .ref mz, .ref ms, .int (iI hn), .ref mp, .ref mb, .int (iI L), .ref m1, .ref m2, .ref m3, .ref mB, .ref mF, .ref mN, .ref mS, .int (iI sT), .ref mW, .long acc])), (mz, .inl (gI g, 326, .inl (aI (zF n ho h c)))), (mB, .inl (gI g, 512, .inl (aI u_8))), (mF, .inl (gI g, 512, .inl (aI u_9))), (mN, .inl (gI g, 512, .inl (aI u_10))), (mS, .inl (gI g, 864, .inl (aI u_11))), (m1, .inl (gI g, 8, .inl (aI sunX))), (m2, .inl (gI g, 8, .inl (aI sunY))), (m3, .inl (gI g, 8, .inl (aI sunS)))] := hD
        refine ln_topv (w := .int (iI (stkV n ho h c x y w))) rfl ?_
        have hP : va_P g.1 vwCl [(qm, .inr (5, [.int (iI 0), .ref mz, .ref ms, .int (iI hn), .ref mp, .ref mb, .int (iI L), .ref m1, .ref m2, .ref m3, .ref mB, .ref mF, .ref mN, .ref mS, .int (iI sT), .ref mW, .long acc])), (mz, .inl (gI g, 326, .inl (aI (zF n ho h c)))), (mB, .inl (gI g, 512, .inl (aI u_8))), (mF, .inl (gI g, 512, .inl (aI u_9))), (mN, .inl (gI g, 512, .inl (aI u_10))), (mS, .inl (gI g, 864, .inl (aI u_11))), (m1, .inl (gI g, 8, .inl (aI sunX))), (m2, .inl (gI g, 8, .inl (aI sunY))), (m3, .inl (gI g, 8, .inl (aI sunS)))] _ := hP
        have hD : va_D A [(qm, .inr (5, [.int (iI 0), .ref mz, .ref ms, .int (iI hn), .ref mp, .ref mb, .int (iI L), .ref m1, .ref m2, .ref m3, .ref mB, .ref mF, .ref mN, .ref mS, .int (iI sT), .ref mW, .long acc])), (mz, .inl (gI g, 326, .inl (aI (zF n ho h c)))), (mB, .inl (gI g, 512, .inl (aI u_8))), (mF, .inl (gI g, 512, .inl (aI u_9))), (mN, .inl (gI g, 512, .inl (aI u_10))), (mS, .inl (gI g, 864, .inl (aI u_11))), (m1, .inl (gI g, 8, .inl (aI sunX))), (m2, .inl (gI g, 8, .inl (aI sunY))), (m3, .inl (gI g, 8, .inl (aI sunS)))] := hD
        exact mend_i (S := (Int → Int) × (Int → Int) × (Int → Int) × (Int → Int)) (w' := (fun (u9 : (Int → Int) × (Int → Int) × (Int → Int) × (Int → Int)) => match u9 with | (B2, G2, N2, S2) => [(qm, .inr (5, [.int (iI 0), .ref mz, .ref ms, .int (iI hn), .ref mp, .ref mb, .int (iI L), .ref m1, .ref m2, .ref m3, .ref mB, .ref mF, .ref mN, .ref mS, .int (iI sT), .ref mW, .long acc])), (mz, .inl (gI g, 326, .inl (aI (zF n ho h c)))), (mB, .inl (gI g, 512, .inl (aI B2))), (mF, .inl (gI g, 512, .inl (aI G2))), (mN, .inl (gI g, 512, .inl (aI N2))), (mS, .inl (gI g, 864, .inl (aI S2))), (m1, .inl (gI g, 8, .inl (aI sunX))), (m2, .inl (gI g, 8, .inl (aI sunY))), (m3, .inl (gI g, 8, .inl (aI sunS)))])) (post := (fun (u9 : (Int → Int) × (Int → Int) × (Int → Int) × (Int → Int)) => match u9 with | (B2, G2, N2, S2) => True)) (r := (fun (u9 : (Int → Int) × (Int → Int) × (Int → Int) × (Int → Int)) => match u9 with | (B2, G2, N2, S2) => stkV n ho h c x y w)) hx hb hr hlk hS (u_8, u_9, u_10, u_11) hP hD (trivial) (by rfl) (Nat.le_of_ble_eq_true rfl) (Nat.le_of_ble_eq_true rfl) dX5_stack_49
      · exfalso; omega
  · exfalso; omega
set_option maxHeartbeats 800000 in
set_option maxRecDepth 100000 in
theorem c_X5_stack_x1 (l : Launch) (g : GT) (qm : Nat) (th : Int) (mz : Nat) (ms : Nat) (hn : Int) (mp : Nat) (mb : Nat) (L : Int) (m1 : Nat) (m2 : Nat) (m3 : Nat) (mB : Nat) (mF : Nat) (mN : Nat) (mS : Nat) (sT : Int) (mW : Nat) (acc : Int64) (n : Int) (ho : Int) (h : Int → Int) (c : Int → Int) (x : Int) (y : Int) (w : Int) (hY : YOk n ho h c) (gx : Rg x) (gy : Rg y) (g1 : ¬ okS n x y) : MutI l yX5_stack wsX5_stack ({ frames := 2, cells := 0, slots := 0, locals := 44 }) 0 0 g [(qm, .inr (5, [.int (iI th), .ref mz, .ref ms, .int (iI hn), .ref mp, .ref mb, .int (iI L), .ref m1, .ref m2, .ref m3, .ref mB, .ref mF, .ref mN, .ref mS, .int (iI sT), .ref mW, .long acc])), (mz, .inl (gI g, 326, .inl (aI (zF n ho h c))))] [.ref qm, .int (iI x), .int (iI y), .int (iI w)] (S := Unit) (fun _ => True) (fun _ => 0) (fun _ => [(qm, .inr (5, [.int (iI 1), .ref mz, .ref ms, .int (iI hn), .ref mp, .ref mb, .int (iI L), .ref m1, .ref m2, .ref m3, .ref mB, .ref mF, .ref mN, .ref mS, .int (iI sT), .ref mW, .long acc])), (mz, .inl (gI g, 326, .inl (aI (zF n ho h c))))]) := by
  refine mut_of (y := yX5_stack) (ws := wsX5_stack) (av := [.ref qm, .int (iI x), .int (iI y), .int (iI w)]) (w := [(qm, .inr (5, [.int (iI th), .ref mz, .ref ms, .int (iI hn), .ref mp, .ref mb, .int (iI L), .ref m1, .ref m2, .ref m3, .ref mB, .ref mF, .ref mN, .ref mS, .int (iI sT), .ref mW, .long acc])), (mz, .inl (gI g, 326, .inl (aI (zF n ho h c))))]) (Qc := fun A => va_Qi (fun x9 (u9 : Unit) => x9 = iI ((fun _ => 0) u9) ∧ (fun _ => True) u9) (fun u9 t9 => MB g ((fun _ => [(qm, .inr (5, [.int (iI 1), .ref mz, .ref ms, .int (iI hn), .ref mp, .ref mb, .int (iI L), .ref m1, .ref m2, .ref m3, .ref mB, .ref mF, .ref mN, .ref mS, .int (iI sT), .ref mW, .long acc])), (mz, .inl (gI g, 326, .inl (aI (zF n ho h c))))]) u9) A t9) A) (cc := cX5_stack) (maxL := 4) (ret := (some .int)) (by decide) rfl (Nat.le_of_ble_eq_true rfl) ?_
  intro pZ eZ sZ mZ bZ meZ cZ A F hin hA hP hD hE hS ls hl
  obtain ⟨hx, hb, hr, hml, hts, hown, hlk⟩ := F
  skip
  have hown : sZ.vm.findClass RX5 = some mZ.cls := hown
  have hl : lv_has ls 4 [(0, .ref qm), (1, .int (iI x)), (2, .int (iI y)), (3, .int (iI w))] := hl
  skip
  have w0 := hts (.fieldLink RX5 47 "SlantYardModel" "thrown" "I") (by decide +kernel)
  have in5 : ∀ w ∈ u_ws RX5 TX5 17, w ∈ wsX5_stack := by decide +kernel
  have hnn := hY.n
  have hho := hY.hr
  refine lv_aload_n hx hb dX5_stack_0 rfl (lv_at hl 0 rfl) ?_
  refine lv_aload_n hx hb dX5_stack_1 rfl (lv_at hl 0 rfl) ?_
  refine lv_iload_n hx hb dX5_stack_2 rfl (lv_at hl 1 rfl) ?_
  refine lv_iload_n hx hb dX5_stack_3 rfl (lv_at hl 2 rfl) ?_
  have hPc_1 := hP.sub (ws' := [(qm, .inr (5, [.int (iI th), .ref mz, .ref ms, .int (iI hn), .ref mp, .ref mb, .int (iI L), .ref m1, .ref m2, .ref m3, .ref mB, .ref mF, .ref mN, .ref mS, .int (iI sT), .ref mW, .long acc])), (mz, .inl (gI g, 326, .inl (aI (zF n ho h c))))]) [0, 1] rfl
  refine pc_i (va_runV (As := [.int (iI x), .int (iI y)]) (rest := [.ref qm]) ⟨hx, hb, hml, hown, hts⟩ (c_X5_isSquare l g qm th mz ms hn mp mb L m1 m2 m3 mB mF mN mS sT mW acc n ho h c x y hY gx gy) (cwV 2 hts gX5_stack_X5_isSquare rfl rfl rfl (by decide +kernel) ⟨Nat.le_of_ble_eq_true rfl, Nat.le_of_ble_eq_true rfl⟩) (puV hE hS hPc_1 rfl rfl) rfl rfl hl.1 rfl (lv_room (Nat.le_of_ble_eq_true rfl)) dX5_stack_4 ⟨Nat.le_of_ble_eq_true rfl, Nat.le_of_ble_eq_true rfl⟩) ?_
  refine lb_if_ne (tgt := 14) hx hb dX5_stack_7 (by decide) (fun c_2 => ?_) (fun c_2 => ?_)
  · exact absurd c_2 (g1)
  · skip
    refine lv_iconst (v := iI 1) hx hb dX5_stack_10 rfl ?_
    refine lv_goto (tgt := 28) hx hb dX5_stack_11 (by decide) ?_
    refine va_put (D := g.1) (ci := 5) (v := .int (iI 1)) (ty := .int) (C := RX5) (T := TX5) (N := 17) hx hb hts in5 tyX5 tyX5_ok nmX5 hown hE.1 hP hD hS 0 rfl rfl 0 (by decide) w0 (fun _ h9 => h9) rfl (by decide +kernel) rfl rfl (Nat.le_of_ble_eq_true rfl) dX5_stack_28 (fun H locs hP hD hS => ?_)
    have hP : va_P g.1 vwCl [(qm, .inr (5, [.int (iI 1), .ref mz, .ref ms, .int (iI hn), .ref mp, .ref mb, .int (iI L), .ref m1, .ref m2, .ref m3, .ref mB, .ref mF, .ref mN, .ref mS, .int (iI sT), .ref mW, .long acc])), (mz, .inl (gI g, 326, .inl (aI (zF n ho h c))))] H := hP
    have hD : va_D A [(qm, .inr (5, [.int (iI 1), .ref mz, .ref ms, .int (iI hn), .ref mp, .ref mb, .int (iI L), .ref m1, .ref m2, .ref m3, .ref mB, .ref mF, .ref mN, .ref mS, .int (iI sT), .ref mW, .long acc])), (mz, .inl (gI g, 326, .inl (aI (zF n ho h c))))] := hD
    refine lv_aload_n hx hb dX5_stack_31 rfl (lv_at hl 0 rfl) ?_
    refine va_get (D := g.1) (ci := 5) (v := .int (iI 1)) (C := RX5) (T := TX5) (N := 17) hx hb hts in5 hown hE.1 hP 0 rfl rfl 0 (by decide) w0 (fun _ h9 => h9) rfl dX5_stack_32 ?_
    refine ln_if_le (tgt := 42) hx hb dX5_stack_35 (by decide) (by decide) (fun c_3 => ?_) (fun c_3 => ?_)
    · exfalso; omega
    · skip
      refine lv_iconst (v := iI 0) hx hb dX5_stack_38 rfl ?_
      refine lv_goto (tgt := 49) hx hb dX5_stack_39 (by decide) ?_
      have hP : va_P g.1 vwCl [(qm, .inr (5, [.int (iI 1), .ref mz, .ref ms, .int (iI hn), .ref mp, .ref mb, .int (iI L), .ref m1, .ref m2, .ref m3, .ref mB, .ref mF, .ref mN, .ref mS, .int (iI sT), .ref mW, .long acc])), (mz, .inl (gI g, 326, .inl (aI (zF n ho h c))))] _ := hP
      have hD : va_D A [(qm, .inr (5, [.int (iI 1), .ref mz, .ref ms, .int (iI hn), .ref mp, .ref mb, .int (iI L), .ref m1, .ref m2, .ref m3, .ref mB, .ref mF, .ref mN, .ref mS, .int (iI sT), .ref mW, .long acc])), (mz, .inl (gI g, 326, .inl (aI (zF n ho h c))))] := hD
      exact mend_i (S := Unit) (w' := (fun _ => [(qm, .inr (5, [.int (iI 1), .ref mz, .ref ms, .int (iI hn), .ref mp, .ref mb, .int (iI L), .ref m1, .ref m2, .ref m3, .ref mB, .ref mF, .ref mN, .ref mS, .int (iI sT), .ref mW, .long acc])), (mz, .inl (gI g, 326, .inl (aI (zF n ho h c))))])) (post := (fun _ => True)) (r := (fun _ => 0)) hx hb hr hlk hS () hP hD (trivial) (by rfl) (Nat.le_of_ble_eq_true rfl) (Nat.le_of_ble_eq_true rfl) dX5_stack_49
set_option maxHeartbeats 800000 in
set_option maxRecDepth 100000 in
theorem c_X5_stack_x2 (l : Launch) (g : GT) (qm : Nat) (th : Int) (mz : Nat) (ms : Nat) (hn : Int) (mp : Nat) (mb : Nat) (L : Int) (m1 : Nat) (m2 : Nat) (m3 : Nat) (mB : Nat) (mF : Nat) (mN : Nat) (mS : Nat) (sT : Int) (mW : Nat) (acc : Int64) (n : Int) (ho : Int) (h : Int → Int) (c : Int → Int) (x : Int) (y : Int) (w : Int) (hY : YOk n ho h c) (h1 : 0 ≤ x) (h2 : x < n) (h3 : 0 ≤ y) (h4 : y < n) (gw : Rg w) (g1 : w < 0 ∨ 3 < w) : MutI l yX5_stack wsX5_stack ({ frames := 2, cells := 0, slots := 0, locals := 44 }) 0 0 g [(qm, .inr (5, [.int (iI th), .ref mz, .ref ms, .int (iI hn), .ref mp, .ref mb, .int (iI L), .ref m1, .ref m2, .ref m3, .ref mB, .ref mF, .ref mN, .ref mS, .int (iI sT), .ref mW, .long acc])), (mz, .inl (gI g, 326, .inl (aI (zF n ho h c))))] [.ref qm, .int (iI x), .int (iI y), .int (iI w)] (S := Unit) (fun _ => True) (fun _ => 0) (fun _ => [(qm, .inr (5, [.int (iI 2), .ref mz, .ref ms, .int (iI hn), .ref mp, .ref mb, .int (iI L), .ref m1, .ref m2, .ref m3, .ref mB, .ref mF, .ref mN, .ref mS, .int (iI sT), .ref mW, .long acc])), (mz, .inl (gI g, 326, .inl (aI (zF n ho h c))))]) := by
  refine mut_of (y := yX5_stack) (ws := wsX5_stack) (av := [.ref qm, .int (iI x), .int (iI y), .int (iI w)]) (w := [(qm, .inr (5, [.int (iI th), .ref mz, .ref ms, .int (iI hn), .ref mp, .ref mb, .int (iI L), .ref m1, .ref m2, .ref m3, .ref mB, .ref mF, .ref mN, .ref mS, .int (iI sT), .ref mW, .long acc])), (mz, .inl (gI g, 326, .inl (aI (zF n ho h c))))]) (Qc := fun A => va_Qi (fun x9 (u9 : Unit) => x9 = iI ((fun _ => 0) u9) ∧ (fun _ => True) u9) (fun u9 t9 => MB g ((fun _ => [(qm, .inr (5, [.int (iI 2), .ref mz, .ref ms, .int (iI hn), .ref mp, .ref mb, .int (iI L), .ref m1, .ref m2, .ref m3, .ref mB, .ref mF, .ref mN, .ref mS, .int (iI sT), .ref mW, .long acc])), (mz, .inl (gI g, 326, .inl (aI (zF n ho h c))))]) u9) A t9) A) (cc := cX5_stack) (maxL := 4) (ret := (some .int)) (by decide) rfl (Nat.le_of_ble_eq_true rfl) ?_
  intro pZ eZ sZ mZ bZ meZ cZ A F hin hA hP hD hE hS ls hl
  obtain ⟨hx, hb, hr, hml, hts, hown, hlk⟩ := F
  skip
  have hown : sZ.vm.findClass RX5 = some mZ.cls := hown
  have hl : lv_has ls 4 [(0, .ref qm), (1, .int (iI x)), (2, .int (iI y)), (3, .int (iI w))] := hl
  skip
  have w0 := hts (.fieldLink RX5 47 "SlantYardModel" "thrown" "I") (by decide +kernel)
  have in5 : ∀ w ∈ u_ws RX5 TX5 17, w ∈ wsX5_stack := by decide +kernel
  have hnn := hY.n
  have hho := hY.hr
  refine lv_aload_n hx hb dX5_stack_0 rfl (lv_at hl 0 rfl) ?_
  refine lv_aload_n hx hb dX5_stack_1 rfl (lv_at hl 0 rfl) ?_
  refine lv_iload_n hx hb dX5_stack_2 rfl (lv_at hl 1 rfl) ?_
  refine lv_iload_n hx hb dX5_stack_3 rfl (lv_at hl 2 rfl) ?_
  have hPc_1 := hP.sub (ws' := [(qm, .inr (5, [.int (iI th), .ref mz, .ref ms, .int (iI hn), .ref mp, .ref mb, .int (iI L), .ref m1, .ref m2, .ref m3, .ref mB, .ref mF, .ref mN, .ref mS, .int (iI sT), .ref mW, .long acc])), (mz, .inl (gI g, 326, .inl (aI (zF n ho h c))))]) [0, 1] rfl
  refine pc_i (va_runV (As := [.int (iI x), .int (iI y)]) (rest := [.ref qm]) ⟨hx, hb, hml, hown, hts⟩ (c_X5_isSquare l g qm th mz ms hn mp mb L m1 m2 m3 mB mF mN mS sT mW acc n ho h c x y hY (by omega) (by omega)) (cwV 2 hts gX5_stack_X5_isSquare rfl rfl rfl (by decide +kernel) ⟨Nat.le_of_ble_eq_true rfl, Nat.le_of_ble_eq_true rfl⟩) (puV hE hS hPc_1 rfl rfl) rfl rfl hl.1 rfl (lv_room (Nat.le_of_ble_eq_true rfl)) dX5_stack_4 ⟨Nat.le_of_ble_eq_true rfl, Nat.le_of_ble_eq_true rfl⟩) ?_
  refine lb_if_ne (tgt := 14) hx hb dX5_stack_7 (by decide) (fun c_2 => ?_) (fun c_2 => ?_)
  · skip
    refine lv_iload_n hx hb dX5_stack_14 rfl (lv_at hl 3 rfl) ?_
    refine lv_iconst (v := iI 0) hx hb dX5_stack_15 rfl ?_
    refine lv_iconst (v := iI 3) hx hb dX5_stack_16 rfl ?_
    refine pc_i (va_runS (As := [.int (iI w), .int (iI 0), .int (iI 3)]) (rest := [.ref qm]) ⟨hx, hb, hml, hown, hts⟩ (c_X5_in l g w 0 3 gw (by omega) (by omega)) (va_cwS 3 hts gX5_stack_X5_in rfl rfl rfl (by decide +kernel) ⟨Nat.le_of_ble_eq_true rfl, Nat.le_of_ble_eq_true rfl⟩) (puS hE hS (va_P_nil g.1 _)) rfl rfl hl.1 rfl (lv_room (Nat.le_of_ble_eq_true rfl)) dX5_stack_17 ⟨Nat.le_of_ble_eq_true rfl, Nat.le_of_ble_eq_true rfl⟩) ?_
    refine lb_if_eq (tgt := 27) hx hb dX5_stack_20 (by decide) (fun c_3 => ?_) (fun c_3 => ?_)
    · skip
      refine lv_iconst (v := iI 2) hx hb dX5_stack_27 rfl ?_
      refine va_put (D := g.1) (ci := 5) (v := .int (iI 2)) (ty := .int) (C := RX5) (T := TX5) (N := 17) hx hb hts in5 tyX5 tyX5_ok nmX5 hown hE.1 hP hD hS 0 rfl rfl 0 (by decide) w0 (fun _ h9 => h9) rfl (by decide +kernel) rfl rfl (Nat.le_of_ble_eq_true rfl) dX5_stack_28 (fun H locs hP hD hS => ?_)
      have hP : va_P g.1 vwCl [(qm, .inr (5, [.int (iI 2), .ref mz, .ref ms, .int (iI hn), .ref mp, .ref mb, .int (iI L), .ref m1, .ref m2, .ref m3, .ref mB, .ref mF, .ref mN, .ref mS, .int (iI sT), .ref mW, .long acc])), (mz, .inl (gI g, 326, .inl (aI (zF n ho h c))))] H := hP
      have hD : va_D A [(qm, .inr (5, [.int (iI 2), .ref mz, .ref ms, .int (iI hn), .ref mp, .ref mb, .int (iI L), .ref m1, .ref m2, .ref m3, .ref mB, .ref mF, .ref mN, .ref mS, .int (iI sT), .ref mW, .long acc])), (mz, .inl (gI g, 326, .inl (aI (zF n ho h c))))] := hD
      refine lv_aload_n hx hb dX5_stack_31 rfl (lv_at hl 0 rfl) ?_
      refine va_get (D := g.1) (ci := 5) (v := .int (iI 2)) (C := RX5) (T := TX5) (N := 17) hx hb hts in5 hown hE.1 hP 0 rfl rfl 0 (by decide) w0 (fun _ h9 => h9) rfl dX5_stack_32 ?_
      refine ln_if_le (tgt := 42) hx hb dX5_stack_35 (by decide) (by decide) (fun c_4 => ?_) (fun c_4 => ?_)
      · exfalso; omega
      · skip
        refine lv_iconst (v := iI 0) hx hb dX5_stack_38 rfl ?_
        refine lv_goto (tgt := 49) hx hb dX5_stack_39 (by decide) ?_
        have hP : va_P g.1 vwCl [(qm, .inr (5, [.int (iI 2), .ref mz, .ref ms, .int (iI hn), .ref mp, .ref mb, .int (iI L), .ref m1, .ref m2, .ref m3, .ref mB, .ref mF, .ref mN, .ref mS, .int (iI sT), .ref mW, .long acc])), (mz, .inl (gI g, 326, .inl (aI (zF n ho h c))))] _ := hP
        have hD : va_D A [(qm, .inr (5, [.int (iI 2), .ref mz, .ref ms, .int (iI hn), .ref mp, .ref mb, .int (iI L), .ref m1, .ref m2, .ref m3, .ref mB, .ref mF, .ref mN, .ref mS, .int (iI sT), .ref mW, .long acc])), (mz, .inl (gI g, 326, .inl (aI (zF n ho h c))))] := hD
        exact mend_i (S := Unit) (w' := (fun _ => [(qm, .inr (5, [.int (iI 2), .ref mz, .ref ms, .int (iI hn), .ref mp, .ref mb, .int (iI L), .ref m1, .ref m2, .ref m3, .ref mB, .ref mF, .ref mN, .ref mS, .int (iI sT), .ref mW, .long acc])), (mz, .inl (gI g, 326, .inl (aI (zF n ho h c))))])) (post := (fun _ => True)) (r := (fun _ => 0)) hx hb hr hlk hS () hP hD (trivial) (by rfl) (Nat.le_of_ble_eq_true rfl) (Nat.le_of_ble_eq_true rfl) dX5_stack_49
    · exfalso; omega
  · exfalso; omega
set_option maxHeartbeats 800000 in
set_option maxRecDepth 100000 in
theorem c_X5_block_ok (l : Launch) (g : GT) (qm : Nat) (th : Int) (mz : Nat) (ms : Nat) (hn : Int) (mp : Nat) (mb : Nat) (L : Int) (m1 : Nat) (m2 : Nat) (m3 : Nat) (mB : Nat) (mF : Nat) (mN : Nat) (mS : Nat) (sT : Int) (mW : Nat) (acc : Int64) (n : Int) (ho : Int) (h : Int → Int) (c : Int → Int) (B0 : Int → Int) (G : Int → Int) (N : Int → Int) (S0 : Int → Int) (x : Int) (y : Int) (z : Int) (w : Int) (hY : YOk n ho h c) (h1 : 0 ≤ x) (h2 : x < n) (h3 : 0 ≤ y) (h4 : y < n) (gz : 0 ≤ z ∧ z ≤ 7) (gw : 0 ≤ w ∧ w ≤ 4) : MutI l yX5_block wsX5_block ({ frames := 5, cells := 0, slots := 0, locals := 123 }) 0 0 g [(qm, .inr (5, [.int (iI th), .ref mz, .ref ms, .int (iI hn), .ref mp, .ref mb, .int (iI L), .ref m1, .ref m2, .ref m3, .ref mB, .ref mF, .ref mN, .ref mS, .int (iI sT), .ref mW, .long acc])), (mz, .inl (gI g, 326, .inl (aI (zF n ho h c)))), (mB, .inl (gI g, 512, .inl (aI B0))), (mF, .inl (gI g, 512, .inl (aI G))), (mN, .inl (gI g, 512, .inl (aI N))), (mS, .inl (gI g, 864, .inl (aI S0)))] [.ref qm, .int (iI x), .int (iI y), .int (iI z), .int (iI w)] (S := (Int → Int) × (Int → Int) × (Int → Int) × (Int → Int)) (fun (u9 : (Int → Int) × (Int → Int) × (Int → Int) × (Int → Int)) => match u9 with | (B2, G2, N2, S2) => True) (fun (u9 : (Int → Int) × (Int → Int) × (Int → Int) × (Int → Int)) => match u9 with | (B2, G2, N2, S2) => blkV n h c x y z w) (fun (u9 : (Int → Int) × (Int → Int) × (Int → Int) × (Int → Int)) => match u9 with | (B2, G2, N2, S2) => [(qm, .inr (5, [.int (iI 0), .ref mz, .ref ms, .int (iI hn), .ref mp, .ref mb, .int (iI L), .ref m1, .ref m2, .ref m3, .ref mB, .ref mF, .ref mN, .ref mS, .int (iI sT), .ref mW, .long acc])), (mz, .inl (gI g, 326, .inl (aI (zF n ho h c)))), (mB, .inl (gI g, 512, .inl (aI B2))), (mF, .inl (gI g, 512, .inl (aI G2))), (mN, .inl (gI g, 512, .inl (aI N2))), (mS, .inl (gI g, 864, .inl (aI S2)))]) := by
  refine mut_of (y := yX5_block) (ws := wsX5_block) (av := [.ref qm, .int (iI x), .int (iI y), .int (iI z), .int (iI w)]) (w := [(qm, .inr (5, [.int (iI th), .ref mz, .ref ms, .int (iI hn), .ref mp, .ref mb, .int (iI L), .ref m1, .ref m2, .ref m3, .ref mB, .ref mF, .ref mN, .ref mS, .int (iI sT), .ref mW, .long acc])), (mz, .inl (gI g, 326, .inl (aI (zF n ho h c)))), (mB, .inl (gI g, 512, .inl (aI B0))), (mF, .inl (gI g, 512, .inl (aI G))), (mN, .inl (gI g, 512, .inl (aI N))), (mS, .inl (gI g, 864, .inl (aI S0)))]) (Qc := fun A => va_Qi (fun x9 (u9 : (Int → Int) × (Int → Int) × (Int → Int) × (Int → Int)) => x9 = iI ((fun (u9 : (Int → Int) × (Int → Int) × (Int → Int) × (Int → Int)) => match u9 with | (B2, G2, N2, S2) => blkV n h c x y z w) u9) ∧ (fun (u9 : (Int → Int) × (Int → Int) × (Int → Int) × (Int → Int)) => match u9 with | (B2, G2, N2, S2) => True) u9) (fun u9 t9 => MB g ((fun (u9 : (Int → Int) × (Int → Int) × (Int → Int) × (Int → Int)) => match u9 with | (B2, G2, N2, S2) => [(qm, .inr (5, [.int (iI 0), .ref mz, .ref ms, .int (iI hn), .ref mp, .ref mb, .int (iI L), .ref m1, .ref m2, .ref m3, .ref mB, .ref mF, .ref mN, .ref mS, .int (iI sT), .ref mW, .long acc])), (mz, .inl (gI g, 326, .inl (aI (zF n ho h c)))), (mB, .inl (gI g, 512, .inl (aI B2))), (mF, .inl (gI g, 512, .inl (aI G2))), (mN, .inl (gI g, 512, .inl (aI N2))), (mS, .inl (gI g, 864, .inl (aI S2)))]) u9) A t9) A) (cc := cX5_block) (maxL := 5) (ret := (some .int)) (by decide) rfl (Nat.le_of_ble_eq_true rfl) ?_
  intro pZ eZ sZ mZ bZ meZ cZ A F hin hA hP hD hE hS ls hl
  obtain ⟨hx, hb, hr, hml, hts, hown, hlk⟩ := F
  skip
  have hown : sZ.vm.findClass RX5 = some mZ.cls := hown
  have hl : lv_has ls 5 [(0, .ref qm), (1, .int (iI x)), (2, .int (iI y)), (3, .int (iI z)), (4, .int (iI w))] := hl
  skip
  have w0 := hts (.fieldLink RX5 47 "SlantYardModel" "thrown" "I") (by decide +kernel)
  have in5 : ∀ w ∈ u_ws RX5 TX5 17, w ∈ wsX5_block := by decide +kernel
  have hnn := hY.n
  have hho := hY.hr
  have hM9 : MOk (picM n h) := picM_ok hY
  have hI9 : MIn n h (picM n h) := picM_in hY
  refine lv_aload_n hx hb dX5_block_0 rfl (lv_at hl 0 rfl) ?_
  refine lv_aload_n hx hb dX5_block_1 rfl (lv_at hl 0 rfl) ?_
  refine lv_iload_n hx hb dX5_block_2 rfl (lv_at hl 1 rfl) ?_
  refine lv_iload_n hx hb dX5_block_3 rfl (lv_at hl 2 rfl) ?_
  have hPc_1 := hP.sub (ws' := [(qm, .inr (5, [.int (iI th), .ref mz, .ref ms, .int (iI hn), .ref mp, .ref mb, .int (iI L), .ref m1, .ref m2, .ref m3, .ref mB, .ref mF, .ref mN, .ref mS, .int (iI sT), .ref mW, .long acc])), (mz, .inl (gI g, 326, .inl (aI (zF n ho h c))))]) [0, 1] rfl
  refine pc_i (va_runV (As := [.int (iI x), .int (iI y)]) (rest := [.ref qm]) ⟨hx, hb, hml, hown, hts⟩ (c_X5_isSquare l g qm th mz ms hn mp mb L m1 m2 m3 mB mF mN mS sT mW acc n ho h c x y hY (by omega) (by omega)) (cwV 2 hts gX5_block_X5_isSquare rfl rfl rfl (by decide +kernel) ⟨Nat.le_of_ble_eq_true rfl, Nat.le_of_ble_eq_true rfl⟩) (puV hE hS hPc_1 rfl rfl) rfl rfl hl.1 rfl (lv_room (Nat.le_of_ble_eq_true rfl)) dX5_block_4 ⟨Nat.le_of_ble_eq_true rfl, Nat.le_of_ble_eq_true rfl⟩) ?_
  refine lb_if_ne (tgt := 14) hx hb dX5_block_7 (by decide) (fun c_2 => ?_) (fun c_2 => ?_)
  · skip
    refine lv_iload_n hx hb dX5_block_14 rfl (lv_at hl 3 rfl) ?_
    refine lv_iconst (v := iI 0) hx hb dX5_block_15 rfl ?_
    refine lv_bipush (v := iI 7) hx hb dX5_block_16 (by decide) ?_
    refine pc_i (va_runS (As := [.int (iI z), .int (iI 0), .int (iI 7)]) (rest := [.ref qm]) ⟨hx, hb, hml, hown, hts⟩ (c_X5_in l g z 0 7 (by omega) (by omega) (by omega)) (va_cwS 3 hts gX5_block_X5_in rfl rfl rfl (by decide +kernel) ⟨Nat.le_of_ble_eq_true rfl, Nat.le_of_ble_eq_true rfl⟩) (puS hE hS (va_P_nil g.1 _)) rfl rfl hl.1 rfl (lv_room (Nat.le_of_ble_eq_true rfl)) dX5_block_18 ⟨Nat.le_of_ble_eq_true rfl, Nat.le_of_ble_eq_true rfl⟩) ?_
    refine lb_if_eq (tgt := 38) hx hb dX5_block_21 (by decide) (fun c_3 => ?_) (fun c_3 => ?_)
    · exfalso; omega
    · skip
      refine lv_iload hx hb dX5_block_24 (lv_at hl 4 rfl) ?_
      refine lv_iconst (v := iI 0) hx hb dX5_block_26 rfl ?_
      refine lv_iconst (v := iI 4) hx hb dX5_block_27 rfl ?_
      refine pc_i (va_runS (As := [.int (iI w), .int (iI 0), .int (iI 4)]) (rest := [.ref qm]) ⟨hx, hb, hml, hown, hts⟩ (c_X5_in l g w 0 4 (by omega) (by omega) (by omega)) (va_cwS 3 hts gX5_block_X5_in rfl rfl rfl (by decide +kernel) ⟨Nat.le_of_ble_eq_true rfl, Nat.le_of_ble_eq_true rfl⟩) (puS hE hS (va_P_nil g.1 _)) rfl rfl hl.1 rfl (lv_room (Nat.le_of_ble_eq_true rfl)) dX5_block_28 ⟨Nat.le_of_ble_eq_true rfl, Nat.le_of_ble_eq_true rfl⟩) ?_
      refine lb_if_eq (tgt := 38) hx hb dX5_block_31 (by decide) (fun c_4 => ?_) (fun c_4 => ?_)
      · exfalso; omega
      · skip
        refine lv_iconst (v := iI 0) hx hb dX5_block_34 rfl ?_
        refine lv_goto (tgt := 39) hx hb dX5_block_35 (by decide) ?_
        refine va_put (D := g.1) (ci := 5) (v := .int (iI 0)) (ty := .int) (C := RX5) (T := TX5) (N := 17) hx hb hts in5 tyX5 tyX5_ok nmX5 hown hE.1 hP hD hS 0 rfl rfl 0 (by decide) w0 (fun _ h9 => h9) rfl (by decide +kernel) rfl rfl (Nat.le_of_ble_eq_true rfl) dX5_block_39 (fun H locs hP hD hS => ?_)
        have hP : va_P g.1 vwCl [(qm, .inr (5, [.int (iI 0), .ref mz, .ref ms, .int (iI hn), .ref mp, .ref mb, .int (iI L), .ref m1, .ref m2, .ref m3, .ref mB, .ref mF, .ref mN, .ref mS, .int (iI sT), .ref mW, .long acc])), (mz, .inl (gI g, 326, .inl (aI (zF n ho h c)))), (mB, .inl (gI g, 512, .inl (aI B0))), (mF, .inl (gI g, 512, .inl (aI G))), (mN, .inl (gI g, 512, .inl (aI N))), (mS, .inl (gI g, 864, .inl (aI S0)))] H := hP
        have hD : va_D A [(qm, .inr (5, [.int (iI 0), .ref mz, .ref ms, .int (iI hn), .ref mp, .ref mb, .int (iI L), .ref m1, .ref m2, .ref m3, .ref mB, .ref mF, .ref mN, .ref mS, .int (iI sT), .ref mW, .long acc])), (mz, .inl (gI g, 326, .inl (aI (zF n ho h c)))), (mB, .inl (gI g, 512, .inl (aI B0))), (mF, .inl (gI g, 512, .inl (aI G))), (mN, .inl (gI g, 512, .inl (aI N))), (mS, .inl (gI g, 864, .inl (aI S0)))] := hD
        refine lv_aload_n hx hb dX5_block_42 rfl (lv_at hl 0 rfl) ?_
        refine va_get (D := g.1) (ci := 5) (v := .int (iI 0)) (C := RX5) (T := TX5) (N := 17) hx hb hts in5 hown hE.1 hP 0 rfl rfl 0 (by decide) w0 (fun _ h9 => h9) rfl dX5_block_43 ?_
        refine ln_if_le (tgt := 53) hx hb dX5_block_46 (by decide) (by decide) (fun c_5 => ?_) (fun c_5 => ?_)
        · skip
          refine lv_aload_n hx hb dX5_block_53 rfl (lv_at hl 0 rfl) ?_
          refine lv_iload_n hx hb dX5_block_54 rfl (lv_at hl 1 rfl) ?_
          refine lv_iload_n hx hb dX5_block_55 rfl (lv_at hl 2 rfl) ?_
          refine lv_iload_n hx hb dX5_block_56 rfl (lv_at hl 3 rfl) ?_
          refine lv_iload hx hb dX5_block_57 (lv_at hl 4 rfl) ?_
          have hPc_6 := hP.sub (ws' := [(qm, .inr (5, [.int (iI 0), .ref mz, .ref ms, .int (iI hn), .ref mp, .ref mb, .int (iI L), .ref m1, .ref m2, .ref m3, .ref mB, .ref mF, .ref mN, .ref mS, .int (iI sT), .ref mW, .long acc])), (mz, .inl (gI g, 326, .inl (aI (zF n ho h c)))), (mB, .inl (gI g, 512, .inl (aI B0))), (mF, .inl (gI g, 512, .inl (aI G))), (mN, .inl (gI g, 512, .inl (aI N))), (mS, .inl (gI g, 864, .inl (aI S0)))]) [0, 1, 2, 3, 4, 5] rfl
          have hDc_7 := hD.sub (ws' := [(qm, .inr (5, [.int (iI 0), .ref mz, .ref ms, .int (iI hn), .ref mp, .ref mb, .int (iI L), .ref m1, .ref m2, .ref m3, .ref mB, .ref mF, .ref mN, .ref mS, .int (iI sT), .ref mW, .long acc])), (mz, .inl (gI g, 326, .inl (aI (zF n ho h c)))), (mB, .inl (gI g, 512, .inl (aI B0))), (mF, .inl (gI g, 512, .inl (aI G))), (mN, .inl (gI g, 512, .inl (aI N))), (mS, .inl (gI g, 864, .inl (aI S0)))]) [0, 1, 2, 3, 4, 5] (by decide) rfl
          have hFc_8 := va_free (wc := [(qm, .inr (5, [.int (iI 0), .ref mz, .ref ms, .int (iI hn), .ref mp, .ref mb, .int (iI L), .ref m1, .ref m2, .ref m3, .ref mB, .ref mF, .ref mN, .ref mS, .int (iI sT), .ref mW, .long acc])), (mz, .inl (gI g, 326, .inl (aI (zF n ho h c)))), (mB, .inl (gI g, 512, .inl (aI B0))), (mF, .inl (gI g, 512, .inl (aI G))), (mN, .inl (gI g, 512, .inl (aI N))), (mS, .inl (gI g, 864, .inl (aI S0)))]) hD hS hA [0, 1, 2, 3, 4, 5] rfl
          refine mc_i (wr := []) (cells1 := 0) (slots1 := 0) (va_runV (As := [.int (iI x), .int (iI y), .int (iI z), .int (iI w)]) (rest := []) ⟨hx, hb, hml, hown, hts⟩ (c_X5_blockNow l g qm 0 mz ms hn mp mb L m1 m2 m3 mB mF mN mS sT mW acc n ho h c B0 G N S0 x y z w hY h1 h2 h3 h4 gz gw H.size) (cwV 4 hts gX5_block_X5_blockNow rfl rfl rfl (by decide +kernel) ⟨Nat.le_of_ble_eq_true rfl, Nat.le_of_ble_eq_true rfl⟩) (muV hE hS hPc_6 hDc_7 hFc_8 rfl rfl) rfl rfl hl.1 rfl (lv_room (Nat.le_of_ble_eq_true rfl)) dX5_block_59 ⟨Nat.le_of_ble_eq_true rfl, Nat.le_of_ble_eq_true rfl⟩) hP hD hS hA [0, 1, 2, 3, 4, 5] [] [0, 1, 2, 3, 4, 5] rfl rfl (by decide) (by decide) (fun (u9 : (Int → Int) × (Int → Int) × (Int → Int) × (Int → Int)) => match u9 with | (u_9, u_10, u_11, u_12) => [(qm, .inr (5, [.int (iI 0), .ref mz, .ref ms, .int (iI hn), .ref mp, .ref mb, .int (iI L), .ref m1, .ref m2, .ref m3, .ref mB, .ref mF, .ref mN, .ref mS, .int (iI sT), .ref mW, .long acc])), (mz, .inl (gI g, 326, .inl (aI (zF n ho h c)))), (mB, .inl (gI g, 512, .inl (aI u_9))), (mF, .inl (gI g, 512, .inl (aI u_10))), (mN, .inl (gI g, 512, .inl (aI u_11))), (mS, .inl (gI g, 864, .inl (aI u_12)))]) (fun _ => rfl) (by decide) (Nat.le_of_ble_eq_true rfl) (Nat.le_of_ble_eq_true rfl) (fun u9 H locs hu_13 hP hD hS => ?_)
          obtain ⟨u_9, u_10, u_11, u_12⟩ := u9
          have hP : va_P g.1 vwCl [(qm, .inr (5, [.int (iI 0), .ref mz, .ref ms, .int (iI hn), .ref mp, .ref mb, .int (iI L), .ref m1, .ref m2, .ref m3, .ref mB, .ref mF, .ref mN, .ref mS, .int (iI sT), .ref mW, .long acc])), (mz, .inl (gI g, 326, .inl (aI (zF n ho h c)))), (mB, .inl (gI g, 512, .inl (aI u_9))), (mF, .inl (gI g, 512, .inl (aI u_10))), (mN, .inl (gI g, 512, .inl (aI u_11))), (mS, .inl (gI g, 864, .inl (aI u_12)))] H := hP
          have hD : va_D A [(qm, .inr (5, [.int (iI 0), .ref mz, .ref ms, .int (iI hn), .ref mp, .ref mb, .int (iI L), .ref m1, .ref m2, .ref m3, .ref mB, .ref mF, .ref mN, .ref mS, .int (iI sT), .ref mW, .long acc])), (mz, .inl (gI g, 326, .inl (aI (zF n ho h c)))), (mB, .inl (gI g, 512, .inl (aI u_9))), (mF, .inl (gI g, 512, .inl (aI u_10))), (mN, .inl (gI g, 512, .inl (aI u_11))), (mS, .inl (gI g, 864, .inl (aI u_12)))] := hD
          refine ln_topv (w := .int (iI (blkV n h c x y z w))) rfl ?_
          have hP : va_P g.1 vwCl [(qm, .inr (5, [.int (iI 0), .ref mz, .ref ms, .int (iI hn), .ref mp, .ref mb, .int (iI L), .ref m1, .ref m2, .ref m3, .ref mB, .ref mF, .ref mN, .ref mS, .int (iI sT), .ref mW, .long acc])), (mz, .inl (gI g, 326, .inl (aI (zF n ho h c)))), (mB, .inl (gI g, 512, .inl (aI u_9))), (mF, .inl (gI g, 512, .inl (aI u_10))), (mN, .inl (gI g, 512, .inl (aI u_11))), (mS, .inl (gI g, 864, .inl (aI u_12)))] _ := hP
          have hD : va_D A [(qm, .inr (5, [.int (iI 0), .ref mz, .ref ms, .int (iI hn), .ref mp, .ref mb, .int (iI L), .ref m1, .ref m2, .ref m3, .ref mB, .ref mF, .ref mN, .ref mS, .int (iI sT), .ref mW, .long acc])), (mz, .inl (gI g, 326, .inl (aI (zF n ho h c)))), (mB, .inl (gI g, 512, .inl (aI u_9))), (mF, .inl (gI g, 512, .inl (aI u_10))), (mN, .inl (gI g, 512, .inl (aI u_11))), (mS, .inl (gI g, 864, .inl (aI u_12)))] := hD
          exact mend_i (S := (Int → Int) × (Int → Int) × (Int → Int) × (Int → Int)) (w' := (fun (u9 : (Int → Int) × (Int → Int) × (Int → Int) × (Int → Int)) => match u9 with | (B2, G2, N2, S2) => [(qm, .inr (5, [.int (iI 0), .ref mz, .ref ms, .int (iI hn), .ref mp, .ref mb, .int (iI L), .ref m1, .ref m2, .ref m3, .ref mB, .ref mF, .ref mN, .ref mS, .int (iI sT), .ref mW, .long acc])), (mz, .inl (gI g, 326, .inl (aI (zF n ho h c)))), (mB, .inl (gI g, 512, .inl (aI B2))), (mF, .inl (gI g, 512, .inl (aI G2))), (mN, .inl (gI g, 512, .inl (aI N2))), (mS, .inl (gI g, 864, .inl (aI S2)))])) (post := (fun (u9 : (Int → Int) × (Int → Int) × (Int → Int) × (Int → Int)) => match u9 with | (B2, G2, N2, S2) => True)) (r := (fun (u9 : (Int → Int) × (Int → Int) × (Int → Int) × (Int → Int)) => match u9 with | (B2, G2, N2, S2) => blkV n h c x y z w)) hx hb hr hlk hS (u_9, u_10, u_11, u_12) hP hD (trivial) (by rfl) (Nat.le_of_ble_eq_true rfl) (Nat.le_of_ble_eq_true rfl) dX5_block_62
        · exfalso; omega
  · exfalso; omega
set_option maxHeartbeats 800000 in
set_option maxRecDepth 100000 in
theorem c_X5_block_x1 (l : Launch) (g : GT) (qm : Nat) (th : Int) (mz : Nat) (ms : Nat) (hn : Int) (mp : Nat) (mb : Nat) (L : Int) (m1 : Nat) (m2 : Nat) (m3 : Nat) (mB : Nat) (mF : Nat) (mN : Nat) (mS : Nat) (sT : Int) (mW : Nat) (acc : Int64) (n : Int) (ho : Int) (h : Int → Int) (c : Int → Int) (x : Int) (y : Int) (z : Int) (w : Int) (hY : YOk n ho h c) (gx : Rg x) (gy : Rg y) (g1 : ¬ okS n x y) : MutI l yX5_block wsX5_block ({ frames := 2, cells := 0, slots := 0, locals := 44 }) 0 0 g [(qm, .inr (5, [.int (iI th), .ref mz, .ref ms, .int (iI hn), .ref mp, .ref mb, .int (iI L), .ref m1, .ref m2, .ref m3, .ref mB, .ref mF, .ref mN, .ref mS, .int (iI sT), .ref mW, .long acc])), (mz, .inl (gI g, 326, .inl (aI (zF n ho h c))))] [.ref qm, .int (iI x), .int (iI y), .int (iI z), .int (iI w)] (S := Unit) (fun _ => True) (fun _ => 0) (fun _ => [(qm, .inr (5, [.int (iI 1), .ref mz, .ref ms, .int (iI hn), .ref mp, .ref mb, .int (iI L), .ref m1, .ref m2, .ref m3, .ref mB, .ref mF, .ref mN, .ref mS, .int (iI sT), .ref mW, .long acc])), (mz, .inl (gI g, 326, .inl (aI (zF n ho h c))))]) := by
  refine mut_of (y := yX5_block) (ws := wsX5_block) (av := [.ref qm, .int (iI x), .int (iI y), .int (iI z), .int (iI w)]) (w := [(qm, .inr (5, [.int (iI th), .ref mz, .ref ms, .int (iI hn), .ref mp, .ref mb, .int (iI L), .ref m1, .ref m2, .ref m3, .ref mB, .ref mF, .ref mN, .ref mS, .int (iI sT), .ref mW, .long acc])), (mz, .inl (gI g, 326, .inl (aI (zF n ho h c))))]) (Qc := fun A => va_Qi (fun x9 (u9 : Unit) => x9 = iI ((fun _ => 0) u9) ∧ (fun _ => True) u9) (fun u9 t9 => MB g ((fun _ => [(qm, .inr (5, [.int (iI 1), .ref mz, .ref ms, .int (iI hn), .ref mp, .ref mb, .int (iI L), .ref m1, .ref m2, .ref m3, .ref mB, .ref mF, .ref mN, .ref mS, .int (iI sT), .ref mW, .long acc])), (mz, .inl (gI g, 326, .inl (aI (zF n ho h c))))]) u9) A t9) A) (cc := cX5_block) (maxL := 5) (ret := (some .int)) (by decide) rfl (Nat.le_of_ble_eq_true rfl) ?_
  intro pZ eZ sZ mZ bZ meZ cZ A F hin hA hP hD hE hS ls hl
  obtain ⟨hx, hb, hr, hml, hts, hown, hlk⟩ := F
  skip
  have hown : sZ.vm.findClass RX5 = some mZ.cls := hown
  have hl : lv_has ls 5 [(0, .ref qm), (1, .int (iI x)), (2, .int (iI y)), (3, .int (iI z)), (4, .int (iI w))] := hl
  skip
  have w0 := hts (.fieldLink RX5 47 "SlantYardModel" "thrown" "I") (by decide +kernel)
  have in5 : ∀ w ∈ u_ws RX5 TX5 17, w ∈ wsX5_block := by decide +kernel
  have hnn := hY.n
  have hho := hY.hr
  refine lv_aload_n hx hb dX5_block_0 rfl (lv_at hl 0 rfl) ?_
  refine lv_aload_n hx hb dX5_block_1 rfl (lv_at hl 0 rfl) ?_
  refine lv_iload_n hx hb dX5_block_2 rfl (lv_at hl 1 rfl) ?_
  refine lv_iload_n hx hb dX5_block_3 rfl (lv_at hl 2 rfl) ?_
  have hPc_1 := hP.sub (ws' := [(qm, .inr (5, [.int (iI th), .ref mz, .ref ms, .int (iI hn), .ref mp, .ref mb, .int (iI L), .ref m1, .ref m2, .ref m3, .ref mB, .ref mF, .ref mN, .ref mS, .int (iI sT), .ref mW, .long acc])), (mz, .inl (gI g, 326, .inl (aI (zF n ho h c))))]) [0, 1] rfl
  refine pc_i (va_runV (As := [.int (iI x), .int (iI y)]) (rest := [.ref qm]) ⟨hx, hb, hml, hown, hts⟩ (c_X5_isSquare l g qm th mz ms hn mp mb L m1 m2 m3 mB mF mN mS sT mW acc n ho h c x y hY gx gy) (cwV 2 hts gX5_block_X5_isSquare rfl rfl rfl (by decide +kernel) ⟨Nat.le_of_ble_eq_true rfl, Nat.le_of_ble_eq_true rfl⟩) (puV hE hS hPc_1 rfl rfl) rfl rfl hl.1 rfl (lv_room (Nat.le_of_ble_eq_true rfl)) dX5_block_4 ⟨Nat.le_of_ble_eq_true rfl, Nat.le_of_ble_eq_true rfl⟩) ?_
  refine lb_if_ne (tgt := 14) hx hb dX5_block_7 (by decide) (fun c_2 => ?_) (fun c_2 => ?_)
  · exact absurd c_2 (g1)
  · skip
    refine lv_iconst (v := iI 1) hx hb dX5_block_10 rfl ?_
    refine lv_goto (tgt := 39) hx hb dX5_block_11 (by decide) ?_
    refine va_put (D := g.1) (ci := 5) (v := .int (iI 1)) (ty := .int) (C := RX5) (T := TX5) (N := 17) hx hb hts in5 tyX5 tyX5_ok nmX5 hown hE.1 hP hD hS 0 rfl rfl 0 (by decide) w0 (fun _ h9 => h9) rfl (by decide +kernel) rfl rfl (Nat.le_of_ble_eq_true rfl) dX5_block_39 (fun H locs hP hD hS => ?_)
    have hP : va_P g.1 vwCl [(qm, .inr (5, [.int (iI 1), .ref mz, .ref ms, .int (iI hn), .ref mp, .ref mb, .int (iI L), .ref m1, .ref m2, .ref m3, .ref mB, .ref mF, .ref mN, .ref mS, .int (iI sT), .ref mW, .long acc])), (mz, .inl (gI g, 326, .inl (aI (zF n ho h c))))] H := hP
    have hD : va_D A [(qm, .inr (5, [.int (iI 1), .ref mz, .ref ms, .int (iI hn), .ref mp, .ref mb, .int (iI L), .ref m1, .ref m2, .ref m3, .ref mB, .ref mF, .ref mN, .ref mS, .int (iI sT), .ref mW, .long acc])), (mz, .inl (gI g, 326, .inl (aI (zF n ho h c))))] := hD
    refine lv_aload_n hx hb dX5_block_42 rfl (lv_at hl 0 rfl) ?_
    refine va_get (D := g.1) (ci := 5) (v := .int (iI 1)) (C := RX5) (T := TX5) (N := 17) hx hb hts in5 hown hE.1 hP 0 rfl rfl 0 (by decide) w0 (fun _ h9 => h9) rfl dX5_block_43 ?_
    refine ln_if_le (tgt := 53) hx hb dX5_block_46 (by decide) (by decide) (fun c_3 => ?_) (fun c_3 => ?_)
    · exfalso; omega
    · skip
      refine lv_iconst (v := iI 0) hx hb dX5_block_49 rfl ?_
      refine lv_goto (tgt := 62) hx hb dX5_block_50 (by decide) ?_
      have hP : va_P g.1 vwCl [(qm, .inr (5, [.int (iI 1), .ref mz, .ref ms, .int (iI hn), .ref mp, .ref mb, .int (iI L), .ref m1, .ref m2, .ref m3, .ref mB, .ref mF, .ref mN, .ref mS, .int (iI sT), .ref mW, .long acc])), (mz, .inl (gI g, 326, .inl (aI (zF n ho h c))))] _ := hP
      have hD : va_D A [(qm, .inr (5, [.int (iI 1), .ref mz, .ref ms, .int (iI hn), .ref mp, .ref mb, .int (iI L), .ref m1, .ref m2, .ref m3, .ref mB, .ref mF, .ref mN, .ref mS, .int (iI sT), .ref mW, .long acc])), (mz, .inl (gI g, 326, .inl (aI (zF n ho h c))))] := hD
      exact mend_i (S := Unit) (w' := (fun _ => [(qm, .inr (5, [.int (iI 1), .ref mz, .ref ms, .int (iI hn), .ref mp, .ref mb, .int (iI L), .ref m1, .ref m2, .ref m3, .ref mB, .ref mF, .ref mN, .ref mS, .int (iI sT), .ref mW, .long acc])), (mz, .inl (gI g, 326, .inl (aI (zF n ho h c))))])) (post := (fun _ => True)) (r := (fun _ => 0)) hx hb hr hlk hS () hP hD (trivial) (by rfl) (Nat.le_of_ble_eq_true rfl) (Nat.le_of_ble_eq_true rfl) dX5_block_62
set_option maxHeartbeats 800000 in
set_option maxRecDepth 100000 in
theorem c_X5_block_x2 (l : Launch) (g : GT) (qm : Nat) (th : Int) (mz : Nat) (ms : Nat) (hn : Int) (mp : Nat) (mb : Nat) (L : Int) (m1 : Nat) (m2 : Nat) (m3 : Nat) (mB : Nat) (mF : Nat) (mN : Nat) (mS : Nat) (sT : Int) (mW : Nat) (acc : Int64) (n : Int) (ho : Int) (h : Int → Int) (c : Int → Int) (x : Int) (y : Int) (z : Int) (w : Int) (hY : YOk n ho h c) (h1 : 0 ≤ x) (h2 : x < n) (h3 : 0 ≤ y) (h4 : y < n) (gz : Rg z) (gw : Rg w) (g1 : (z < 0 ∨ 7 < z) ∨ w < 0 ∨ 4 < w) : MutI l yX5_block wsX5_block ({ frames := 2, cells := 0, slots := 0, locals := 44 }) 0 0 g [(qm, .inr (5, [.int (iI th), .ref mz, .ref ms, .int (iI hn), .ref mp, .ref mb, .int (iI L), .ref m1, .ref m2, .ref m3, .ref mB, .ref mF, .ref mN, .ref mS, .int (iI sT), .ref mW, .long acc])), (mz, .inl (gI g, 326, .inl (aI (zF n ho h c))))] [.ref qm, .int (iI x), .int (iI y), .int (iI z), .int (iI w)] (S := Unit) (fun _ => True) (fun _ => 0) (fun _ => [(qm, .inr (5, [.int (iI 2), .ref mz, .ref ms, .int (iI hn), .ref mp, .ref mb, .int (iI L), .ref m1, .ref m2, .ref m3, .ref mB, .ref mF, .ref mN, .ref mS, .int (iI sT), .ref mW, .long acc])), (mz, .inl (gI g, 326, .inl (aI (zF n ho h c))))]) := by
  refine mut_of (y := yX5_block) (ws := wsX5_block) (av := [.ref qm, .int (iI x), .int (iI y), .int (iI z), .int (iI w)]) (w := [(qm, .inr (5, [.int (iI th), .ref mz, .ref ms, .int (iI hn), .ref mp, .ref mb, .int (iI L), .ref m1, .ref m2, .ref m3, .ref mB, .ref mF, .ref mN, .ref mS, .int (iI sT), .ref mW, .long acc])), (mz, .inl (gI g, 326, .inl (aI (zF n ho h c))))]) (Qc := fun A => va_Qi (fun x9 (u9 : Unit) => x9 = iI ((fun _ => 0) u9) ∧ (fun _ => True) u9) (fun u9 t9 => MB g ((fun _ => [(qm, .inr (5, [.int (iI 2), .ref mz, .ref ms, .int (iI hn), .ref mp, .ref mb, .int (iI L), .ref m1, .ref m2, .ref m3, .ref mB, .ref mF, .ref mN, .ref mS, .int (iI sT), .ref mW, .long acc])), (mz, .inl (gI g, 326, .inl (aI (zF n ho h c))))]) u9) A t9) A) (cc := cX5_block) (maxL := 5) (ret := (some .int)) (by decide) rfl (Nat.le_of_ble_eq_true rfl) ?_
  intro pZ eZ sZ mZ bZ meZ cZ A F hin hA hP hD hE hS ls hl
  obtain ⟨hx, hb, hr, hml, hts, hown, hlk⟩ := F
  skip
  have hown : sZ.vm.findClass RX5 = some mZ.cls := hown
  have hl : lv_has ls 5 [(0, .ref qm), (1, .int (iI x)), (2, .int (iI y)), (3, .int (iI z)), (4, .int (iI w))] := hl
  skip
  have w0 := hts (.fieldLink RX5 47 "SlantYardModel" "thrown" "I") (by decide +kernel)
  have in5 : ∀ w ∈ u_ws RX5 TX5 17, w ∈ wsX5_block := by decide +kernel
  have hnn := hY.n
  have hho := hY.hr
  refine lv_aload_n hx hb dX5_block_0 rfl (lv_at hl 0 rfl) ?_
  refine lv_aload_n hx hb dX5_block_1 rfl (lv_at hl 0 rfl) ?_
  refine lv_iload_n hx hb dX5_block_2 rfl (lv_at hl 1 rfl) ?_
  refine lv_iload_n hx hb dX5_block_3 rfl (lv_at hl 2 rfl) ?_
  have hPc_1 := hP.sub (ws' := [(qm, .inr (5, [.int (iI th), .ref mz, .ref ms, .int (iI hn), .ref mp, .ref mb, .int (iI L), .ref m1, .ref m2, .ref m3, .ref mB, .ref mF, .ref mN, .ref mS, .int (iI sT), .ref mW, .long acc])), (mz, .inl (gI g, 326, .inl (aI (zF n ho h c))))]) [0, 1] rfl
  refine pc_i (va_runV (As := [.int (iI x), .int (iI y)]) (rest := [.ref qm]) ⟨hx, hb, hml, hown, hts⟩ (c_X5_isSquare l g qm th mz ms hn mp mb L m1 m2 m3 mB mF mN mS sT mW acc n ho h c x y hY (by omega) (by omega)) (cwV 2 hts gX5_block_X5_isSquare rfl rfl rfl (by decide +kernel) ⟨Nat.le_of_ble_eq_true rfl, Nat.le_of_ble_eq_true rfl⟩) (puV hE hS hPc_1 rfl rfl) rfl rfl hl.1 rfl (lv_room (Nat.le_of_ble_eq_true rfl)) dX5_block_4 ⟨Nat.le_of_ble_eq_true rfl, Nat.le_of_ble_eq_true rfl⟩) ?_
  refine lb_if_ne (tgt := 14) hx hb dX5_block_7 (by decide) (fun c_2 => ?_) (fun c_2 => ?_)
  · skip
    refine lv_iload_n hx hb dX5_block_14 rfl (lv_at hl 3 rfl) ?_
    refine lv_iconst (v := iI 0) hx hb dX5_block_15 rfl ?_
    refine lv_bipush (v := iI 7) hx hb dX5_block_16 (by decide) ?_
    refine pc_i (va_runS (As := [.int (iI z), .int (iI 0), .int (iI 7)]) (rest := [.ref qm]) ⟨hx, hb, hml, hown, hts⟩ (c_X5_in l g z 0 7 gz (by omega) (by omega)) (va_cwS 3 hts gX5_block_X5_in rfl rfl rfl (by decide +kernel) ⟨Nat.le_of_ble_eq_true rfl, Nat.le_of_ble_eq_true rfl⟩) (puS hE hS (va_P_nil g.1 _)) rfl rfl hl.1 rfl (lv_room (Nat.le_of_ble_eq_true rfl)) dX5_block_18 ⟨Nat.le_of_ble_eq_true rfl, Nat.le_of_ble_eq_true rfl⟩) ?_
    refine lb_if_eq (tgt := 38) hx hb dX5_block_21 (by decide) (fun c_3 => ?_) (fun c_3 => ?_)
    · skip
      refine lv_iconst (v := iI 2) hx hb dX5_block_38 rfl ?_
      refine va_put (D := g.1) (ci := 5) (v := .int (iI 2)) (ty := .int) (C := RX5) (T := TX5) (N := 17) hx hb hts in5 tyX5 tyX5_ok nmX5 hown hE.1 hP hD hS 0 rfl rfl 0 (by decide) w0 (fun _ h9 => h9) rfl (by decide +kernel) rfl rfl (Nat.le_of_ble_eq_true rfl) dX5_block_39 (fun H locs hP hD hS => ?_)
      have hP : va_P g.1 vwCl [(qm, .inr (5, [.int (iI 2), .ref mz, .ref ms, .int (iI hn), .ref mp, .ref mb, .int (iI L), .ref m1, .ref m2, .ref m3, .ref mB, .ref mF, .ref mN, .ref mS, .int (iI sT), .ref mW, .long acc])), (mz, .inl (gI g, 326, .inl (aI (zF n ho h c))))] H := hP
      have hD : va_D A [(qm, .inr (5, [.int (iI 2), .ref mz, .ref ms, .int (iI hn), .ref mp, .ref mb, .int (iI L), .ref m1, .ref m2, .ref m3, .ref mB, .ref mF, .ref mN, .ref mS, .int (iI sT), .ref mW, .long acc])), (mz, .inl (gI g, 326, .inl (aI (zF n ho h c))))] := hD
      refine lv_aload_n hx hb dX5_block_42 rfl (lv_at hl 0 rfl) ?_
      refine va_get (D := g.1) (ci := 5) (v := .int (iI 2)) (C := RX5) (T := TX5) (N := 17) hx hb hts in5 hown hE.1 hP 0 rfl rfl 0 (by decide) w0 (fun _ h9 => h9) rfl dX5_block_43 ?_
      refine ln_if_le (tgt := 53) hx hb dX5_block_46 (by decide) (by decide) (fun c_4 => ?_) (fun c_4 => ?_)
      · exfalso; omega
      · skip
        refine lv_iconst (v := iI 0) hx hb dX5_block_49 rfl ?_
        refine lv_goto (tgt := 62) hx hb dX5_block_50 (by decide) ?_
        have hP : va_P g.1 vwCl [(qm, .inr (5, [.int (iI 2), .ref mz, .ref ms, .int (iI hn), .ref mp, .ref mb, .int (iI L), .ref m1, .ref m2, .ref m3, .ref mB, .ref mF, .ref mN, .ref mS, .int (iI sT), .ref mW, .long acc])), (mz, .inl (gI g, 326, .inl (aI (zF n ho h c))))] _ := hP
        have hD : va_D A [(qm, .inr (5, [.int (iI 2), .ref mz, .ref ms, .int (iI hn), .ref mp, .ref mb, .int (iI L), .ref m1, .ref m2, .ref m3, .ref mB, .ref mF, .ref mN, .ref mS, .int (iI sT), .ref mW, .long acc])), (mz, .inl (gI g, 326, .inl (aI (zF n ho h c))))] := hD
        exact mend_i (S := Unit) (w' := (fun _ => [(qm, .inr (5, [.int (iI 2), .ref mz, .ref ms, .int (iI hn), .ref mp, .ref mb, .int (iI L), .ref m1, .ref m2, .ref m3, .ref mB, .ref mF, .ref mN, .ref mS, .int (iI sT), .ref mW, .long acc])), (mz, .inl (gI g, 326, .inl (aI (zF n ho h c))))])) (post := (fun _ => True)) (r := (fun _ => 0)) hx hb hr hlk hS () hP hD (trivial) (by rfl) (Nat.le_of_ble_eq_true rfl) (Nat.le_of_ble_eq_true rfl) dX5_block_62
    · skip
      refine lv_iload hx hb dX5_block_24 (lv_at hl 4 rfl) ?_
      refine lv_iconst (v := iI 0) hx hb dX5_block_26 rfl ?_
      refine lv_iconst (v := iI 4) hx hb dX5_block_27 rfl ?_
      refine pc_i (va_runS (As := [.int (iI w), .int (iI 0), .int (iI 4)]) (rest := [.ref qm]) ⟨hx, hb, hml, hown, hts⟩ (c_X5_in l g w 0 4 gw (by omega) (by omega)) (va_cwS 3 hts gX5_block_X5_in rfl rfl rfl (by decide +kernel) ⟨Nat.le_of_ble_eq_true rfl, Nat.le_of_ble_eq_true rfl⟩) (puS hE hS (va_P_nil g.1 _)) rfl rfl hl.1 rfl (lv_room (Nat.le_of_ble_eq_true rfl)) dX5_block_28 ⟨Nat.le_of_ble_eq_true rfl, Nat.le_of_ble_eq_true rfl⟩) ?_
      refine lb_if_eq (tgt := 38) hx hb dX5_block_31 (by decide) (fun c_5 => ?_) (fun c_5 => ?_)
      · skip
        refine lv_iconst (v := iI 2) hx hb dX5_block_38 rfl ?_
        refine va_put (D := g.1) (ci := 5) (v := .int (iI 2)) (ty := .int) (C := RX5) (T := TX5) (N := 17) hx hb hts in5 tyX5 tyX5_ok nmX5 hown hE.1 hP hD hS 0 rfl rfl 0 (by decide) w0 (fun _ h9 => h9) rfl (by decide +kernel) rfl rfl (Nat.le_of_ble_eq_true rfl) dX5_block_39 (fun H locs hP hD hS => ?_)
        have hP : va_P g.1 vwCl [(qm, .inr (5, [.int (iI 2), .ref mz, .ref ms, .int (iI hn), .ref mp, .ref mb, .int (iI L), .ref m1, .ref m2, .ref m3, .ref mB, .ref mF, .ref mN, .ref mS, .int (iI sT), .ref mW, .long acc])), (mz, .inl (gI g, 326, .inl (aI (zF n ho h c))))] H := hP
        have hD : va_D A [(qm, .inr (5, [.int (iI 2), .ref mz, .ref ms, .int (iI hn), .ref mp, .ref mb, .int (iI L), .ref m1, .ref m2, .ref m3, .ref mB, .ref mF, .ref mN, .ref mS, .int (iI sT), .ref mW, .long acc])), (mz, .inl (gI g, 326, .inl (aI (zF n ho h c))))] := hD
        refine lv_aload_n hx hb dX5_block_42 rfl (lv_at hl 0 rfl) ?_
        refine va_get (D := g.1) (ci := 5) (v := .int (iI 2)) (C := RX5) (T := TX5) (N := 17) hx hb hts in5 hown hE.1 hP 0 rfl rfl 0 (by decide) w0 (fun _ h9 => h9) rfl dX5_block_43 ?_
        refine ln_if_le (tgt := 53) hx hb dX5_block_46 (by decide) (by decide) (fun c_6 => ?_) (fun c_6 => ?_)
        · exfalso; omega
        · skip
          refine lv_iconst (v := iI 0) hx hb dX5_block_49 rfl ?_
          refine lv_goto (tgt := 62) hx hb dX5_block_50 (by decide) ?_
          have hP : va_P g.1 vwCl [(qm, .inr (5, [.int (iI 2), .ref mz, .ref ms, .int (iI hn), .ref mp, .ref mb, .int (iI L), .ref m1, .ref m2, .ref m3, .ref mB, .ref mF, .ref mN, .ref mS, .int (iI sT), .ref mW, .long acc])), (mz, .inl (gI g, 326, .inl (aI (zF n ho h c))))] _ := hP
          have hD : va_D A [(qm, .inr (5, [.int (iI 2), .ref mz, .ref ms, .int (iI hn), .ref mp, .ref mb, .int (iI L), .ref m1, .ref m2, .ref m3, .ref mB, .ref mF, .ref mN, .ref mS, .int (iI sT), .ref mW, .long acc])), (mz, .inl (gI g, 326, .inl (aI (zF n ho h c))))] := hD
          exact mend_i (S := Unit) (w' := (fun _ => [(qm, .inr (5, [.int (iI 2), .ref mz, .ref ms, .int (iI hn), .ref mp, .ref mb, .int (iI L), .ref m1, .ref m2, .ref m3, .ref mB, .ref mF, .ref mN, .ref mS, .int (iI sT), .ref mW, .long acc])), (mz, .inl (gI g, 326, .inl (aI (zF n ho h c))))])) (post := (fun _ => True)) (r := (fun _ => 0)) hx hb hr hlk hS () hP hD (trivial) (by rfl) (Nat.le_of_ble_eq_true rfl) (Nat.le_of_ble_eq_true rfl) dX5_block_62
      · exfalso; omega
  · exfalso; omega
set_option maxHeartbeats 800000 in
set_option maxRecDepth 100000 in
theorem c_X5_picture_ok (l : Launch) (g : GT) (qm : Nat) (th : Int) (mz : Nat) (ms : Nat) (hn : Int) (mp : Nat) (mb : Nat) (L : Int) (m1 : Nat) (m2 : Nat) (m3 : Nat) (mB : Nat) (mF : Nat) (mN : Nat) (mS : Nat) (sT : Int) (mW : Nat) (acc : Int64) (n : Int) (ho : Int) (h : Int → Int) (c : Int → Int) (B0 : Int → Int) (G : Int → Int) (N : Int → Int) (S0 : Int → Int) (i : Int) (j : Int) (t : Int) (w : Int) (hY : YOk n ho h c) (gi : -9 ≤ i ∧ i ≤ 6) (gj : -9 ≤ j ∧ j ≤ 6) (gt : 0 ≤ t ∧ t ≤ 1) (gw : 0 ≤ w ∧ w ≤ 4) : MutI l yX5_picture wsX5_picture ({ frames := 5, cells := 0, slots := 0, locals := 121 }) 0 0 g [(qm, .inr (5, [.int (iI th), .ref mz, .ref ms, .int (iI hn), .ref mp, .ref mb, .int (iI L), .ref m1, .ref m2, .ref m3, .ref mB, .ref mF, .ref mN, .ref mS, .int (iI sT), .ref mW, .long acc])), (mz, .inl (gI g, 326, .inl (aI (zF n ho h c)))), (mB, .inl (gI g, 512, .inl (aI B0))), (mF, .inl (gI g, 512, .inl (aI G))), (mN, .inl (gI g, 512, .inl (aI N))), (mS, .inl (gI g, 864, .inl (aI S0)))] [.ref qm, .int (iI i), .int (iI j), .int (iI t), .int (iI w)] (S := (Int → Int) × (Int → Int) × (Int → Int) × (Int → Int)) (fun (u9 : (Int → Int) × (Int → Int) × (Int → Int) × (Int → Int)) => match u9 with | (B2, G2, N2, S2) => True) (fun (u9 : (Int → Int) × (Int → Int) × (Int → Int) × (Int → Int)) => match u9 with | (B2, G2, N2, S2) => picV n h c i j t w) (fun (u9 : (Int → Int) × (Int → Int) × (Int → Int) × (Int → Int)) => match u9 with | (B2, G2, N2, S2) => [(qm, .inr (5, [.int (iI 0), .ref mz, .ref ms, .int (iI hn), .ref mp, .ref mb, .int (iI L), .ref m1, .ref m2, .ref m3, .ref mB, .ref mF, .ref mN, .ref mS, .int (iI sT), .ref mW, .long acc])), (mz, .inl (gI g, 326, .inl (aI (zF n ho h c)))), (mB, .inl (gI g, 512, .inl (aI B2))), (mF, .inl (gI g, 512, .inl (aI G2))), (mN, .inl (gI g, 512, .inl (aI N2))), (mS, .inl (gI g, 864, .inl (aI S2)))]) := by
  refine mut_of (y := yX5_picture) (ws := wsX5_picture) (av := [.ref qm, .int (iI i), .int (iI j), .int (iI t), .int (iI w)]) (w := [(qm, .inr (5, [.int (iI th), .ref mz, .ref ms, .int (iI hn), .ref mp, .ref mb, .int (iI L), .ref m1, .ref m2, .ref m3, .ref mB, .ref mF, .ref mN, .ref mS, .int (iI sT), .ref mW, .long acc])), (mz, .inl (gI g, 326, .inl (aI (zF n ho h c)))), (mB, .inl (gI g, 512, .inl (aI B0))), (mF, .inl (gI g, 512, .inl (aI G))), (mN, .inl (gI g, 512, .inl (aI N))), (mS, .inl (gI g, 864, .inl (aI S0)))]) (Qc := fun A => va_Qi (fun x9 (u9 : (Int → Int) × (Int → Int) × (Int → Int) × (Int → Int)) => x9 = iI ((fun (u9 : (Int → Int) × (Int → Int) × (Int → Int) × (Int → Int)) => match u9 with | (B2, G2, N2, S2) => picV n h c i j t w) u9) ∧ (fun (u9 : (Int → Int) × (Int → Int) × (Int → Int) × (Int → Int)) => match u9 with | (B2, G2, N2, S2) => True) u9) (fun u9 t9 => MB g ((fun (u9 : (Int → Int) × (Int → Int) × (Int → Int) × (Int → Int)) => match u9 with | (B2, G2, N2, S2) => [(qm, .inr (5, [.int (iI 0), .ref mz, .ref ms, .int (iI hn), .ref mp, .ref mb, .int (iI L), .ref m1, .ref m2, .ref m3, .ref mB, .ref mF, .ref mN, .ref mS, .int (iI sT), .ref mW, .long acc])), (mz, .inl (gI g, 326, .inl (aI (zF n ho h c)))), (mB, .inl (gI g, 512, .inl (aI B2))), (mF, .inl (gI g, 512, .inl (aI G2))), (mN, .inl (gI g, 512, .inl (aI N2))), (mS, .inl (gI g, 864, .inl (aI S2)))]) u9) A t9) A) (cc := cX5_picture) (maxL := 6) (ret := (some .int)) (by decide) rfl (Nat.le_of_ble_eq_true rfl) ?_
  intro pZ eZ sZ mZ bZ meZ cZ A F hin hA hP hD hE hS ls hl
  obtain ⟨hx, hb, hr, hml, hts, hown, hlk⟩ := F
  skip
  have hown : sZ.vm.findClass RX5 = some mZ.cls := hown
  have hl : lv_has ls 6 [(0, .ref qm), (1, .int (iI i)), (2, .int (iI j)), (3, .int (iI t)), (4, .int (iI w))] := hl
  skip
  have w0 := hts (.fieldLink RX5 47 "SlantYardModel" "thrown" "I") (by decide +kernel)
  have in5 : ∀ w ∈ u_ws RX5 TX5 17, w ∈ wsX5_picture := by decide +kernel
  have hnn := hY.n
  have hho := hY.hr
  have hM9 : MOk (picM n h) := picM_ok hY
  have hI9 : MIn n h (picM n h) := picM_in hY
  refine lv_iload_n hx hb dX5_picture_0 rfl (lv_at hl 1 rfl) ?_
  refine lv_bipush (v := iI (-9)) hx hb dX5_picture_1 (by decide) ?_
  refine lv_bipush (v := iI 6) hx hb dX5_picture_3 (by decide) ?_
  refine pc_i (va_runS (As := [.int (iI i), .int (iI (-9)), .int (iI 6)]) (rest := []) ⟨hx, hb, hml, hown, hts⟩ (c_X5_in l g i (-9) 6 (by omega) (by omega) (by omega)) (va_cwS 3 hts gX5_picture_X5_in rfl rfl rfl (by decide +kernel) ⟨Nat.le_of_ble_eq_true rfl, Nat.le_of_ble_eq_true rfl⟩) (puS hE hS (va_P_nil g.1 _)) rfl rfl hl.1 rfl (lv_room (Nat.le_of_ble_eq_true rfl)) dX5_picture_5 ⟨Nat.le_of_ble_eq_true rfl, Nat.le_of_ble_eq_true rfl⟩) ?_
  refine lb_if_eq (tgt := 45) hx hb dX5_picture_8 (by decide) (fun c_1 => ?_) (fun c_1 => ?_)
  · exfalso; omega
  · skip
    refine lv_iload_n hx hb dX5_picture_11 rfl (lv_at hl 2 rfl) ?_
    refine lv_bipush (v := iI (-9)) hx hb dX5_picture_12 (by decide) ?_
    refine lv_bipush (v := iI 6) hx hb dX5_picture_14 (by decide) ?_
    refine pc_i (va_runS (As := [.int (iI j), .int (iI (-9)), .int (iI 6)]) (rest := []) ⟨hx, hb, hml, hown, hts⟩ (c_X5_in l g j (-9) 6 (by omega) (by omega) (by omega)) (va_cwS 3 hts gX5_picture_X5_in rfl rfl rfl (by decide +kernel) ⟨Nat.le_of_ble_eq_true rfl, Nat.le_of_ble_eq_true rfl⟩) (puS hE hS (va_P_nil g.1 _)) rfl rfl hl.1 rfl (lv_room (Nat.le_of_ble_eq_true rfl)) dX5_picture_16 ⟨Nat.le_of_ble_eq_true rfl, Nat.le_of_ble_eq_true rfl⟩) ?_
    refine lb_if_eq (tgt := 45) hx hb dX5_picture_19 (by decide) (fun c_2 => ?_) (fun c_2 => ?_)
    · exfalso; omega
    · skip
      refine lv_iload_n hx hb dX5_picture_22 rfl (lv_at hl 3 rfl) ?_
      refine lv_iconst (v := iI 0) hx hb dX5_picture_23 rfl ?_
      refine lv_iconst (v := iI 1) hx hb dX5_picture_24 rfl ?_
      refine pc_i (va_runS (As := [.int (iI t), .int (iI 0), .int (iI 1)]) (rest := []) ⟨hx, hb, hml, hown, hts⟩ (c_X5_in l g t 0 1 (by omega) (by omega) (by omega)) (va_cwS 3 hts gX5_picture_X5_in rfl rfl rfl (by decide +kernel) ⟨Nat.le_of_ble_eq_true rfl, Nat.le_of_ble_eq_true rfl⟩) (puS hE hS (va_P_nil g.1 _)) rfl rfl hl.1 rfl (lv_room (Nat.le_of_ble_eq_true rfl)) dX5_picture_25 ⟨Nat.le_of_ble_eq_true rfl, Nat.le_of_ble_eq_true rfl⟩) ?_
      refine lb_if_eq (tgt := 45) hx hb dX5_picture_28 (by decide) (fun c_3 => ?_) (fun c_3 => ?_)
      · exfalso; omega
      · skip
        refine lv_iload hx hb dX5_picture_31 (lv_at hl 4 rfl) ?_
        refine lv_iconst (v := iI 0) hx hb dX5_picture_33 rfl ?_
        refine lv_iconst (v := iI 4) hx hb dX5_picture_34 rfl ?_
        refine pc_i (va_runS (As := [.int (iI w), .int (iI 0), .int (iI 4)]) (rest := []) ⟨hx, hb, hml, hown, hts⟩ (c_X5_in l g w 0 4 (by omega) (by omega) (by omega)) (va_cwS 3 hts gX5_picture_X5_in rfl rfl rfl (by decide +kernel) ⟨Nat.le_of_ble_eq_true rfl, Nat.le_of_ble_eq_true rfl⟩) (puS hE hS (va_P_nil g.1 _)) rfl rfl hl.1 rfl (lv_room (Nat.le_of_ble_eq_true rfl)) dX5_picture_35 ⟨Nat.le_of_ble_eq_true rfl, Nat.le_of_ble_eq_true rfl⟩) ?_
        refine lb_if_eq (tgt := 45) hx hb dX5_picture_38 (by decide) (fun c_4 => ?_) (fun c_4 => ?_)
        · exfalso; omega
        · skip
          refine lv_iconst (v := iI 1) hx hb dX5_picture_41 rfl ?_
          refine lv_goto (tgt := 46) hx hb dX5_picture_42 (by decide) ?_
          refine lv_istore (lv' := [(5, .int (iI 1)), (0, .ref qm), (1, .int (iI i)), (2, .int (iI j)), (3, .int (iI t)), (4, .int (iI w))]) hx hb dX5_picture_46 hl (by decide) rfl (fun ls hl => ?_)
          refine lv_aload_n hx hb dX5_picture_48 rfl (lv_at hl 1 rfl) ?_
          refine lv_iload hx hb dX5_picture_49 (lv_at hl 0 rfl) ?_
          refine ln_if_eq (tgt := 58) hx hb dX5_picture_51 (by decide) (by decide) (fun c_5 => ?_) (fun c_5 => ?_)
          · exfalso; omega
          · skip
            refine lv_iconst (v := iI 0) hx hb dX5_picture_54 rfl ?_
            refine lv_goto (tgt := 59) hx hb dX5_picture_55 (by decide) ?_
            refine va_put (D := g.1) (ci := 5) (v := .int (iI 0)) (ty := .int) (C := RX5) (T := TX5) (N := 17) hx hb hts in5 tyX5 tyX5_ok nmX5 hown hE.1 hP hD hS 0 rfl rfl 0 (by decide) w0 (fun _ h9 => h9) rfl (by decide +kernel) rfl rfl (Nat.le_of_ble_eq_true rfl) dX5_picture_59 (fun H locs hP hD hS => ?_)
            have hP : va_P g.1 vwCl [(qm, .inr (5, [.int (iI 0), .ref mz, .ref ms, .int (iI hn), .ref mp, .ref mb, .int (iI L), .ref m1, .ref m2, .ref m3, .ref mB, .ref mF, .ref mN, .ref mS, .int (iI sT), .ref mW, .long acc])), (mz, .inl (gI g, 326, .inl (aI (zF n ho h c)))), (mB, .inl (gI g, 512, .inl (aI B0))), (mF, .inl (gI g, 512, .inl (aI G))), (mN, .inl (gI g, 512, .inl (aI N))), (mS, .inl (gI g, 864, .inl (aI S0)))] H := hP
            have hD : va_D A [(qm, .inr (5, [.int (iI 0), .ref mz, .ref ms, .int (iI hn), .ref mp, .ref mb, .int (iI L), .ref m1, .ref m2, .ref m3, .ref mB, .ref mF, .ref mN, .ref mS, .int (iI sT), .ref mW, .long acc])), (mz, .inl (gI g, 326, .inl (aI (zF n ho h c)))), (mB, .inl (gI g, 512, .inl (aI B0))), (mF, .inl (gI g, 512, .inl (aI G))), (mN, .inl (gI g, 512, .inl (aI N))), (mS, .inl (gI g, 864, .inl (aI S0)))] := hD
            refine lv_aload_n hx hb dX5_picture_62 rfl (lv_at hl 1 rfl) ?_
            refine va_get (D := g.1) (ci := 5) (v := .int (iI 0)) (C := RX5) (T := TX5) (N := 17) hx hb hts in5 hown hE.1 hP 0 rfl rfl 0 (by decide) w0 (fun _ h9 => h9) rfl dX5_picture_63 ?_
            refine ln_if_le (tgt := 73) hx hb dX5_picture_66 (by decide) (by decide) (fun c_6 => ?_) (fun c_6 => ?_)
            · skip
              refine lv_aload_n hx hb dX5_picture_73 rfl (lv_at hl 1 rfl) ?_
              refine lv_iload_n hx hb dX5_picture_74 rfl (lv_at hl 2 rfl) ?_
              refine lv_iload_n hx hb dX5_picture_75 rfl (lv_at hl 3 rfl) ?_
              refine lv_iload_n hx hb dX5_picture_76 rfl (lv_at hl 4 rfl) ?_
              refine pc_i (va_runS (As := [.int (iI i), .int (iI j), .int (iI t)]) (rest := [.ref qm]) ⟨hx, hb, hml, hown, hts⟩ (c_X5_triangleAt l g i j t) (va_cwS 3 hts gX5_picture_X5_triangleAt rfl rfl rfl (by decide +kernel) ⟨Nat.le_of_ble_eq_true rfl, Nat.le_of_ble_eq_true rfl⟩) (puS hE hS (va_P_nil g.1 _)) rfl rfl hl.1 rfl (lv_room (Nat.le_of_ble_eq_true rfl)) dX5_picture_77 ⟨Nat.le_of_ble_eq_true rfl, Nat.le_of_ble_eq_true rfl⟩) ?_
              refine lv_iload hx hb dX5_picture_80 (lv_at hl 5 rfl) ?_
              have hPc_7 := hP.sub (ws' := [(qm, .inr (5, [.int (iI 0), .ref mz, .ref ms, .int (iI hn), .ref mp, .ref mb, .int (iI L), .ref m1, .ref m2, .ref m3, .ref mB, .ref mF, .ref mN, .ref mS, .int (iI sT), .ref mW, .long acc])), (mz, .inl (gI g, 326, .inl (aI (zF n ho h c)))), (mB, .inl (gI g, 512, .inl (aI B0))), (mF, .inl (gI g, 512, .inl (aI G))), (mN, .inl (gI g, 512, .inl (aI N))), (mS, .inl (gI g, 864, .inl (aI S0)))]) [0, 1, 2, 3, 4, 5] rfl
              have hDc_8 := hD.sub (ws' := [(qm, .inr (5, [.int (iI 0), .ref mz, .ref ms, .int (iI hn), .ref mp, .ref mb, .int (iI L), .ref m1, .ref m2, .ref m3, .ref mB, .ref mF, .ref mN, .ref mS, .int (iI sT), .ref mW, .long acc])), (mz, .inl (gI g, 326, .inl (aI (zF n ho h c)))), (mB, .inl (gI g, 512, .inl (aI B0))), (mF, .inl (gI g, 512, .inl (aI G))), (mN, .inl (gI g, 512, .inl (aI N))), (mS, .inl (gI g, 864, .inl (aI S0)))]) [0, 1, 2, 3, 4, 5] (by decide) rfl
              have hFc_9 := va_free (wc := [(qm, .inr (5, [.int (iI 0), .ref mz, .ref ms, .int (iI hn), .ref mp, .ref mb, .int (iI L), .ref m1, .ref m2, .ref m3, .ref mB, .ref mF, .ref mN, .ref mS, .int (iI sT), .ref mW, .long acc])), (mz, .inl (gI g, 326, .inl (aI (zF n ho h c)))), (mB, .inl (gI g, 512, .inl (aI B0))), (mF, .inl (gI g, 512, .inl (aI G))), (mN, .inl (gI g, 512, .inl (aI N))), (mS, .inl (gI g, 864, .inl (aI S0)))]) hD hS hA [0, 1, 2, 3, 4, 5] rfl
              refine mc_i (wr := []) (cells1 := 0) (slots1 := 0) (va_runV (As := [.int (iI (2 * (16 * (i + 9) + j + 9) + t)), .int (iI w)]) (rest := []) ⟨hx, hb, hml, hown, hts⟩ (c_X5_triangleNow l g qm 0 mz ms hn mp mb L m1 m2 m3 mB mF mN mS sT mW acc n ho h c B0 G N S0 (2 * (16 * (i + 9) + j + 9) + t) w hY (by omega) gw H.size) (cwV 2 hts gX5_picture_X5_triangleNow rfl rfl rfl (by decide +kernel) ⟨Nat.le_of_ble_eq_true rfl, Nat.le_of_ble_eq_true rfl⟩) (muV hE hS hPc_7 hDc_8 hFc_9 rfl rfl) rfl rfl hl.1 rfl (lv_room (Nat.le_of_ble_eq_true rfl)) dX5_picture_82 ⟨Nat.le_of_ble_eq_true rfl, Nat.le_of_ble_eq_true rfl⟩) hP hD hS hA [0, 1, 2, 3, 4, 5] [] [0, 1, 2, 3, 4, 5] rfl rfl (by decide) (by decide) (fun (u9 : (Int → Int) × (Int → Int) × (Int → Int) × (Int → Int)) => match u9 with | (u_10, u_11, u_12, u_13) => [(qm, .inr (5, [.int (iI 0), .ref mz, .ref ms, .int (iI hn), .ref mp, .ref mb, .int (iI L), .ref m1, .ref m2, .ref m3, .ref mB, .ref mF, .ref mN, .ref mS, .int (iI sT), .ref mW, .long acc])), (mz, .inl (gI g, 326, .inl (aI (zF n ho h c)))), (mB, .inl (gI g, 512, .inl (aI u_10))), (mF, .inl (gI g, 512, .inl (aI u_11))), (mN, .inl (gI g, 512, .inl (aI u_12))), (mS, .inl (gI g, 864, .inl (aI u_13)))]) (fun _ => rfl) (by decide) (Nat.le_of_ble_eq_true rfl) (Nat.le_of_ble_eq_true rfl) (fun u9 H locs hu_14 hP hD hS => ?_)
              obtain ⟨u_10, u_11, u_12, u_13⟩ := u9
              have hP : va_P g.1 vwCl [(qm, .inr (5, [.int (iI 0), .ref mz, .ref ms, .int (iI hn), .ref mp, .ref mb, .int (iI L), .ref m1, .ref m2, .ref m3, .ref mB, .ref mF, .ref mN, .ref mS, .int (iI sT), .ref mW, .long acc])), (mz, .inl (gI g, 326, .inl (aI (zF n ho h c)))), (mB, .inl (gI g, 512, .inl (aI u_10))), (mF, .inl (gI g, 512, .inl (aI u_11))), (mN, .inl (gI g, 512, .inl (aI u_12))), (mS, .inl (gI g, 864, .inl (aI u_13)))] H := hP
              have hD : va_D A [(qm, .inr (5, [.int (iI 0), .ref mz, .ref ms, .int (iI hn), .ref mp, .ref mb, .int (iI L), .ref m1, .ref m2, .ref m3, .ref mB, .ref mF, .ref mN, .ref mS, .int (iI sT), .ref mW, .long acc])), (mz, .inl (gI g, 326, .inl (aI (zF n ho h c)))), (mB, .inl (gI g, 512, .inl (aI u_10))), (mF, .inl (gI g, 512, .inl (aI u_11))), (mN, .inl (gI g, 512, .inl (aI u_12))), (mS, .inl (gI g, 864, .inl (aI u_13)))] := hD
              refine ln_topv (w := .int (iI (picW c (faceF (picM n h) (2 * (16 * (i + 9) + j + 9) + t)) w))) rfl ?_
              have hP : va_P g.1 vwCl [(qm, .inr (5, [.int (iI 0), .ref mz, .ref ms, .int (iI hn), .ref mp, .ref mb, .int (iI L), .ref m1, .ref m2, .ref m3, .ref mB, .ref mF, .ref mN, .ref mS, .int (iI sT), .ref mW, .long acc])), (mz, .inl (gI g, 326, .inl (aI (zF n ho h c)))), (mB, .inl (gI g, 512, .inl (aI u_10))), (mF, .inl (gI g, 512, .inl (aI u_11))), (mN, .inl (gI g, 512, .inl (aI u_12))), (mS, .inl (gI g, 864, .inl (aI u_13)))] _ := hP
              have hD : va_D A [(qm, .inr (5, [.int (iI 0), .ref mz, .ref ms, .int (iI hn), .ref mp, .ref mb, .int (iI L), .ref m1, .ref m2, .ref m3, .ref mB, .ref mF, .ref mN, .ref mS, .int (iI sT), .ref mW, .long acc])), (mz, .inl (gI g, 326, .inl (aI (zF n ho h c)))), (mB, .inl (gI g, 512, .inl (aI u_10))), (mF, .inl (gI g, 512, .inl (aI u_11))), (mN, .inl (gI g, 512, .inl (aI u_12))), (mS, .inl (gI g, 864, .inl (aI u_13)))] := hD
              exact mend_i (S := (Int → Int) × (Int → Int) × (Int → Int) × (Int → Int)) (w' := (fun (u9 : (Int → Int) × (Int → Int) × (Int → Int) × (Int → Int)) => match u9 with | (B2, G2, N2, S2) => [(qm, .inr (5, [.int (iI 0), .ref mz, .ref ms, .int (iI hn), .ref mp, .ref mb, .int (iI L), .ref m1, .ref m2, .ref m3, .ref mB, .ref mF, .ref mN, .ref mS, .int (iI sT), .ref mW, .long acc])), (mz, .inl (gI g, 326, .inl (aI (zF n ho h c)))), (mB, .inl (gI g, 512, .inl (aI B2))), (mF, .inl (gI g, 512, .inl (aI G2))), (mN, .inl (gI g, 512, .inl (aI N2))), (mS, .inl (gI g, 864, .inl (aI S2)))])) (post := (fun (u9 : (Int → Int) × (Int → Int) × (Int → Int) × (Int → Int)) => match u9 with | (B2, G2, N2, S2) => True)) (r := (fun (u9 : (Int → Int) × (Int → Int) × (Int → Int) × (Int → Int)) => match u9 with | (B2, G2, N2, S2) => picV n h c i j t w)) hx hb hr hlk hS (u_10, u_11, u_12, u_13) hP hD (trivial) (by (show _ = picV n h c i j t w; unfold picV triN; rw [show ((i + 9) * 16 + j + 9) * 2 + t = 2 * (16 * (i + 9) + j + 9) + t by omega])) (Nat.le_of_ble_eq_true rfl) (Nat.le_of_ble_eq_true rfl) dX5_picture_85
            · exfalso; omega
set_option maxHeartbeats 800000 in
set_option maxRecDepth 100000 in
theorem c_X5_picture_x (l : Launch) (g : GT) (qm : Nat) (th : Int) (mz : Nat) (ms : Nat) (hn : Int) (mp : Nat) (mb : Nat) (L : Int) (m1 : Nat) (m2 : Nat) (m3 : Nat) (mB : Nat) (mF : Nat) (mN : Nat) (mS : Nat) (sT : Int) (mW : Nat) (acc : Int64) (i : Int) (j : Int) (t : Int) (w : Int) (ri : Rg i) (rj : Rg j) (rt : Rg t) (rw : Rg w) (g1 : (i < -9 ∨ 6 < i) ∨ (j < -9 ∨ 6 < j) ∨ (t < 0 ∨ 1 < t) ∨ (w < 0 ∨ 4 < w)) : MutI l yX5_picture wsX5_picture ({ frames := 1, cells := 0, slots := 0, locals := 22 }) 0 0 g [(qm, .inr (5, [.int (iI th), .ref mz, .ref ms, .int (iI hn), .ref mp, .ref mb, .int (iI L), .ref m1, .ref m2, .ref m3, .ref mB, .ref mF, .ref mN, .ref mS, .int (iI sT), .ref mW, .long acc]))] [.ref qm, .int (iI i), .int (iI j), .int (iI t), .int (iI w)] (S := Unit) (fun _ => True) (fun _ => 0) (fun _ => [(qm, .inr (5, [.int (iI 1), .ref mz, .ref ms, .int (iI hn), .ref mp, .ref mb, .int (iI L), .ref m1, .ref m2, .ref m3, .ref mB, .ref mF, .ref mN, .ref mS, .int (iI sT), .ref mW, .long acc]))]) := by
  refine mut_of (y := yX5_picture) (ws := wsX5_picture) (av := [.ref qm, .int (iI i), .int (iI j), .int (iI t), .int (iI w)]) (w := [(qm, .inr (5, [.int (iI th), .ref mz, .ref ms, .int (iI hn), .ref mp, .ref mb, .int (iI L), .ref m1, .ref m2, .ref m3, .ref mB, .ref mF, .ref mN, .ref mS, .int (iI sT), .ref mW, .long acc]))]) (Qc := fun A => va_Qi (fun x9 (u9 : Unit) => x9 = iI ((fun _ => 0) u9) ∧ (fun _ => True) u9) (fun u9 t9 => MB g ((fun _ => [(qm, .inr (5, [.int (iI 1), .ref mz, .ref ms, .int (iI hn), .ref mp, .ref mb, .int (iI L), .ref m1, .ref m2, .ref m3, .ref mB, .ref mF, .ref mN, .ref mS, .int (iI sT), .ref mW, .long acc]))]) u9) A t9) A) (cc := cX5_picture) (maxL := 6) (ret := (some .int)) (by decide) rfl (Nat.le_of_ble_eq_true rfl) ?_
  intro pZ eZ sZ mZ bZ meZ cZ A F hin hA hP hD hE hS ls hl
  obtain ⟨hx, hb, hr, hml, hts, hown, hlk⟩ := F
  skip
  have hown : sZ.vm.findClass RX5 = some mZ.cls := hown
  have hl : lv_has ls 6 [(0, .ref qm), (1, .int (iI i)), (2, .int (iI j)), (3, .int (iI t)), (4, .int (iI w))] := hl
  skip
  have w0 := hts (.fieldLink RX5 47 "SlantYardModel" "thrown" "I") (by decide +kernel)
  have in5 : ∀ w ∈ u_ws RX5 TX5 17, w ∈ wsX5_picture := by decide +kernel
  refine lv_iload_n hx hb dX5_picture_0 rfl (lv_at hl 1 rfl) ?_
  refine lv_bipush (v := iI (-9)) hx hb dX5_picture_1 (by decide) ?_
  refine lv_bipush (v := iI 6) hx hb dX5_picture_3 (by decide) ?_
  refine pc_i (va_runS (As := [.int (iI i), .int (iI (-9)), .int (iI 6)]) (rest := []) ⟨hx, hb, hml, hown, hts⟩ (c_X5_in l g i (-9) 6 ri (by omega) (by omega)) (va_cwS 3 hts gX5_picture_X5_in rfl rfl rfl (by decide +kernel) ⟨Nat.le_of_ble_eq_true rfl, Nat.le_of_ble_eq_true rfl⟩) (puS hE hS (va_P_nil g.1 _)) rfl rfl hl.1 rfl (lv_room (Nat.le_of_ble_eq_true rfl)) dX5_picture_5 ⟨Nat.le_of_ble_eq_true rfl, Nat.le_of_ble_eq_true rfl⟩) ?_
  refine lb_if_eq (tgt := 45) hx hb dX5_picture_8 (by decide) (fun c_1 => ?_) (fun c_1 => ?_)
  · skip
    refine lv_iconst (v := iI 0) hx hb dX5_picture_45 rfl ?_
    refine lv_istore (lv' := [(5, .int (iI 0)), (0, .ref qm), (1, .int (iI i)), (2, .int (iI j)), (3, .int (iI t)), (4, .int (iI w))]) hx hb dX5_picture_46 hl (by decide) rfl (fun ls hl => ?_)
    refine lv_aload_n hx hb dX5_picture_48 rfl (lv_at hl 1 rfl) ?_
    refine lv_iload hx hb dX5_picture_49 (lv_at hl 0 rfl) ?_
    refine ln_if_eq (tgt := 58) hx hb dX5_picture_51 (by decide) (by decide) (fun c_2 => ?_) (fun c_2 => ?_)
    · skip
      refine lv_iconst (v := iI 1) hx hb dX5_picture_58 rfl ?_
      refine va_put (D := g.1) (ci := 5) (v := .int (iI 1)) (ty := .int) (C := RX5) (T := TX5) (N := 17) hx hb hts in5 tyX5 tyX5_ok nmX5 hown hE.1 hP hD hS 0 rfl rfl 0 (by decide) w0 (fun _ h9 => h9) rfl (by decide +kernel) rfl rfl (Nat.le_of_ble_eq_true rfl) dX5_picture_59 (fun H locs hP hD hS => ?_)
      have hP : va_P g.1 vwCl [(qm, .inr (5, [.int (iI 1), .ref mz, .ref ms, .int (iI hn), .ref mp, .ref mb, .int (iI L), .ref m1, .ref m2, .ref m3, .ref mB, .ref mF, .ref mN, .ref mS, .int (iI sT), .ref mW, .long acc]))] H := hP
      have hD : va_D A [(qm, .inr (5, [.int (iI 1), .ref mz, .ref ms, .int (iI hn), .ref mp, .ref mb, .int (iI L), .ref m1, .ref m2, .ref m3, .ref mB, .ref mF, .ref mN, .ref mS, .int (iI sT), .ref mW, .long acc]))] := hD
      refine lv_aload_n hx hb dX5_picture_62 rfl (lv_at hl 1 rfl) ?_
      refine va_get (D := g.1) (ci := 5) (v := .int (iI 1)) (C := RX5) (T := TX5) (N := 17) hx hb hts in5 hown hE.1 hP 0 rfl rfl 0 (by decide) w0 (fun _ h9 => h9) rfl dX5_picture_63 ?_
      refine ln_if_le (tgt := 73) hx hb dX5_picture_66 (by decide) (by decide) (fun c_3 => ?_) (fun c_3 => ?_)
      · exfalso; omega
      · skip
        refine lv_iconst (v := iI 0) hx hb dX5_picture_69 rfl ?_
        refine lv_goto (tgt := 85) hx hb dX5_picture_70 (by decide) ?_
        have hP : va_P g.1 vwCl [(qm, .inr (5, [.int (iI 1), .ref mz, .ref ms, .int (iI hn), .ref mp, .ref mb, .int (iI L), .ref m1, .ref m2, .ref m3, .ref mB, .ref mF, .ref mN, .ref mS, .int (iI sT), .ref mW, .long acc]))] _ := hP
        have hD : va_D A [(qm, .inr (5, [.int (iI 1), .ref mz, .ref ms, .int (iI hn), .ref mp, .ref mb, .int (iI L), .ref m1, .ref m2, .ref m3, .ref mB, .ref mF, .ref mN, .ref mS, .int (iI sT), .ref mW, .long acc]))] := hD
        exact mend_i (S := Unit) (w' := (fun _ => [(qm, .inr (5, [.int (iI 1), .ref mz, .ref ms, .int (iI hn), .ref mp, .ref mb, .int (iI L), .ref m1, .ref m2, .ref m3, .ref mB, .ref mF, .ref mN, .ref mS, .int (iI sT), .ref mW, .long acc]))])) (post := (fun _ => True)) (r := (fun _ => 0)) hx hb hr hlk hS () hP hD (trivial) (by rfl) (Nat.le_of_ble_eq_true rfl) (Nat.le_of_ble_eq_true rfl) dX5_picture_85
    · exfalso; omega
  · skip
    refine lv_iload_n hx hb dX5_picture_11 rfl (lv_at hl 2 rfl) ?_
    refine lv_bipush (v := iI (-9)) hx hb dX5_picture_12 (by decide) ?_
    refine lv_bipush (v := iI 6) hx hb dX5_picture_14 (by decide) ?_
    refine pc_i (va_runS (As := [.int (iI j), .int (iI (-9)), .int (iI 6)]) (rest := []) ⟨hx, hb, hml, hown, hts⟩ (c_X5_in l g j (-9) 6 rj (by omega) (by omega)) (va_cwS 3 hts gX5_picture_X5_in rfl rfl rfl (by decide +kernel) ⟨Nat.le_of_ble_eq_true rfl, Nat.le_of_ble_eq_true rfl⟩) (puS hE hS (va_P_nil g.1 _)) rfl rfl hl.1 rfl (lv_room (Nat.le_of_ble_eq_true rfl)) dX5_picture_16 ⟨Nat.le_of_ble_eq_true rfl, Nat.le_of_ble_eq_true rfl⟩) ?_
    refine lb_if_eq (tgt := 45) hx hb dX5_picture_19 (by decide) (fun c_4 => ?_) (fun c_4 => ?_)
    · skip
      refine lv_iconst (v := iI 0) hx hb dX5_picture_45 rfl ?_
      refine lv_istore (lv' := [(5, .int (iI 0)), (0, .ref qm), (1, .int (iI i)), (2, .int (iI j)), (3, .int (iI t)), (4, .int (iI w))]) hx hb dX5_picture_46 hl (by decide) rfl (fun ls hl => ?_)
      refine lv_aload_n hx hb dX5_picture_48 rfl (lv_at hl 1 rfl) ?_
      refine lv_iload hx hb dX5_picture_49 (lv_at hl 0 rfl) ?_
      refine ln_if_eq (tgt := 58) hx hb dX5_picture_51 (by decide) (by decide) (fun c_5 => ?_) (fun c_5 => ?_)
      · skip
        refine lv_iconst (v := iI 1) hx hb dX5_picture_58 rfl ?_
        refine va_put (D := g.1) (ci := 5) (v := .int (iI 1)) (ty := .int) (C := RX5) (T := TX5) (N := 17) hx hb hts in5 tyX5 tyX5_ok nmX5 hown hE.1 hP hD hS 0 rfl rfl 0 (by decide) w0 (fun _ h9 => h9) rfl (by decide +kernel) rfl rfl (Nat.le_of_ble_eq_true rfl) dX5_picture_59 (fun H locs hP hD hS => ?_)
        have hP : va_P g.1 vwCl [(qm, .inr (5, [.int (iI 1), .ref mz, .ref ms, .int (iI hn), .ref mp, .ref mb, .int (iI L), .ref m1, .ref m2, .ref m3, .ref mB, .ref mF, .ref mN, .ref mS, .int (iI sT), .ref mW, .long acc]))] H := hP
        have hD : va_D A [(qm, .inr (5, [.int (iI 1), .ref mz, .ref ms, .int (iI hn), .ref mp, .ref mb, .int (iI L), .ref m1, .ref m2, .ref m3, .ref mB, .ref mF, .ref mN, .ref mS, .int (iI sT), .ref mW, .long acc]))] := hD
        refine lv_aload_n hx hb dX5_picture_62 rfl (lv_at hl 1 rfl) ?_
        refine va_get (D := g.1) (ci := 5) (v := .int (iI 1)) (C := RX5) (T := TX5) (N := 17) hx hb hts in5 hown hE.1 hP 0 rfl rfl 0 (by decide) w0 (fun _ h9 => h9) rfl dX5_picture_63 ?_
        refine ln_if_le (tgt := 73) hx hb dX5_picture_66 (by decide) (by decide) (fun c_6 => ?_) (fun c_6 => ?_)
        · exfalso; omega
        · skip
          refine lv_iconst (v := iI 0) hx hb dX5_picture_69 rfl ?_
          refine lv_goto (tgt := 85) hx hb dX5_picture_70 (by decide) ?_
          have hP : va_P g.1 vwCl [(qm, .inr (5, [.int (iI 1), .ref mz, .ref ms, .int (iI hn), .ref mp, .ref mb, .int (iI L), .ref m1, .ref m2, .ref m3, .ref mB, .ref mF, .ref mN, .ref mS, .int (iI sT), .ref mW, .long acc]))] _ := hP
          have hD : va_D A [(qm, .inr (5, [.int (iI 1), .ref mz, .ref ms, .int (iI hn), .ref mp, .ref mb, .int (iI L), .ref m1, .ref m2, .ref m3, .ref mB, .ref mF, .ref mN, .ref mS, .int (iI sT), .ref mW, .long acc]))] := hD
          exact mend_i (S := Unit) (w' := (fun _ => [(qm, .inr (5, [.int (iI 1), .ref mz, .ref ms, .int (iI hn), .ref mp, .ref mb, .int (iI L), .ref m1, .ref m2, .ref m3, .ref mB, .ref mF, .ref mN, .ref mS, .int (iI sT), .ref mW, .long acc]))])) (post := (fun _ => True)) (r := (fun _ => 0)) hx hb hr hlk hS () hP hD (trivial) (by rfl) (Nat.le_of_ble_eq_true rfl) (Nat.le_of_ble_eq_true rfl) dX5_picture_85
      · exfalso; omega
    · skip
      refine lv_iload_n hx hb dX5_picture_22 rfl (lv_at hl 3 rfl) ?_
      refine lv_iconst (v := iI 0) hx hb dX5_picture_23 rfl ?_
      refine lv_iconst (v := iI 1) hx hb dX5_picture_24 rfl ?_
      refine pc_i (va_runS (As := [.int (iI t), .int (iI 0), .int (iI 1)]) (rest := []) ⟨hx, hb, hml, hown, hts⟩ (c_X5_in l g t 0 1 rt (by omega) (by omega)) (va_cwS 3 hts gX5_picture_X5_in rfl rfl rfl (by decide +kernel) ⟨Nat.le_of_ble_eq_true rfl, Nat.le_of_ble_eq_true rfl⟩) (puS hE hS (va_P_nil g.1 _)) rfl rfl hl.1 rfl (lv_room (Nat.le_of_ble_eq_true rfl)) dX5_picture_25 ⟨Nat.le_of_ble_eq_true rfl, Nat.le_of_ble_eq_true rfl⟩) ?_
      refine lb_if_eq (tgt := 45) hx hb dX5_picture_28 (by decide) (fun c_7 => ?_) (fun c_7 => ?_)
      · skip
        refine lv_iconst (v := iI 0) hx hb dX5_picture_45 rfl ?_
        refine lv_istore (lv' := [(5, .int (iI 0)), (0, .ref qm), (1, .int (iI i)), (2, .int (iI j)), (3, .int (iI t)), (4, .int (iI w))]) hx hb dX5_picture_46 hl (by decide) rfl (fun ls hl => ?_)
        refine lv_aload_n hx hb dX5_picture_48 rfl (lv_at hl 1 rfl) ?_
        refine lv_iload hx hb dX5_picture_49 (lv_at hl 0 rfl) ?_
        refine ln_if_eq (tgt := 58) hx hb dX5_picture_51 (by decide) (by decide) (fun c_8 => ?_) (fun c_8 => ?_)
        · skip
          refine lv_iconst (v := iI 1) hx hb dX5_picture_58 rfl ?_
          refine va_put (D := g.1) (ci := 5) (v := .int (iI 1)) (ty := .int) (C := RX5) (T := TX5) (N := 17) hx hb hts in5 tyX5 tyX5_ok nmX5 hown hE.1 hP hD hS 0 rfl rfl 0 (by decide) w0 (fun _ h9 => h9) rfl (by decide +kernel) rfl rfl (Nat.le_of_ble_eq_true rfl) dX5_picture_59 (fun H locs hP hD hS => ?_)
          have hP : va_P g.1 vwCl [(qm, .inr (5, [.int (iI 1), .ref mz, .ref ms, .int (iI hn), .ref mp, .ref mb, .int (iI L), .ref m1, .ref m2, .ref m3, .ref mB, .ref mF, .ref mN, .ref mS, .int (iI sT), .ref mW, .long acc]))] H := hP
          have hD : va_D A [(qm, .inr (5, [.int (iI 1), .ref mz, .ref ms, .int (iI hn), .ref mp, .ref mb, .int (iI L), .ref m1, .ref m2, .ref m3, .ref mB, .ref mF, .ref mN, .ref mS, .int (iI sT), .ref mW, .long acc]))] := hD
          refine lv_aload_n hx hb dX5_picture_62 rfl (lv_at hl 1 rfl) ?_
          refine va_get (D := g.1) (ci := 5) (v := .int (iI 1)) (C := RX5) (T := TX5) (N := 17) hx hb hts in5 hown hE.1 hP 0 rfl rfl 0 (by decide) w0 (fun _ h9 => h9) rfl dX5_picture_63 ?_
          refine ln_if_le (tgt := 73) hx hb dX5_picture_66 (by decide) (by decide) (fun c_9 => ?_) (fun c_9 => ?_)
          · exfalso; omega
          · skip
            refine lv_iconst (v := iI 0) hx hb dX5_picture_69 rfl ?_
            refine lv_goto (tgt := 85) hx hb dX5_picture_70 (by decide) ?_
            have hP : va_P g.1 vwCl [(qm, .inr (5, [.int (iI 1), .ref mz, .ref ms, .int (iI hn), .ref mp, .ref mb, .int (iI L), .ref m1, .ref m2, .ref m3, .ref mB, .ref mF, .ref mN, .ref mS, .int (iI sT), .ref mW, .long acc]))] _ := hP
            have hD : va_D A [(qm, .inr (5, [.int (iI 1), .ref mz, .ref ms, .int (iI hn), .ref mp, .ref mb, .int (iI L), .ref m1, .ref m2, .ref m3, .ref mB, .ref mF, .ref mN, .ref mS, .int (iI sT), .ref mW, .long acc]))] := hD
            exact mend_i (S := Unit) (w' := (fun _ => [(qm, .inr (5, [.int (iI 1), .ref mz, .ref ms, .int (iI hn), .ref mp, .ref mb, .int (iI L), .ref m1, .ref m2, .ref m3, .ref mB, .ref mF, .ref mN, .ref mS, .int (iI sT), .ref mW, .long acc]))])) (post := (fun _ => True)) (r := (fun _ => 0)) hx hb hr hlk hS () hP hD (trivial) (by rfl) (Nat.le_of_ble_eq_true rfl) (Nat.le_of_ble_eq_true rfl) dX5_picture_85
        · exfalso; omega
      · skip
        refine lv_iload hx hb dX5_picture_31 (lv_at hl 4 rfl) ?_
        refine lv_iconst (v := iI 0) hx hb dX5_picture_33 rfl ?_
        refine lv_iconst (v := iI 4) hx hb dX5_picture_34 rfl ?_
        refine pc_i (va_runS (As := [.int (iI w), .int (iI 0), .int (iI 4)]) (rest := []) ⟨hx, hb, hml, hown, hts⟩ (c_X5_in l g w 0 4 rw (by omega) (by omega)) (va_cwS 3 hts gX5_picture_X5_in rfl rfl rfl (by decide +kernel) ⟨Nat.le_of_ble_eq_true rfl, Nat.le_of_ble_eq_true rfl⟩) (puS hE hS (va_P_nil g.1 _)) rfl rfl hl.1 rfl (lv_room (Nat.le_of_ble_eq_true rfl)) dX5_picture_35 ⟨Nat.le_of_ble_eq_true rfl, Nat.le_of_ble_eq_true rfl⟩) ?_
        refine lb_if_eq (tgt := 45) hx hb dX5_picture_38 (by decide) (fun c_10 => ?_) (fun c_10 => ?_)
        · skip
          refine lv_iconst (v := iI 0) hx hb dX5_picture_45 rfl ?_
          refine lv_istore (lv' := [(5, .int (iI 0)), (0, .ref qm), (1, .int (iI i)), (2, .int (iI j)), (3, .int (iI t)), (4, .int (iI w))]) hx hb dX5_picture_46 hl (by decide) rfl (fun ls hl => ?_)
          refine lv_aload_n hx hb dX5_picture_48 rfl (lv_at hl 1 rfl) ?_
          refine lv_iload hx hb dX5_picture_49 (lv_at hl 0 rfl) ?_
          refine ln_if_eq (tgt := 58) hx hb dX5_picture_51 (by decide) (by decide) (fun c_11 => ?_) (fun c_11 => ?_)
          · skip
            refine lv_iconst (v := iI 1) hx hb dX5_picture_58 rfl ?_
            refine va_put (D := g.1) (ci := 5) (v := .int (iI 1)) (ty := .int) (C := RX5) (T := TX5) (N := 17) hx hb hts in5 tyX5 tyX5_ok nmX5 hown hE.1 hP hD hS 0 rfl rfl 0 (by decide) w0 (fun _ h9 => h9) rfl (by decide +kernel) rfl rfl (Nat.le_of_ble_eq_true rfl) dX5_picture_59 (fun H locs hP hD hS => ?_)
            have hP : va_P g.1 vwCl [(qm, .inr (5, [.int (iI 1), .ref mz, .ref ms, .int (iI hn), .ref mp, .ref mb, .int (iI L), .ref m1, .ref m2, .ref m3, .ref mB, .ref mF, .ref mN, .ref mS, .int (iI sT), .ref mW, .long acc]))] H := hP
            have hD : va_D A [(qm, .inr (5, [.int (iI 1), .ref mz, .ref ms, .int (iI hn), .ref mp, .ref mb, .int (iI L), .ref m1, .ref m2, .ref m3, .ref mB, .ref mF, .ref mN, .ref mS, .int (iI sT), .ref mW, .long acc]))] := hD
            refine lv_aload_n hx hb dX5_picture_62 rfl (lv_at hl 1 rfl) ?_
            refine va_get (D := g.1) (ci := 5) (v := .int (iI 1)) (C := RX5) (T := TX5) (N := 17) hx hb hts in5 hown hE.1 hP 0 rfl rfl 0 (by decide) w0 (fun _ h9 => h9) rfl dX5_picture_63 ?_
            refine ln_if_le (tgt := 73) hx hb dX5_picture_66 (by decide) (by decide) (fun c_12 => ?_) (fun c_12 => ?_)
            · exfalso; omega
            · skip
              refine lv_iconst (v := iI 0) hx hb dX5_picture_69 rfl ?_
              refine lv_goto (tgt := 85) hx hb dX5_picture_70 (by decide) ?_
              have hP : va_P g.1 vwCl [(qm, .inr (5, [.int (iI 1), .ref mz, .ref ms, .int (iI hn), .ref mp, .ref mb, .int (iI L), .ref m1, .ref m2, .ref m3, .ref mB, .ref mF, .ref mN, .ref mS, .int (iI sT), .ref mW, .long acc]))] _ := hP
              have hD : va_D A [(qm, .inr (5, [.int (iI 1), .ref mz, .ref ms, .int (iI hn), .ref mp, .ref mb, .int (iI L), .ref m1, .ref m2, .ref m3, .ref mB, .ref mF, .ref mN, .ref mS, .int (iI sT), .ref mW, .long acc]))] := hD
              exact mend_i (S := Unit) (w' := (fun _ => [(qm, .inr (5, [.int (iI 1), .ref mz, .ref ms, .int (iI hn), .ref mp, .ref mb, .int (iI L), .ref m1, .ref m2, .ref m3, .ref mB, .ref mF, .ref mN, .ref mS, .int (iI sT), .ref mW, .long acc]))])) (post := (fun _ => True)) (r := (fun _ => 0)) hx hb hr hlk hS () hP hD (trivial) (by rfl) (Nat.le_of_ble_eq_true rfl) (Nat.le_of_ble_eq_true rfl) dX5_picture_85
          · exfalso; omega
        · exfalso; omega
set_option maxHeartbeats 800000 in
set_option maxRecDepth 100000 in
theorem c_X5_elevation_ok (l : Launch) (g : GT) (qm : Nat) (th : Int) (mz : Nat) (ms : Nat) (hn : Int) (mp : Nat) (mb : Nat) (L : Int) (m1 : Nat) (m2 : Nat) (m3 : Nat) (mB : Nat) (mF : Nat) (mN : Nat) (mS : Nat) (sT : Int) (mW : Nat) (acc : Int64) (n : Int) (ho : Int) (h : Int → Int) (c : Int → Int) (sd : Int) (ax : Int) (w : Int) (hY : YOk n ho h c) (gs : sd = 0 ∨ sd = 1) (ga : 0 ≤ ax) (gb : ax < n) (gw : 0 ≤ w ∧ w ≤ 2) : MutI l yX5_elevation wsX5_elevation ({ frames := 4, cells := 0, slots := 0, locals := 96 }) 0 0 g [(qm, .inr (5, [.int (iI th), .ref mz, .ref ms, .int (iI hn), .ref mp, .ref mb, .int (iI L), .ref m1, .ref m2, .ref m3, .ref mB, .ref mF, .ref mN, .ref mS, .int (iI sT), .ref mW, .long acc])), (mz, .inl (gI g, 326, .inl (aI (zF n ho h c))))] [.ref qm, .int (iI sd), .int (iI ax), .int (iI w)] (S := Unit) (fun _ => True) (fun _ => elvV n h sd ax w) (fun _ => [(qm, .inr (5, [.int (iI 0), .ref mz, .ref ms, .int (iI hn), .ref mp, .ref mb, .int (iI L), .ref m1, .ref m2, .ref m3, .ref mB, .ref mF, .ref mN, .ref mS, .int (iI sT), .ref mW, .long acc])), (mz, .inl (gI g, 326, .inl (aI (zF n ho h c))))]) := by
  refine mut_of (y := yX5_elevation) (ws := wsX5_elevation) (av := [.ref qm, .int (iI sd), .int (iI ax), .int (iI w)]) (w := [(qm, .inr (5, [.int (iI th), .ref mz, .ref ms, .int (iI hn), .ref mp, .ref mb, .int (iI L), .ref m1, .ref m2, .ref m3, .ref mB, .ref mF, .ref mN, .ref mS, .int (iI sT), .ref mW, .long acc])), (mz, .inl (gI g, 326, .inl (aI (zF n ho h c))))]) (Qc := fun A => va_Qi (fun x9 (u9 : Unit) => x9 = iI ((fun _ => elvV n h sd ax w) u9) ∧ (fun _ => True) u9) (fun u9 t9 => MB g ((fun _ => [(qm, .inr (5, [.int (iI 0), .ref mz, .ref ms, .int (iI hn), .ref mp, .ref mb, .int (iI L), .ref m1, .ref m2, .ref m3, .ref mB, .ref mF, .ref mN, .ref mS, .int (iI sT), .ref mW, .long acc])), (mz, .inl (gI g, 326, .inl (aI (zF n ho h c))))]) u9) A t9) A) (cc := cX5_elevation) (maxL := 4) (ret := (some .int)) (by decide) rfl (Nat.le_of_ble_eq_true rfl) ?_
  intro pZ eZ sZ mZ bZ meZ cZ A F hin hA hP hD hE hS ls hl
  obtain ⟨hx, hb, hr, hml, hts, hown, hlk⟩ := F
  skip
  have hown : sZ.vm.findClass RX5 = some mZ.cls := hown
  have hl : lv_has ls 4 [(0, .ref qm), (1, .int (iI sd)), (2, .int (iI ax)), (3, .int (iI w))] := hl
  skip
  have w0 := hts (.fieldLink RX5 7 "SlantYardModel" "z" "[I") (by decide +kernel)
  have w1 := hts (.fieldLink RX5 47 "SlantYardModel" "thrown" "I") (by decide +kernel)
  have in5 : ∀ w ∈ u_ws RX5 TX5 17, w ∈ wsX5_elevation := by decide +kernel
  have hnn := hY.n
  have hho := hY.hr
  refine lv_aload_n hx hb dX5_elevation_0 rfl (lv_at hl 0 rfl) ?_
  refine lv_iload_n hx hb dX5_elevation_1 rfl (lv_at hl 2 rfl) ?_
  refine lv_iconst (v := iI 0) hx hb dX5_elevation_2 rfl ?_
  refine lv_aload_n hx hb dX5_elevation_3 rfl (lv_at hl 0 rfl) ?_
  refine va_get (D := g.1) (ci := 5) (v := .ref mz) (C := RX5) (T := TX5) (N := 17) hx hb hts in5 hown hE.1 hP 0 rfl rfl 1 (by decide) w0 (fun _ h9 => h9) rfl dX5_elevation_4 ?_
  refine lv_iconst (v := iI 0) hx hb dX5_elevation_7 rfl ?_
  refine ln_iald hx hb hE hP 1 rfl (by decide) (by decide) (Nat.le_of_ble_eq_true rfl) n (rfl) dX5_elevation_8 ?_
  refine lv_iconst (v := iI 1) hx hb dX5_elevation_9 rfl ?_
  refine ln_isub hx hb (n - 1) (rfl) dX5_elevation_10 ?_
  refine pc_i (va_runS (As := [.int (iI ax), .int (iI 0), .int (iI (n - 1))]) (rest := [.ref qm]) ⟨hx, hb, hml, hown, hts⟩ (c_X5_in l g ax 0 (n - 1) (by omega) (by omega) (by omega)) (va_cwS 3 hts gX5_elevation_X5_in rfl rfl rfl (by decide +kernel) ⟨Nat.le_of_ble_eq_true rfl, Nat.le_of_ble_eq_true rfl⟩) (puS hE hS (va_P_nil g.1 _)) rfl rfl hl.1 rfl (lv_room (Nat.le_of_ble_eq_true rfl)) dX5_elevation_11 ⟨Nat.le_of_ble_eq_true rfl, Nat.le_of_ble_eq_true rfl⟩) ?_
  refine lb_if_ne (tgt := 21) hx hb dX5_elevation_14 (by decide) (fun c_1 => ?_) (fun c_1 => ?_)
  · skip
    refine lv_iload_n hx hb dX5_elevation_21 rfl (lv_at hl 1 rfl) ?_
    refine lv_iconst (v := iI 0) hx hb dX5_elevation_22 rfl ?_
    refine lv_iconst (v := iI 1) hx hb dX5_elevation_23 rfl ?_
    refine pc_i (va_runS (As := [.int (iI sd), .int (iI 0), .int (iI 1)]) (rest := [.ref qm]) ⟨hx, hb, hml, hown, hts⟩ (c_X5_in l g sd 0 1 (by omega) (by omega) (by omega)) (va_cwS 3 hts gX5_elevation_X5_in rfl rfl rfl (by decide +kernel) ⟨Nat.le_of_ble_eq_true rfl, Nat.le_of_ble_eq_true rfl⟩) (puS hE hS (va_P_nil g.1 _)) rfl rfl hl.1 rfl (lv_room (Nat.le_of_ble_eq_true rfl)) dX5_elevation_24 ⟨Nat.le_of_ble_eq_true rfl, Nat.le_of_ble_eq_true rfl⟩) ?_
    refine lb_if_eq (tgt := 43) hx hb dX5_elevation_27 (by decide) (fun c_2 => ?_) (fun c_2 => ?_)
    · exfalso; omega
    · skip
      refine lv_iload_n hx hb dX5_elevation_30 rfl (lv_at hl 3 rfl) ?_
      refine lv_iconst (v := iI 0) hx hb dX5_elevation_31 rfl ?_
      refine lv_iconst (v := iI 2) hx hb dX5_elevation_32 rfl ?_
      refine pc_i (va_runS (As := [.int (iI w), .int (iI 0), .int (iI 2)]) (rest := [.ref qm]) ⟨hx, hb, hml, hown, hts⟩ (c_X5_in l g w 0 2 (by omega) (by omega) (by omega)) (va_cwS 3 hts gX5_elevation_X5_in rfl rfl rfl (by decide +kernel) ⟨Nat.le_of_ble_eq_true rfl, Nat.le_of_ble_eq_true rfl⟩) (puS hE hS (va_P_nil g.1 _)) rfl rfl hl.1 rfl (lv_room (Nat.le_of_ble_eq_true rfl)) dX5_elevation_33 ⟨Nat.le_of_ble_eq_true rfl, Nat.le_of_ble_eq_true rfl⟩) ?_
      refine lb_if_eq (tgt := 43) hx hb dX5_elevation_36 (by decide) (fun c_3 => ?_) (fun c_3 => ?_)
      · exfalso; omega
      · skip
        refine lv_iconst (v := iI 0) hx hb dX5_elevation_39 rfl ?_
        refine lv_goto (tgt := 44) hx hb dX5_elevation_40 (by decide) ?_
        refine va_put (D := g.1) (ci := 5) (v := .int (iI 0)) (ty := .int) (C := RX5) (T := TX5) (N := 17) hx hb hts in5 tyX5 tyX5_ok nmX5 hown hE.1 hP hD hS 0 rfl rfl 0 (by decide) w1 (fun _ h9 => h9) rfl (by decide +kernel) rfl rfl (Nat.le_of_ble_eq_true rfl) dX5_elevation_44 (fun H locs hP hD hS => ?_)
        have hP : va_P g.1 vwCl [(qm, .inr (5, [.int (iI 0), .ref mz, .ref ms, .int (iI hn), .ref mp, .ref mb, .int (iI L), .ref m1, .ref m2, .ref m3, .ref mB, .ref mF, .ref mN, .ref mS, .int (iI sT), .ref mW, .long acc])), (mz, .inl (gI g, 326, .inl (aI (zF n ho h c))))] H := hP
        have hD : va_D A [(qm, .inr (5, [.int (iI 0), .ref mz, .ref ms, .int (iI hn), .ref mp, .ref mb, .int (iI L), .ref m1, .ref m2, .ref m3, .ref mB, .ref mF, .ref mN, .ref mS, .int (iI sT), .ref mW, .long acc])), (mz, .inl (gI g, 326, .inl (aI (zF n ho h c))))] := hD
        refine lv_aload_n hx hb dX5_elevation_47 rfl (lv_at hl 0 rfl) ?_
        refine va_get (D := g.1) (ci := 5) (v := .int (iI 0)) (C := RX5) (T := TX5) (N := 17) hx hb hts in5 hown hE.1 hP 0 rfl rfl 0 (by decide) w1 (fun _ h9 => h9) rfl dX5_elevation_48 ?_
        refine ln_if_le (tgt := 58) hx hb dX5_elevation_51 (by decide) (by decide) (fun c_4 => ?_) (fun c_4 => ?_)
        · skip
          refine lv_aload_n hx hb dX5_elevation_58 rfl (lv_at hl 0 rfl) ?_
          refine lv_iload_n hx hb dX5_elevation_59 rfl (lv_at hl 1 rfl) ?_
          refine lv_iload_n hx hb dX5_elevation_60 rfl (lv_at hl 2 rfl) ?_
          refine lv_iload_n hx hb dX5_elevation_61 rfl (lv_at hl 3 rfl) ?_
          have hPc_5 := hP.sub (ws' := [(qm, .inr (5, [.int (iI 0), .ref mz, .ref ms, .int (iI hn), .ref mp, .ref mb, .int (iI L), .ref m1, .ref m2, .ref m3, .ref mB, .ref mF, .ref mN, .ref mS, .int (iI sT), .ref mW, .long acc])), (mz, .inl (gI g, 326, .inl (aI (zF n ho h c))))]) [0, 1] rfl
          refine pc_i (va_runV (As := [.int (iI sd), .int (iI ax), .int (iI w)]) (rest := []) ⟨hx, hb, hml, hown, hts⟩ (c_X5_toldElevation l g qm 0 mz ms hn mp mb L m1 m2 m3 mB mF mN mS sT mW acc n ho h c sd ax w hY gs ga gb gw) (cwV 3 hts gX5_elevation_X5_toldElevation rfl rfl rfl (by decide +kernel) ⟨Nat.le_of_ble_eq_true rfl, Nat.le_of_ble_eq_true rfl⟩) (puV hE hS hPc_5 rfl rfl) rfl rfl hl.1 rfl (lv_room (Nat.le_of_ble_eq_true rfl)) dX5_elevation_62 ⟨Nat.le_of_ble_eq_true rfl, Nat.le_of_ble_eq_true rfl⟩) ?_
          have hP : va_P g.1 vwCl [(qm, .inr (5, [.int (iI 0), .ref mz, .ref ms, .int (iI hn), .ref mp, .ref mb, .int (iI L), .ref m1, .ref m2, .ref m3, .ref mB, .ref mF, .ref mN, .ref mS, .int (iI sT), .ref mW, .long acc])), (mz, .inl (gI g, 326, .inl (aI (zF n ho h c))))] _ := hP
          have hD : va_D A [(qm, .inr (5, [.int (iI 0), .ref mz, .ref ms, .int (iI hn), .ref mp, .ref mb, .int (iI L), .ref m1, .ref m2, .ref m3, .ref mB, .ref mF, .ref mN, .ref mS, .int (iI sT), .ref mW, .long acc])), (mz, .inl (gI g, 326, .inl (aI (zF n ho h c))))] := hD
          exact mend_i (S := Unit) (w' := (fun _ => [(qm, .inr (5, [.int (iI 0), .ref mz, .ref ms, .int (iI hn), .ref mp, .ref mb, .int (iI L), .ref m1, .ref m2, .ref m3, .ref mB, .ref mF, .ref mN, .ref mS, .int (iI sT), .ref mW, .long acc])), (mz, .inl (gI g, 326, .inl (aI (zF n ho h c))))])) (post := (fun _ => True)) (r := (fun _ => elvV n h sd ax w)) hx hb hr hlk hS () hP hD (trivial) (by rfl) (Nat.le_of_ble_eq_true rfl) (Nat.le_of_ble_eq_true rfl) dX5_elevation_65
        · exfalso; omega
  · exfalso; omega
set_option maxHeartbeats 800000 in
set_option maxRecDepth 100000 in
theorem c_X5_elevation_x1 (l : Launch) (g : GT) (qm : Nat) (th : Int) (mz : Nat) (ms : Nat) (hn : Int) (mp : Nat) (mb : Nat) (L : Int) (m1 : Nat) (m2 : Nat) (m3 : Nat) (mB : Nat) (mF : Nat) (mN : Nat) (mS : Nat) (sT : Int) (mW : Nat) (acc : Int64) (n : Int) (ho : Int) (h : Int → Int) (c : Int → Int) (sd : Int) (ax : Int) (w : Int) (hY : YOk n ho h c) (ga : Rg ax) (g1 : ax < 0 ∨ n ≤ ax) : MutI l yX5_elevation wsX5_elevation ({ frames := 1, cells := 0, slots := 0, locals := 22 }) 0 0 g [(qm, .inr (5, [.int (iI th), .ref mz, .ref ms, .int (iI hn), .ref mp, .ref mb, .int (iI L), .ref m1, .ref m2, .ref m3, .ref mB, .ref mF, .ref mN, .ref mS, .int (iI sT), .ref mW, .long acc])), (mz, .inl (gI g, 326, .inl (aI (zF n ho h c))))] [.ref qm, .int (iI sd), .int (iI ax), .int (iI w)] (S := Unit) (fun _ => True) (fun _ => 0) (fun _ => [(qm, .inr (5, [.int (iI 1), .ref mz, .ref ms, .int (iI hn), .ref mp, .ref mb, .int (iI L), .ref m1, .ref m2, .ref m3, .ref mB, .ref mF, .ref mN, .ref mS, .int (iI sT), .ref mW, .long acc])), (mz, .inl (gI g, 326, .inl (aI (zF n ho h c))))]) := by
  refine mut_of (y := yX5_elevation) (ws := wsX5_elevation) (av := [.ref qm, .int (iI sd), .int (iI ax), .int (iI w)]) (w := [(qm, .inr (5, [.int (iI th), .ref mz, .ref ms, .int (iI hn), .ref mp, .ref mb, .int (iI L), .ref m1, .ref m2, .ref m3, .ref mB, .ref mF, .ref mN, .ref mS, .int (iI sT), .ref mW, .long acc])), (mz, .inl (gI g, 326, .inl (aI (zF n ho h c))))]) (Qc := fun A => va_Qi (fun x9 (u9 : Unit) => x9 = iI ((fun _ => 0) u9) ∧ (fun _ => True) u9) (fun u9 t9 => MB g ((fun _ => [(qm, .inr (5, [.int (iI 1), .ref mz, .ref ms, .int (iI hn), .ref mp, .ref mb, .int (iI L), .ref m1, .ref m2, .ref m3, .ref mB, .ref mF, .ref mN, .ref mS, .int (iI sT), .ref mW, .long acc])), (mz, .inl (gI g, 326, .inl (aI (zF n ho h c))))]) u9) A t9) A) (cc := cX5_elevation) (maxL := 4) (ret := (some .int)) (by decide) rfl (Nat.le_of_ble_eq_true rfl) ?_
  intro pZ eZ sZ mZ bZ meZ cZ A F hin hA hP hD hE hS ls hl
  obtain ⟨hx, hb, hr, hml, hts, hown, hlk⟩ := F
  skip
  have hown : sZ.vm.findClass RX5 = some mZ.cls := hown
  have hl : lv_has ls 4 [(0, .ref qm), (1, .int (iI sd)), (2, .int (iI ax)), (3, .int (iI w))] := hl
  skip
  have w0 := hts (.fieldLink RX5 7 "SlantYardModel" "z" "[I") (by decide +kernel)
  have w1 := hts (.fieldLink RX5 47 "SlantYardModel" "thrown" "I") (by decide +kernel)
  have in5 : ∀ w ∈ u_ws RX5 TX5 17, w ∈ wsX5_elevation := by decide +kernel
  have hnn := hY.n
  have hho := hY.hr
  refine lv_aload_n hx hb dX5_elevation_0 rfl (lv_at hl 0 rfl) ?_
  refine lv_iload_n hx hb dX5_elevation_1 rfl (lv_at hl 2 rfl) ?_
  refine lv_iconst (v := iI 0) hx hb dX5_elevation_2 rfl ?_
  refine lv_aload_n hx hb dX5_elevation_3 rfl (lv_at hl 0 rfl) ?_
  refine va_get (D := g.1) (ci := 5) (v := .ref mz) (C := RX5) (T := TX5) (N := 17) hx hb hts in5 hown hE.1 hP 0 rfl rfl 1 (by decide) w0 (fun _ h9 => h9) rfl dX5_elevation_4 ?_
  refine lv_iconst (v := iI 0) hx hb dX5_elevation_7 rfl ?_
  refine ln_iald hx hb hE hP 1 rfl (by decide) (by decide) (Nat.le_of_ble_eq_true rfl) n (rfl) dX5_elevation_8 ?_
  refine lv_iconst (v := iI 1) hx hb dX5_elevation_9 rfl ?_
  refine ln_isub hx hb (n - 1) (rfl) dX5_elevation_10 ?_
  refine pc_i (va_runS (As := [.int (iI ax), .int (iI 0), .int (iI (n - 1))]) (rest := [.ref qm]) ⟨hx, hb, hml, hown, hts⟩ (c_X5_in l g ax 0 (n - 1) ga (by omega) (by omega)) (va_cwS 3 hts gX5_elevation_X5_in rfl rfl rfl (by decide +kernel) ⟨Nat.le_of_ble_eq_true rfl, Nat.le_of_ble_eq_true rfl⟩) (puS hE hS (va_P_nil g.1 _)) rfl rfl hl.1 rfl (lv_room (Nat.le_of_ble_eq_true rfl)) dX5_elevation_11 ⟨Nat.le_of_ble_eq_true rfl, Nat.le_of_ble_eq_true rfl⟩) ?_
  refine lb_if_ne (tgt := 21) hx hb dX5_elevation_14 (by decide) (fun c_1 => ?_) (fun c_1 => ?_)
  · exfalso; omega
  · skip
    refine lv_iconst (v := iI 1) hx hb dX5_elevation_17 rfl ?_
    refine lv_goto (tgt := 44) hx hb dX5_elevation_18 (by decide) ?_
    refine va_put (D := g.1) (ci := 5) (v := .int (iI 1)) (ty := .int) (C := RX5) (T := TX5) (N := 17) hx hb hts in5 tyX5 tyX5_ok nmX5 hown hE.1 hP hD hS 0 rfl rfl 0 (by decide) w1 (fun _ h9 => h9) rfl (by decide +kernel) rfl rfl (Nat.le_of_ble_eq_true rfl) dX5_elevation_44 (fun H locs hP hD hS => ?_)
    have hP : va_P g.1 vwCl [(qm, .inr (5, [.int (iI 1), .ref mz, .ref ms, .int (iI hn), .ref mp, .ref mb, .int (iI L), .ref m1, .ref m2, .ref m3, .ref mB, .ref mF, .ref mN, .ref mS, .int (iI sT), .ref mW, .long acc])), (mz, .inl (gI g, 326, .inl (aI (zF n ho h c))))] H := hP
    have hD : va_D A [(qm, .inr (5, [.int (iI 1), .ref mz, .ref ms, .int (iI hn), .ref mp, .ref mb, .int (iI L), .ref m1, .ref m2, .ref m3, .ref mB, .ref mF, .ref mN, .ref mS, .int (iI sT), .ref mW, .long acc])), (mz, .inl (gI g, 326, .inl (aI (zF n ho h c))))] := hD
    refine lv_aload_n hx hb dX5_elevation_47 rfl (lv_at hl 0 rfl) ?_
    refine va_get (D := g.1) (ci := 5) (v := .int (iI 1)) (C := RX5) (T := TX5) (N := 17) hx hb hts in5 hown hE.1 hP 0 rfl rfl 0 (by decide) w1 (fun _ h9 => h9) rfl dX5_elevation_48 ?_
    refine ln_if_le (tgt := 58) hx hb dX5_elevation_51 (by decide) (by decide) (fun c_2 => ?_) (fun c_2 => ?_)
    · exfalso; omega
    · skip
      refine lv_iconst (v := iI 0) hx hb dX5_elevation_54 rfl ?_
      refine lv_goto (tgt := 65) hx hb dX5_elevation_55 (by decide) ?_
      have hP : va_P g.1 vwCl [(qm, .inr (5, [.int (iI 1), .ref mz, .ref ms, .int (iI hn), .ref mp, .ref mb, .int (iI L), .ref m1, .ref m2, .ref m3, .ref mB, .ref mF, .ref mN, .ref mS, .int (iI sT), .ref mW, .long acc])), (mz, .inl (gI g, 326, .inl (aI (zF n ho h c))))] _ := hP
      have hD : va_D A [(qm, .inr (5, [.int (iI 1), .ref mz, .ref ms, .int (iI hn), .ref mp, .ref mb, .int (iI L), .ref m1, .ref m2, .ref m3, .ref mB, .ref mF, .ref mN, .ref mS, .int (iI sT), .ref mW, .long acc])), (mz, .inl (gI g, 326, .inl (aI (zF n ho h c))))] := hD
      exact mend_i (S := Unit) (w' := (fun _ => [(qm, .inr (5, [.int (iI 1), .ref mz, .ref ms, .int (iI hn), .ref mp, .ref mb, .int (iI L), .ref m1, .ref m2, .ref m3, .ref mB, .ref mF, .ref mN, .ref mS, .int (iI sT), .ref mW, .long acc])), (mz, .inl (gI g, 326, .inl (aI (zF n ho h c))))])) (post := (fun _ => True)) (r := (fun _ => 0)) hx hb hr hlk hS () hP hD (trivial) (by rfl) (Nat.le_of_ble_eq_true rfl) (Nat.le_of_ble_eq_true rfl) dX5_elevation_65
set_option maxHeartbeats 800000 in
set_option maxRecDepth 100000 in
theorem c_X5_elevation_x2 (l : Launch) (g : GT) (qm : Nat) (th : Int) (mz : Nat) (ms : Nat) (hn : Int) (mp : Nat) (mb : Nat) (L : Int) (m1 : Nat) (m2 : Nat) (m3 : Nat) (mB : Nat) (mF : Nat) (mN : Nat) (mS : Nat) (sT : Int) (mW : Nat) (acc : Int64) (n : Int) (ho : Int) (h : Int → Int) (c : Int → Int) (sd : Int) (ax : Int) (w : Int) (hY : YOk n ho h c) (ga : 0 ≤ ax) (gb : ax < n) (gs : Rg sd) (gw : Rg w) (g1 : (sd < 0 ∨ 1 < sd) ∨ w < 0 ∨ 2 < w) : MutI l yX5_elevation wsX5_elevation ({ frames := 1, cells := 0, slots := 0, locals := 22 }) 0 0 g [(qm, .inr (5, [.int (iI th), .ref mz, .ref ms, .int (iI hn), .ref mp, .ref mb, .int (iI L), .ref m1, .ref m2, .ref m3, .ref mB, .ref mF, .ref mN, .ref mS, .int (iI sT), .ref mW, .long acc])), (mz, .inl (gI g, 326, .inl (aI (zF n ho h c))))] [.ref qm, .int (iI sd), .int (iI ax), .int (iI w)] (S := Unit) (fun _ => True) (fun _ => 0) (fun _ => [(qm, .inr (5, [.int (iI 2), .ref mz, .ref ms, .int (iI hn), .ref mp, .ref mb, .int (iI L), .ref m1, .ref m2, .ref m3, .ref mB, .ref mF, .ref mN, .ref mS, .int (iI sT), .ref mW, .long acc])), (mz, .inl (gI g, 326, .inl (aI (zF n ho h c))))]) := by
  refine mut_of (y := yX5_elevation) (ws := wsX5_elevation) (av := [.ref qm, .int (iI sd), .int (iI ax), .int (iI w)]) (w := [(qm, .inr (5, [.int (iI th), .ref mz, .ref ms, .int (iI hn), .ref mp, .ref mb, .int (iI L), .ref m1, .ref m2, .ref m3, .ref mB, .ref mF, .ref mN, .ref mS, .int (iI sT), .ref mW, .long acc])), (mz, .inl (gI g, 326, .inl (aI (zF n ho h c))))]) (Qc := fun A => va_Qi (fun x9 (u9 : Unit) => x9 = iI ((fun _ => 0) u9) ∧ (fun _ => True) u9) (fun u9 t9 => MB g ((fun _ => [(qm, .inr (5, [.int (iI 2), .ref mz, .ref ms, .int (iI hn), .ref mp, .ref mb, .int (iI L), .ref m1, .ref m2, .ref m3, .ref mB, .ref mF, .ref mN, .ref mS, .int (iI sT), .ref mW, .long acc])), (mz, .inl (gI g, 326, .inl (aI (zF n ho h c))))]) u9) A t9) A) (cc := cX5_elevation) (maxL := 4) (ret := (some .int)) (by decide) rfl (Nat.le_of_ble_eq_true rfl) ?_
  intro pZ eZ sZ mZ bZ meZ cZ A F hin hA hP hD hE hS ls hl
  obtain ⟨hx, hb, hr, hml, hts, hown, hlk⟩ := F
  skip
  have hown : sZ.vm.findClass RX5 = some mZ.cls := hown
  have hl : lv_has ls 4 [(0, .ref qm), (1, .int (iI sd)), (2, .int (iI ax)), (3, .int (iI w))] := hl
  skip
  have w0 := hts (.fieldLink RX5 7 "SlantYardModel" "z" "[I") (by decide +kernel)
  have w1 := hts (.fieldLink RX5 47 "SlantYardModel" "thrown" "I") (by decide +kernel)
  have in5 : ∀ w ∈ u_ws RX5 TX5 17, w ∈ wsX5_elevation := by decide +kernel
  have hnn := hY.n
  have hho := hY.hr
  refine lv_aload_n hx hb dX5_elevation_0 rfl (lv_at hl 0 rfl) ?_
  refine lv_iload_n hx hb dX5_elevation_1 rfl (lv_at hl 2 rfl) ?_
  refine lv_iconst (v := iI 0) hx hb dX5_elevation_2 rfl ?_
  refine lv_aload_n hx hb dX5_elevation_3 rfl (lv_at hl 0 rfl) ?_
  refine va_get (D := g.1) (ci := 5) (v := .ref mz) (C := RX5) (T := TX5) (N := 17) hx hb hts in5 hown hE.1 hP 0 rfl rfl 1 (by decide) w0 (fun _ h9 => h9) rfl dX5_elevation_4 ?_
  refine lv_iconst (v := iI 0) hx hb dX5_elevation_7 rfl ?_
  refine ln_iald hx hb hE hP 1 rfl (by decide) (by decide) (Nat.le_of_ble_eq_true rfl) n (rfl) dX5_elevation_8 ?_
  refine lv_iconst (v := iI 1) hx hb dX5_elevation_9 rfl ?_
  refine ln_isub hx hb (n - 1) (rfl) dX5_elevation_10 ?_
  refine pc_i (va_runS (As := [.int (iI ax), .int (iI 0), .int (iI (n - 1))]) (rest := [.ref qm]) ⟨hx, hb, hml, hown, hts⟩ (c_X5_in l g ax 0 (n - 1) (by omega) (by omega) (by omega)) (va_cwS 3 hts gX5_elevation_X5_in rfl rfl rfl (by decide +kernel) ⟨Nat.le_of_ble_eq_true rfl, Nat.le_of_ble_eq_true rfl⟩) (puS hE hS (va_P_nil g.1 _)) rfl rfl hl.1 rfl (lv_room (Nat.le_of_ble_eq_true rfl)) dX5_elevation_11 ⟨Nat.le_of_ble_eq_true rfl, Nat.le_of_ble_eq_true rfl⟩) ?_
  refine lb_if_ne (tgt := 21) hx hb dX5_elevation_14 (by decide) (fun c_1 => ?_) (fun c_1 => ?_)
  · skip
    refine lv_iload_n hx hb dX5_elevation_21 rfl (lv_at hl 1 rfl) ?_
    refine lv_iconst (v := iI 0) hx hb dX5_elevation_22 rfl ?_
    refine lv_iconst (v := iI 1) hx hb dX5_elevation_23 rfl ?_
    refine pc_i (va_runS (As := [.int (iI sd), .int (iI 0), .int (iI 1)]) (rest := [.ref qm]) ⟨hx, hb, hml, hown, hts⟩ (c_X5_in l g sd 0 1 gs (by omega) (by omega)) (va_cwS 3 hts gX5_elevation_X5_in rfl rfl rfl (by decide +kernel) ⟨Nat.le_of_ble_eq_true rfl, Nat.le_of_ble_eq_true rfl⟩) (puS hE hS (va_P_nil g.1 _)) rfl rfl hl.1 rfl (lv_room (Nat.le_of_ble_eq_true rfl)) dX5_elevation_24 ⟨Nat.le_of_ble_eq_true rfl, Nat.le_of_ble_eq_true rfl⟩) ?_
    refine lb_if_eq (tgt := 43) hx hb dX5_elevation_27 (by decide) (fun c_2 => ?_) (fun c_2 => ?_)
    · skip
      refine lv_iconst (v := iI 2) hx hb dX5_elevation_43 rfl ?_
      refine va_put (D := g.1) (ci := 5) (v := .int (iI 2)) (ty := .int) (C := RX5) (T := TX5) (N := 17) hx hb hts in5 tyX5 tyX5_ok nmX5 hown hE.1 hP hD hS 0 rfl rfl 0 (by decide) w1 (fun _ h9 => h9) rfl (by decide +kernel) rfl rfl (Nat.le_of_ble_eq_true rfl) dX5_elevation_44 (fun H locs hP hD hS => ?_)
      have hP : va_P g.1 vwCl [(qm, .inr (5, [.int (iI 2), .ref mz, .ref ms, .int (iI hn), .ref mp, .ref mb, .int (iI L), .ref m1, .ref m2, .ref m3, .ref mB, .ref mF, .ref mN, .ref mS, .int (iI sT), .ref mW, .long acc])), (mz, .inl (gI g, 326, .inl (aI (zF n ho h c))))] H := hP
      have hD : va_D A [(qm, .inr (5, [.int (iI 2), .ref mz, .ref ms, .int (iI hn), .ref mp, .ref mb, .int (iI L), .ref m1, .ref m2, .ref m3, .ref mB, .ref mF, .ref mN, .ref mS, .int (iI sT), .ref mW, .long acc])), (mz, .inl (gI g, 326, .inl (aI (zF n ho h c))))] := hD
      refine lv_aload_n hx hb dX5_elevation_47 rfl (lv_at hl 0 rfl) ?_
      refine va_get (D := g.1) (ci := 5) (v := .int (iI 2)) (C := RX5) (T := TX5) (N := 17) hx hb hts in5 hown hE.1 hP 0 rfl rfl 0 (by decide) w1 (fun _ h9 => h9) rfl dX5_elevation_48 ?_
      refine ln_if_le (tgt := 58) hx hb dX5_elevation_51 (by decide) (by decide) (fun c_3 => ?_) (fun c_3 => ?_)
      · exfalso; omega
      · skip
        refine lv_iconst (v := iI 0) hx hb dX5_elevation_54 rfl ?_
        refine lv_goto (tgt := 65) hx hb dX5_elevation_55 (by decide) ?_
        have hP : va_P g.1 vwCl [(qm, .inr (5, [.int (iI 2), .ref mz, .ref ms, .int (iI hn), .ref mp, .ref mb, .int (iI L), .ref m1, .ref m2, .ref m3, .ref mB, .ref mF, .ref mN, .ref mS, .int (iI sT), .ref mW, .long acc])), (mz, .inl (gI g, 326, .inl (aI (zF n ho h c))))] _ := hP
        have hD : va_D A [(qm, .inr (5, [.int (iI 2), .ref mz, .ref ms, .int (iI hn), .ref mp, .ref mb, .int (iI L), .ref m1, .ref m2, .ref m3, .ref mB, .ref mF, .ref mN, .ref mS, .int (iI sT), .ref mW, .long acc])), (mz, .inl (gI g, 326, .inl (aI (zF n ho h c))))] := hD
        exact mend_i (S := Unit) (w' := (fun _ => [(qm, .inr (5, [.int (iI 2), .ref mz, .ref ms, .int (iI hn), .ref mp, .ref mb, .int (iI L), .ref m1, .ref m2, .ref m3, .ref mB, .ref mF, .ref mN, .ref mS, .int (iI sT), .ref mW, .long acc])), (mz, .inl (gI g, 326, .inl (aI (zF n ho h c))))])) (post := (fun _ => True)) (r := (fun _ => 0)) hx hb hr hlk hS () hP hD (trivial) (by rfl) (Nat.le_of_ble_eq_true rfl) (Nat.le_of_ble_eq_true rfl) dX5_elevation_65
    · skip
      refine lv_iload_n hx hb dX5_elevation_30 rfl (lv_at hl 3 rfl) ?_
      refine lv_iconst (v := iI 0) hx hb dX5_elevation_31 rfl ?_
      refine lv_iconst (v := iI 2) hx hb dX5_elevation_32 rfl ?_
      refine pc_i (va_runS (As := [.int (iI w), .int (iI 0), .int (iI 2)]) (rest := [.ref qm]) ⟨hx, hb, hml, hown, hts⟩ (c_X5_in l g w 0 2 gw (by omega) (by omega)) (va_cwS 3 hts gX5_elevation_X5_in rfl rfl rfl (by decide +kernel) ⟨Nat.le_of_ble_eq_true rfl, Nat.le_of_ble_eq_true rfl⟩) (puS hE hS (va_P_nil g.1 _)) rfl rfl hl.1 rfl (lv_room (Nat.le_of_ble_eq_true rfl)) dX5_elevation_33 ⟨Nat.le_of_ble_eq_true rfl, Nat.le_of_ble_eq_true rfl⟩) ?_
      refine lb_if_eq (tgt := 43) hx hb dX5_elevation_36 (by decide) (fun c_4 => ?_) (fun c_4 => ?_)
      · skip
        refine lv_iconst (v := iI 2) hx hb dX5_elevation_43 rfl ?_
        refine va_put (D := g.1) (ci := 5) (v := .int (iI 2)) (ty := .int) (C := RX5) (T := TX5) (N := 17) hx hb hts in5 tyX5 tyX5_ok nmX5 hown hE.1 hP hD hS 0 rfl rfl 0 (by decide) w1 (fun _ h9 => h9) rfl (by decide +kernel) rfl rfl (Nat.le_of_ble_eq_true rfl) dX5_elevation_44 (fun H locs hP hD hS => ?_)
        have hP : va_P g.1 vwCl [(qm, .inr (5, [.int (iI 2), .ref mz, .ref ms, .int (iI hn), .ref mp, .ref mb, .int (iI L), .ref m1, .ref m2, .ref m3, .ref mB, .ref mF, .ref mN, .ref mS, .int (iI sT), .ref mW, .long acc])), (mz, .inl (gI g, 326, .inl (aI (zF n ho h c))))] H := hP
        have hD : va_D A [(qm, .inr (5, [.int (iI 2), .ref mz, .ref ms, .int (iI hn), .ref mp, .ref mb, .int (iI L), .ref m1, .ref m2, .ref m3, .ref mB, .ref mF, .ref mN, .ref mS, .int (iI sT), .ref mW, .long acc])), (mz, .inl (gI g, 326, .inl (aI (zF n ho h c))))] := hD
        refine lv_aload_n hx hb dX5_elevation_47 rfl (lv_at hl 0 rfl) ?_
        refine va_get (D := g.1) (ci := 5) (v := .int (iI 2)) (C := RX5) (T := TX5) (N := 17) hx hb hts in5 hown hE.1 hP 0 rfl rfl 0 (by decide) w1 (fun _ h9 => h9) rfl dX5_elevation_48 ?_
        refine ln_if_le (tgt := 58) hx hb dX5_elevation_51 (by decide) (by decide) (fun c_5 => ?_) (fun c_5 => ?_)
        · exfalso; omega
        · skip
          refine lv_iconst (v := iI 0) hx hb dX5_elevation_54 rfl ?_
          refine lv_goto (tgt := 65) hx hb dX5_elevation_55 (by decide) ?_
          have hP : va_P g.1 vwCl [(qm, .inr (5, [.int (iI 2), .ref mz, .ref ms, .int (iI hn), .ref mp, .ref mb, .int (iI L), .ref m1, .ref m2, .ref m3, .ref mB, .ref mF, .ref mN, .ref mS, .int (iI sT), .ref mW, .long acc])), (mz, .inl (gI g, 326, .inl (aI (zF n ho h c))))] _ := hP
          have hD : va_D A [(qm, .inr (5, [.int (iI 2), .ref mz, .ref ms, .int (iI hn), .ref mp, .ref mb, .int (iI L), .ref m1, .ref m2, .ref m3, .ref mB, .ref mF, .ref mN, .ref mS, .int (iI sT), .ref mW, .long acc])), (mz, .inl (gI g, 326, .inl (aI (zF n ho h c))))] := hD
          exact mend_i (S := Unit) (w' := (fun _ => [(qm, .inr (5, [.int (iI 2), .ref mz, .ref ms, .int (iI hn), .ref mp, .ref mb, .int (iI L), .ref m1, .ref m2, .ref m3, .ref mB, .ref mF, .ref mN, .ref mS, .int (iI sT), .ref mW, .long acc])), (mz, .inl (gI g, 326, .inl (aI (zF n ho h c))))])) (post := (fun _ => True)) (r := (fun _ => 0)) hx hb hr hlk hS () hP hD (trivial) (by rfl) (Nat.le_of_ble_eq_true rfl) (Nat.le_of_ble_eq_true rfl) dX5_elevation_65
      · exfalso; omega
  · exfalso; omega
set_option maxHeartbeats 800000 in
set_option maxRecDepth 100000 in
theorem c_X5_cut_ok (l : Launch) (g : GT) (qm : Nat) (th : Int) (mz : Nat) (ms : Nat) (hn : Int) (mp : Nat) (mb : Nat) (L : Int) (m1 : Nat) (m2 : Nat) (m3 : Nat) (mB : Nat) (mF : Nat) (mN : Nat) (mS : Nat) (sT : Int) (mW : Nat) (acc : Int64) (n : Int) (ho : Int) (h : Int → Int) (c : Int → Int) (z : Int) (y : Int) (hY : YOk n ho h c) (g1 : 0 ≤ y) (g2 : y < n) (gz : 0 ≤ z ∧ z ≤ 7) : MutI l yX5_cut wsX5_cut ({ frames := 2, cells := 0, slots := 0, locals := 46 }) 0 0 g [(qm, .inr (5, [.int (iI th), .ref mz, .ref ms, .int (iI hn), .ref mp, .ref mb, .int (iI L), .ref m1, .ref m2, .ref m3, .ref mB, .ref mF, .ref mN, .ref mS, .int (iI sT), .ref mW, .long acc])), (mz, .inl (gI g, 326, .inl (aI (zF n ho h c))))] [.ref qm, .int (iI z), .int (iI y)] (S := Unit) (fun _ => True) (fun _ => cutM h z y n) (fun _ => [(qm, .inr (5, [.int (iI 0), .ref mz, .ref ms, .int (iI hn), .ref mp, .ref mb, .int (iI L), .ref m1, .ref m2, .ref m3, .ref mB, .ref mF, .ref mN, .ref mS, .int (iI sT), .ref mW, .long acc])), (mz, .inl (gI g, 326, .inl (aI (zF n ho h c))))]) := by
  refine mut_of (y := yX5_cut) (ws := wsX5_cut) (av := [.ref qm, .int (iI z), .int (iI y)]) (w := [(qm, .inr (5, [.int (iI th), .ref mz, .ref ms, .int (iI hn), .ref mp, .ref mb, .int (iI L), .ref m1, .ref m2, .ref m3, .ref mB, .ref mF, .ref mN, .ref mS, .int (iI sT), .ref mW, .long acc])), (mz, .inl (gI g, 326, .inl (aI (zF n ho h c))))]) (Qc := fun A => va_Qi (fun x9 (u9 : Unit) => x9 = iI ((fun _ => cutM h z y n) u9) ∧ (fun _ => True) u9) (fun u9 t9 => MB g ((fun _ => [(qm, .inr (5, [.int (iI 0), .ref mz, .ref ms, .int (iI hn), .ref mp, .ref mb, .int (iI L), .ref m1, .ref m2, .ref m3, .ref mB, .ref mF, .ref mN, .ref mS, .int (iI sT), .ref mW, .long acc])), (mz, .inl (gI g, 326, .inl (aI (zF n ho h c))))]) u9) A t9) A) (cc := cX5_cut) (maxL := 3) (ret := (some .int)) (by decide) rfl (Nat.le_of_ble_eq_true rfl) ?_
  intro pZ eZ sZ mZ bZ meZ cZ A F hin hA hP hD hE hS ls hl
  obtain ⟨hx, hb, hr, hml, hts, hown, hlk⟩ := F
  skip
  have hown : sZ.vm.findClass RX5 = some mZ.cls := hown
  have hl : lv_has ls 3 [(0, .ref qm), (1, .int (iI z)), (2, .int (iI y))] := hl
  skip
  have w0 := hts (.fieldLink RX5 7 "SlantYardModel" "z" "[I") (by decide +kernel)
  have w1 := hts (.fieldLink RX5 47 "SlantYardModel" "thrown" "I") (by decide +kernel)
  have in5 : ∀ w ∈ u_ws RX5 TX5 17, w ∈ wsX5_cut := by decide +kernel
  have hnn := hY.n
  have hho := hY.hr
  refine lv_aload_n hx hb dX5_cut_0 rfl (lv_at hl 0 rfl) ?_
  refine lv_iload_n hx hb dX5_cut_1 rfl (lv_at hl 2 rfl) ?_
  refine lv_iconst (v := iI 0) hx hb dX5_cut_2 rfl ?_
  refine lv_aload_n hx hb dX5_cut_3 rfl (lv_at hl 0 rfl) ?_
  refine va_get (D := g.1) (ci := 5) (v := .ref mz) (C := RX5) (T := TX5) (N := 17) hx hb hts in5 hown hE.1 hP 0 rfl rfl 1 (by decide) w0 (fun _ h9 => h9) rfl dX5_cut_4 ?_
  refine lv_iconst (v := iI 0) hx hb dX5_cut_7 rfl ?_
  refine ln_iald hx hb hE hP 1 rfl (by decide) (by decide) (Nat.le_of_ble_eq_true rfl) n (rfl) dX5_cut_8 ?_
  refine lv_iconst (v := iI 1) hx hb dX5_cut_9 rfl ?_
  refine ln_isub hx hb (n - 1) (rfl) dX5_cut_10 ?_
  refine pc_i (va_runS (As := [.int (iI y), .int (iI 0), .int (iI (n - 1))]) (rest := [.ref qm]) ⟨hx, hb, hml, hown, hts⟩ (c_X5_in l g y 0 (n - 1) (by omega) (by omega) (by omega)) (va_cwS 3 hts gX5_cut_X5_in rfl rfl rfl (by decide +kernel) ⟨Nat.le_of_ble_eq_true rfl, Nat.le_of_ble_eq_true rfl⟩) (puS hE hS (va_P_nil g.1 _)) rfl rfl hl.1 rfl (lv_room (Nat.le_of_ble_eq_true rfl)) dX5_cut_11 ⟨Nat.le_of_ble_eq_true rfl, Nat.le_of_ble_eq_true rfl⟩) ?_
  refine lb_if_ne (tgt := 21) hx hb dX5_cut_14 (by decide) (fun c_1 => ?_) (fun c_1 => ?_)
  · skip
    refine lv_iload_n hx hb dX5_cut_21 rfl (lv_at hl 1 rfl) ?_
    refine lv_iconst (v := iI 0) hx hb dX5_cut_22 rfl ?_
    refine lv_bipush (v := iI 7) hx hb dX5_cut_23 (by decide) ?_
    refine pc_i (va_runS (As := [.int (iI z), .int (iI 0), .int (iI 7)]) (rest := [.ref qm]) ⟨hx, hb, hml, hown, hts⟩ (c_X5_in l g z 0 7 (by omega) (by omega) (by omega)) (va_cwS 3 hts gX5_cut_X5_in rfl rfl rfl (by decide +kernel) ⟨Nat.le_of_ble_eq_true rfl, Nat.le_of_ble_eq_true rfl⟩) (puS hE hS (va_P_nil g.1 _)) rfl rfl hl.1 rfl (lv_room (Nat.le_of_ble_eq_true rfl)) dX5_cut_25 ⟨Nat.le_of_ble_eq_true rfl, Nat.le_of_ble_eq_true rfl⟩) ?_
    refine lb_if_eq (tgt := 35) hx hb dX5_cut_28 (by decide) (fun c_2 => ?_) (fun c_2 => ?_)
    · exfalso; omega
    · skip
      refine lv_iconst (v := iI 0) hx hb dX5_cut_31 rfl ?_
      refine lv_goto (tgt := 36) hx hb dX5_cut_32 (by decide) ?_
      refine va_put (D := g.1) (ci := 5) (v := .int (iI 0)) (ty := .int) (C := RX5) (T := TX5) (N := 17) hx hb hts in5 tyX5 tyX5_ok nmX5 hown hE.1 hP hD hS 0 rfl rfl 0 (by decide) w1 (fun _ h9 => h9) rfl (by decide +kernel) rfl rfl (Nat.le_of_ble_eq_true rfl) dX5_cut_36 (fun H locs hP hD hS => ?_)
      have hP : va_P g.1 vwCl [(qm, .inr (5, [.int (iI 0), .ref mz, .ref ms, .int (iI hn), .ref mp, .ref mb, .int (iI L), .ref m1, .ref m2, .ref m3, .ref mB, .ref mF, .ref mN, .ref mS, .int (iI sT), .ref mW, .long acc])), (mz, .inl (gI g, 326, .inl (aI (zF n ho h c))))] H := hP
      have hD : va_D A [(qm, .inr (5, [.int (iI 0), .ref mz, .ref ms, .int (iI hn), .ref mp, .ref mb, .int (iI L), .ref m1, .ref m2, .ref m3, .ref mB, .ref mF, .ref mN, .ref mS, .int (iI sT), .ref mW, .long acc])), (mz, .inl (gI g, 326, .inl (aI (zF n ho h c))))] := hD
      refine lv_aload_n hx hb dX5_cut_39 rfl (lv_at hl 0 rfl) ?_
      refine va_get (D := g.1) (ci := 5) (v := .int (iI 0)) (C := RX5) (T := TX5) (N := 17) hx hb hts in5 hown hE.1 hP 0 rfl rfl 0 (by decide) w1 (fun _ h9 => h9) rfl dX5_cut_40 ?_
      refine ln_if_le (tgt := 50) hx hb dX5_cut_43 (by decide) (by decide) (fun c_3 => ?_) (fun c_3 => ?_)
      · skip
        refine lv_aload_n hx hb dX5_cut_50 rfl (lv_at hl 0 rfl) ?_
        refine lv_iload_n hx hb dX5_cut_51 rfl (lv_at hl 1 rfl) ?_
        refine lv_iload_n hx hb dX5_cut_52 rfl (lv_at hl 2 rfl) ?_
        have hPc_4 := hP.sub (ws' := [(qm, .inr (5, [.int (iI 0), .ref mz, .ref ms, .int (iI hn), .ref mp, .ref mb, .int (iI L), .ref m1, .ref m2, .ref m3, .ref mB, .ref mF, .ref mN, .ref mS, .int (iI sT), .ref mW, .long acc])), (mz, .inl (gI g, 326, .inl (aI (zF n ho h c))))]) [0, 1] rfl
        refine pc_i (va_runV (As := [.int (iI z), .int (iI y)]) (rest := []) ⟨hx, hb, hml, hown, hts⟩ (c_X5_cutAt l g qm 0 mz ms hn mp mb L m1 m2 m3 mB mF mN mS sT mW acc n ho h c z y hY g1 g2 gz) (cwV 2 hts gX5_cut_X5_cutAt rfl rfl rfl (by decide +kernel) ⟨Nat.le_of_ble_eq_true rfl, Nat.le_of_ble_eq_true rfl⟩) (puV hE hS hPc_4 rfl rfl) rfl rfl hl.1 rfl (lv_room (Nat.le_of_ble_eq_true rfl)) dX5_cut_53 ⟨Nat.le_of_ble_eq_true rfl, Nat.le_of_ble_eq_true rfl⟩) ?_
        have hP : va_P g.1 vwCl [(qm, .inr (5, [.int (iI 0), .ref mz, .ref ms, .int (iI hn), .ref mp, .ref mb, .int (iI L), .ref m1, .ref m2, .ref m3, .ref mB, .ref mF, .ref mN, .ref mS, .int (iI sT), .ref mW, .long acc])), (mz, .inl (gI g, 326, .inl (aI (zF n ho h c))))] _ := hP
        have hD : va_D A [(qm, .inr (5, [.int (iI 0), .ref mz, .ref ms, .int (iI hn), .ref mp, .ref mb, .int (iI L), .ref m1, .ref m2, .ref m3, .ref mB, .ref mF, .ref mN, .ref mS, .int (iI sT), .ref mW, .long acc])), (mz, .inl (gI g, 326, .inl (aI (zF n ho h c))))] := hD
        exact mend_i (S := Unit) (w' := (fun _ => [(qm, .inr (5, [.int (iI 0), .ref mz, .ref ms, .int (iI hn), .ref mp, .ref mb, .int (iI L), .ref m1, .ref m2, .ref m3, .ref mB, .ref mF, .ref mN, .ref mS, .int (iI sT), .ref mW, .long acc])), (mz, .inl (gI g, 326, .inl (aI (zF n ho h c))))])) (post := (fun _ => True)) (r := (fun _ => cutM h z y n)) hx hb hr hlk hS () hP hD (trivial) (by rfl) (Nat.le_of_ble_eq_true rfl) (Nat.le_of_ble_eq_true rfl) dX5_cut_56
      · exfalso; omega
  · exfalso; omega
set_option maxHeartbeats 800000 in
set_option maxRecDepth 100000 in
theorem c_X5_cut_x1 (l : Launch) (g : GT) (qm : Nat) (th : Int) (mz : Nat) (ms : Nat) (hn : Int) (mp : Nat) (mb : Nat) (L : Int) (m1 : Nat) (m2 : Nat) (m3 : Nat) (mB : Nat) (mF : Nat) (mN : Nat) (mS : Nat) (sT : Int) (mW : Nat) (acc : Int64) (n : Int) (ho : Int) (h : Int → Int) (c : Int → Int) (z : Int) (y : Int) (hY : YOk n ho h c) (ga : Rg y) (g1 : y < 0 ∨ n ≤ y) : MutI l yX5_cut wsX5_cut ({ frames := 1, cells := 0, slots := 0, locals := 22 }) 0 0 g [(qm, .inr (5, [.int (iI th), .ref mz, .ref ms, .int (iI hn), .ref mp, .ref mb, .int (iI L), .ref m1, .ref m2, .ref m3, .ref mB, .ref mF, .ref mN, .ref mS, .int (iI sT), .ref mW, .long acc])), (mz, .inl (gI g, 326, .inl (aI (zF n ho h c))))] [.ref qm, .int (iI z), .int (iI y)] (S := Unit) (fun _ => True) (fun _ => 0) (fun _ => [(qm, .inr (5, [.int (iI 1), .ref mz, .ref ms, .int (iI hn), .ref mp, .ref mb, .int (iI L), .ref m1, .ref m2, .ref m3, .ref mB, .ref mF, .ref mN, .ref mS, .int (iI sT), .ref mW, .long acc])), (mz, .inl (gI g, 326, .inl (aI (zF n ho h c))))]) := by
  refine mut_of (y := yX5_cut) (ws := wsX5_cut) (av := [.ref qm, .int (iI z), .int (iI y)]) (w := [(qm, .inr (5, [.int (iI th), .ref mz, .ref ms, .int (iI hn), .ref mp, .ref mb, .int (iI L), .ref m1, .ref m2, .ref m3, .ref mB, .ref mF, .ref mN, .ref mS, .int (iI sT), .ref mW, .long acc])), (mz, .inl (gI g, 326, .inl (aI (zF n ho h c))))]) (Qc := fun A => va_Qi (fun x9 (u9 : Unit) => x9 = iI ((fun _ => 0) u9) ∧ (fun _ => True) u9) (fun u9 t9 => MB g ((fun _ => [(qm, .inr (5, [.int (iI 1), .ref mz, .ref ms, .int (iI hn), .ref mp, .ref mb, .int (iI L), .ref m1, .ref m2, .ref m3, .ref mB, .ref mF, .ref mN, .ref mS, .int (iI sT), .ref mW, .long acc])), (mz, .inl (gI g, 326, .inl (aI (zF n ho h c))))]) u9) A t9) A) (cc := cX5_cut) (maxL := 3) (ret := (some .int)) (by decide) rfl (Nat.le_of_ble_eq_true rfl) ?_
  intro pZ eZ sZ mZ bZ meZ cZ A F hin hA hP hD hE hS ls hl
  obtain ⟨hx, hb, hr, hml, hts, hown, hlk⟩ := F
  skip
  have hown : sZ.vm.findClass RX5 = some mZ.cls := hown
  have hl : lv_has ls 3 [(0, .ref qm), (1, .int (iI z)), (2, .int (iI y))] := hl
  skip
  have w0 := hts (.fieldLink RX5 7 "SlantYardModel" "z" "[I") (by decide +kernel)
  have w1 := hts (.fieldLink RX5 47 "SlantYardModel" "thrown" "I") (by decide +kernel)
  have in5 : ∀ w ∈ u_ws RX5 TX5 17, w ∈ wsX5_cut := by decide +kernel
  have hnn := hY.n
  have hho := hY.hr
  refine lv_aload_n hx hb dX5_cut_0 rfl (lv_at hl 0 rfl) ?_
  refine lv_iload_n hx hb dX5_cut_1 rfl (lv_at hl 2 rfl) ?_
  refine lv_iconst (v := iI 0) hx hb dX5_cut_2 rfl ?_
  refine lv_aload_n hx hb dX5_cut_3 rfl (lv_at hl 0 rfl) ?_
  refine va_get (D := g.1) (ci := 5) (v := .ref mz) (C := RX5) (T := TX5) (N := 17) hx hb hts in5 hown hE.1 hP 0 rfl rfl 1 (by decide) w0 (fun _ h9 => h9) rfl dX5_cut_4 ?_
  refine lv_iconst (v := iI 0) hx hb dX5_cut_7 rfl ?_
  refine ln_iald hx hb hE hP 1 rfl (by decide) (by decide) (Nat.le_of_ble_eq_true rfl) n (rfl) dX5_cut_8 ?_
  refine lv_iconst (v := iI 1) hx hb dX5_cut_9 rfl ?_
  refine ln_isub hx hb (n - 1) (rfl) dX5_cut_10 ?_
  refine pc_i (va_runS (As := [.int (iI y), .int (iI 0), .int (iI (n - 1))]) (rest := [.ref qm]) ⟨hx, hb, hml, hown, hts⟩ (c_X5_in l g y 0 (n - 1) ga (by omega) (by omega)) (va_cwS 3 hts gX5_cut_X5_in rfl rfl rfl (by decide +kernel) ⟨Nat.le_of_ble_eq_true rfl, Nat.le_of_ble_eq_true rfl⟩) (puS hE hS (va_P_nil g.1 _)) rfl rfl hl.1 rfl (lv_room (Nat.le_of_ble_eq_true rfl)) dX5_cut_11 ⟨Nat.le_of_ble_eq_true rfl, Nat.le_of_ble_eq_true rfl⟩) ?_
  refine lb_if_ne (tgt := 21) hx hb dX5_cut_14 (by decide) (fun c_1 => ?_) (fun c_1 => ?_)
  · exfalso; omega
  · skip
    refine lv_iconst (v := iI 1) hx hb dX5_cut_17 rfl ?_
    refine lv_goto (tgt := 36) hx hb dX5_cut_18 (by decide) ?_
    refine va_put (D := g.1) (ci := 5) (v := .int (iI 1)) (ty := .int) (C := RX5) (T := TX5) (N := 17) hx hb hts in5 tyX5 tyX5_ok nmX5 hown hE.1 hP hD hS 0 rfl rfl 0 (by decide) w1 (fun _ h9 => h9) rfl (by decide +kernel) rfl rfl (Nat.le_of_ble_eq_true rfl) dX5_cut_36 (fun H locs hP hD hS => ?_)
    have hP : va_P g.1 vwCl [(qm, .inr (5, [.int (iI 1), .ref mz, .ref ms, .int (iI hn), .ref mp, .ref mb, .int (iI L), .ref m1, .ref m2, .ref m3, .ref mB, .ref mF, .ref mN, .ref mS, .int (iI sT), .ref mW, .long acc])), (mz, .inl (gI g, 326, .inl (aI (zF n ho h c))))] H := hP
    have hD : va_D A [(qm, .inr (5, [.int (iI 1), .ref mz, .ref ms, .int (iI hn), .ref mp, .ref mb, .int (iI L), .ref m1, .ref m2, .ref m3, .ref mB, .ref mF, .ref mN, .ref mS, .int (iI sT), .ref mW, .long acc])), (mz, .inl (gI g, 326, .inl (aI (zF n ho h c))))] := hD
    refine lv_aload_n hx hb dX5_cut_39 rfl (lv_at hl 0 rfl) ?_
    refine va_get (D := g.1) (ci := 5) (v := .int (iI 1)) (C := RX5) (T := TX5) (N := 17) hx hb hts in5 hown hE.1 hP 0 rfl rfl 0 (by decide) w1 (fun _ h9 => h9) rfl dX5_cut_40 ?_
    refine ln_if_le (tgt := 50) hx hb dX5_cut_43 (by decide) (by decide) (fun c_2 => ?_) (fun c_2 => ?_)
    · exfalso; omega
    · skip
      refine lv_iconst (v := iI 0) hx hb dX5_cut_46 rfl ?_
      refine lv_goto (tgt := 56) hx hb dX5_cut_47 (by decide) ?_
      have hP : va_P g.1 vwCl [(qm, .inr (5, [.int (iI 1), .ref mz, .ref ms, .int (iI hn), .ref mp, .ref mb, .int (iI L), .ref m1, .ref m2, .ref m3, .ref mB, .ref mF, .ref mN, .ref mS, .int (iI sT), .ref mW, .long acc])), (mz, .inl (gI g, 326, .inl (aI (zF n ho h c))))] _ := hP
      have hD : va_D A [(qm, .inr (5, [.int (iI 1), .ref mz, .ref ms, .int (iI hn), .ref mp, .ref mb, .int (iI L), .ref m1, .ref m2, .ref m3, .ref mB, .ref mF, .ref mN, .ref mS, .int (iI sT), .ref mW, .long acc])), (mz, .inl (gI g, 326, .inl (aI (zF n ho h c))))] := hD
      exact mend_i (S := Unit) (w' := (fun _ => [(qm, .inr (5, [.int (iI 1), .ref mz, .ref ms, .int (iI hn), .ref mp, .ref mb, .int (iI L), .ref m1, .ref m2, .ref m3, .ref mB, .ref mF, .ref mN, .ref mS, .int (iI sT), .ref mW, .long acc])), (mz, .inl (gI g, 326, .inl (aI (zF n ho h c))))])) (post := (fun _ => True)) (r := (fun _ => 0)) hx hb hr hlk hS () hP hD (trivial) (by rfl) (Nat.le_of_ble_eq_true rfl) (Nat.le_of_ble_eq_true rfl) dX5_cut_56
set_option maxHeartbeats 800000 in
set_option maxRecDepth 100000 in
theorem c_X5_cut_x2 (l : Launch) (g : GT) (qm : Nat) (th : Int) (mz : Nat) (ms : Nat) (hn : Int) (mp : Nat) (mb : Nat) (L : Int) (m1 : Nat) (m2 : Nat) (m3 : Nat) (mB : Nat) (mF : Nat) (mN : Nat) (mS : Nat) (sT : Int) (mW : Nat) (acc : Int64) (n : Int) (ho : Int) (h : Int → Int) (c : Int → Int) (z : Int) (y : Int) (hY : YOk n ho h c) (ga : 0 ≤ y) (gb : y < n) (gz : Rg z) (g1 : z < 0 ∨ 7 < z) : MutI l yX5_cut wsX5_cut ({ frames := 1, cells := 0, slots := 0, locals := 22 }) 0 0 g [(qm, .inr (5, [.int (iI th), .ref mz, .ref ms, .int (iI hn), .ref mp, .ref mb, .int (iI L), .ref m1, .ref m2, .ref m3, .ref mB, .ref mF, .ref mN, .ref mS, .int (iI sT), .ref mW, .long acc])), (mz, .inl (gI g, 326, .inl (aI (zF n ho h c))))] [.ref qm, .int (iI z), .int (iI y)] (S := Unit) (fun _ => True) (fun _ => 0) (fun _ => [(qm, .inr (5, [.int (iI 2), .ref mz, .ref ms, .int (iI hn), .ref mp, .ref mb, .int (iI L), .ref m1, .ref m2, .ref m3, .ref mB, .ref mF, .ref mN, .ref mS, .int (iI sT), .ref mW, .long acc])), (mz, .inl (gI g, 326, .inl (aI (zF n ho h c))))]) := by
  refine mut_of (y := yX5_cut) (ws := wsX5_cut) (av := [.ref qm, .int (iI z), .int (iI y)]) (w := [(qm, .inr (5, [.int (iI th), .ref mz, .ref ms, .int (iI hn), .ref mp, .ref mb, .int (iI L), .ref m1, .ref m2, .ref m3, .ref mB, .ref mF, .ref mN, .ref mS, .int (iI sT), .ref mW, .long acc])), (mz, .inl (gI g, 326, .inl (aI (zF n ho h c))))]) (Qc := fun A => va_Qi (fun x9 (u9 : Unit) => x9 = iI ((fun _ => 0) u9) ∧ (fun _ => True) u9) (fun u9 t9 => MB g ((fun _ => [(qm, .inr (5, [.int (iI 2), .ref mz, .ref ms, .int (iI hn), .ref mp, .ref mb, .int (iI L), .ref m1, .ref m2, .ref m3, .ref mB, .ref mF, .ref mN, .ref mS, .int (iI sT), .ref mW, .long acc])), (mz, .inl (gI g, 326, .inl (aI (zF n ho h c))))]) u9) A t9) A) (cc := cX5_cut) (maxL := 3) (ret := (some .int)) (by decide) rfl (Nat.le_of_ble_eq_true rfl) ?_
  intro pZ eZ sZ mZ bZ meZ cZ A F hin hA hP hD hE hS ls hl
  obtain ⟨hx, hb, hr, hml, hts, hown, hlk⟩ := F
  skip
  have hown : sZ.vm.findClass RX5 = some mZ.cls := hown
  have hl : lv_has ls 3 [(0, .ref qm), (1, .int (iI z)), (2, .int (iI y))] := hl
  skip
  have w0 := hts (.fieldLink RX5 7 "SlantYardModel" "z" "[I") (by decide +kernel)
  have w1 := hts (.fieldLink RX5 47 "SlantYardModel" "thrown" "I") (by decide +kernel)
  have in5 : ∀ w ∈ u_ws RX5 TX5 17, w ∈ wsX5_cut := by decide +kernel
  have hnn := hY.n
  have hho := hY.hr
  refine lv_aload_n hx hb dX5_cut_0 rfl (lv_at hl 0 rfl) ?_
  refine lv_iload_n hx hb dX5_cut_1 rfl (lv_at hl 2 rfl) ?_
  refine lv_iconst (v := iI 0) hx hb dX5_cut_2 rfl ?_
  refine lv_aload_n hx hb dX5_cut_3 rfl (lv_at hl 0 rfl) ?_
  refine va_get (D := g.1) (ci := 5) (v := .ref mz) (C := RX5) (T := TX5) (N := 17) hx hb hts in5 hown hE.1 hP 0 rfl rfl 1 (by decide) w0 (fun _ h9 => h9) rfl dX5_cut_4 ?_
  refine lv_iconst (v := iI 0) hx hb dX5_cut_7 rfl ?_
  refine ln_iald hx hb hE hP 1 rfl (by decide) (by decide) (Nat.le_of_ble_eq_true rfl) n (rfl) dX5_cut_8 ?_
  refine lv_iconst (v := iI 1) hx hb dX5_cut_9 rfl ?_
  refine ln_isub hx hb (n - 1) (rfl) dX5_cut_10 ?_
  refine pc_i (va_runS (As := [.int (iI y), .int (iI 0), .int (iI (n - 1))]) (rest := [.ref qm]) ⟨hx, hb, hml, hown, hts⟩ (c_X5_in l g y 0 (n - 1) (by omega) (by omega) (by omega)) (va_cwS 3 hts gX5_cut_X5_in rfl rfl rfl (by decide +kernel) ⟨Nat.le_of_ble_eq_true rfl, Nat.le_of_ble_eq_true rfl⟩) (puS hE hS (va_P_nil g.1 _)) rfl rfl hl.1 rfl (lv_room (Nat.le_of_ble_eq_true rfl)) dX5_cut_11 ⟨Nat.le_of_ble_eq_true rfl, Nat.le_of_ble_eq_true rfl⟩) ?_
  refine lb_if_ne (tgt := 21) hx hb dX5_cut_14 (by decide) (fun c_1 => ?_) (fun c_1 => ?_)
  · skip
    refine lv_iload_n hx hb dX5_cut_21 rfl (lv_at hl 1 rfl) ?_
    refine lv_iconst (v := iI 0) hx hb dX5_cut_22 rfl ?_
    refine lv_bipush (v := iI 7) hx hb dX5_cut_23 (by decide) ?_
    refine pc_i (va_runS (As := [.int (iI z), .int (iI 0), .int (iI 7)]) (rest := [.ref qm]) ⟨hx, hb, hml, hown, hts⟩ (c_X5_in l g z 0 7 gz (by omega) (by omega)) (va_cwS 3 hts gX5_cut_X5_in rfl rfl rfl (by decide +kernel) ⟨Nat.le_of_ble_eq_true rfl, Nat.le_of_ble_eq_true rfl⟩) (puS hE hS (va_P_nil g.1 _)) rfl rfl hl.1 rfl (lv_room (Nat.le_of_ble_eq_true rfl)) dX5_cut_25 ⟨Nat.le_of_ble_eq_true rfl, Nat.le_of_ble_eq_true rfl⟩) ?_
    refine lb_if_eq (tgt := 35) hx hb dX5_cut_28 (by decide) (fun c_2 => ?_) (fun c_2 => ?_)
    · skip
      refine lv_iconst (v := iI 2) hx hb dX5_cut_35 rfl ?_
      refine va_put (D := g.1) (ci := 5) (v := .int (iI 2)) (ty := .int) (C := RX5) (T := TX5) (N := 17) hx hb hts in5 tyX5 tyX5_ok nmX5 hown hE.1 hP hD hS 0 rfl rfl 0 (by decide) w1 (fun _ h9 => h9) rfl (by decide +kernel) rfl rfl (Nat.le_of_ble_eq_true rfl) dX5_cut_36 (fun H locs hP hD hS => ?_)
      have hP : va_P g.1 vwCl [(qm, .inr (5, [.int (iI 2), .ref mz, .ref ms, .int (iI hn), .ref mp, .ref mb, .int (iI L), .ref m1, .ref m2, .ref m3, .ref mB, .ref mF, .ref mN, .ref mS, .int (iI sT), .ref mW, .long acc])), (mz, .inl (gI g, 326, .inl (aI (zF n ho h c))))] H := hP
      have hD : va_D A [(qm, .inr (5, [.int (iI 2), .ref mz, .ref ms, .int (iI hn), .ref mp, .ref mb, .int (iI L), .ref m1, .ref m2, .ref m3, .ref mB, .ref mF, .ref mN, .ref mS, .int (iI sT), .ref mW, .long acc])), (mz, .inl (gI g, 326, .inl (aI (zF n ho h c))))] := hD
      refine lv_aload_n hx hb dX5_cut_39 rfl (lv_at hl 0 rfl) ?_
      refine va_get (D := g.1) (ci := 5) (v := .int (iI 2)) (C := RX5) (T := TX5) (N := 17) hx hb hts in5 hown hE.1 hP 0 rfl rfl 0 (by decide) w1 (fun _ h9 => h9) rfl dX5_cut_40 ?_
      refine ln_if_le (tgt := 50) hx hb dX5_cut_43 (by decide) (by decide) (fun c_3 => ?_) (fun c_3 => ?_)
      · exfalso; omega
      · skip
        refine lv_iconst (v := iI 0) hx hb dX5_cut_46 rfl ?_
        refine lv_goto (tgt := 56) hx hb dX5_cut_47 (by decide) ?_
        have hP : va_P g.1 vwCl [(qm, .inr (5, [.int (iI 2), .ref mz, .ref ms, .int (iI hn), .ref mp, .ref mb, .int (iI L), .ref m1, .ref m2, .ref m3, .ref mB, .ref mF, .ref mN, .ref mS, .int (iI sT), .ref mW, .long acc])), (mz, .inl (gI g, 326, .inl (aI (zF n ho h c))))] _ := hP
        have hD : va_D A [(qm, .inr (5, [.int (iI 2), .ref mz, .ref ms, .int (iI hn), .ref mp, .ref mb, .int (iI L), .ref m1, .ref m2, .ref m3, .ref mB, .ref mF, .ref mN, .ref mS, .int (iI sT), .ref mW, .long acc])), (mz, .inl (gI g, 326, .inl (aI (zF n ho h c))))] := hD
        exact mend_i (S := Unit) (w' := (fun _ => [(qm, .inr (5, [.int (iI 2), .ref mz, .ref ms, .int (iI hn), .ref mp, .ref mb, .int (iI L), .ref m1, .ref m2, .ref m3, .ref mB, .ref mF, .ref mN, .ref mS, .int (iI sT), .ref mW, .long acc])), (mz, .inl (gI g, 326, .inl (aI (zF n ho h c))))])) (post := (fun _ => True)) (r := (fun _ => 0)) hx hb hr hlk hS () hP hD (trivial) (by rfl) (Nat.le_of_ble_eq_true rfl) (Nat.le_of_ble_eq_true rfl) dX5_cut_56
    · exfalso; omega
  · exfalso; omega

set_option maxHeartbeats 800000 in
set_option maxRecDepth 100000 in
theorem c_X5_layPicture (l : Launch) (g : GT) (qm : Nat) (th : Int) (mz : Nat) (ms : Nat) (hn : Int) (mp : Nat) (mb : Nat) (L : Int) (m1 : Nat) (m2 : Nat) (m3 : Nat) (mB : Nat) (mF : Nat) (mN : Nat) (mS : Nat) (sT : Int) (mW : Nat) (acc : Int64) (n : Int) (ho : Int) (h : Int → Int) (c : Int → Int) (B0 : Int → Int) (G : Int → Int) (N : Int → Int) (S0 : Int → Int) (hY : YOk n ho h c) : MutV l yX5_layPicture wsX5_layPicture ({ frames := 3, cells := 0, slots := 0, locals := 76 }) 0 0 g [(qm, .inr (5, [.int (iI th), .ref mz, .ref ms, .int (iI hn), .ref mp, .ref mb, .int (iI L), .ref m1, .ref m2, .ref m3, .ref mB, .ref mF, .ref mN, .ref mS, .int (iI sT), .ref mW, .long acc])), (mz, .inl (gI g, 326, .inl (aI (zF n ho h c)))), (mB, .inl (gI g, 512, .inl (aI B0))), (mF, .inl (gI g, 512, .inl (aI G))), (mN, .inl (gI g, 512, .inl (aI N))), (mS, .inl (gI g, 864, .inl (aI S0)))] [.ref qm] (S := (Int → Int) × (Int → Int)) (fun (u9 : (Int → Int) × (Int → Int)) => match u9 with | (G2, N2) => GOk (picM n h) G2 N2) (fun (u9 : (Int → Int) × (Int → Int)) => match u9 with | (G2, N2) => [(qm, .inr (5, [.int (iI th), .ref mz, .ref ms, .int (iI hn), .ref mp, .ref mb, .int (iI L), .ref m1, .ref m2, .ref m3, .ref mB, .ref mF, .ref mN, .ref mS, .int (iI sT), .ref mW, .long acc])), (mz, .inl (gI g, 326, .inl (aI (zF n ho h c)))), (mB, .inl (gI g, 512, .inl (aI ((mbF (picM n h)))))), (mF, .inl (gI g, 512, .inl (aI G2))), (mN, .inl (gI g, 512, .inl (aI N2))), (mS, .inl (gI g, 864, .inl (aI ((sdF (picM n h) 512)))))]) := by
  refine mut_of (y := yX5_layPicture) (ws := wsX5_layPicture) (av := [.ref qm]) (w := [(qm, .inr (5, [.int (iI th), .ref mz, .ref ms, .int (iI hn), .ref mp, .ref mb, .int (iI L), .ref m1, .ref m2, .ref m3, .ref mB, .ref mF, .ref mN, .ref mS, .int (iI sT), .ref mW, .long acc])), (mz, .inl (gI g, 326, .inl (aI (zF n ho h c)))), (mB, .inl (gI g, 512, .inl (aI B0))), (mF, .inl (gI g, 512, .inl (aI G))), (mN, .inl (gI g, 512, .inl (aI N))), (mS, .inl (gI g, 864, .inl (aI S0)))]) (Qc := fun A => va_Qv (fun (u9 : (Int → Int) × (Int → Int)) => (fun (u9 : (Int → Int) × (Int → Int)) => match u9 with | (G2, N2) => GOk (picM n h) G2 N2) u9) (fun u9 t9 => MB g ((fun (u9 : (Int → Int) × (Int → Int)) => match u9 with | (G2, N2) => [(qm, .inr (5, [.int (iI th), .ref mz, .ref ms, .int (iI hn), .ref mp, .ref mb, .int (iI L), .ref m1, .ref m2, .ref m3, .ref mB, .ref mF, .ref mN, .ref mS, .int (iI sT), .ref mW, .long acc])), (mz, .inl (gI g, 326, .inl (aI (zF n ho h c)))), (mB, .inl (gI g, 512, .inl (aI ((mbF (picM n h)))))), (mF, .inl (gI g, 512, .inl (aI G2))), (mN, .inl (gI g, 512, .inl (aI N2))), (mS, .inl (gI g, 864, .inl (aI ((sdF (picM n h) 512)))))]) u9) A t9) A) (cc := cX5_layPicture) (maxL := 4) (ret := none) (by decide) rfl (Nat.le_of_ble_eq_true rfl) ?_
  intro pZ eZ sZ mZ bZ meZ cZ A F hin hA hP hD hE hS ls hl
  obtain ⟨hx, hb, hr, hml, hts, hown, hlk⟩ := F
  skip
  have hown : sZ.vm.findClass RX5 = some mZ.cls := hown
  have hl : lv_has ls 4 [(0, .ref qm)] := hl
  skip
  have w0 := hts (.fieldLink RX5 7 "SlantYardModel" "z" "[I") (by decide +kernel)
  have w1 := hts (.fieldLink RX5 31 "SlantYardModel" "blocks" "[I") (by decide +kernel)
  have w2 := hts (.fieldLink RX5 40 "SlantYardModel" "seen" "[I") (by decide +kernel)
  have w3 := hts (.fieldLink RX5 34 "SlantYardModel" "faces" "[I") (by decide +kernel)
  have in5 : ∀ w ∈ u_ws RX5 TX5 17, w ∈ wsX5_layPicture := by decide +kernel
  have hnn := hY.n
  have hho := hY.hr
  have hM9 : MOk (picM n h) := picM_ok hY
  have hI9 : MIn n h (picM n h) := picM_in hY
  refine lv_iconst (v := iI 0) hx hb dX5_layPicture_0 rfl ?_
  refine lv_istore_n (lv' := [(1, .int (iI 0)), (0, .ref qm)]) hx hb dX5_layPicture_1 rfl hl (by decide) rfl (fun ls hl => ?_)
  have L2 : ∀ (k_1 : Nat) (k : Int) (e : Int → Int) (gk : 0 ≤ k) (gl : k ≤ 512) (ge : ∀ j, 0 ≤ j → j < k → e j = -1) (H : Heap) (locs : List Loc), va_P g.1 vwCl [(qm, .inr (5, [.int (iI th), .ref mz, .ref ms, .int (iI hn), .ref mp, .ref mb, .int (iI L), .ref m1, .ref m2, .ref m3, .ref mB, .ref mF, .ref mN, .ref mS, .int (iI sT), .ref mW, .long acc])), (mz, .inl (gI g, 326, .inl (aI (zF n ho h c)))), (mB, .inl (gI g, 512, .inl (aI e))), (mF, .inl (gI g, 512, .inl (aI G))), (mN, .inl (gI g, 512, .inl (aI N))), (mS, .inl (gI g, 864, .inl (aI S0)))] H → va_D A [(qm, .inr (5, [.int (iI th), .ref mz, .ref ms, .int (iI hn), .ref mp, .ref mb, .int (iI L), .ref m1, .ref m2, .ref m3, .ref mB, .ref mF, .ref mN, .ref mS, .int (iI sT), .ref mW, .long acc])), (mz, .inl (gI g, 326, .inl (aI (zF n ho h c)))), (mB, .inl (gI g, 512, .inl (aI e))), (mF, .inl (gI g, 512, .inl (aI G))), (mN, .inl (gI g, 512, .inl (aI N))), (mS, .inl (gI g, 864, .inl (aI S0)))] → va_S A sZ.heap H locs → ∀ (ls : Array Slot), lv_has ls 4 [(0, .ref qm), (1, .int (iI k))] → (512 - k).toNat < k_1 → W pZ l eZ ({ frames := 3, cells := 0, slots := 0, locals := 76 } : Room) sZ mZ [.ref qm].toArray bZ meZ cZ H locs 0 0 (MQ bZ (va_Qv (fun (u9 : (Int → Int) × (Int → Int)) => (fun (u9 : (Int → Int) × (Int → Int)) => match u9 with | (G2, N2) => GOk (picM n h) G2 N2) u9) (fun u9 t9 => MB g ((fun (u9 : (Int → Int) × (Int → Int)) => match u9 with | (G2, N2) => [(qm, .inr (5, [.int (iI th), .ref mz, .ref ms, .int (iI hn), .ref mp, .ref mb, .int (iI L), .ref m1, .ref m2, .ref m3, .ref mB, .ref mF, .ref mN, .ref mS, .int (iI sT), .ref mW, .long acc])), (mz, .inl (gI g, 326, .inl (aI (zF n ho h c)))), (mB, .inl (gI g, 512, .inl (aI ((mbF (picM n h)))))), (mF, .inl (gI g, 512, .inl (aI G2))), (mN, .inl (gI g, 512, .inl (aI N2))), (mS, .inl (gI g, 864, .inl (aI ((sdF (picM n h) 512)))))]) u9) A t9) A) [.ref qm].toArray sZ 0 0 A) (F0 mZ 2 ls []) := by
    intro k_1
    induction k_1 with
    | zero => intro k e gk gl ge H locs hP hD hS ls hl hm_3; exact absurd hm_3 (Nat.not_lt_zero _)
    | succ k_1 ih_2 =>
      intro k e gk gl ge H locs hP hD hS ls hl hm_3
      refine lv_iload_n hx hb dX5_layPicture_2 rfl (lv_at hl 1 rfl) ?_
      refine lv_sipush (v := iI 512) hx hb dX5_layPicture_3 (by decide) ?_
      refine ln_icmp_ge (tgt := 22) hx hb dX5_layPicture_6 (by decide) ⟨by omega, by omega⟩ (by decide) (fun c_4 => ?_) (fun c_4 => ?_)
      · skip
        have hP := hP.recell 2 rfl ((mbF (fun _ => 0))) (fun j h0 h1 => by rw [ge j h0 (by omega)]; rfl)
        have hD := hD.set (p := 2) (e := .inl (gI g, 512, .inl (aI ((mbF (fun _ => 0)))))) rfl
        have hP : va_P g.1 vwCl [(qm, .inr (5, [.int (iI th), .ref mz, .ref ms, .int (iI hn), .ref mp, .ref mb, .int (iI L), .ref m1, .ref m2, .ref m3, .ref mB, .ref mF, .ref mN, .ref mS, .int (iI sT), .ref mW, .long acc])), (mz, .inl (gI g, 326, .inl (aI (zF n ho h c)))), (mB, .inl (gI g, 512, .inl (aI ((mbF (fun _ => 0)))))), (mF, .inl (gI g, 512, .inl (aI G))), (mN, .inl (gI g, 512, .inl (aI N))), (mS, .inl (gI g, 864, .inl (aI S0)))] _ := hP
        have hD : va_D A [(qm, .inr (5, [.int (iI th), .ref mz, .ref ms, .int (iI hn), .ref mp, .ref mb, .int (iI L), .ref m1, .ref m2, .ref m3, .ref mB, .ref mF, .ref mN, .ref mS, .int (iI sT), .ref mW, .long acc])), (mz, .inl (gI g, 326, .inl (aI (zF n ho h c)))), (mB, .inl (gI g, 512, .inl (aI ((mbF (fun _ => 0)))))), (mF, .inl (gI g, 512, .inl (aI G))), (mN, .inl (gI g, 512, .inl (aI N))), (mS, .inl (gI g, 864, .inl (aI S0)))] := hD
        refine lv_iconst (v := iI 0) hx hb dX5_layPicture_22 rfl ?_
        refine lv_istore_n (lv' := [(1, .int (iI 0)), (0, .ref qm)]) hx hb dX5_layPicture_23 rfl hl (by decide) rfl (fun ls hl => ?_)
        have L24 : ∀ (k_5 : Nat) (k : Int) (e : Int → Int) (gk : 0 ≤ k) (gl : k ≤ 864) (ge : ∀ j, 0 ≤ j → j < k → e j = 0) (H : Heap) (locs : List Loc), va_P g.1 vwCl [(qm, .inr (5, [.int (iI th), .ref mz, .ref ms, .int (iI hn), .ref mp, .ref mb, .int (iI L), .ref m1, .ref m2, .ref m3, .ref mB, .ref mF, .ref mN, .ref mS, .int (iI sT), .ref mW, .long acc])), (mz, .inl (gI g, 326, .inl (aI (zF n ho h c)))), (mB, .inl (gI g, 512, .inl (aI ((mbF (fun _ => 0)))))), (mF, .inl (gI g, 512, .inl (aI G))), (mN, .inl (gI g, 512, .inl (aI N))), (mS, .inl (gI g, 864, .inl (aI e)))] H → va_D A [(qm, .inr (5, [.int (iI th), .ref mz, .ref ms, .int (iI hn), .ref mp, .ref mb, .int (iI L), .ref m1, .ref m2, .ref m3, .ref mB, .ref mF, .ref mN, .ref mS, .int (iI sT), .ref mW, .long acc])), (mz, .inl (gI g, 326, .inl (aI (zF n ho h c)))), (mB, .inl (gI g, 512, .inl (aI ((mbF (fun _ => 0)))))), (mF, .inl (gI g, 512, .inl (aI G))), (mN, .inl (gI g, 512, .inl (aI N))), (mS, .inl (gI g, 864, .inl (aI e)))] → va_S A sZ.heap H locs → ∀ (ls : Array Slot), lv_has ls 4 [(0, .ref qm), (1, .int (iI k))] → (864 - k).toNat < k_5 → W pZ l eZ ({ frames := 3, cells := 0, slots := 0, locals := 76 } : Room) sZ mZ [.ref qm].toArray bZ meZ cZ H locs 0 0 (MQ bZ (va_Qv (fun (u9 : (Int → Int) × (Int → Int)) => (fun (u9 : (Int → Int) × (Int → Int)) => match u9 with | (G2, N2) => GOk (picM n h) G2 N2) u9) (fun u9 t9 => MB g ((fun (u9 : (Int → Int) × (Int → Int)) => match u9 with | (G2, N2) => [(qm, .inr (5, [.int (iI th), .ref mz, .ref ms, .int (iI hn), .ref mp, .ref mb, .int (iI L), .ref m1, .ref m2, .ref m3, .ref mB, .ref mF, .ref mN, .ref mS, .int (iI sT), .ref mW, .long acc])), (mz, .inl (gI g, 326, .inl (aI (zF n ho h c)))), (mB, .inl (gI g, 512, .inl (aI ((mbF (picM n h)))))), (mF, .inl (gI g, 512, .inl (aI G2))), (mN, .inl (gI g, 512, .inl (aI N2))), (mS, .inl (gI g, 864, .inl (aI ((sdF (picM n h) 512)))))]) u9) A t9) A) [.ref qm].toArray sZ 0 0 A) (F0 mZ 24 ls []) := by
          intro k_5
          induction k_5 with
          | zero => intro k e gk gl ge H locs hP hD hS ls hl hm_7; exact absurd hm_7 (Nat.not_lt_zero _)
          | succ k_5 ih_6 =>
            intro k e gk gl ge H locs hP hD hS ls hl hm_7
            refine lv_iload_n hx hb dX5_layPicture_24 rfl (lv_at hl 1 rfl) ?_
            refine lv_sipush (v := iI 864) hx hb dX5_layPicture_25 (by decide) ?_
            refine ln_icmp_ge (tgt := 44) hx hb dX5_layPicture_28 (by decide) ⟨by omega, by omega⟩ (by decide) (fun c_8 => ?_) (fun c_8 => ?_)
            · skip
              have hP := hP.recell 5 rfl ((sdF (picM n h) 0)) (fun j h0 h1 => by rw [ge j h0 (by omega)]; rfl)
              have hD := hD.set (p := 5) (e := .inl (gI g, 864, .inl (aI ((sdF (picM n h) 0))))) rfl
              have hP : va_P g.1 vwCl [(qm, .inr (5, [.int (iI th), .ref mz, .ref ms, .int (iI hn), .ref mp, .ref mb, .int (iI L), .ref m1, .ref m2, .ref m3, .ref mB, .ref mF, .ref mN, .ref mS, .int (iI sT), .ref mW, .long acc])), (mz, .inl (gI g, 326, .inl (aI (zF n ho h c)))), (mB, .inl (gI g, 512, .inl (aI ((mbF (fun _ => 0)))))), (mF, .inl (gI g, 512, .inl (aI G))), (mN, .inl (gI g, 512, .inl (aI N))), (mS, .inl (gI g, 864, .inl (aI ((sdF (picM n h) 0)))))] _ := hP
              have hD : va_D A [(qm, .inr (5, [.int (iI th), .ref mz, .ref ms, .int (iI hn), .ref mp, .ref mb, .int (iI L), .ref m1, .ref m2, .ref m3, .ref mB, .ref mF, .ref mN, .ref mS, .int (iI sT), .ref mW, .long acc])), (mz, .inl (gI g, 326, .inl (aI (zF n ho h c)))), (mB, .inl (gI g, 512, .inl (aI ((mbF (fun _ => 0)))))), (mF, .inl (gI g, 512, .inl (aI G))), (mN, .inl (gI g, 512, .inl (aI N))), (mS, .inl (gI g, 864, .inl (aI ((sdF (picM n h) 0)))))] := hD
              refine lv_iconst (v := iI 0) hx hb dX5_layPicture_44 rfl ?_
              refine lv_istore_n (lv' := [(1, .int (iI 0)), (0, .ref qm)]) hx hb dX5_layPicture_45 rfl hl (by decide) rfl (fun ls hl => ?_)
              have L46 : ∀ (k_9 : Nat) (y : Int) (G2 : Int → Int) (N2 : Int → Int) (gy : 0 ≤ y) (ly : y ≤ n) (gG : GOk (drawYK n h y) G2 N2) (H : Heap) (locs : List Loc), va_P g.1 vwCl [(qm, .inr (5, [.int (iI th), .ref mz, .ref ms, .int (iI hn), .ref mp, .ref mb, .int (iI L), .ref m1, .ref m2, .ref m3, .ref mB, .ref mF, .ref mN, .ref mS, .int (iI sT), .ref mW, .long acc])), (mz, .inl (gI g, 326, .inl (aI (zF n ho h c)))), (mB, .inl (gI g, 512, .inl (aI ((mbF (drawYK n h y)))))), (mF, .inl (gI g, 512, .inl (aI G2))), (mN, .inl (gI g, 512, .inl (aI N2))), (mS, .inl (gI g, 864, .inl (aI ((sdF (picM n h) 0)))))] H → va_D A [(qm, .inr (5, [.int (iI th), .ref mz, .ref ms, .int (iI hn), .ref mp, .ref mb, .int (iI L), .ref m1, .ref m2, .ref m3, .ref mB, .ref mF, .ref mN, .ref mS, .int (iI sT), .ref mW, .long acc])), (mz, .inl (gI g, 326, .inl (aI (zF n ho h c)))), (mB, .inl (gI g, 512, .inl (aI ((mbF (drawYK n h y)))))), (mF, .inl (gI g, 512, .inl (aI G2))), (mN, .inl (gI g, 512, .inl (aI N2))), (mS, .inl (gI g, 864, .inl (aI ((sdF (picM n h) 0)))))] → va_S A sZ.heap H locs → ∀ (ls : Array Slot), lv_has ls 4 [(0, .ref qm), (1, .int (iI y))] → (n - y).toNat < k_9 → W pZ l eZ ({ frames := 3, cells := 0, slots := 0, locals := 76 } : Room) sZ mZ [.ref qm].toArray bZ meZ cZ H locs 0 0 (MQ bZ (va_Qv (fun (u9 : (Int → Int) × (Int → Int)) => (fun (u9 : (Int → Int) × (Int → Int)) => match u9 with | (G2, N2) => GOk (picM n h) G2 N2) u9) (fun u9 t9 => MB g ((fun (u9 : (Int → Int) × (Int → Int)) => match u9 with | (G2, N2) => [(qm, .inr (5, [.int (iI th), .ref mz, .ref ms, .int (iI hn), .ref mp, .ref mb, .int (iI L), .ref m1, .ref m2, .ref m3, .ref mB, .ref mF, .ref mN, .ref mS, .int (iI sT), .ref mW, .long acc])), (mz, .inl (gI g, 326, .inl (aI (zF n ho h c)))), (mB, .inl (gI g, 512, .inl (aI ((mbF (picM n h)))))), (mF, .inl (gI g, 512, .inl (aI G2))), (mN, .inl (gI g, 512, .inl (aI N2))), (mS, .inl (gI g, 864, .inl (aI ((sdF (picM n h) 512)))))]) u9) A t9) A) [.ref qm].toArray sZ 0 0 A) (F0 mZ 46 ls []) := by
                intro k_9
                induction k_9 with
                | zero => intro y G2 N2 gy ly gG H locs hP hD hS ls hl hm_11; exact absurd hm_11 (Nat.not_lt_zero _)
                | succ k_9 ih_10 =>
                  intro y G2 N2 gy ly gG H locs hP hD hS ls hl hm_11
                  refine lv_iload_n hx hb dX5_layPicture_46 rfl (lv_at hl 1 rfl) ?_
                  refine lv_aload_n hx hb dX5_layPicture_47 rfl (lv_at hl 0 rfl) ?_
                  refine va_get (D := g.1) (ci := 5) (v := .ref mz) (C := RX5) (T := TX5) (N := 17) hx hb hts in5 hown hE.1 hP 0 rfl rfl 1 (by decide) w0 (fun _ h9 => h9) rfl dX5_layPicture_48 ?_
                  refine lv_iconst (v := iI 0) hx hb dX5_layPicture_51 rfl ?_
                  refine ln_iald hx hb hE hP 1 rfl (by decide) (by decide) (Nat.le_of_ble_eq_true rfl) n (rfl) dX5_layPicture_52 ?_
                  refine ln_icmp_ge (tgt := 105) hx hb dX5_layPicture_53 (by decide) ⟨by omega, by omega⟩ ⟨by omega, by omega⟩ (fun c_12 => ?_) (fun c_12 => ?_)
                  · skip
                    have hP := hP.recell 2 rfl ((mbF (picM n h))) (fun j _ _ => by rw [show y = n by omega]; rfl)
                    have hD := hD.set (p := 2) (e := .inl (gI g, 512, .inl (aI ((mbF (picM n h)))))) rfl
                    have hP : va_P g.1 vwCl [(qm, .inr (5, [.int (iI th), .ref mz, .ref ms, .int (iI hn), .ref mp, .ref mb, .int (iI L), .ref m1, .ref m2, .ref m3, .ref mB, .ref mF, .ref mN, .ref mS, .int (iI sT), .ref mW, .long acc])), (mz, .inl (gI g, 326, .inl (aI (zF n ho h c)))), (mB, .inl (gI g, 512, .inl (aI ((mbF (picM n h)))))), (mF, .inl (gI g, 512, .inl (aI G2))), (mN, .inl (gI g, 512, .inl (aI N2))), (mS, .inl (gI g, 864, .inl (aI ((sdF (picM n h) 0)))))] _ := hP
                    have hD : va_D A [(qm, .inr (5, [.int (iI th), .ref mz, .ref ms, .int (iI hn), .ref mp, .ref mb, .int (iI L), .ref m1, .ref m2, .ref m3, .ref mB, .ref mF, .ref mN, .ref mS, .int (iI sT), .ref mW, .long acc])), (mz, .inl (gI g, 326, .inl (aI (zF n ho h c)))), (mB, .inl (gI g, 512, .inl (aI ((mbF (picM n h)))))), (mF, .inl (gI g, 512, .inl (aI G2))), (mN, .inl (gI g, 512, .inl (aI N2))), (mS, .inl (gI g, 864, .inl (aI ((sdF (picM n h) 0)))))] := hD
                    have gG : GOk (picM n h) G2 N2 := by have q9 := gG; rw [show y = n by omega] at q9; exact q9
                    refine lv_iconst (v := iI 0) hx hb dX5_layPicture_105 rfl ?_
                    refine lv_istore_n (lv' := [(1, .int (iI 0)), (0, .ref qm)]) hx hb dX5_layPicture_106 rfl hl (by decide) rfl (fun ls hl => ?_)
                    have L107 : ∀ (k_13 : Nat) (k : Int) (gk : 0 ≤ k) (gl : k ≤ 512) (H : Heap) (locs : List Loc), va_P g.1 vwCl [(qm, .inr (5, [.int (iI th), .ref mz, .ref ms, .int (iI hn), .ref mp, .ref mb, .int (iI L), .ref m1, .ref m2, .ref m3, .ref mB, .ref mF, .ref mN, .ref mS, .int (iI sT), .ref mW, .long acc])), (mz, .inl (gI g, 326, .inl (aI (zF n ho h c)))), (mB, .inl (gI g, 512, .inl (aI ((mbF (picM n h)))))), (mF, .inl (gI g, 512, .inl (aI G2))), (mN, .inl (gI g, 512, .inl (aI N2))), (mS, .inl (gI g, 864, .inl (aI ((sdF (picM n h) k)))))] H → va_D A [(qm, .inr (5, [.int (iI th), .ref mz, .ref ms, .int (iI hn), .ref mp, .ref mb, .int (iI L), .ref m1, .ref m2, .ref m3, .ref mB, .ref mF, .ref mN, .ref mS, .int (iI sT), .ref mW, .long acc])), (mz, .inl (gI g, 326, .inl (aI (zF n ho h c)))), (mB, .inl (gI g, 512, .inl (aI ((mbF (picM n h)))))), (mF, .inl (gI g, 512, .inl (aI G2))), (mN, .inl (gI g, 512, .inl (aI N2))), (mS, .inl (gI g, 864, .inl (aI ((sdF (picM n h) k)))))] → va_S A sZ.heap H locs → ∀ (ls : Array Slot), lv_has ls 4 [(0, .ref qm), (1, .int (iI k))] → (512 - k).toNat < k_13 → W pZ l eZ ({ frames := 3, cells := 0, slots := 0, locals := 76 } : Room) sZ mZ [.ref qm].toArray bZ meZ cZ H locs 0 0 (MQ bZ (va_Qv (fun (u9 : (Int → Int) × (Int → Int)) => (fun (u9 : (Int → Int) × (Int → Int)) => match u9 with | (G2, N2) => GOk (picM n h) G2 N2) u9) (fun u9 t9 => MB g ((fun (u9 : (Int → Int) × (Int → Int)) => match u9 with | (G2, N2) => [(qm, .inr (5, [.int (iI th), .ref mz, .ref ms, .int (iI hn), .ref mp, .ref mb, .int (iI L), .ref m1, .ref m2, .ref m3, .ref mB, .ref mF, .ref mN, .ref mS, .int (iI sT), .ref mW, .long acc])), (mz, .inl (gI g, 326, .inl (aI (zF n ho h c)))), (mB, .inl (gI g, 512, .inl (aI ((mbF (picM n h)))))), (mF, .inl (gI g, 512, .inl (aI G2))), (mN, .inl (gI g, 512, .inl (aI N2))), (mS, .inl (gI g, 864, .inl (aI ((sdF (picM n h) 512)))))]) u9) A t9) A) [.ref qm].toArray sZ 0 0 A) (F0 mZ 107 ls []) := by
                      intro k_13
                      induction k_13 with
                      | zero => intro k gk gl H locs hP hD hS ls hl hm_15; exact absurd hm_15 (Nat.not_lt_zero _)
                      | succ k_13 ih_14 =>
                        intro k gk gl H locs hP hD hS ls hl hm_15
                        have b_16 : -1 ≤ mbF (picM n h) k ∧ mbF (picM n h) k < 288 := mb_rg hM9 k
                        refine lv_iload_n hx hb dX5_layPicture_107 rfl (lv_at hl 1 rfl) ?_
                        refine lv_sipush (v := iI 512) hx hb dX5_layPicture_108 (by decide) ?_
                        refine ln_icmp_ge (tgt := 154) hx hb dX5_layPicture_111 (by decide) ⟨by omega, by omega⟩ (by decide) (fun c_17 => ?_) (fun c_17 => ?_)
                        · skip
                          have hP := hP.recell 5 rfl ((sdF (picM n h) 512)) (fun j _ _ => by rw [show k = 512 by omega])
                          have hD := hD.set (p := 5) (e := .inl (gI g, 864, .inl (aI ((sdF (picM n h) 512))))) rfl
                          have hP : va_P g.1 vwCl [(qm, .inr (5, [.int (iI th), .ref mz, .ref ms, .int (iI hn), .ref mp, .ref mb, .int (iI L), .ref m1, .ref m2, .ref m3, .ref mB, .ref mF, .ref mN, .ref mS, .int (iI sT), .ref mW, .long acc])), (mz, .inl (gI g, 326, .inl (aI (zF n ho h c)))), (mB, .inl (gI g, 512, .inl (aI ((mbF (picM n h)))))), (mF, .inl (gI g, 512, .inl (aI G2))), (mN, .inl (gI g, 512, .inl (aI N2))), (mS, .inl (gI g, 864, .inl (aI ((sdF (picM n h) 512)))))] _ := hP
                          have hD : va_D A [(qm, .inr (5, [.int (iI th), .ref mz, .ref ms, .int (iI hn), .ref mp, .ref mb, .int (iI L), .ref m1, .ref m2, .ref m3, .ref mB, .ref mF, .ref mN, .ref mS, .int (iI sT), .ref mW, .long acc])), (mz, .inl (gI g, 326, .inl (aI (zF n ho h c)))), (mB, .inl (gI g, 512, .inl (aI ((mbF (picM n h)))))), (mF, .inl (gI g, 512, .inl (aI G2))), (mN, .inl (gI g, 512, .inl (aI N2))), (mS, .inl (gI g, 864, .inl (aI ((sdF (picM n h) 512)))))] := hD
                          exact mend_v (S := (Int → Int) × (Int → Int)) (w' := (fun (u9 : (Int → Int) × (Int → Int)) => match u9 with | (G2, N2) => [(qm, .inr (5, [.int (iI th), .ref mz, .ref ms, .int (iI hn), .ref mp, .ref mb, .int (iI L), .ref m1, .ref m2, .ref m3, .ref mB, .ref mF, .ref mN, .ref mS, .int (iI sT), .ref mW, .long acc])), (mz, .inl (gI g, 326, .inl (aI (zF n ho h c)))), (mB, .inl (gI g, 512, .inl (aI ((mbF (picM n h)))))), (mF, .inl (gI g, 512, .inl (aI G2))), (mN, .inl (gI g, 512, .inl (aI N2))), (mS, .inl (gI g, 864, .inl (aI ((sdF (picM n h) 512)))))])) (post := (fun (u9 : (Int → Int) × (Int → Int)) => match u9 with | (G2, N2) => GOk (picM n h) G2 N2)) hx hb hr hlk hS (G2, N2) hP hD (by exact gG) (Nat.le_of_ble_eq_true rfl) (Nat.le_of_ble_eq_true rfl) dX5_layPicture_154
                        · skip
                          refine lv_aload_n hx hb dX5_layPicture_114 rfl (lv_at hl 0 rfl) ?_
                          refine va_get (D := g.1) (ci := 5) (v := .ref mB) (C := RX5) (T := TX5) (N := 17) hx hb hts in5 hown hE.1 hP 0 rfl rfl 10 (by decide) w1 (fun _ h9 => h9) rfl dX5_layPicture_115 ?_
                          refine lv_iload_n hx hb dX5_layPicture_118 rfl (lv_at hl 1 rfl) ?_
                          refine ln_iald hx hb hE hP 2 rfl (by omega) (by omega) (Nat.le_of_ble_eq_true rfl) (((mbF (picM n h))) k) (rfl) dX5_layPicture_119 ?_
                          refine lv_iconst (v := iI (-1)) hx hb dX5_layPicture_120 rfl ?_
                          refine ln_icmp_eq (tgt := 148) hx hb dX5_layPicture_121 (by decide) ⟨by omega, by omega⟩ (by decide) (fun c_18 => ?_) (fun c_18 => ?_)
                          · skip
                            refine lv_iinc (v := iI (k + 1)) (lv' := [(1, .int (iI (k + 1))), (0, .ref qm)]) hx hb dX5_layPicture_148 hl (k := 1) rfl (iI_add _ _) (by decide) rfl (fun ls hl => ?_)
                            refine lv_goto (tgt := 107) hx hb dX5_layPicture_151 (by decide) ?_
                            have hl : lv_has ls 4 [(1, .int (iI (k + 1))), (0, .ref qm)] := hl
                            have hP := hP.recell 5 rfl ((sdF (picM n h) (k + 1))) (fun j q7 _ => sd_no hM9 gk ((mb_none hM9 k).mp (by omega)) q7)
                            have hD := hD.set (p := 5) (e := .inl (gI g, 864, .inl (aI ((sdF (picM n h) (k + 1)))))) rfl
                            exact ih_14 (k + 1) (by omega) (by omega) _ _ hP hD hS _ (lv_sub hl [1, 0] rfl) (by omega)
                          · skip
                            have hne9 : picM n h k ≠ 0 := fun q9 => absurd ((mb_none hM9 k).mpr q9) (by omega)
                            have hi9 := mb_idx hM9 gG hne9
                            refine lv_aload_n hx hb dX5_layPicture_124 rfl (lv_at hl 0 rfl) ?_
                            refine va_get (D := g.1) (ci := 5) (v := .ref mS) (C := RX5) (T := TX5) (N := 17) hx hb hts in5 hown hE.1 hP 0 rfl rfl 13 (by decide) w2 (fun _ h9 => h9) rfl dX5_layPicture_125 ?_
                            refine lv_iconst (v := iI 3) hx hb dX5_layPicture_128 rfl ?_
                            refine lv_aload_n hx hb dX5_layPicture_129 rfl (lv_at hl 0 rfl) ?_
                            refine va_get (D := g.1) (ci := 5) (v := .ref mB) (C := RX5) (T := TX5) (N := 17) hx hb hts in5 hown hE.1 hP 0 rfl rfl 10 (by decide) w1 (fun _ h9 => h9) rfl dX5_layPicture_130 ?_
                            refine lv_iload_n hx hb dX5_layPicture_133 rfl (lv_at hl 1 rfl) ?_
                            refine ln_iald hx hb hE hP 2 rfl (by omega) (by omega) (Nat.le_of_ble_eq_true rfl) (((mbF (picM n h))) k) (rfl) dX5_layPicture_134 ?_
                            refine ln_imul hx hb (3 * ((mbF (picM n h))) k) (rfl) dX5_layPicture_135 ?_
                            refine lv_aload_n hx hb dX5_layPicture_136 rfl (lv_at hl 0 rfl) ?_
                            refine va_get (D := g.1) (ci := 5) (v := .ref mF) (C := RX5) (T := TX5) (N := 17) hx hb hts in5 hown hE.1 hP 0 rfl rfl 11 (by decide) w3 (fun _ h9 => h9) rfl dX5_layPicture_137 ?_
                            refine lv_iload_n hx hb dX5_layPicture_140 rfl (lv_at hl 1 rfl) ?_
                            refine ln_iald hx hb hE hP 3 rfl (by omega) (by omega) (Nat.le_of_ble_eq_true rfl) (G2 k) (rfl) dX5_layPicture_141 ?_
                            refine ln_iadd hx hb (3 * ((mbF (picM n h))) k + G2 k) (rfl) dX5_layPicture_142 ?_
                            refine lv_dup2_11 hx hb dX5_layPicture_143 rfl rfl ?_
                            refine ln_iald hx hb hE hP 5 rfl (by omega) (by omega) (Nat.le_of_ble_eq_true rfl) (((sdF (picM n h) k)) (3 * ((mbF (picM n h))) k + G2 k)) (rfl) dX5_layPicture_144 ?_
                            refine lv_iconst (v := iI 1) hx hb dX5_layPicture_145 rfl ?_
                            refine ln_iadd hx hb (((sdF (picM n h) k)) (3 * ((mbF (picM n h))) k + G2 k) + 1) (rfl) dX5_layPicture_146 ?_
                            refine ln_iast hx hb hE hP hD hS 5 rfl (by omega) (by omega) (Nat.le_of_ble_eq_true rfl) (sdF (picM n h) (k + 1)) (fun j q7 q8 => sd_s hM9 gG gk hne9 q7 (by omega)) dX5_layPicture_147 (fun H locs hP hD hS => ?_)
                            have hP : va_P g.1 vwCl [(qm, .inr (5, [.int (iI th), .ref mz, .ref ms, .int (iI hn), .ref mp, .ref mb, .int (iI L), .ref m1, .ref m2, .ref m3, .ref mB, .ref mF, .ref mN, .ref mS, .int (iI sT), .ref mW, .long acc])), (mz, .inl (gI g, 326, .inl (aI (zF n ho h c)))), (mB, .inl (gI g, 512, .inl (aI ((mbF (picM n h)))))), (mF, .inl (gI g, 512, .inl (aI G2))), (mN, .inl (gI g, 512, .inl (aI N2))), (mS, .inl (gI g, 864, .inl (aI (sdF (picM n h) (k + 1)))))] H := hP
                            have hD : va_D A [(qm, .inr (5, [.int (iI th), .ref mz, .ref ms, .int (iI hn), .ref mp, .ref mb, .int (iI L), .ref m1, .ref m2, .ref m3, .ref mB, .ref mF, .ref mN, .ref mS, .int (iI sT), .ref mW, .long acc])), (mz, .inl (gI g, 326, .inl (aI (zF n ho h c)))), (mB, .inl (gI g, 512, .inl (aI ((mbF (picM n h)))))), (mF, .inl (gI g, 512, .inl (aI G2))), (mN, .inl (gI g, 512, .inl (aI N2))), (mS, .inl (gI g, 864, .inl (aI (sdF (picM n h) (k + 1)))))] := hD
                            refine lv_iinc (v := iI (k + 1)) (lv' := [(1, .int (iI (k + 1))), (0, .ref qm)]) hx hb dX5_layPicture_148 hl (k := 1) rfl (iI_add _ _) (by decide) rfl (fun ls hl => ?_)
                            refine lv_goto (tgt := 107) hx hb dX5_layPicture_151 (by decide) ?_
                            have hl : lv_has ls 4 [(1, .int (iI (k + 1))), (0, .ref qm)] := hl
                            have hP := hP.recell 5 rfl ((sdF (picM n h) (k + 1))) (fun j h0 h1 => rfl)
                            have hD := hD.set (p := 5) (e := .inl (gI g, 864, .inl (aI ((sdF (picM n h) (k + 1)))))) rfl
                            exact ih_14 (k + 1) (by omega) (by omega) _ _ hP hD hS _ (lv_sub hl [1, 0] rfl) (by omega)
                    have hl : lv_has ls 4 [(1, .int (iI 0)), (0, .ref qm)] := hl
                    exact L107 _ 0 (by omega) (by omega) _ _ hP hD hS _ (lv_sub hl [1, 0] rfl) (Nat.lt_succ_self _)
                  · skip
                    refine lv_iconst (v := iI 0) hx hb dX5_layPicture_56 rfl ?_
                    refine lv_istore_n (lv' := [(2, .int (iI 0)), (0, .ref qm), (1, .int (iI y))]) hx hb dX5_layPicture_57 rfl hl (by decide) rfl (fun ls hl => ?_)
                    have L58 : ∀ (k_19 : Nat) (x : Int) (G2 : Int → Int) (N2 : Int → Int) (gx : 0 ≤ x) (lx : x ≤ n) (gG : GOk (drawXK h y (drawYK n h y) x) G2 N2) (H : Heap) (locs : List Loc), va_P g.1 vwCl [(qm, .inr (5, [.int (iI th), .ref mz, .ref ms, .int (iI hn), .ref mp, .ref mb, .int (iI L), .ref m1, .ref m2, .ref m3, .ref mB, .ref mF, .ref mN, .ref mS, .int (iI sT), .ref mW, .long acc])), (mz, .inl (gI g, 326, .inl (aI (zF n ho h c)))), (mB, .inl (gI g, 512, .inl (aI ((mbF (drawXK h y (drawYK n h y) x)))))), (mF, .inl (gI g, 512, .inl (aI G2))), (mN, .inl (gI g, 512, .inl (aI N2))), (mS, .inl (gI g, 864, .inl (aI ((sdF (picM n h) 0)))))] H → va_D A [(qm, .inr (5, [.int (iI th), .ref mz, .ref ms, .int (iI hn), .ref mp, .ref mb, .int (iI L), .ref m1, .ref m2, .ref m3, .ref mB, .ref mF, .ref mN, .ref mS, .int (iI sT), .ref mW, .long acc])), (mz, .inl (gI g, 326, .inl (aI (zF n ho h c)))), (mB, .inl (gI g, 512, .inl (aI ((mbF (drawXK h y (drawYK n h y) x)))))), (mF, .inl (gI g, 512, .inl (aI G2))), (mN, .inl (gI g, 512, .inl (aI N2))), (mS, .inl (gI g, 864, .inl (aI ((sdF (picM n h) 0)))))] → va_S A sZ.heap H locs → ∀ (ls : Array Slot), lv_has ls 4 [(0, .ref qm), (1, .int (iI y)), (2, .int (iI x))] → (n - x).toNat < k_19 → W pZ l eZ ({ frames := 3, cells := 0, slots := 0, locals := 76 } : Room) sZ mZ [.ref qm].toArray bZ meZ cZ H locs 0 0 (MQ bZ (va_Qv (fun (u9 : (Int → Int) × (Int → Int)) => (fun (u9 : (Int → Int) × (Int → Int)) => match u9 with | (G2, N2) => GOk (picM n h) G2 N2) u9) (fun u9 t9 => MB g ((fun (u9 : (Int → Int) × (Int → Int)) => match u9 with | (G2, N2) => [(qm, .inr (5, [.int (iI th), .ref mz, .ref ms, .int (iI hn), .ref mp, .ref mb, .int (iI L), .ref m1, .ref m2, .ref m3, .ref mB, .ref mF, .ref mN, .ref mS, .int (iI sT), .ref mW, .long acc])), (mz, .inl (gI g, 326, .inl (aI (zF n ho h c)))), (mB, .inl (gI g, 512, .inl (aI ((mbF (picM n h)))))), (mF, .inl (gI g, 512, .inl (aI G2))), (mN, .inl (gI g, 512, .inl (aI N2))), (mS, .inl (gI g, 864, .inl (aI ((sdF (picM n h) 512)))))]) u9) A t9) A) [.ref qm].toArray sZ 0 0 A) (F0 mZ 58 ls []) := by
                      intro k_19
                      induction k_19 with
                      | zero => intro x G2 N2 gx lx gG H locs hP hD hS ls hl hm_21; exact absurd hm_21 (Nat.not_lt_zero _)
                      | succ k_19 ih_20 =>
                        intro x G2 N2 gx lx gG H locs hP hD hS ls hl hm_21
                        have b_22 : 0 ≤ h (y * 6 + x) ∧ h (y * 6 + x) ≤ 8 := YOk.h hY (y * 6 + x)
                        refine lv_iload_n hx hb dX5_layPicture_58 rfl (lv_at hl 2 rfl) ?_
                        refine lv_aload_n hx hb dX5_layPicture_59 rfl (lv_at hl 0 rfl) ?_
                        refine va_get (D := g.1) (ci := 5) (v := .ref mz) (C := RX5) (T := TX5) (N := 17) hx hb hts in5 hown hE.1 hP 0 rfl rfl 1 (by decide) w0 (fun _ h9 => h9) rfl dX5_layPicture_60 ?_
                        refine lv_iconst (v := iI 0) hx hb dX5_layPicture_63 rfl ?_
                        refine ln_iald hx hb hE hP 1 rfl (by decide) (by decide) (Nat.le_of_ble_eq_true rfl) n (rfl) dX5_layPicture_64 ?_
                        refine ln_icmp_ge (tgt := 99) hx hb dX5_layPicture_65 (by decide) ⟨by omega, by omega⟩ ⟨by omega, by omega⟩ (fun c_23 => ?_) (fun c_23 => ?_)
                        · skip
                          refine lv_iinc (v := iI (y + 1)) (lv' := [(1, .int (iI (y + 1))), (0, .ref qm), (2, .int (iI x))]) hx hb dX5_layPicture_99 hl (k := 1) rfl (iI_add _ _) (by decide) rfl (fun ls hl => ?_)
                          refine lv_goto (tgt := 46) hx hb dX5_layPicture_102 (by decide) ?_
                          have hl : lv_has ls 4 [(1, .int (iI (y + 1))), (0, .ref qm), (2, .int (iI x))] := hl
                          have hP := hP.recell 2 rfl ((mbF (drawYK n h (y + 1)))) (fun j _ _ => by rw [drawYK_s gy, show x = n by omega])
                          have hD := hD.set (p := 2) (e := .inl (gI g, 512, .inl (aI ((mbF (drawYK n h (y + 1))))))) rfl
                          exact ih_10 (y + 1) G2 N2 (by omega) (by omega) ((by rw [drawYK_s gy]; have q9 := gG; rw [show x = n by omega] at q9; exact q9)) _ _ hP hD hS _ (lv_sub hl [1, 0] rfl) (by omega)
                        · skip
                          refine lv_iconst (v := iI 0) hx hb dX5_layPicture_68 rfl ?_
                          refine lv_istore_n (lv' := [(3, .int (iI 0)), (0, .ref qm), (1, .int (iI y)), (2, .int (iI x))]) hx hb dX5_layPicture_69 rfl hl (by decide) rfl (fun ls hl => ?_)
                          have L70 : ∀ (k_24 : Nat) (z : Int) (G2 : Int → Int) (N2 : Int → Int) (gz : 0 ≤ z) (lz : z ≤ (h (y * 6 + x))) (gG : GOk (drawZK x y (drawXK h y (drawYK n h y) x) z) G2 N2) (H : Heap) (locs : List Loc), va_P g.1 vwCl [(qm, .inr (5, [.int (iI th), .ref mz, .ref ms, .int (iI hn), .ref mp, .ref mb, .int (iI L), .ref m1, .ref m2, .ref m3, .ref mB, .ref mF, .ref mN, .ref mS, .int (iI sT), .ref mW, .long acc])), (mz, .inl (gI g, 326, .inl (aI (zF n ho h c)))), (mB, .inl (gI g, 512, .inl (aI ((mbF (drawZK x y (drawXK h y (drawYK n h y) x) z)))))), (mF, .inl (gI g, 512, .inl (aI G2))), (mN, .inl (gI g, 512, .inl (aI N2))), (mS, .inl (gI g, 864, .inl (aI ((sdF (picM n h) 0)))))] H → va_D A [(qm, .inr (5, [.int (iI th), .ref mz, .ref ms, .int (iI hn), .ref mp, .ref mb, .int (iI L), .ref m1, .ref m2, .ref m3, .ref mB, .ref mF, .ref mN, .ref mS, .int (iI sT), .ref mW, .long acc])), (mz, .inl (gI g, 326, .inl (aI (zF n ho h c)))), (mB, .inl (gI g, 512, .inl (aI ((mbF (drawZK x y (drawXK h y (drawYK n h y) x) z)))))), (mF, .inl (gI g, 512, .inl (aI G2))), (mN, .inl (gI g, 512, .inl (aI N2))), (mS, .inl (gI g, 864, .inl (aI ((sdF (picM n h) 0)))))] → va_S A sZ.heap H locs → ∀ (ls : Array Slot), lv_has ls 4 [(0, .ref qm), (1, .int (iI y)), (2, .int (iI x)), (3, .int (iI z))] → ((h (y * 6 + x)) - z).toNat < k_24 → W pZ l eZ ({ frames := 3, cells := 0, slots := 0, locals := 76 } : Room) sZ mZ [.ref qm].toArray bZ meZ cZ H locs 0 0 (MQ bZ (va_Qv (fun (u9 : (Int → Int) × (Int → Int)) => (fun (u9 : (Int → Int) × (Int → Int)) => match u9 with | (G2, N2) => GOk (picM n h) G2 N2) u9) (fun u9 t9 => MB g ((fun (u9 : (Int → Int) × (Int → Int)) => match u9 with | (G2, N2) => [(qm, .inr (5, [.int (iI th), .ref mz, .ref ms, .int (iI hn), .ref mp, .ref mb, .int (iI L), .ref m1, .ref m2, .ref m3, .ref mB, .ref mF, .ref mN, .ref mS, .int (iI sT), .ref mW, .long acc])), (mz, .inl (gI g, 326, .inl (aI (zF n ho h c)))), (mB, .inl (gI g, 512, .inl (aI ((mbF (picM n h)))))), (mF, .inl (gI g, 512, .inl (aI G2))), (mN, .inl (gI g, 512, .inl (aI N2))), (mS, .inl (gI g, 864, .inl (aI ((sdF (picM n h) 512)))))]) u9) A t9) A) [.ref qm].toArray sZ 0 0 A) (F0 mZ 70 ls []) := by
                            intro k_24
                            induction k_24 with
                            | zero => intro z G2 N2 gz lz gG H locs hP hD hS ls hl hm_26; exact absurd hm_26 (Nat.not_lt_zero _)
                            | succ k_24 ih_25 =>
                              intro z G2 N2 gz lz gG H locs hP hD hS ls hl hm_26
                              have b_27 : MOk (drawZK x y (drawXK h y (drawYK n h y) x) z) := drawZK_ok (drawXK_ok (drawYK_ok (by omega) (YOk.h hY) gy (by omega)) (YOk.h hY) ⟨gy, by omega⟩ gx (by omega)) ⟨gx, by omega⟩ ⟨gy, by omega⟩ gz (by have := YOk.h hY (y * 6 + x); omega)
                              refine lv_iload_n hx hb dX5_layPicture_70 rfl (lv_at hl 3 rfl) ?_
                              refine lv_aload_n hx hb dX5_layPicture_71 rfl (lv_at hl 0 rfl) ?_
                              refine lv_iload_n hx hb dX5_layPicture_72 rfl (lv_at hl 2 rfl) ?_
                              refine lv_iload_n hx hb dX5_layPicture_73 rfl (lv_at hl 1 rfl) ?_
                              have hPc_28 := hP.sub (ws' := [(qm, .inr (5, [.int (iI th), .ref mz, .ref ms, .int (iI hn), .ref mp, .ref mb, .int (iI L), .ref m1, .ref m2, .ref m3, .ref mB, .ref mF, .ref mN, .ref mS, .int (iI sT), .ref mW, .long acc])), (mz, .inl (gI g, 326, .inl (aI (zF n ho h c))))]) [0, 1] rfl
                              refine pc_i (va_runV (As := [.int (iI x), .int (iI y)]) (rest := [.int (iI z)]) ⟨hx, hb, hml, hown, hts⟩ (c_X5_height l g qm th mz ms hn mp mb L m1 m2 m3 mB mF mN mS sT mW acc n ho h c x y hY gx (by omega) gy (by omega)) (cwV 2 hts gX5_layPicture_X5_height rfl rfl rfl (by decide +kernel) ⟨Nat.le_of_ble_eq_true rfl, Nat.le_of_ble_eq_true rfl⟩) (puV hE hS hPc_28 rfl rfl) rfl rfl hl.1 rfl (lv_room (Nat.le_of_ble_eq_true rfl)) dX5_layPicture_74 ⟨Nat.le_of_ble_eq_true rfl, Nat.le_of_ble_eq_true rfl⟩) ?_
                              have r_29 : 0 ≤ h (y * 6 + x) ∧ h (y * 6 + x) ≤ 8 := YOk.h hY (y * 6 + x)
                              refine ln_icmp_ge (tgt := 93) hx hb dX5_layPicture_77 (by decide) ⟨by omega, by omega⟩ ⟨by omega, by omega⟩ (fun c_30 => ?_) (fun c_30 => ?_)
                              · skip
                                refine lv_iinc (v := iI (x + 1)) (lv' := [(2, .int (iI (x + 1))), (0, .ref qm), (1, .int (iI y)), (3, .int (iI z))]) hx hb dX5_layPicture_93 hl (k := 2) rfl (iI_add _ _) (by decide) rfl (fun ls hl => ?_)
                                refine lv_goto (tgt := 58) hx hb dX5_layPicture_96 (by decide) ?_
                                have hl : lv_has ls 4 [(2, .int (iI (x + 1))), (0, .ref qm), (1, .int (iI y)), (3, .int (iI z))] := hl
                                have hP := hP.recell 2 rfl ((mbF (drawXK h y (drawYK n h y) (x + 1)))) (fun j _ _ => by rw [drawXK_s gx, show z = h (y * 6 + x) by omega])
                                have hD := hD.set (p := 2) (e := .inl (gI g, 512, .inl (aI ((mbF (drawXK h y (drawYK n h y) (x + 1))))))) rfl
                                exact ih_20 (x + 1) G2 N2 (by omega) (by omega) ((by rw [drawXK_s gx]; have q9 := gG; rw [show z = h (y * 6 + x) by omega] at q9; exact q9)) _ _ hP hD hS _ (lv_sub hl [1, 2, 0] rfl) (by omega)
                              · skip
                                refine lv_aload_n hx hb dX5_layPicture_80 rfl (lv_at hl 0 rfl) ?_
                                refine lv_iload_n hx hb dX5_layPicture_81 rfl (lv_at hl 2 rfl) ?_
                                refine lv_iload_n hx hb dX5_layPicture_82 rfl (lv_at hl 1 rfl) ?_
                                refine lv_iload_n hx hb dX5_layPicture_83 rfl (lv_at hl 3 rfl) ?_
                                have hPc_31 := hP.sub (ws' := [(qm, .inr (5, [.int (iI th), .ref mz, .ref ms, .int (iI hn), .ref mp, .ref mb, .int (iI L), .ref m1, .ref m2, .ref m3, .ref mB, .ref mF, .ref mN, .ref mS, .int (iI sT), .ref mW, .long acc])), (mB, .inl (gI g, 512, .inl (aI ((mbF (drawZK x y (drawXK h y (drawYK n h y) x) z)))))), (mF, .inl (gI g, 512, .inl (aI G2))), (mN, .inl (gI g, 512, .inl (aI N2)))]) [0, 2, 3, 4] rfl
                                have hDc_32 := hD.sub (ws' := [(qm, .inr (5, [.int (iI th), .ref mz, .ref ms, .int (iI hn), .ref mp, .ref mb, .int (iI L), .ref m1, .ref m2, .ref m3, .ref mB, .ref mF, .ref mN, .ref mS, .int (iI sT), .ref mW, .long acc])), (mB, .inl (gI g, 512, .inl (aI ((mbF (drawZK x y (drawXK h y (drawYK n h y) x) z)))))), (mF, .inl (gI g, 512, .inl (aI G2))), (mN, .inl (gI g, 512, .inl (aI N2)))]) [0, 2, 3, 4] (by decide) rfl
                                have hFc_33 := va_free (wc := [(qm, .inr (5, [.int (iI th), .ref mz, .ref ms, .int (iI hn), .ref mp, .ref mb, .int (iI L), .ref m1, .ref m2, .ref m3, .ref mB, .ref mF, .ref mN, .ref mS, .int (iI sT), .ref mW, .long acc])), (mB, .inl (gI g, 512, .inl (aI ((mbF (drawZK x y (drawXK h y (drawYK n h y) x) z)))))), (mF, .inl (gI g, 512, .inl (aI G2))), (mN, .inl (gI g, 512, .inl (aI N2)))]) hD hS hA [0, 2, 3, 4] rfl
                                refine mc_v (wr := [(mz, .inl (gI g, 326, .inl (aI (zF n ho h c)))), (mS, .inl (gI g, 864, .inl (aI ((sdF (picM n h) 0)))))]) (cells1 := 0) (slots1 := 0) (va_runV (As := [.int (iI x), .int (iI y), .int (iI z)]) (rest := []) ⟨hx, hb, hml, hown, hts⟩ (c_X5_coverBy l g qm th mz ms hn mp mb L m1 m2 m3 mB mF mN mS sT mW acc ((drawZK x y (drawXK h y (drawYK n h y) x) z)) G2 N2 x y z b_27 (gG) (⟨by omega, by omega, by have := YOk.h hY (y * 6 + x); omega⟩) H.size) (cwV 3 hts gX5_layPicture_X5_coverBy rfl rfl rfl (by decide +kernel) ⟨Nat.le_of_ble_eq_true rfl, Nat.le_of_ble_eq_true rfl⟩) (muV hE hS hPc_31 hDc_32 hFc_33 rfl rfl) rfl rfl hl.1 rfl (lv_room (Nat.le_of_ble_eq_true rfl)) dX5_layPicture_84 ⟨Nat.le_of_ble_eq_true rfl, Nat.le_of_ble_eq_true rfl⟩) hP hD hS hA [0, 2, 3, 4] [1, 5] [2, 0, 3, 4, 5, 1] rfl rfl (by decide) (by decide) (fun (u9 : (Int → Int) × (Int → Int)) => match u9 with | (u_34, u_35) => [(qm, .inr (5, [.int (iI th), .ref mz, .ref ms, .int (iI hn), .ref mp, .ref mb, .int (iI L), .ref m1, .ref m2, .ref m3, .ref mB, .ref mF, .ref mN, .ref mS, .int (iI sT), .ref mW, .long acc])), (mz, .inl (gI g, 326, .inl (aI (zF n ho h c)))), (mB, .inl (gI g, 512, .inl (aI ((mbF (drawBK x y z ((drawZK x y (drawXK h y (drawYK n h y) x) z)) 6)))))), (mF, .inl (gI g, 512, .inl (aI u_34))), (mN, .inl (gI g, 512, .inl (aI u_35))), (mS, .inl (gI g, 864, .inl (aI ((sdF (picM n h) 0)))))]) (fun _ => rfl) (by decide) (Nat.le_of_ble_eq_true rfl) (Nat.le_of_ble_eq_true rfl) (fun u9 H locs hu_36 hP hD hS => ?_)
                                obtain ⟨u_34, u_35⟩ := u9
                                have hu_36 : GOk (drawBK x y z ((drawZK x y (drawXK h y (drawYK n h y) x) z)) 6) u_34 u_35 := hu_36
                                have hP : va_P g.1 vwCl [(qm, .inr (5, [.int (iI th), .ref mz, .ref ms, .int (iI hn), .ref mp, .ref mb, .int (iI L), .ref m1, .ref m2, .ref m3, .ref mB, .ref mF, .ref mN, .ref mS, .int (iI sT), .ref mW, .long acc])), (mz, .inl (gI g, 326, .inl (aI (zF n ho h c)))), (mB, .inl (gI g, 512, .inl (aI ((mbF (drawBK x y z ((drawZK x y (drawXK h y (drawYK n h y) x) z)) 6)))))), (mF, .inl (gI g, 512, .inl (aI u_34))), (mN, .inl (gI g, 512, .inl (aI u_35))), (mS, .inl (gI g, 864, .inl (aI ((sdF (picM n h) 0)))))] H := hP
                                have hD : va_D A [(qm, .inr (5, [.int (iI th), .ref mz, .ref ms, .int (iI hn), .ref mp, .ref mb, .int (iI L), .ref m1, .ref m2, .ref m3, .ref mB, .ref mF, .ref mN, .ref mS, .int (iI sT), .ref mW, .long acc])), (mz, .inl (gI g, 326, .inl (aI (zF n ho h c)))), (mB, .inl (gI g, 512, .inl (aI ((mbF (drawBK x y z ((drawZK x y (drawXK h y (drawYK n h y) x) z)) 6)))))), (mF, .inl (gI g, 512, .inl (aI u_34))), (mN, .inl (gI g, 512, .inl (aI u_35))), (mS, .inl (gI g, 864, .inl (aI ((sdF (picM n h) 0)))))] := hD
                                refine lv_iinc (v := iI (z + 1)) (lv' := [(3, .int (iI (z + 1))), (0, .ref qm), (1, .int (iI y)), (2, .int (iI x))]) hx hb dX5_layPicture_87 hl (k := 3) rfl (iI_add _ _) (by decide) rfl (fun ls hl => ?_)
                                refine lv_goto (tgt := 70) hx hb dX5_layPicture_90 (by decide) ?_
                                have hl : lv_has ls 4 [(3, .int (iI (z + 1))), (0, .ref qm), (1, .int (iI y)), (2, .int (iI x))] := hl
                                have hP := hP.recell 2 rfl ((mbF (drawZK x y (drawXK h y (drawYK n h y) x) (z + 1)))) (fun j _ _ => by rw [drawZK_s gz])
                                have hD := hD.set (p := 2) (e := .inl (gI g, 512, .inl (aI ((mbF (drawZK x y (drawXK h y (drawYK n h y) x) (z + 1))))))) rfl
                                exact ih_25 (z + 1) u_34 u_35 (by omega) (by omega) ((by rw [drawZK_s gz]; exact hu_36)) _ _ hP hD hS _ (lv_sub hl [1, 2, 3, 0] rfl) (by omega)
                          have hl : lv_has ls 4 [(3, .int (iI 0)), (0, .ref qm), (1, .int (iI y)), (2, .int (iI x))] := hl
                          have hP := hP.recell 2 rfl ((mbF (drawZK x y (drawXK h y (drawYK n h y) x) 0))) (fun j _ _ => rfl)
                          have hD := hD.set (p := 2) (e := .inl (gI g, 512, .inl (aI ((mbF (drawZK x y (drawXK h y (drawYK n h y) x) 0)))))) rfl
                          exact L70 _ 0 G2 N2 (by omega) (by omega) (gG) _ _ hP hD hS _ (lv_sub hl [1, 2, 3, 0] rfl) (Nat.lt_succ_self _)
                    have hl : lv_has ls 4 [(2, .int (iI 0)), (0, .ref qm), (1, .int (iI y))] := hl
                    have hP := hP.recell 2 rfl ((mbF (drawXK h y (drawYK n h y) 0))) (fun j _ _ => rfl)
                    have hD := hD.set (p := 2) (e := .inl (gI g, 512, .inl (aI ((mbF (drawXK h y (drawYK n h y) 0)))))) rfl
                    exact L58 _ 0 G2 N2 (by omega) (by omega) (gG) _ _ hP hD hS _ (lv_sub hl [1, 2, 0] rfl) (Nat.lt_succ_self _)
              have hl : lv_has ls 4 [(1, .int (iI 0)), (0, .ref qm)] := hl
              have hP := hP.recell 2 rfl ((mbF (drawYK n h 0))) (fun j _ _ => rfl)
              have hD := hD.set (p := 2) (e := .inl (gI g, 512, .inl (aI ((mbF (drawYK n h 0)))))) rfl
              exact L46 _ 0 G N (by omega) (by omega) (GOk.zero _ _) _ _ hP hD hS _ (lv_sub hl [1, 0] rfl) (Nat.lt_succ_self _)
            · skip
              refine lv_aload_n hx hb dX5_layPicture_31 rfl (lv_at hl 0 rfl) ?_
              refine va_get (D := g.1) (ci := 5) (v := .ref mS) (C := RX5) (T := TX5) (N := 17) hx hb hts in5 hown hE.1 hP 0 rfl rfl 13 (by decide) w2 (fun _ h9 => h9) rfl dX5_layPicture_32 ?_
              refine lv_iload_n hx hb dX5_layPicture_35 rfl (lv_at hl 1 rfl) ?_
              refine lv_iconst (v := iI 0) hx hb dX5_layPicture_36 rfl ?_
              refine ln_iast hx hb hE hP hD hS 5 rfl (by omega) (by omega) (Nat.le_of_ble_eq_true rfl) (updI e k 0) (fun _ _ _ => rfl) dX5_layPicture_37 (fun H locs hP hD hS => ?_)
              have hP : va_P g.1 vwCl [(qm, .inr (5, [.int (iI th), .ref mz, .ref ms, .int (iI hn), .ref mp, .ref mb, .int (iI L), .ref m1, .ref m2, .ref m3, .ref mB, .ref mF, .ref mN, .ref mS, .int (iI sT), .ref mW, .long acc])), (mz, .inl (gI g, 326, .inl (aI (zF n ho h c)))), (mB, .inl (gI g, 512, .inl (aI ((mbF (fun _ => 0)))))), (mF, .inl (gI g, 512, .inl (aI G))), (mN, .inl (gI g, 512, .inl (aI N))), (mS, .inl (gI g, 864, .inl (aI (updI e k 0))))] H := hP
              have hD : va_D A [(qm, .inr (5, [.int (iI th), .ref mz, .ref ms, .int (iI hn), .ref mp, .ref mb, .int (iI L), .ref m1, .ref m2, .ref m3, .ref mB, .ref mF, .ref mN, .ref mS, .int (iI sT), .ref mW, .long acc])), (mz, .inl (gI g, 326, .inl (aI (zF n ho h c)))), (mB, .inl (gI g, 512, .inl (aI ((mbF (fun _ => 0)))))), (mF, .inl (gI g, 512, .inl (aI G))), (mN, .inl (gI g, 512, .inl (aI N))), (mS, .inl (gI g, 864, .inl (aI (updI e k 0))))] := hD
              refine lv_iinc (v := iI (k + 1)) (lv' := [(1, .int (iI (k + 1))), (0, .ref qm)]) hx hb dX5_layPicture_38 hl (k := 1) rfl (iI_add _ _) (by decide) rfl (fun ls hl => ?_)
              refine lv_goto (tgt := 24) hx hb dX5_layPicture_41 (by decide) ?_
              have hl : lv_has ls 4 [(1, .int (iI (k + 1))), (0, .ref qm)] := hl
              have hP := hP.recell 5 rfl ((updI e k (0))) (fun j h0 h1 => rfl)
              have hD := hD.set (p := 5) (e := .inl (gI g, 864, .inl (aI ((updI e k (0)))))) rfl
              exact ih_6 (k + 1) ((updI e k (0))) (by omega) (by omega) (fun j a b => by unfold updI; split; rfl; exact ge j a (by omega)) _ _ hP hD hS _ (lv_sub hl [1, 0] rfl) (by omega)
        have hl : lv_has ls 4 [(1, .int (iI 0)), (0, .ref qm)] := hl
        exact L24 _ 0 S0 (by omega) (by omega) (fun j a b => absurd b (by omega)) _ _ hP hD hS _ (lv_sub hl [1, 0] rfl) (Nat.lt_succ_self _)
      · skip
        refine lv_aload_n hx hb dX5_layPicture_9 rfl (lv_at hl 0 rfl) ?_
        refine va_get (D := g.1) (ci := 5) (v := .ref mB) (C := RX5) (T := TX5) (N := 17) hx hb hts in5 hown hE.1 hP 0 rfl rfl 10 (by decide) w1 (fun _ h9 => h9) rfl dX5_layPicture_10 ?_
        refine lv_iload_n hx hb dX5_layPicture_13 rfl (lv_at hl 1 rfl) ?_
        refine lv_iconst (v := iI (-1)) hx hb dX5_layPicture_14 rfl ?_
        refine ln_iast hx hb hE hP hD hS 2 rfl (by omega) (by omega) (Nat.le_of_ble_eq_true rfl) (updI e k (-1)) (fun _ _ _ => rfl) dX5_layPicture_15 (fun H locs hP hD hS => ?_)
        have hP : va_P g.1 vwCl [(qm, .inr (5, [.int (iI th), .ref mz, .ref ms, .int (iI hn), .ref mp, .ref mb, .int (iI L), .ref m1, .ref m2, .ref m3, .ref mB, .ref mF, .ref mN, .ref mS, .int (iI sT), .ref mW, .long acc])), (mz, .inl (gI g, 326, .inl (aI (zF n ho h c)))), (mB, .inl (gI g, 512, .inl (aI (updI e k (-1))))), (mF, .inl (gI g, 512, .inl (aI G))), (mN, .inl (gI g, 512, .inl (aI N))), (mS, .inl (gI g, 864, .inl (aI S0)))] H := hP
        have hD : va_D A [(qm, .inr (5, [.int (iI th), .ref mz, .ref ms, .int (iI hn), .ref mp, .ref mb, .int (iI L), .ref m1, .ref m2, .ref m3, .ref mB, .ref mF, .ref mN, .ref mS, .int (iI sT), .ref mW, .long acc])), (mz, .inl (gI g, 326, .inl (aI (zF n ho h c)))), (mB, .inl (gI g, 512, .inl (aI (updI e k (-1))))), (mF, .inl (gI g, 512, .inl (aI G))), (mN, .inl (gI g, 512, .inl (aI N))), (mS, .inl (gI g, 864, .inl (aI S0)))] := hD
        refine lv_iinc (v := iI (k + 1)) (lv' := [(1, .int (iI (k + 1))), (0, .ref qm)]) hx hb dX5_layPicture_16 hl (k := 1) rfl (iI_add _ _) (by decide) rfl (fun ls hl => ?_)
        refine lv_goto (tgt := 2) hx hb dX5_layPicture_19 (by decide) ?_
        have hl : lv_has ls 4 [(1, .int (iI (k + 1))), (0, .ref qm)] := hl
        have hP := hP.recell 2 rfl ((updI e k (-1))) (fun j h0 h1 => rfl)
        have hD := hD.set (p := 2) (e := .inl (gI g, 512, .inl (aI ((updI e k (-1)))))) rfl
        exact ih_2 (k + 1) ((updI e k (-1))) (by omega) (by omega) (fun j a b => by unfold updI; split; rfl; exact ge j a (by omega)) _ _ hP hD hS _ (lv_sub hl [1, 0] rfl) (by omega)
  have hl : lv_has ls 4 [(1, .int (iI 0)), (0, .ref qm)] := hl
  exact L2 _ 0 B0 (by omega) (by omega) (fun j a b => absurd b (by omega)) _ _ hP hD hS _ (lv_sub hl [1, 0] rfl) (Nat.lt_succ_self _)
set_option maxHeartbeats 800000 in
set_option maxRecDepth 100000 in
theorem c_X5_isSeen (l : Launch) (g : GT) (qm : Nat) (th : Int) (mz : Nat) (ms : Nat) (hn : Int) (mp : Nat) (mb : Nat) (L : Int) (m1 : Nat) (m2 : Nat) (m3 : Nat) (mB : Nat) (mF : Nat) (mN : Nat) (mS : Nat) (sT : Int) (mW : Nat) (acc : Int64) (M : Int → Int) (b : Int) (hM : MOk M) (h0 : 0 ≤ b) (h1 : b < 288) : MetI l yX5_isSeen wsX5_isSeen ({ frames := 0, cells := 0, slots := 0, locals := 0 }) g [(qm, .inr (5, [.int (iI th), .ref mz, .ref ms, .int (iI hn), .ref mp, .ref mb, .int (iI L), .ref m1, .ref m2, .ref m3, .ref mB, .ref mF, .ref mN, .ref mS, .int (iI sT), .ref mW, .long acc])), (mS, .inl (gI g, 864, .inl (aI (sdF M 512))))] [.ref qm, .int (iI b)] (bI (0 < cntL (blkF M) (bkB b) 512)) := by
  refine pure_of (cc := cX5_isSeen) (maxL := 2) (ret := (some .boolean)) (by decide) rfl (Nat.le_of_ble_eq_true rfl) ?_
  intro pZ eZ sZ mZ bZ meZ cZ F hP hE hS ls hl
  obtain ⟨hx, hb, hr, hml, hts, hown, hlk⟩ := F
  have hown : sZ.vm.findClass RX5 = some mZ.cls := hown
  have hl : lv_has ls 2 [(0, .ref qm), (1, .int (iI b))] := hl
  have w0 := hts (.fieldLink RX5 40 "SlantYardModel" "seen" "[I") (by decide +kernel)
  have in5 : ∀ w ∈ u_ws RX5 TX5 17, w ∈ wsX5_isSeen := by decide +kernel
  have hs9 := sd_blk hM h0 (k := 512) (by decide)
  have hs1 := sdF_rg M (k := 512) (by decide) (3 * b + 1)
  have hs2 := sdF_rg M (k := 512) (by decide) (3 * b + 2)
  have hs0 := sdF_rg M (k := 512) (by decide) (3 * b)
  refine lv_aload_n hx hb dX5_isSeen_0 rfl (lv_at hl 0 rfl) ?_
  refine va_get (D := g.1) (ci := 5) (v := .ref mS) (C := RX5) (T := TX5) (N := 17) hx hb hts in5 hown hE.1 hP 0 rfl rfl 13 (by decide) w0 (fun _ h9 => h9) rfl dX5_isSeen_1 ?_
  refine lv_iconst (v := iI 3) hx hb dX5_isSeen_4 rfl ?_
  refine lv_iload_n hx hb dX5_isSeen_5 rfl (lv_at hl 1 rfl) ?_
  refine ln_imul hx hb (3 * b) (rfl) dX5_isSeen_6 ?_
  refine ln_iald hx hb hE hP 1 rfl (by omega) (by omega) (Nat.le_of_ble_eq_true rfl) ((sdF M 512) (3 * b)) (rfl) dX5_isSeen_7 ?_
  refine lv_aload_n hx hb dX5_isSeen_8 rfl (lv_at hl 0 rfl) ?_
  refine va_get (D := g.1) (ci := 5) (v := .ref mS) (C := RX5) (T := TX5) (N := 17) hx hb hts in5 hown hE.1 hP 0 rfl rfl 13 (by decide) w0 (fun _ h9 => h9) rfl dX5_isSeen_9 ?_
  refine lv_iconst (v := iI 3) hx hb dX5_isSeen_12 rfl ?_
  refine lv_iload_n hx hb dX5_isSeen_13 rfl (lv_at hl 1 rfl) ?_
  refine ln_imul hx hb (3 * b) (rfl) dX5_isSeen_14 ?_
  refine lv_iconst (v := iI 1) hx hb dX5_isSeen_15 rfl ?_
  refine ln_iadd hx hb (3 * b + 1) (rfl) dX5_isSeen_16 ?_
  refine ln_iald hx hb hE hP 1 rfl (by omega) (by omega) (Nat.le_of_ble_eq_true rfl) ((sdF M 512) (3 * b + 1)) (rfl) dX5_isSeen_17 ?_
  refine ln_iadd hx hb ((sdF M 512) (3 * b) + (sdF M 512) (3 * b + 1)) (rfl) dX5_isSeen_18 ?_
  refine lv_aload_n hx hb dX5_isSeen_19 rfl (lv_at hl 0 rfl) ?_
  refine va_get (D := g.1) (ci := 5) (v := .ref mS) (C := RX5) (T := TX5) (N := 17) hx hb hts in5 hown hE.1 hP 0 rfl rfl 13 (by decide) w0 (fun _ h9 => h9) rfl dX5_isSeen_20 ?_
  refine lv_iconst (v := iI 3) hx hb dX5_isSeen_23 rfl ?_
  refine lv_iload_n hx hb dX5_isSeen_24 rfl (lv_at hl 1 rfl) ?_
  refine ln_imul hx hb (3 * b) (rfl) dX5_isSeen_25 ?_
  refine lv_iconst (v := iI 2) hx hb dX5_isSeen_26 rfl ?_
  refine ln_iadd hx hb (3 * b + 2) (rfl) dX5_isSeen_27 ?_
  refine ln_iald hx hb hE hP 1 rfl (by omega) (by omega) (Nat.le_of_ble_eq_true rfl) ((sdF M 512) (3 * b + 2)) (rfl) dX5_isSeen_28 ?_
  refine ln_iadd hx hb ((sdF M 512) (3 * b) + (sdF M 512) (3 * b + 1) + (sdF M 512) (3 * b + 2)) (rfl) dX5_isSeen_29 ?_
  refine ln_if_le (tgt := 37) hx hb dX5_isSeen_30 (by decide) ⟨by omega, by omega⟩ (fun c_1 => ?_) (fun c_1 => ?_)
  · skip
    refine lv_iconst (v := iI 0) hx hb dX5_isSeen_37 rfl ?_
    exact pend_z hx hb hr hlk hS rfl (Or.inl rfl) (by (show _ = bI _; first | (rw [bI_t (by omega)]) | (rw [bI_f (by omega)]))) dX5_isSeen_38
  · skip
    refine lv_iconst (v := iI 1) hx hb dX5_isSeen_33 rfl ?_
    refine lv_goto (tgt := 38) hx hb dX5_isSeen_34 (by decide) ?_
    exact pend_z hx hb hr hlk hS rfl (Or.inr rfl) (by (show _ = bI _; first | (rw [bI_t (by omega)]) | (rw [bI_f (by omega)]))) dX5_isSeen_38
set_option maxHeartbeats 800000 in
set_option maxRecDepth 100000 in
theorem c_X5_seenOf (l : Launch) (g : GT) (qm : Nat) (th : Int) (mz : Nat) (ms : Nat) (hn : Int) (mp : Nat) (mb : Nat) (L : Int) (m1 : Nat) (m2 : Nat) (m3 : Nat) (mB : Nat) (mF : Nat) (mN : Nat) (mS : Nat) (sT : Int) (mW : Nat) (acc : Int64) (M : Int → Int) (n : Int) (ho : Int) (h : Int → Int) (c : Int → Int) (x : Int) (y : Int) (hY : YOk n ho h c) (hM : MOk M) (h1 : 0 ≤ x) (h2 : x < n) (h3 : 0 ≤ y) (h4 : y < n) : MetI l yX5_seenOf wsX5_seenOf ({ frames := 1, cells := 0, slots := 0, locals := 22 }) g [(qm, .inr (5, [.int (iI th), .ref mz, .ref ms, .int (iI hn), .ref mp, .ref mb, .int (iI L), .ref m1, .ref m2, .ref m3, .ref mB, .ref mF, .ref mN, .ref mS, .int (iI sT), .ref mW, .long acc])), (mz, .inl (gI g, 326, .inl (aI (zF n ho h c)))), (mS, .inl (gI g, 864, .inl (aI (sdF M 512))))] [.ref qm, .int (iI x), .int (iI y)] (seenIn M x y (h (y * 6 + x))) := by
  refine pure_of (cc := cX5_seenOf) (maxL := 5) (ret := (some .int)) (by decide) rfl (Nat.le_of_ble_eq_true rfl) ?_
  intro pZ eZ sZ mZ bZ meZ cZ F hP hE hS ls hl
  obtain ⟨hx, hb, hr, hml, hts, hown, hlk⟩ := F
  have hown : sZ.vm.findClass RX5 = some mZ.cls := hown
  have hl : lv_has ls 5 [(0, .ref qm), (1, .int (iI x)), (2, .int (iI y))] := hl
  have hnn := hY.n
  have hho := hY.hr
  have hh9 := YOk.h hY (y * 6 + x)
  refine lv_iconst (v := iI 0) hx hb dX5_seenOf_0 rfl ?_
  refine lv_istore_n (lv' := [(3, .int (iI 0)), (0, .ref qm), (1, .int (iI x)), (2, .int (iI y))]) hx hb dX5_seenOf_1 rfl hl (by decide) rfl (fun ls hl => ?_)
  refine lv_iconst (v := iI 0) hx hb dX5_seenOf_2 rfl ?_
  refine lv_istore (lv' := [(4, .int (iI 0)), (3, .int (iI 0)), (0, .ref qm), (1, .int (iI x)), (2, .int (iI y))]) hx hb dX5_seenOf_3 hl (by decide) rfl (fun ls hl => ?_)
  have L5 : ∀ (k_1 : Nat) (k : Int) (gk : 0 ≤ k) (gl : k ≤ h (y * 6 + x)) (ls : Array Slot), lv_has ls 5 [(0, .ref qm), (1, .int (iI x)), (2, .int (iI y)), (3, .int (iI (seenIn M x y k))), (4, .int (iI k))] → (h (y * 6 + x) - k).toNat < k_1 → W pZ l eZ ({ frames := 1, cells := 0, slots := 0, locals := 22 } : Room) sZ mZ [.ref qm, .int (iI x), .int (iI y)].toArray bZ meZ cZ sZ.heap [] 0 0 (MQ bZ (vp_Si (fun y9 => y9 = iI (seenIn M x y (h (y * 6 + x))))) [.ref qm, .int (iI x), .int (iI y)].toArray sZ 0 0 (fun _ => False)) (F0 mZ 5 ls []) := by
    intro k_1
    induction k_1 with
    | zero => intro k gk gl ls hl hm_3; exact absurd hm_3 (Nat.not_lt_zero _)
    | succ k_1 ih_2 =>
      intro k gk gl ls hl hm_3
      have b_4 : 0 ≤ seenIn M x y k ∧ seenIn M x y k ≤ k := seenIn_rg M x y gk
      refine lv_iload hx hb dX5_seenOf_5 (lv_at hl 4 rfl) ?_
      refine lv_aload_n hx hb dX5_seenOf_7 rfl (lv_at hl 0 rfl) ?_
      refine lv_iload_n hx hb dX5_seenOf_8 rfl (lv_at hl 1 rfl) ?_
      refine lv_iload_n hx hb dX5_seenOf_9 rfl (lv_at hl 2 rfl) ?_
      have hPc_5 := hP.sub (ws' := [(qm, .inr (5, [.int (iI th), .ref mz, .ref ms, .int (iI hn), .ref mp, .ref mb, .int (iI L), .ref m1, .ref m2, .ref m3, .ref mB, .ref mF, .ref mN, .ref mS, .int (iI sT), .ref mW, .long acc])), (mz, .inl (gI g, 326, .inl (aI (zF n ho h c))))]) [0, 1] rfl
      refine pc_i (va_runV (As := [.int (iI x), .int (iI y)]) (rest := [.int (iI k)]) ⟨hx, hb, hml, hown, hts⟩ (c_X5_height l g qm th mz ms hn mp mb L m1 m2 m3 mB mF mN mS sT mW acc n ho h c x y hY h1 h2 h3 h4) (cwV 2 hts gX5_seenOf_X5_height rfl rfl rfl (by decide +kernel) ⟨Nat.le_of_ble_eq_true rfl, Nat.le_of_ble_eq_true rfl⟩) (puV hE hS hPc_5 rfl rfl) rfl rfl hl.1 rfl (lv_room (Nat.le_of_ble_eq_true rfl)) dX5_seenOf_10 ⟨Nat.le_of_ble_eq_true rfl, Nat.le_of_ble_eq_true rfl⟩) ?_
      have r_6 : 0 ≤ h (y * 6 + x) ∧ h (y * 6 + x) ≤ 8 := YOk.h hY (y * 6 + x)
      refine ln_icmp_ge (tgt := 49) hx hb dX5_seenOf_13 (by decide) ⟨by omega, by omega⟩ ⟨by omega, by omega⟩ (fun c_7 => ?_) (fun c_7 => ?_)
      · skip
        refine lv_iload_n hx hb dX5_seenOf_49 rfl (lv_at hl 3 rfl) ?_
        exact pend_i hx hb hr hlk hS rfl (by rw [show k = h (y * 6 + x) by omega]) dX5_seenOf_50
      · skip
        refine lv_iload_n hx hb dX5_seenOf_16 rfl (lv_at hl 3 rfl) ?_
        refine lv_aload_n hx hb dX5_seenOf_17 rfl (lv_at hl 0 rfl) ?_
        refine lv_bipush (v := iI 8) hx hb dX5_seenOf_18 (by decide) ?_
        refine lv_bipush (v := iI 6) hx hb dX5_seenOf_20 (by decide) ?_
        refine lv_iload_n hx hb dX5_seenOf_22 rfl (lv_at hl 2 rfl) ?_
        refine ln_imul hx hb (6 * y) (rfl) dX5_seenOf_23 ?_
        refine lv_iload_n hx hb dX5_seenOf_24 rfl (lv_at hl 1 rfl) ?_
        refine ln_iadd hx hb (6 * y + x) (rfl) dX5_seenOf_25 ?_
        refine ln_imul hx hb (8 * (6 * y + x)) (rfl) dX5_seenOf_26 ?_
        refine lv_iload hx hb dX5_seenOf_27 (lv_at hl 4 rfl) ?_
        refine ln_iadd hx hb (8 * (6 * y + x) + k) (rfl) dX5_seenOf_29 ?_
        have hPc_8 := hP.sub (ws' := [(qm, .inr (5, [.int (iI th), .ref mz, .ref ms, .int (iI hn), .ref mp, .ref mb, .int (iI L), .ref m1, .ref m2, .ref m3, .ref mB, .ref mF, .ref mN, .ref mS, .int (iI sT), .ref mW, .long acc])), (mS, .inl (gI g, 864, .inl (aI (sdF M 512))))]) [0, 2] rfl
        refine pc_i (va_runV (As := [.int (iI (8 * (6 * y + x) + k))]) (rest := [.int (iI (seenIn M x y k))]) ⟨hx, hb, hml, hown, hts⟩ (c_X5_isSeen l g qm th mz ms hn mp mb L m1 m2 m3 mB mF mN mS sT mW acc M (8 * (6 * y + x) + k) hM (by omega) (by omega)) (cwV 1 hts gX5_seenOf_X5_isSeen rfl rfl rfl (by decide +kernel) ⟨Nat.le_of_ble_eq_true rfl, Nat.le_of_ble_eq_true rfl⟩) (puV hE hS hPc_8 rfl rfl) rfl rfl hl.1 rfl (lv_room (Nat.le_of_ble_eq_true rfl)) dX5_seenOf_30 ⟨Nat.le_of_ble_eq_true rfl, Nat.le_of_ble_eq_true rfl⟩) ?_
        refine lb_if_eq (tgt := 40) hx hb dX5_seenOf_33 (by decide) (fun c_9 => ?_) (fun c_9 => ?_)
        · skip
          refine lv_iconst (v := iI 0) hx hb dX5_seenOf_40 rfl ?_
          refine ln_iadd hx hb ((seenIn M x y k) + 0) (rfl) dX5_seenOf_41 ?_
          refine lv_istore_n (lv' := [(3, .int (iI ((seenIn M x y k) + 0))), (0, .ref qm), (1, .int (iI x)), (2, .int (iI y)), (4, .int (iI k))]) hx hb dX5_seenOf_42 rfl hl (by decide) rfl (fun ls hl => ?_)
          refine lv_iinc (v := iI (k + 1)) (lv' := [(4, .int (iI (k + 1))), (3, .int (iI ((seenIn M x y k) + 0))), (0, .ref qm), (1, .int (iI x)), (2, .int (iI y))]) hx hb dX5_seenOf_43 hl (k := 4) rfl (iI_add _ _) (by decide) rfl (fun ls hl => ?_)
          refine lv_goto (tgt := 5) hx hb dX5_seenOf_46 (by decide) ?_
          have hl := lv_re hl 1 rfl (.int (iI (seenIn M x y (k + 1)))) (congrArg (fun z => Value.int (iI z)) (show (seenIn M x y k) + 0 = seenIn M x y (k + 1) from by rw [seenIn_s gk, ← bkB_n (x := x) (y := y) ⟨gk, by omega⟩]; first | (rw [bI_t (by assumption)]; done) | (rw [bI_f (by assumption)]; done)))
          have hl : lv_has ls 5 [(4, .int (iI (k + 1))), (3, .int (iI (seenIn M x y (k + 1)))), (0, .ref qm), (1, .int (iI x)), (2, .int (iI y))] := hl
          exact ih_2 (k + 1) (by omega) (by omega) _ (lv_sub hl [2, 3, 4, 1, 0] rfl) (by omega)
        · skip
          refine lv_iconst (v := iI 1) hx hb dX5_seenOf_36 rfl ?_
          refine lv_goto (tgt := 41) hx hb dX5_seenOf_37 (by decide) ?_
          refine ln_iadd hx hb ((seenIn M x y k) + 1) (rfl) dX5_seenOf_41 ?_
          refine lv_istore_n (lv' := [(3, .int (iI ((seenIn M x y k) + 1))), (0, .ref qm), (1, .int (iI x)), (2, .int (iI y)), (4, .int (iI k))]) hx hb dX5_seenOf_42 rfl hl (by decide) rfl (fun ls hl => ?_)
          refine lv_iinc (v := iI (k + 1)) (lv' := [(4, .int (iI (k + 1))), (3, .int (iI ((seenIn M x y k) + 1))), (0, .ref qm), (1, .int (iI x)), (2, .int (iI y))]) hx hb dX5_seenOf_43 hl (k := 4) rfl (iI_add _ _) (by decide) rfl (fun ls hl => ?_)
          refine lv_goto (tgt := 5) hx hb dX5_seenOf_46 (by decide) ?_
          have hl := lv_re hl 1 rfl (.int (iI (seenIn M x y (k + 1)))) (congrArg (fun z => Value.int (iI z)) (show (seenIn M x y k) + 1 = seenIn M x y (k + 1) from by rw [seenIn_s gk, ← bkB_n (x := x) (y := y) ⟨gk, by omega⟩]; first | (rw [bI_t (by assumption)]; done) | (rw [bI_f (by assumption)]; done)))
          have hl : lv_has ls 5 [(4, .int (iI (k + 1))), (3, .int (iI (seenIn M x y (k + 1)))), (0, .ref qm), (1, .int (iI x)), (2, .int (iI y))] := hl
          exact ih_2 (k + 1) (by omega) (by omega) _ (lv_sub hl [2, 3, 4, 1, 0] rfl) (by omega)
  have hl := lv_re hl 1 rfl (.int (iI (seenIn M x y 0))) (congrArg (fun z => Value.int (iI z)) (show 0 = seenIn M x y 0 from rfl))
  have hl : lv_has ls 5 [(4, .int (iI 0)), (3, .int (iI (seenIn M x y 0))), (0, .ref qm), (1, .int (iI x)), (2, .int (iI y))] := hl
  exact L5 _ 0 (by omega) (by omega) _ (lv_sub hl [2, 3, 4, 1, 0] rfl) (Nat.lt_succ_self _)
set_option maxHeartbeats 800000 in
set_option maxRecDepth 100000 in
theorem c_X5_seenMany (l : Launch) (g : GT) (qm : Nat) (th : Int) (mz : Nat) (ms : Nat) (hn : Int) (mp : Nat) (mb : Nat) (L : Int) (m1 : Nat) (m2 : Nat) (m3 : Nat) (mB : Nat) (mF : Nat) (mN : Nat) (mS : Nat) (sT : Int) (mW : Nat) (acc : Int64) (M : Int → Int) (hM : MOk M) : MetI l yX5_seenMany wsX5_seenMany ({ frames := 1, cells := 0, slots := 0, locals := 21 }) g [(qm, .inr (5, [.int (iI th), .ref mz, .ref ms, .int (iI hn), .ref mp, .ref mb, .int (iI L), .ref m1, .ref m2, .ref m3, .ref mB, .ref mF, .ref mN, .ref mS, .int (iI sT), .ref mW, .long acc])), (mS, .inl (gI g, 864, .inl (aI (sdF M 512))))] [.ref qm] (distL (blkF M) 288 512) := by
  refine pure_of (cc := cX5_seenMany) (maxL := 3) (ret := (some .int)) (by decide) rfl (Nat.le_of_ble_eq_true rfl) ?_
  intro pZ eZ sZ mZ bZ meZ cZ F hP hE hS ls hl
  obtain ⟨hx, hb, hr, hml, hts, hown, hlk⟩ := F
  have hown : sZ.vm.findClass RX5 = some mZ.cls := hown
  have hl : lv_has ls 3 [(0, .ref qm)] := hl
  refine lv_iconst (v := iI 0) hx hb dX5_seenMany_0 rfl ?_
  refine lv_istore_n (lv' := [(1, .int (iI 0)), (0, .ref qm)]) hx hb dX5_seenMany_1 rfl hl (by decide) rfl (fun ls hl => ?_)
  refine lv_iconst (v := iI 0) hx hb dX5_seenMany_2 rfl ?_
  refine lv_istore_n (lv' := [(2, .int (iI 0)), (1, .int (iI 0)), (0, .ref qm)]) hx hb dX5_seenMany_3 rfl hl (by decide) rfl (fun ls hl => ?_)
  have L4 : ∀ (k_1 : Nat) (k : Int) (gk : 0 ≤ k) (gl : k ≤ 288) (ls : Array Slot), lv_has ls 3 [(0, .ref qm), (1, .int (iI (sm (fun b => bI (0 < cntL (blkF M) (bkB b) 512)) k))), (2, .int (iI k))] → (288 - k).toNat < k_1 → W pZ l eZ ({ frames := 1, cells := 0, slots := 0, locals := 21 } : Room) sZ mZ [.ref qm].toArray bZ meZ cZ sZ.heap [] 0 0 (MQ bZ (vp_Si (fun y9 => y9 = iI (distL (blkF M) 288 512))) [.ref qm].toArray sZ 0 0 (fun _ => False)) (F0 mZ 4 ls []) := by
    intro k_1
    induction k_1 with
    | zero => intro k gk gl ls hl hm_3; exact absurd hm_3 (Nat.not_lt_zero _)
    | succ k_1 ih_2 =>
      intro k gk gl ls hl hm_3
      refine lv_iload_n hx hb dX5_seenMany_4 rfl (lv_at hl 2 rfl) ?_
      refine lv_sipush (v := iI 288) hx hb dX5_seenMany_5 (by decide) ?_
      refine ln_icmp_ge (tgt := 33) hx hb dX5_seenMany_8 (by decide) ⟨by omega, by omega⟩ (by decide) (fun c_4 => ?_) (fun c_4 => ?_)
      · skip
        refine lv_iload_n hx hb dX5_seenMany_33 rfl (lv_at hl 1 rfl) ?_
        exact pend_i hx hb hr hlk hS rfl (by (rw [show k = 288 by omega]; exact dist_bk M)) dX5_seenMany_34
      · skip
        refine lv_iload_n hx hb dX5_seenMany_11 rfl (lv_at hl 1 rfl) ?_
        refine lv_aload_n hx hb dX5_seenMany_12 rfl (lv_at hl 0 rfl) ?_
        refine lv_iload_n hx hb dX5_seenMany_13 rfl (lv_at hl 2 rfl) ?_
        have hPc_5 := hP.sub (ws' := [(qm, .inr (5, [.int (iI th), .ref mz, .ref ms, .int (iI hn), .ref mp, .ref mb, .int (iI L), .ref m1, .ref m2, .ref m3, .ref mB, .ref mF, .ref mN, .ref mS, .int (iI sT), .ref mW, .long acc])), (mS, .inl (gI g, 864, .inl (aI (sdF M 512))))]) [0, 1] rfl
        refine pc_i (va_runV (As := [.int (iI k)]) (rest := [.int (iI (sm (fun b => bI (0 < cntL (blkF M) (bkB b) 512)) k))]) ⟨hx, hb, hml, hown, hts⟩ (c_X5_isSeen l g qm th mz ms hn mp mb L m1 m2 m3 mB mF mN mS sT mW acc M k hM gk (by omega)) (cwV 1 hts gX5_seenMany_X5_isSeen rfl rfl rfl (by decide +kernel) ⟨Nat.le_of_ble_eq_true rfl, Nat.le_of_ble_eq_true rfl⟩) (puV hE hS hPc_5 rfl rfl) rfl rfl hl.1 rfl (lv_room (Nat.le_of_ble_eq_true rfl)) dX5_seenMany_14 ⟨Nat.le_of_ble_eq_true rfl, Nat.le_of_ble_eq_true rfl⟩) ?_
        refine lb_if_eq (tgt := 24) hx hb dX5_seenMany_17 (by decide) (fun c_6 => ?_) (fun c_6 => ?_)
        · skip
          refine lv_iconst (v := iI 0) hx hb dX5_seenMany_24 rfl ?_
          refine ln_iadd hx hb ((sm (fun b => bI (0 < cntL (blkF M) (bkB b) 512)) k) + 0) (rfl) dX5_seenMany_25 ?_
          refine lv_istore_n (lv' := [(1, .int (iI ((sm (fun b => bI (0 < cntL (blkF M) (bkB b) 512)) k) + 0))), (0, .ref qm), (2, .int (iI k))]) hx hb dX5_seenMany_26 rfl hl (by decide) rfl (fun ls hl => ?_)
          refine lv_iinc (v := iI (k + 1)) (lv' := [(2, .int (iI (k + 1))), (1, .int (iI ((sm (fun b => bI (0 < cntL (blkF M) (bkB b) 512)) k) + 0))), (0, .ref qm)]) hx hb dX5_seenMany_27 hl (k := 2) rfl (iI_add _ _) (by decide) rfl (fun ls hl => ?_)
          refine lv_goto (tgt := 4) hx hb dX5_seenMany_30 (by decide) ?_
          have hl := lv_re hl 1 rfl (.int (iI (sm (fun b => bI (0 < cntL (blkF M) (bkB b) 512)) (k + 1)))) (congrArg (fun z => Value.int (iI z)) (show (sm (fun b => bI (0 < cntL (blkF M) (bkB b) 512)) k) + 0 = sm (fun b => bI (0 < cntL (blkF M) (bkB b) 512)) (k + 1) from by rw [sm_s gk]; show _ = _ + bI (0 < cntL (blkF M) (bkB k) 512); first | (rw [bI_t (by assumption)]; done) | (rw [bI_f (by assumption)]; done)))
          have hl : lv_has ls 3 [(2, .int (iI (k + 1))), (1, .int (iI (sm (fun b => bI (0 < cntL (blkF M) (bkB b) 512)) (k + 1)))), (0, .ref qm)] := hl
          exact ih_2 (k + 1) (by omega) (by omega) _ (lv_sub hl [2, 1, 0] rfl) (by omega)
        · skip
          refine lv_iconst (v := iI 1) hx hb dX5_seenMany_20 rfl ?_
          refine lv_goto (tgt := 25) hx hb dX5_seenMany_21 (by decide) ?_
          refine ln_iadd hx hb ((sm (fun b => bI (0 < cntL (blkF M) (bkB b) 512)) k) + 1) (rfl) dX5_seenMany_25 ?_
          refine lv_istore_n (lv' := [(1, .int (iI ((sm (fun b => bI (0 < cntL (blkF M) (bkB b) 512)) k) + 1))), (0, .ref qm), (2, .int (iI k))]) hx hb dX5_seenMany_26 rfl hl (by decide) rfl (fun ls hl => ?_)
          refine lv_iinc (v := iI (k + 1)) (lv' := [(2, .int (iI (k + 1))), (1, .int (iI ((sm (fun b => bI (0 < cntL (blkF M) (bkB b) 512)) k) + 1))), (0, .ref qm)]) hx hb dX5_seenMany_27 hl (k := 2) rfl (iI_add _ _) (by decide) rfl (fun ls hl => ?_)
          refine lv_goto (tgt := 4) hx hb dX5_seenMany_30 (by decide) ?_
          have hl := lv_re hl 1 rfl (.int (iI (sm (fun b => bI (0 < cntL (blkF M) (bkB b) 512)) (k + 1)))) (congrArg (fun z => Value.int (iI z)) (show (sm (fun b => bI (0 < cntL (blkF M) (bkB b) 512)) k) + 1 = sm (fun b => bI (0 < cntL (blkF M) (bkB b) 512)) (k + 1) from by rw [sm_s gk]; show _ = _ + bI (0 < cntL (blkF M) (bkB k) 512); first | (rw [bI_t (by assumption)]; done) | (rw [bI_f (by assumption)]; done)))
          have hl : lv_has ls 3 [(2, .int (iI (k + 1))), (1, .int (iI (sm (fun b => bI (0 < cntL (blkF M) (bkB b) 512)) (k + 1)))), (0, .ref qm)] := hl
          exact ih_2 (k + 1) (by omega) (by omega) _ (lv_sub hl [2, 1, 0] rfl) (by omega)
  have hl := lv_re hl 1 rfl (.int (iI (sm (fun b => bI (0 < cntL (blkF M) (bkB b) 512)) 0))) (congrArg (fun z => Value.int (iI z)) (show 0 = sm (fun b => bI (0 < cntL (blkF M) (bkB b) 512)) 0 from rfl))
  have hl : lv_has ls 3 [(2, .int (iI 0)), (1, .int (iI (sm (fun b => bI (0 < cntL (blkF M) (bkB b) 512)) 0))), (0, .ref qm)] := hl
  exact L4 _ 0 (by omega) (by omega) _ (lv_sub hl [2, 1, 0] rfl) (Nat.lt_succ_self _)
set_option maxHeartbeats 800000 in
set_option maxRecDepth 100000 in
theorem c_X5_seenNow (l : Launch) (g : GT) (qm : Nat) (th : Int) (mz : Nat) (ms : Nat) (hn : Int) (mp : Nat) (mb : Nat) (L : Int) (m1 : Nat) (m2 : Nat) (m3 : Nat) (mB : Nat) (mF : Nat) (mN : Nat) (mS : Nat) (sT : Int) (mW : Nat) (acc : Int64) (n : Int) (ho : Int) (h : Int → Int) (c : Int → Int) (B0 : Int → Int) (G : Int → Int) (N : Int → Int) (S0 : Int → Int) (hY : YOk n ho h c) : MutI l yX5_seenNow wsX5_seenNow ({ frames := 4, cells := 0, slots := 0, locals := 99 }) 0 0 g [(qm, .inr (5, [.int (iI th), .ref mz, .ref ms, .int (iI hn), .ref mp, .ref mb, .int (iI L), .ref m1, .ref m2, .ref m3, .ref mB, .ref mF, .ref mN, .ref mS, .int (iI sT), .ref mW, .long acc])), (mz, .inl (gI g, 326, .inl (aI (zF n ho h c)))), (mB, .inl (gI g, 512, .inl (aI B0))), (mF, .inl (gI g, 512, .inl (aI G))), (mN, .inl (gI g, 512, .inl (aI N))), (mS, .inl (gI g, 864, .inl (aI S0)))] [.ref qm] (S := (Int → Int) × (Int → Int)) (fun (u9 : (Int → Int) × (Int → Int)) => match u9 with | (G2, N2) => GOk (picM n h) G2 N2) (fun (u9 : (Int → Int) × (Int → Int)) => match u9 with | (G2, N2) => seenD n h) (fun (u9 : (Int → Int) × (Int → Int)) => match u9 with | (G2, N2) => [(qm, .inr (5, [.int (iI th), .ref mz, .ref ms, .int (iI hn), .ref mp, .ref mb, .int (iI L), .ref m1, .ref m2, .ref m3, .ref mB, .ref mF, .ref mN, .ref mS, .int (iI sT), .ref mW, .long acc])), (mz, .inl (gI g, 326, .inl (aI (zF n ho h c)))), (mB, .inl (gI g, 512, .inl (aI ((mbF (picM n h)))))), (mF, .inl (gI g, 512, .inl (aI G2))), (mN, .inl (gI g, 512, .inl (aI N2))), (mS, .inl (gI g, 864, .inl (aI ((sdF (picM n h) 512)))))]) := by
  refine mut_of (y := yX5_seenNow) (ws := wsX5_seenNow) (av := [.ref qm]) (w := [(qm, .inr (5, [.int (iI th), .ref mz, .ref ms, .int (iI hn), .ref mp, .ref mb, .int (iI L), .ref m1, .ref m2, .ref m3, .ref mB, .ref mF, .ref mN, .ref mS, .int (iI sT), .ref mW, .long acc])), (mz, .inl (gI g, 326, .inl (aI (zF n ho h c)))), (mB, .inl (gI g, 512, .inl (aI B0))), (mF, .inl (gI g, 512, .inl (aI G))), (mN, .inl (gI g, 512, .inl (aI N))), (mS, .inl (gI g, 864, .inl (aI S0)))]) (Qc := fun A => va_Qi (fun x9 (u9 : (Int → Int) × (Int → Int)) => x9 = iI ((fun (u9 : (Int → Int) × (Int → Int)) => match u9 with | (G2, N2) => seenD n h) u9) ∧ (fun (u9 : (Int → Int) × (Int → Int)) => match u9 with | (G2, N2) => GOk (picM n h) G2 N2) u9) (fun u9 t9 => MB g ((fun (u9 : (Int → Int) × (Int → Int)) => match u9 with | (G2, N2) => [(qm, .inr (5, [.int (iI th), .ref mz, .ref ms, .int (iI hn), .ref mp, .ref mb, .int (iI L), .ref m1, .ref m2, .ref m3, .ref mB, .ref mF, .ref mN, .ref mS, .int (iI sT), .ref mW, .long acc])), (mz, .inl (gI g, 326, .inl (aI (zF n ho h c)))), (mB, .inl (gI g, 512, .inl (aI ((mbF (picM n h)))))), (mF, .inl (gI g, 512, .inl (aI G2))), (mN, .inl (gI g, 512, .inl (aI N2))), (mS, .inl (gI g, 864, .inl (aI ((sdF (picM n h) 512)))))]) u9) A t9) A) (cc := cX5_seenNow) (maxL := 1) (ret := (some .int)) (by decide) rfl (Nat.le_of_ble_eq_true rfl) ?_
  intro pZ eZ sZ mZ bZ meZ cZ A F hin hA hP hD hE hS ls hl
  obtain ⟨hx, hb, hr, hml, hts, hown, hlk⟩ := F
  skip
  have hown : sZ.vm.findClass RX5 = some mZ.cls := hown
  have hl : lv_has ls 1 [(0, .ref qm)] := hl
  skip
  have hnn := hY.n
  have hho := hY.hr
  have hM9 : MOk (picM n h) := picM_ok hY
  have hI9 : MIn n h (picM n h) := picM_in hY
  refine lv_aload_n hx hb dX5_seenNow_0 rfl (lv_at hl 0 rfl) ?_
  have hPc_1 := hP.sub (ws' := [(qm, .inr (5, [.int (iI th), .ref mz, .ref ms, .int (iI hn), .ref mp, .ref mb, .int (iI L), .ref m1, .ref m2, .ref m3, .ref mB, .ref mF, .ref mN, .ref mS, .int (iI sT), .ref mW, .long acc])), (mz, .inl (gI g, 326, .inl (aI (zF n ho h c)))), (mB, .inl (gI g, 512, .inl (aI B0))), (mF, .inl (gI g, 512, .inl (aI G))), (mN, .inl (gI g, 512, .inl (aI N))), (mS, .inl (gI g, 864, .inl (aI S0)))]) [0, 1, 2, 3, 4, 5] rfl
  have hDc_2 := hD.sub (ws' := [(qm, .inr (5, [.int (iI th), .ref mz, .ref ms, .int (iI hn), .ref mp, .ref mb, .int (iI L), .ref m1, .ref m2, .ref m3, .ref mB, .ref mF, .ref mN, .ref mS, .int (iI sT), .ref mW, .long acc])), (mz, .inl (gI g, 326, .inl (aI (zF n ho h c)))), (mB, .inl (gI g, 512, .inl (aI B0))), (mF, .inl (gI g, 512, .inl (aI G))), (mN, .inl (gI g, 512, .inl (aI N))), (mS, .inl (gI g, 864, .inl (aI S0)))]) [0, 1, 2, 3, 4, 5] (by decide) rfl
  have hFc_3 := va_free (wc := [(qm, .inr (5, [.int (iI th), .ref mz, .ref ms, .int (iI hn), .ref mp, .ref mb, .int (iI L), .ref m1, .ref m2, .ref m3, .ref mB, .ref mF, .ref mN, .ref mS, .int (iI sT), .ref mW, .long acc])), (mz, .inl (gI g, 326, .inl (aI (zF n ho h c)))), (mB, .inl (gI g, 512, .inl (aI B0))), (mF, .inl (gI g, 512, .inl (aI G))), (mN, .inl (gI g, 512, .inl (aI N))), (mS, .inl (gI g, 864, .inl (aI S0)))]) hD hS hA [0, 1, 2, 3, 4, 5] rfl
  refine mc_v (wr := []) (cells1 := 0) (slots1 := 0) (va_runV (As := []) (rest := []) ⟨hx, hb, hml, hown, hts⟩ (c_X5_layPicture l g qm th mz ms hn mp mb L m1 m2 m3 mB mF mN mS sT mW acc n ho h c B0 G N S0 hY sZ.heap.size) (cwV 0 hts gX5_seenNow_X5_layPicture rfl rfl rfl (by decide +kernel) ⟨Nat.le_of_ble_eq_true rfl, Nat.le_of_ble_eq_true rfl⟩) (muV hE hS hPc_1 hDc_2 hFc_3 rfl rfl) rfl rfl hl.1 rfl (lv_room (Nat.le_of_ble_eq_true rfl)) dX5_seenNow_1 ⟨Nat.le_of_ble_eq_true rfl, Nat.le_of_ble_eq_true rfl⟩) hP hD hS hA [0, 1, 2, 3, 4, 5] [] [0, 1, 2, 3, 4, 5] rfl rfl (by decide) (by decide) (fun (u9 : (Int → Int) × (Int → Int)) => match u9 with | (u_4, u_5) => [(qm, .inr (5, [.int (iI th), .ref mz, .ref ms, .int (iI hn), .ref mp, .ref mb, .int (iI L), .ref m1, .ref m2, .ref m3, .ref mB, .ref mF, .ref mN, .ref mS, .int (iI sT), .ref mW, .long acc])), (mz, .inl (gI g, 326, .inl (aI (zF n ho h c)))), (mB, .inl (gI g, 512, .inl (aI ((mbF (picM n h)))))), (mF, .inl (gI g, 512, .inl (aI u_4))), (mN, .inl (gI g, 512, .inl (aI u_5))), (mS, .inl (gI g, 864, .inl (aI ((sdF (picM n h) 512)))))]) (fun _ => rfl) (by decide) (Nat.le_of_ble_eq_true rfl) (Nat.le_of_ble_eq_true rfl) (fun u9 H locs hu_6 hP hD hS => ?_)
  obtain ⟨u_4, u_5⟩ := u9
  have hu_6 : GOk (picM n h) u_4 u_5 := hu_6
  have hP : va_P g.1 vwCl [(qm, .inr (5, [.int (iI th), .ref mz, .ref ms, .int (iI hn), .ref mp, .ref mb, .int (iI L), .ref m1, .ref m2, .ref m3, .ref mB, .ref mF, .ref mN, .ref mS, .int (iI sT), .ref mW, .long acc])), (mz, .inl (gI g, 326, .inl (aI (zF n ho h c)))), (mB, .inl (gI g, 512, .inl (aI ((mbF (picM n h)))))), (mF, .inl (gI g, 512, .inl (aI u_4))), (mN, .inl (gI g, 512, .inl (aI u_5))), (mS, .inl (gI g, 864, .inl (aI ((sdF (picM n h) 512)))))] H := hP
  have hD : va_D A [(qm, .inr (5, [.int (iI th), .ref mz, .ref ms, .int (iI hn), .ref mp, .ref mb, .int (iI L), .ref m1, .ref m2, .ref m3, .ref mB, .ref mF, .ref mN, .ref mS, .int (iI sT), .ref mW, .long acc])), (mz, .inl (gI g, 326, .inl (aI (zF n ho h c)))), (mB, .inl (gI g, 512, .inl (aI ((mbF (picM n h)))))), (mF, .inl (gI g, 512, .inl (aI u_4))), (mN, .inl (gI g, 512, .inl (aI u_5))), (mS, .inl (gI g, 864, .inl (aI ((sdF (picM n h) 512)))))] := hD
  refine lv_aload_n hx hb dX5_seenNow_4 rfl (lv_at hl 0 rfl) ?_
  have hPc_7 := hP.sub (ws' := [(qm, .inr (5, [.int (iI th), .ref mz, .ref ms, .int (iI hn), .ref mp, .ref mb, .int (iI L), .ref m1, .ref m2, .ref m3, .ref mB, .ref mF, .ref mN, .ref mS, .int (iI sT), .ref mW, .long acc])), (mS, .inl (gI g, 864, .inl (aI ((sdF (picM n h) 512)))))]) [0, 5] rfl
  refine pc_i (va_runV (As := []) (rest := []) ⟨hx, hb, hml, hown, hts⟩ (c_X5_seenMany l g qm th mz ms hn mp mb L m1 m2 m3 mB mF mN mS sT mW acc (picM n h) hM9) (cwV 0 hts gX5_seenNow_X5_seenMany rfl rfl rfl (by decide +kernel) ⟨Nat.le_of_ble_eq_true rfl, Nat.le_of_ble_eq_true rfl⟩) (puV hE hS hPc_7 rfl rfl) rfl rfl hl.1 rfl (lv_room (Nat.le_of_ble_eq_true rfl)) dX5_seenNow_5 ⟨Nat.le_of_ble_eq_true rfl, Nat.le_of_ble_eq_true rfl⟩) ?_
  have hP : va_P g.1 vwCl [(qm, .inr (5, [.int (iI th), .ref mz, .ref ms, .int (iI hn), .ref mp, .ref mb, .int (iI L), .ref m1, .ref m2, .ref m3, .ref mB, .ref mF, .ref mN, .ref mS, .int (iI sT), .ref mW, .long acc])), (mz, .inl (gI g, 326, .inl (aI (zF n ho h c)))), (mB, .inl (gI g, 512, .inl (aI ((mbF (picM n h)))))), (mF, .inl (gI g, 512, .inl (aI u_4))), (mN, .inl (gI g, 512, .inl (aI u_5))), (mS, .inl (gI g, 864, .inl (aI ((sdF (picM n h) 512)))))] _ := hP
  have hD : va_D A [(qm, .inr (5, [.int (iI th), .ref mz, .ref ms, .int (iI hn), .ref mp, .ref mb, .int (iI L), .ref m1, .ref m2, .ref m3, .ref mB, .ref mF, .ref mN, .ref mS, .int (iI sT), .ref mW, .long acc])), (mz, .inl (gI g, 326, .inl (aI (zF n ho h c)))), (mB, .inl (gI g, 512, .inl (aI ((mbF (picM n h)))))), (mF, .inl (gI g, 512, .inl (aI u_4))), (mN, .inl (gI g, 512, .inl (aI u_5))), (mS, .inl (gI g, 864, .inl (aI ((sdF (picM n h) 512)))))] := hD
  exact mend_i (S := (Int → Int) × (Int → Int)) (w' := (fun (u9 : (Int → Int) × (Int → Int)) => match u9 with | (G2, N2) => [(qm, .inr (5, [.int (iI th), .ref mz, .ref ms, .int (iI hn), .ref mp, .ref mb, .int (iI L), .ref m1, .ref m2, .ref m3, .ref mB, .ref mF, .ref mN, .ref mS, .int (iI sT), .ref mW, .long acc])), (mz, .inl (gI g, 326, .inl (aI (zF n ho h c)))), (mB, .inl (gI g, 512, .inl (aI ((mbF (picM n h)))))), (mF, .inl (gI g, 512, .inl (aI G2))), (mN, .inl (gI g, 512, .inl (aI N2))), (mS, .inl (gI g, 864, .inl (aI ((sdF (picM n h) 512)))))])) (post := (fun (u9 : (Int → Int) × (Int → Int)) => match u9 with | (G2, N2) => GOk (picM n h) G2 N2)) (r := (fun (u9 : (Int → Int) × (Int → Int)) => match u9 with | (G2, N2) => seenD n h)) hx hb hr hlk hS (u_4, u_5) hP hD (by assumption) (by rfl) (Nat.le_of_ble_eq_true rfl) (Nat.le_of_ble_eq_true rfl) dX5_seenNow_8

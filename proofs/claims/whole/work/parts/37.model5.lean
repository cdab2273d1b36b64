set_option maxHeartbeats 800000 in
set_option maxRecDepth 100000 in
theorem c_X5_triangleAt (l : Launch) (g : GT) (i : Int) (j : Int) (t : Int) : MetI l yX5_triangleAt wsX5_triangleAt ({ frames := 0, cells := 0, slots := 0, locals := 0 }) g [] [.int (iI i), .int (iI j), .int (iI t)] (2 * (16 * (i + 9) + j + 9) + t) := by
  refine pure_of (cc := cX5_triangleAt) (maxL := 3) (ret := (some .int)) (by decide) rfl (Nat.le_of_ble_eq_true rfl) ?_
  intro pZ eZ sZ mZ bZ meZ cZ F hP hE hS ls hl
  obtain ⟨hx, hb, hr, hml, hts, hown, hlk⟩ := F
  have hown : sZ.vm.findClass RX5 = some mZ.cls := hown
  have hl : lv_has ls 3 [(0, .int (iI i)), (1, .int (iI j)), (2, .int (iI t))] := hl
  refine lv_iconst (v := iI 2) hx hb dX5_triangleAt_0 rfl ?_
  refine lv_bipush (v := iI 16) hx hb dX5_triangleAt_1 (by decide) ?_
  refine lv_iload_n hx hb dX5_triangleAt_3 rfl (lv_at hl 0 rfl) ?_
  refine lv_bipush (v := iI 9) hx hb dX5_triangleAt_4 (by decide) ?_
  refine ln_iadd hx hb (i + 9) (rfl) dX5_triangleAt_6 ?_
  refine ln_imul hx hb (16 * (i + 9)) (rfl) dX5_triangleAt_7 ?_
  refine lv_iload_n hx hb dX5_triangleAt_8 rfl (lv_at hl 1 rfl) ?_
  refine ln_iadd hx hb (16 * (i + 9) + j) (rfl) dX5_triangleAt_9 ?_
  refine lv_bipush (v := iI 9) hx hb dX5_triangleAt_10 (by decide) ?_
  refine ln_iadd hx hb (16 * (i + 9) + j + 9) (rfl) dX5_triangleAt_12 ?_
  refine ln_imul hx hb (2 * (16 * (i + 9) + j + 9)) (rfl) dX5_triangleAt_13 ?_
  refine lv_iload_n hx hb dX5_triangleAt_14 rfl (lv_at hl 2 rfl) ?_
  refine ln_iadd hx hb (2 * (16 * (i + 9) + j + 9) + t) (rfl) dX5_triangleAt_15 ?_
  exact pend_i hx hb hr hlk hS rfl (by rfl) dX5_triangleAt_16
set_option maxHeartbeats 800000 in
set_option maxRecDepth 100000 in
theorem c_X5_cover (l : Launch) (g : GT) (qm : Nat) (th : Int) (mz : Nat) (ms : Nat) (hn : Int) (mp : Nat) (mb : Nat) (L : Int) (m1 : Nat) (m2 : Nat) (m3 : Nat) (mB : Nat) (mF : Nat) (mN : Nat) (mS : Nat) (sT : Int) (mW : Nat) (acc : Int64) (M : Int → Int) (G : Int → Int) (N : Int → Int) (i : Int) (j : Int) (t : Int) (u : Int) (v : Int) (p : Int) (x : Int) (y : Int) (z : Int) (w : Int) (hM : MOk M) (hG : GOk M G N) (hO : okB x y z w) (ht : 2 * (16 * (i + 9) + j + 9) + t = triB x y z w) (hu : u = 8 * (6 * y + x) + z) (hv : v = w / 2) (hp : p = x + y + z) : MutV l yX5_cover wsX5_cover ({ frames := 1, cells := 0, slots := 0, locals := 22 }) 0 0 g [(qm, .inr (5, [.int (iI th), .ref mz, .ref ms, .int (iI hn), .ref mp, .ref mb, .int (iI L), .ref m1, .ref m2, .ref m3, .ref mB, .ref mF, .ref mN, .ref mS, .int (iI sT), .ref mW, .long acc])), (mB, .inl (gI g, 512, .inl (aI (mbF M)))), (mF, .inl (gI g, 512, .inl (aI G))), (mN, .inl (gI g, 512, .inl (aI N)))] [.ref qm, .int (iI i), .int (iI j), .int (iI t), .int (iI u), .int (iI v), .int (iI p)] (S := (Int → Int) × (Int → Int)) (fun (u9 : (Int → Int) × (Int → Int)) => match u9 with | (G2, N2) => GOk (drawW x y z w M) G2 N2) (fun (u9 : (Int → Int) × (Int → Int)) => match u9 with | (G2, N2) => [(qm, .inr (5, [.int (iI th), .ref mz, .ref ms, .int (iI hn), .ref mp, .ref mb, .int (iI L), .ref m1, .ref m2, .ref m3, .ref mB, .ref mF, .ref mN, .ref mS, .int (iI sT), .ref mW, .long acc])), (mB, .inl (gI g, 512, .inl (aI ((mbF (drawW x y z w M)))))), (mF, .inl (gI g, 512, .inl (aI G2))), (mN, .inl (gI g, 512, .inl (aI N2)))]) := by
  refine mut_of (y := yX5_cover) (ws := wsX5_cover) (av := [.ref qm, .int (iI i), .int (iI j), .int (iI t), .int (iI u), .int (iI v), .int (iI p)]) (w := [(qm, .inr (5, [.int (iI th), .ref mz, .ref ms, .int (iI hn), .ref mp, .ref mb, .int (iI L), .ref m1, .ref m2, .ref m3, .ref mB, .ref mF, .ref mN, .ref mS, .int (iI sT), .ref mW, .long acc])), (mB, .inl (gI g, 512, .inl (aI (mbF M)))), (mF, .inl (gI g, 512, .inl (aI G))), (mN, .inl (gI g, 512, .inl (aI N)))]) (Qc := fun A => va_Qv (fun (u9 : (Int → Int) × (Int → Int)) => (fun (u9 : (Int → Int) × (Int → Int)) => match u9 with | (G2, N2) => GOk (drawW x y z w M) G2 N2) u9) (fun u9 t9 => MB g ((fun (u9 : (Int → Int) × (Int → Int)) => match u9 with | (G2, N2) => [(qm, .inr (5, [.int (iI th), .ref mz, .ref ms, .int (iI hn), .ref mp, .ref mb, .int (iI L), .ref m1, .ref m2, .ref m3, .ref mB, .ref mF, .ref mN, .ref mS, .int (iI sT), .ref mW, .long acc])), (mB, .inl (gI g, 512, .inl (aI ((mbF (drawW x y z w M)))))), (mF, .inl (gI g, 512, .inl (aI G2))), (mN, .inl (gI g, 512, .inl (aI N2)))]) u9) A t9) A) (cc := cX5_cover) (maxL := 8) (ret := none) (by decide) rfl (Nat.le_of_ble_eq_true rfl) ?_
  intro pZ eZ sZ mZ bZ meZ cZ A F hin hA hP hD hE hS ls hl
  obtain ⟨hx, hb, hr, hml, hts, hown, hlk⟩ := F
  skip
  have hown : sZ.vm.findClass RX5 = some mZ.cls := hown
  have hl : lv_has ls 8 [(0, .ref qm), (1, .int (iI i)), (2, .int (iI j)), (3, .int (iI t)), (4, .int (iI u)), (5, .int (iI v)), (6, .int (iI p))] := hl
  skip
  have w0 := hts (.fieldLink RX5 31 "SlantYardModel" "blocks" "[I") (by decide +kernel)
  have w1 := hts (.fieldLink RX5 34 "SlantYardModel" "faces" "[I") (by decide +kernel)
  have w2 := hts (.fieldLink RX5 37 "SlantYardModel" "nearness" "[I") (by decide +kernel)
  have in5 : ∀ w ∈ u_ws RX5 TX5 17, w ∈ wsX5_cover := by decide +kernel
  refine lv_iload_n hx hb dX5_cover_0 rfl (lv_at hl 1 rfl) ?_
  refine lv_iload_n hx hb dX5_cover_1 rfl (lv_at hl 2 rfl) ?_
  refine lv_iload_n hx hb dX5_cover_2 rfl (lv_at hl 3 rfl) ?_
  refine pc_i (va_runS (As := [.int (iI i), .int (iI j), .int (iI t)]) (rest := []) ⟨hx, hb, hml, hown, hts⟩ (c_X5_triangleAt l g i j t) (va_cwS 3 hts gX5_cover_X5_triangleAt rfl rfl rfl (by decide +kernel) ⟨Nat.le_of_ble_eq_true rfl, Nat.le_of_ble_eq_true rfl⟩) (puS hE hS (va_P_nil g.1 _)) rfl rfl hl.1 rfl (lv_room (Nat.le_of_ble_eq_true rfl)) dX5_cover_3 ⟨Nat.le_of_ble_eq_true rfl, Nat.le_of_ble_eq_true rfl⟩) ?_
  refine ln_top (y := triB x y z w) (ht) ?_
  have ht9 := triB_rg hO.1 hO.2.1 hO.2.2.1 hO.2.2.2
  have hr9 := mb_rg hM (triB x y z w)
  have hn9 := mb_none hM (triB x y z w)
  have hrr9 := MOk.rg hM (triB x y z w)
  have hx9 := hO.1
  have hy9 := hO.2.1
  have hz9 := hO.2.2.1
  refine lv_istore (lv' := [(7, .int (iI (triB x y z w))), (0, .ref qm), (1, .int (iI i)), (2, .int (iI j)), (3, .int (iI t)), (4, .int (iI u)), (5, .int (iI v)), (6, .int (iI p))]) hx hb dX5_cover_6 hl (by decide) rfl (fun ls hl => ?_)
  refine lv_aload_n hx hb dX5_cover_8 rfl (lv_at hl 1 rfl) ?_
  refine va_get (D := g.1) (ci := 5) (v := .ref mB) (C := RX5) (T := TX5) (N := 17) hx hb hts in5 hown hE.1 hP 0 rfl rfl 10 (by decide) w0 (fun _ h9 => h9) rfl dX5_cover_9 ?_
  refine lv_iload hx hb dX5_cover_12 (lv_at hl 0 rfl) ?_
  refine ln_iald hx hb hE hP 1 rfl (by omega) (by omega) (Nat.le_of_ble_eq_true rfl) ((mbF M) (triB x y z w)) (rfl) dX5_cover_14 ?_
  refine lv_iconst (v := iI (-1)) hx hb dX5_cover_15 rfl ?_
  refine ln_icmp_eq (tgt := 31) hx hb dX5_cover_16 (by decide) ⟨by omega, by omega⟩ (by decide) (fun c_1 => ?_) (fun c_1 => ?_)
  · skip
    have hk9 : nearF M (triB x y z w) < x + y + z := by first | exact near_none hO (hn9.mp (by omega)) | (have q9 := (hG (triB x y z w) (fun r9 => absurd (hn9.mpr r9) (by omega))).2; omega)
    refine lv_aload_n hx hb dX5_cover_31 rfl (lv_at hl 1 rfl) ?_
    refine va_get (D := g.1) (ci := 5) (v := .ref mB) (C := RX5) (T := TX5) (N := 17) hx hb hts in5 hown hE.1 hP 0 rfl rfl 10 (by decide) w0 (fun _ h9 => h9) rfl dX5_cover_32 ?_
    refine lv_iload hx hb dX5_cover_35 (lv_at hl 0 rfl) ?_
    refine lv_iload hx hb dX5_cover_37 (lv_at hl 5 rfl) ?_
    refine ln_iast hx hb hE hP hD hS 1 rfl (by omega) (by omega) (Nat.le_of_ble_eq_true rfl) (updI (mbF M) (triB x y z w) u) (fun _ _ _ => rfl) dX5_cover_39 (fun H locs hP hD hS => ?_)
    have hP : va_P g.1 vwCl [(qm, .inr (5, [.int (iI th), .ref mz, .ref ms, .int (iI hn), .ref mp, .ref mb, .int (iI L), .ref m1, .ref m2, .ref m3, .ref mB, .ref mF, .ref mN, .ref mS, .int (iI sT), .ref mW, .long acc])), (mB, .inl (gI g, 512, .inl (aI (updI (mbF M) (triB x y z w) u)))), (mF, .inl (gI g, 512, .inl (aI G))), (mN, .inl (gI g, 512, .inl (aI N)))] H := hP
    have hD : va_D A [(qm, .inr (5, [.int (iI th), .ref mz, .ref ms, .int (iI hn), .ref mp, .ref mb, .int (iI L), .ref m1, .ref m2, .ref m3, .ref mB, .ref mF, .ref mN, .ref mS, .int (iI sT), .ref mW, .long acc])), (mB, .inl (gI g, 512, .inl (aI (updI (mbF M) (triB x y z w) u)))), (mF, .inl (gI g, 512, .inl (aI G))), (mN, .inl (gI g, 512, .inl (aI N)))] := hD
    refine lv_aload_n hx hb dX5_cover_40 rfl (lv_at hl 1 rfl) ?_
    refine va_get (D := g.1) (ci := 5) (v := .ref mF) (C := RX5) (T := TX5) (N := 17) hx hb hts in5 hown hE.1 hP 0 rfl rfl 11 (by decide) w1 (fun _ h9 => h9) rfl dX5_cover_41 ?_
    refine lv_iload hx hb dX5_cover_44 (lv_at hl 0 rfl) ?_
    refine lv_iload hx hb dX5_cover_46 (lv_at hl 6 rfl) ?_
    refine ln_iast hx hb hE hP hD hS 2 rfl (by omega) (by omega) (Nat.le_of_ble_eq_true rfl) (updI G (triB x y z w) v) (fun _ _ _ => rfl) dX5_cover_48 (fun H locs hP hD hS => ?_)
    have hP : va_P g.1 vwCl [(qm, .inr (5, [.int (iI th), .ref mz, .ref ms, .int (iI hn), .ref mp, .ref mb, .int (iI L), .ref m1, .ref m2, .ref m3, .ref mB, .ref mF, .ref mN, .ref mS, .int (iI sT), .ref mW, .long acc])), (mB, .inl (gI g, 512, .inl (aI (updI (mbF M) (triB x y z w) u)))), (mF, .inl (gI g, 512, .inl (aI (updI G (triB x y z w) v)))), (mN, .inl (gI g, 512, .inl (aI N)))] H := hP
    have hD : va_D A [(qm, .inr (5, [.int (iI th), .ref mz, .ref ms, .int (iI hn), .ref mp, .ref mb, .int (iI L), .ref m1, .ref m2, .ref m3, .ref mB, .ref mF, .ref mN, .ref mS, .int (iI sT), .ref mW, .long acc])), (mB, .inl (gI g, 512, .inl (aI (updI (mbF M) (triB x y z w) u)))), (mF, .inl (gI g, 512, .inl (aI (updI G (triB x y z w) v)))), (mN, .inl (gI g, 512, .inl (aI N)))] := hD
    refine lv_aload_n hx hb dX5_cover_49 rfl (lv_at hl 1 rfl) ?_
    refine va_get (D := g.1) (ci := 5) (v := .ref mN) (C := RX5) (T := TX5) (N := 17) hx hb hts in5 hown hE.1 hP 0 rfl rfl 12 (by decide) w2 (fun _ h9 => h9) rfl dX5_cover_50 ?_
    refine lv_iload hx hb dX5_cover_53 (lv_at hl 0 rfl) ?_
    refine lv_iload hx hb dX5_cover_55 (lv_at hl 7 rfl) ?_
    refine ln_iast hx hb hE hP hD hS 3 rfl (by omega) (by omega) (Nat.le_of_ble_eq_true rfl) (updI N (triB x y z w) p) (fun _ _ _ => rfl) dX5_cover_57 (fun H locs hP hD hS => ?_)
    have hP : va_P g.1 vwCl [(qm, .inr (5, [.int (iI th), .ref mz, .ref ms, .int (iI hn), .ref mp, .ref mb, .int (iI L), .ref m1, .ref m2, .ref m3, .ref mB, .ref mF, .ref mN, .ref mS, .int (iI sT), .ref mW, .long acc])), (mB, .inl (gI g, 512, .inl (aI (updI (mbF M) (triB x y z w) u)))), (mF, .inl (gI g, 512, .inl (aI (updI G (triB x y z w) v)))), (mN, .inl (gI g, 512, .inl (aI (updI N (triB x y z w) p))))] H := hP
    have hD : va_D A [(qm, .inr (5, [.int (iI th), .ref mz, .ref ms, .int (iI hn), .ref mp, .ref mb, .int (iI L), .ref m1, .ref m2, .ref m3, .ref mB, .ref mF, .ref mN, .ref mS, .int (iI sT), .ref mW, .long acc])), (mB, .inl (gI g, 512, .inl (aI (updI (mbF M) (triB x y z w) u)))), (mF, .inl (gI g, 512, .inl (aI (updI G (triB x y z w) v)))), (mN, .inl (gI g, 512, .inl (aI (updI N (triB x y z w) p))))] := hD
    have hP := hP.recell 1 rfl ((mbF (drawW x y z w M))) (fun j _ _ => by rw [hu]; exact mb_draw hM hO hk9 j)
    have hD := hD.set (p := 1) (e := .inl (gI g, 512, .inl (aI ((mbF (drawW x y z w M)))))) rfl
    have hP := hP.recell 2 rfl ((updI G (triB x y z w) v)) (fun j h0 h1 => by omega)
    have hD := hD.set (p := 2) (e := .inl (gI g, 512, .inl (aI ((updI G (triB x y z w) v))))) rfl
    have hP := hP.recell 3 rfl ((updI N (triB x y z w) p)) (fun j h0 h1 => by omega)
    have hD := hD.set (p := 3) (e := .inl (gI g, 512, .inl (aI ((updI N (triB x y z w) p))))) rfl
    have hP : va_P g.1 vwCl [(qm, .inr (5, [.int (iI th), .ref mz, .ref ms, .int (iI hn), .ref mp, .ref mb, .int (iI L), .ref m1, .ref m2, .ref m3, .ref mB, .ref mF, .ref mN, .ref mS, .int (iI sT), .ref mW, .long acc])), (mB, .inl (gI g, 512, .inl (aI ((mbF (drawW x y z w M)))))), (mF, .inl (gI g, 512, .inl (aI ((updI G (triB x y z w) v))))), (mN, .inl (gI g, 512, .inl (aI ((updI N (triB x y z w) p)))))] _ := hP
    have hD : va_D A [(qm, .inr (5, [.int (iI th), .ref mz, .ref ms, .int (iI hn), .ref mp, .ref mb, .int (iI L), .ref m1, .ref m2, .ref m3, .ref mB, .ref mF, .ref mN, .ref mS, .int (iI sT), .ref mW, .long acc])), (mB, .inl (gI g, 512, .inl (aI ((mbF (drawW x y z w M)))))), (mF, .inl (gI g, 512, .inl (aI ((updI G (triB x y z w) v))))), (mN, .inl (gI g, 512, .inl (aI ((updI N (triB x y z w) p)))))] := hD
    exact mend_v (S := (Int → Int) × (Int → Int)) (w' := (fun (u9 : (Int → Int) × (Int → Int)) => match u9 with | (G2, N2) => [(qm, .inr (5, [.int (iI th), .ref mz, .ref ms, .int (iI hn), .ref mp, .ref mb, .int (iI L), .ref m1, .ref m2, .ref m3, .ref mB, .ref mF, .ref mN, .ref mS, .int (iI sT), .ref mW, .long acc])), (mB, .inl (gI g, 512, .inl (aI ((mbF (drawW x y z w M)))))), (mF, .inl (gI g, 512, .inl (aI G2))), (mN, .inl (gI g, 512, .inl (aI N2)))])) (post := (fun (u9 : (Int → Int) × (Int → Int)) => match u9 with | (G2, N2) => GOk (drawW x y z w M) G2 N2)) hx hb hr hlk hS ((updI G (triB x y z w) v), (updI N (triB x y z w) p)) hP hD (by (rw [hv, hp]; exact GOk.draw hG hM hO hk9)) (Nat.le_of_ble_eq_true rfl) (Nat.le_of_ble_eq_true rfl) dX5_cover_58
  · skip
    refine lv_iload hx hb dX5_cover_19 (lv_at hl 7 rfl) ?_
    refine lv_aload_n hx hb dX5_cover_21 rfl (lv_at hl 1 rfl) ?_
    have hN9 : N (triB x y z w) = nearF M (triB x y z w) := (hG (triB x y z w) (fun r9 => absurd (hn9.mpr r9) (by omega))).2
    refine va_get (D := g.1) (ci := 5) (v := .ref mN) (C := RX5) (T := TX5) (N := 17) hx hb hts in5 hown hE.1 hP 0 rfl rfl 12 (by decide) w2 (fun _ h9 => h9) rfl dX5_cover_22 ?_
    refine lv_iload hx hb dX5_cover_25 (lv_at hl 0 rfl) ?_
    refine ln_iald hx hb hE hP 3 rfl (by omega) (by omega) (Nat.le_of_ble_eq_true rfl) (N (triB x y z w)) (rfl) dX5_cover_27 ?_
    refine ln_icmp_le (tgt := 58) hx hb dX5_cover_28 (by decide) ⟨by omega, by omega⟩ ⟨by omega, by omega⟩ (fun c_2 => ?_) (fun c_2 => ?_)
    · skip
      have hP := hP.recell 1 rfl ((mbF (drawW x y z w M))) (fun j _ _ => by rw [drawW_no hM hO (by have q9 := (hG (triB x y z w) (fun r9 => absurd (hn9.mpr r9) (by omega))).2; omega)])
      have hD := hD.set (p := 1) (e := .inl (gI g, 512, .inl (aI ((mbF (drawW x y z w M)))))) rfl
      have hP : va_P g.1 vwCl [(qm, .inr (5, [.int (iI th), .ref mz, .ref ms, .int (iI hn), .ref mp, .ref mb, .int (iI L), .ref m1, .ref m2, .ref m3, .ref mB, .ref mF, .ref mN, .ref mS, .int (iI sT), .ref mW, .long acc])), (mB, .inl (gI g, 512, .inl (aI ((mbF (drawW x y z w M)))))), (mF, .inl (gI g, 512, .inl (aI G))), (mN, .inl (gI g, 512, .inl (aI N)))] _ := hP
      have hD : va_D A [(qm, .inr (5, [.int (iI th), .ref mz, .ref ms, .int (iI hn), .ref mp, .ref mb, .int (iI L), .ref m1, .ref m2, .ref m3, .ref mB, .ref mF, .ref mN, .ref mS, .int (iI sT), .ref mW, .long acc])), (mB, .inl (gI g, 512, .inl (aI ((mbF (drawW x y z w M)))))), (mF, .inl (gI g, 512, .inl (aI G))), (mN, .inl (gI g, 512, .inl (aI N)))] := hD
      exact mend_v (S := (Int → Int) × (Int → Int)) (w' := (fun (u9 : (Int → Int) × (Int → Int)) => match u9 with | (G2, N2) => [(qm, .inr (5, [.int (iI th), .ref mz, .ref ms, .int (iI hn), .ref mp, .ref mb, .int (iI L), .ref m1, .ref m2, .ref m3, .ref mB, .ref mF, .ref mN, .ref mS, .int (iI sT), .ref mW, .long acc])), (mB, .inl (gI g, 512, .inl (aI ((mbF (drawW x y z w M)))))), (mF, .inl (gI g, 512, .inl (aI G2))), (mN, .inl (gI g, 512, .inl (aI N2)))])) (post := (fun (u9 : (Int → Int) × (Int → Int)) => match u9 with | (G2, N2) => GOk (drawW x y z w M) G2 N2)) hx hb hr hlk hS (G, N) hP hD (by (rw [drawW_no hM hO (by have q9 := (hG (triB x y z w) (fun r9 => absurd (hn9.mpr r9) (by omega))).2; omega)]; exact hG)) (Nat.le_of_ble_eq_true rfl) (Nat.le_of_ble_eq_true rfl) dX5_cover_58
    · skip
      have hk9 : nearF M (triB x y z w) < x + y + z := by first | exact near_none hO (hn9.mp (by omega)) | (have q9 := (hG (triB x y z w) (fun r9 => absurd (hn9.mpr r9) (by omega))).2; omega)
      refine lv_aload_n hx hb dX5_cover_31 rfl (lv_at hl 1 rfl) ?_
      refine va_get (D := g.1) (ci := 5) (v := .ref mB) (C := RX5) (T := TX5) (N := 17) hx hb hts in5 hown hE.1 hP 0 rfl rfl 10 (by decide) w0 (fun _ h9 => h9) rfl dX5_cover_32 ?_
      refine lv_iload hx hb dX5_cover_35 (lv_at hl 0 rfl) ?_
      refine lv_iload hx hb dX5_cover_37 (lv_at hl 5 rfl) ?_
      refine ln_iast hx hb hE hP hD hS 1 rfl (by omega) (by omega) (Nat.le_of_ble_eq_true rfl) (updI (mbF M) (triB x y z w) u) (fun _ _ _ => rfl) dX5_cover_39 (fun H locs hP hD hS => ?_)
      have hP : va_P g.1 vwCl [(qm, .inr (5, [.int (iI th), .ref mz, .ref ms, .int (iI hn), .ref mp, .ref mb, .int (iI L), .ref m1, .ref m2, .ref m3, .ref mB, .ref mF, .ref mN, .ref mS, .int (iI sT), .ref mW, .long acc])), (mB, .inl (gI g, 512, .inl (aI (updI (mbF M) (triB x y z w) u)))), (mF, .inl (gI g, 512, .inl (aI G))), (mN, .inl (gI g, 512, .inl (aI N)))] H := hP
      have hD : va_D A [(qm, .inr (5, [.int (iI th), .ref mz, .ref ms, .int (iI hn), .ref mp, .ref mb, .int (iI L), .ref m1, .ref m2, .ref m3, .ref mB, .ref mF, .ref mN, .ref mS, .int (iI sT), .ref mW, .long acc])), (mB, .inl (gI g, 512, .inl (aI (updI (mbF M) (triB x y z w) u)))), (mF, .inl (gI g, 512, .inl (aI G))), (mN, .inl (gI g, 512, .inl (aI N)))] := hD
      refine lv_aload_n hx hb dX5_cover_40 rfl (lv_at hl 1 rfl) ?_
      refine va_get (D := g.1) (ci := 5) (v := .ref mF) (C := RX5) (T := TX5) (N := 17) hx hb hts in5 hown hE.1 hP 0 rfl rfl 11 (by decide) w1 (fun _ h9 => h9) rfl dX5_cover_41 ?_
      refine lv_iload hx hb dX5_cover_44 (lv_at hl 0 rfl) ?_
      refine lv_iload hx hb dX5_cover_46 (lv_at hl 6 rfl) ?_
      refine ln_iast hx hb hE hP hD hS 2 rfl (by omega) (by omega) (Nat.le_of_ble_eq_true rfl) (updI G (triB x y z w) v) (fun _ _ _ => rfl) dX5_cover_48 (fun H locs hP hD hS => ?_)
      have hP : va_P g.1 vwCl [(qm, .inr (5, [.int (iI th), .ref mz, .ref ms, .int (iI hn), .ref mp, .ref mb, .int (iI L), .ref m1, .ref m2, .ref m3, .ref mB, .ref mF, .ref mN, .ref mS, .int (iI sT), .ref mW, .long acc])), (mB, .inl (gI g, 512, .inl (aI (updI (mbF M) (triB x y z w) u)))), (mF, .inl (gI g, 512, .inl (aI (updI G (triB x y z w) v)))), (mN, .inl (gI g, 512, .inl (aI N)))] H := hP
      have hD : va_D A [(qm, .inr (5, [.int (iI th), .ref mz, .ref ms, .int (iI hn), .ref mp, .ref mb, .int (iI L), .ref m1, .ref m2, .ref m3, .ref mB, .ref mF, .ref mN, .ref mS, .int (iI sT), .ref mW, .long acc])), (mB, .inl (gI g, 512, .inl (aI (updI (mbF M) (triB x y z w) u)))), (mF, .inl (gI g, 512, .inl (aI (updI G (triB x y z w) v)))), (mN, .inl (gI g, 512, .inl (aI N)))] := hD
      refine lv_aload_n hx hb dX5_cover_49 rfl (lv_at hl 1 rfl) ?_
      refine va_get (D := g.1) (ci := 5) (v := .ref mN) (C := RX5) (T := TX5) (N := 17) hx hb hts in5 hown hE.1 hP 0 rfl rfl 12 (by decide) w2 (fun _ h9 => h9) rfl dX5_cover_50 ?_
      refine lv_iload hx hb dX5_cover_53 (lv_at hl 0 rfl) ?_
      refine lv_iload hx hb dX5_cover_55 (lv_at hl 7 rfl) ?_
      refine ln_iast hx hb hE hP hD hS 3 rfl (by omega) (by omega) (Nat.le_of_ble_eq_true rfl) (updI N (triB x y z w) p) (fun _ _ _ => rfl) dX5_cover_57 (fun H locs hP hD hS => ?_)
      have hP : va_P g.1 vwCl [(qm, .inr (5, [.int (iI th), .ref mz, .ref ms, .int (iI hn), .ref mp, .ref mb, .int (iI L), .ref m1, .ref m2, .ref m3, .ref mB, .ref mF, .ref mN, .ref mS, .int (iI sT), .ref mW, .long acc])), (mB, .inl (gI g, 512, .inl (aI (updI (mbF M) (triB x y z w) u)))), (mF, .inl (gI g, 512, .inl (aI (updI G (triB x y z w) v)))), (mN, .inl (gI g, 512, .inl (aI (updI N (triB x y z w) p))))] H := hP
      have hD : va_D A [(qm, .inr (5, [.int (iI th), .ref mz, .ref ms, .int (iI hn), .ref mp, .ref mb, .int (iI L), .ref m1, .ref m2, .ref m3, .ref mB, .ref mF, .ref mN, .ref mS, .int (iI sT), .ref mW, .long acc])), (mB, .inl (gI g, 512, .inl (aI (updI (mbF M) (triB x y z w) u)))), (mF, .inl (gI g, 512, .inl (aI (updI G (triB x y z w) v)))), (mN, .inl (gI g, 512, .inl (aI (updI N (triB x y z w) p))))] := hD
      have hP := hP.recell 1 rfl ((mbF (drawW x y z w M))) (fun j _ _ => by rw [hu]; exact mb_draw hM hO hk9 j)
      have hD := hD.set (p := 1) (e := .inl (gI g, 512, .inl (aI ((mbF (drawW x y z w M)))))) rfl
      have hP := hP.recell 2 rfl ((updI G (triB x y z w) v)) (fun j h0 h1 => by omega)
      have hD := hD.set (p := 2) (e := .inl (gI g, 512, .inl (aI ((updI G (triB x y z w) v))))) rfl
      have hP := hP.recell 3 rfl ((updI N (triB x y z w) p)) (fun j h0 h1 => by omega)
      have hD := hD.set (p := 3) (e := .inl (gI g, 512, .inl (aI ((updI N (triB x y z w) p))))) rfl
      have hP : va_P g.1 vwCl [(qm, .inr (5, [.int (iI th), .ref mz, .ref ms, .int (iI hn), .ref mp, .ref mb, .int (iI L), .ref m1, .ref m2, .ref m3, .ref mB, .ref mF, .ref mN, .ref mS, .int (iI sT), .ref mW, .long acc])), (mB, .inl (gI g, 512, .inl (aI ((mbF (drawW x y z w M)))))), (mF, .inl (gI g, 512, .inl (aI ((updI G (triB x y z w) v))))), (mN, .inl (gI g, 512, .inl (aI ((updI N (triB x y z w) p)))))] _ := hP
      have hD : va_D A [(qm, .inr (5, [.int (iI th), .ref mz, .ref ms, .int (iI hn), .ref mp, .ref mb, .int (iI L), .ref m1, .ref m2, .ref m3, .ref mB, .ref mF, .ref mN, .ref mS, .int (iI sT), .ref mW, .long acc])), (mB, .inl (gI g, 512, .inl (aI ((mbF (drawW x y z w M)))))), (mF, .inl (gI g, 512, .inl (aI ((updI G (triB x y z w) v))))), (mN, .inl (gI g, 512, .inl (aI ((updI N (triB x y z w) p)))))] := hD
      exact mend_v (S := (Int → Int) × (Int → Int)) (w' := (fun (u9 : (Int → Int) × (Int → Int)) => match u9 with | (G2, N2) => [(qm, .inr (5, [.int (iI th), .ref mz, .ref ms, .int (iI hn), .ref mp, .ref mb, .int (iI L), .ref m1, .ref m2, .ref m3, .ref mB, .ref mF, .ref mN, .ref mS, .int (iI sT), .ref mW, .long acc])), (mB, .inl (gI g, 512, .inl (aI ((mbF (drawW x y z w M)))))), (mF, .inl (gI g, 512, .inl (aI G2))), (mN, .inl (gI g, 512, .inl (aI N2)))])) (post := (fun (u9 : (Int → Int) × (Int → Int)) => match u9 with | (G2, N2) => GOk (drawW x y z w M) G2 N2)) hx hb hr hlk hS ((updI G (triB x y z w) v), (updI N (triB x y z w) p)) hP hD (by (rw [hv, hp]; exact GOk.draw hG hM hO hk9)) (Nat.le_of_ble_eq_true rfl) (Nat.le_of_ble_eq_true rfl) dX5_cover_58
set_option maxHeartbeats 800000 in
set_option maxRecDepth 100000 in
theorem c_X5_coverBy (l : Launch) (g : GT) (qm : Nat) (th : Int) (mz : Nat) (ms : Nat) (hn : Int) (mp : Nat) (mb : Nat) (L : Int) (m1 : Nat) (m2 : Nat) (m3 : Nat) (mB : Nat) (mF : Nat) (mN : Nat) (mS : Nat) (sT : Int) (mW : Nat) (acc : Int64) (M : Int → Int) (G : Int → Int) (N : Int → Int) (x : Int) (y : Int) (z : Int) (hM : MOk M) (hG : GOk M G N) (hX : okX x y z) : MutV l yX5_coverBy wsX5_coverBy ({ frames := 2, cells := 0, slots := 0, locals := 49 }) 0 0 g [(qm, .inr (5, [.int (iI th), .ref mz, .ref ms, .int (iI hn), .ref mp, .ref mb, .int (iI L), .ref m1, .ref m2, .ref m3, .ref mB, .ref mF, .ref mN, .ref mS, .int (iI sT), .ref mW, .long acc])), (mB, .inl (gI g, 512, .inl (aI (mbF M)))), (mF, .inl (gI g, 512, .inl (aI G))), (mN, .inl (gI g, 512, .inl (aI N)))] [.ref qm, .int (iI x), .int (iI y), .int (iI z)] (S := (Int → Int) × (Int → Int)) (fun (u9 : (Int → Int) × (Int → Int)) => match u9 with | (G2, N2) => GOk (drawBK x y z M 6) G2 N2) (fun (u9 : (Int → Int) × (Int → Int)) => match u9 with | (G2, N2) => [(qm, .inr (5, [.int (iI th), .ref mz, .ref ms, .int (iI hn), .ref mp, .ref mb, .int (iI L), .ref m1, .ref m2, .ref m3, .ref mB, .ref mF, .ref mN, .ref mS, .int (iI sT), .ref mW, .long acc])), (mB, .inl (gI g, 512, .inl (aI ((mbF (drawBK x y z M 6)))))), (mF, .inl (gI g, 512, .inl (aI G2))), (mN, .inl (gI g, 512, .inl (aI N2)))]) := by
  refine mut_of (y := yX5_coverBy) (ws := wsX5_coverBy) (av := [.ref qm, .int (iI x), .int (iI y), .int (iI z)]) (w := [(qm, .inr (5, [.int (iI th), .ref mz, .ref ms, .int (iI hn), .ref mp, .ref mb, .int (iI L), .ref m1, .ref m2, .ref m3, .ref mB, .ref mF, .ref mN, .ref mS, .int (iI sT), .ref mW, .long acc])), (mB, .inl (gI g, 512, .inl (aI (mbF M)))), (mF, .inl (gI g, 512, .inl (aI G))), (mN, .inl (gI g, 512, .inl (aI N)))]) (Qc := fun A => va_Qv (fun (u9 : (Int → Int) × (Int → Int)) => (fun (u9 : (Int → Int) × (Int → Int)) => match u9 with | (G2, N2) => GOk (drawBK x y z M 6) G2 N2) u9) (fun u9 t9 => MB g ((fun (u9 : (Int → Int) × (Int → Int)) => match u9 with | (G2, N2) => [(qm, .inr (5, [.int (iI th), .ref mz, .ref ms, .int (iI hn), .ref mp, .ref mb, .int (iI L), .ref m1, .ref m2, .ref m3, .ref mB, .ref mF, .ref mN, .ref mS, .int (iI sT), .ref mW, .long acc])), (mB, .inl (gI g, 512, .inl (aI ((mbF (drawBK x y z M 6)))))), (mF, .inl (gI g, 512, .inl (aI G2))), (mN, .inl (gI g, 512, .inl (aI N2)))]) u9) A t9) A) (cc := cX5_coverBy) (maxL := 8) (ret := none) (by decide) rfl (Nat.le_of_ble_eq_true rfl) ?_
  intro pZ eZ sZ mZ bZ meZ cZ A F hin hA hP hD hE hS ls hl
  obtain ⟨hx, hb, hr, hml, hts, hown, hlk⟩ := F
  skip
  have hown : sZ.vm.findClass RX5 = some mZ.cls := hown
  have hl : lv_has ls 8 [(0, .ref qm), (1, .int (iI x)), (2, .int (iI y)), (3, .int (iI z))] := hl
  skip
  have hx9 := hX.1
  have hy9 := hX.2.1
  have hz9 := hX.2.2
  refine lv_iload_n hx hb dX5_coverBy_0 rfl (lv_at hl 1 rfl) ?_
  refine lv_iload_n hx hb dX5_coverBy_1 rfl (lv_at hl 3 rfl) ?_
  refine ln_isub hx hb (x - z) (rfl) dX5_coverBy_2 ?_
  refine lv_istore (lv' := [(4, .int (iI (x - z))), (0, .ref qm), (1, .int (iI x)), (2, .int (iI y)), (3, .int (iI z))]) hx hb dX5_coverBy_3 hl (by decide) rfl (fun ls hl => ?_)
  refine lv_iload_n hx hb dX5_coverBy_5 rfl (lv_at hl 3 rfl) ?_
  refine lv_iload_n hx hb dX5_coverBy_6 rfl (lv_at hl 4 rfl) ?_
  refine ln_isub hx hb (y - z) (rfl) dX5_coverBy_7 ?_
  refine lv_istore (lv' := [(5, .int (iI (y - z))), (4, .int (iI (x - z))), (0, .ref qm), (1, .int (iI x)), (2, .int (iI y)), (3, .int (iI z))]) hx hb dX5_coverBy_8 hl (by decide) rfl (fun ls hl => ?_)
  refine lv_bipush (v := iI 8) hx hb dX5_coverBy_10 (by decide) ?_
  refine lv_bipush (v := iI 6) hx hb dX5_coverBy_12 (by decide) ?_
  refine lv_iload_n hx hb dX5_coverBy_14 rfl (lv_at hl 4 rfl) ?_
  refine ln_imul hx hb (6 * y) (rfl) dX5_coverBy_15 ?_
  refine lv_iload_n hx hb dX5_coverBy_16 rfl (lv_at hl 3 rfl) ?_
  refine ln_iadd hx hb (6 * y + x) (rfl) dX5_coverBy_17 ?_
  refine ln_imul hx hb (8 * (6 * y + x)) (rfl) dX5_coverBy_18 ?_
  refine lv_iload_n hx hb dX5_coverBy_19 rfl (lv_at hl 5 rfl) ?_
  refine ln_iadd hx hb (8 * (6 * y + x) + z) (rfl) dX5_coverBy_20 ?_
  refine lv_istore (lv' := [(6, .int (iI (8 * (6 * y + x) + z))), (5, .int (iI (y - z))), (4, .int (iI (x - z))), (0, .ref qm), (1, .int (iI x)), (2, .int (iI y)), (3, .int (iI z))]) hx hb dX5_coverBy_21 hl (by decide) rfl (fun ls hl => ?_)
  refine lv_iload_n hx hb dX5_coverBy_23 rfl (lv_at hl 4 rfl) ?_
  refine lv_iload_n hx hb dX5_coverBy_24 rfl (lv_at hl 5 rfl) ?_
  refine ln_iadd hx hb (x + y) (rfl) dX5_coverBy_25 ?_
  refine lv_iload_n hx hb dX5_coverBy_26 rfl (lv_at hl 6 rfl) ?_
  refine ln_iadd hx hb (x + y + z) (rfl) dX5_coverBy_27 ?_
  refine lv_istore (lv' := [(7, .int (iI (x + y + z))), (6, .int (iI (8 * (6 * y + x) + z))), (5, .int (iI (y - z))), (4, .int (iI (x - z))), (0, .ref qm), (1, .int (iI x)), (2, .int (iI y)), (3, .int (iI z))]) hx hb dX5_coverBy_28 hl (by decide) rfl (fun ls hl => ?_)
  have hP := hP.recell 1 rfl ((mbF (drawBK x y z M 0))) (fun j _ _ => rfl)
  have hD := hD.set (p := 1) (e := .inl (gI g, 512, .inl (aI ((mbF (drawBK x y z M 0)))))) rfl
  have hP : va_P g.1 vwCl [(qm, .inr (5, [.int (iI th), .ref mz, .ref ms, .int (iI hn), .ref mp, .ref mb, .int (iI L), .ref m1, .ref m2, .ref m3, .ref mB, .ref mF, .ref mN, .ref mS, .int (iI sT), .ref mW, .long acc])), (mB, .inl (gI g, 512, .inl (aI ((mbF (drawBK x y z M 0)))))), (mF, .inl (gI g, 512, .inl (aI G))), (mN, .inl (gI g, 512, .inl (aI N)))] _ := hP
  have hD : va_D A [(qm, .inr (5, [.int (iI th), .ref mz, .ref ms, .int (iI hn), .ref mp, .ref mb, .int (iI L), .ref m1, .ref m2, .ref m3, .ref mB, .ref mF, .ref mN, .ref mS, .int (iI sT), .ref mW, .long acc])), (mB, .inl (gI g, 512, .inl (aI ((mbF (drawBK x y z M 0)))))), (mF, .inl (gI g, 512, .inl (aI G))), (mN, .inl (gI g, 512, .inl (aI N)))] := hD
  have hg0 : GOk (drawBK x y z M 0) G N := hG
  refine lv_aload_n hx hb dX5_coverBy_30 rfl (lv_at hl 4 rfl) ?_
  refine lv_iload hx hb dX5_coverBy_31 (lv_at hl 3 rfl) ?_
  refine lv_iconst (v := iI 1) hx hb dX5_coverBy_33 rfl ?_
  refine ln_isub hx hb (x - z - 1) (rfl) dX5_coverBy_34 ?_
  refine lv_iload hx hb dX5_coverBy_35 (lv_at hl 2 rfl) ?_
  refine lv_iconst (v := iI 1) hx hb dX5_coverBy_37 rfl ?_
  refine ln_isub hx hb (y - z - 1) (rfl) dX5_coverBy_38 ?_
  refine lv_iconst (v := iI 0) hx hb dX5_coverBy_39 rfl ?_
  refine lv_iload hx hb dX5_coverBy_40 (lv_at hl 1 rfl) ?_
  refine lv_iconst (v := iI 0) hx hb dX5_coverBy_42 rfl ?_
  refine lv_iload hx hb dX5_coverBy_43 (lv_at hl 0 rfl) ?_
  have hPc_1 := hP.sub (ws' := [(qm, .inr (5, [.int (iI th), .ref mz, .ref ms, .int (iI hn), .ref mp, .ref mb, .int (iI L), .ref m1, .ref m2, .ref m3, .ref mB, .ref mF, .ref mN, .ref mS, .int (iI sT), .ref mW, .long acc])), (mB, .inl (gI g, 512, .inl (aI ((mbF (drawBK x y z M 0)))))), (mF, .inl (gI g, 512, .inl (aI G))), (mN, .inl (gI g, 512, .inl (aI N)))]) [0, 1, 2, 3] rfl
  have hDc_2 := hD.sub (ws' := [(qm, .inr (5, [.int (iI th), .ref mz, .ref ms, .int (iI hn), .ref mp, .ref mb, .int (iI L), .ref m1, .ref m2, .ref m3, .ref mB, .ref mF, .ref mN, .ref mS, .int (iI sT), .ref mW, .long acc])), (mB, .inl (gI g, 512, .inl (aI ((mbF (drawBK x y z M 0)))))), (mF, .inl (gI g, 512, .inl (aI G))), (mN, .inl (gI g, 512, .inl (aI N)))]) [0, 1, 2, 3] (by decide) rfl
  have hFc_3 := va_free (wc := [(qm, .inr (5, [.int (iI th), .ref mz, .ref ms, .int (iI hn), .ref mp, .ref mb, .int (iI L), .ref m1, .ref m2, .ref m3, .ref mB, .ref mF, .ref mN, .ref mS, .int (iI sT), .ref mW, .long acc])), (mB, .inl (gI g, 512, .inl (aI ((mbF (drawBK x y z M 0)))))), (mF, .inl (gI g, 512, .inl (aI G))), (mN, .inl (gI g, 512, .inl (aI N)))]) hD hS hA [0, 1, 2, 3] rfl
  refine mc_v (wr := []) (cells1 := 0) (slots1 := 0) (va_runV (As := [.int (iI (x - z - 1)), .int (iI (y - z - 1)), .int (iI 0), .int (iI (8 * (6 * y + x) + z)), .int (iI 0), .int (iI (x + y + z))]) (rest := []) ⟨hx, hb, hml, hown, hts⟩ (c_X5_cover l g qm th mz ms hn mp mb L m1 m2 m3 mB mF mN mS sT mW acc (drawBK x y z M 0) G N (x - z - 1) (y - z - 1) 0 (8 * (6 * y + x) + z) 0 (x + y + z) x y z 0 (drawBK_ok hM hX.1 hX.2.1 hX.2.2 (by decide) (by decide)) hg0 (hX.b (by decide)) ((show 2 * (16 * (_ + 9) + _ + 9) + _ = triN (x - z + -1) (y - z + -1) 0 by unfold triN; omega)) (rfl) (by decide) (rfl) sZ.heap.size) (cwV 6 hts gX5_coverBy_X5_cover rfl rfl rfl (by decide +kernel) ⟨Nat.le_of_ble_eq_true rfl, Nat.le_of_ble_eq_true rfl⟩) (muV hE hS hPc_1 hDc_2 hFc_3 rfl rfl) rfl rfl hl.1 rfl (lv_room (Nat.le_of_ble_eq_true rfl)) dX5_coverBy_45 ⟨Nat.le_of_ble_eq_true rfl, Nat.le_of_ble_eq_true rfl⟩) hP hD hS hA [0, 1, 2, 3] [] [0, 1, 2, 3] rfl rfl (by decide) (by decide) (fun (u9 : (Int → Int) × (Int → Int)) => match u9 with | (u_4, u_5) => [(qm, .inr (5, [.int (iI th), .ref mz, .ref ms, .int (iI hn), .ref mp, .ref mb, .int (iI L), .ref m1, .ref m2, .ref m3, .ref mB, .ref mF, .ref mN, .ref mS, .int (iI sT), .ref mW, .long acc])), (mB, .inl (gI g, 512, .inl (aI ((mbF (drawW x y z 0 (drawBK x y z M 0))))))), (mF, .inl (gI g, 512, .inl (aI u_4))), (mN, .inl (gI g, 512, .inl (aI u_5)))]) (fun _ => rfl) (by decide) (Nat.le_of_ble_eq_true rfl) (Nat.le_of_ble_eq_true rfl) (fun u9 H locs hu_6 hP hD hS => ?_)
  obtain ⟨u_4, u_5⟩ := u9
  have hu_6 : GOk (drawW x y z 0 (drawBK x y z M 0)) u_4 u_5 := hu_6
  have hP : va_P g.1 vwCl [(qm, .inr (5, [.int (iI th), .ref mz, .ref ms, .int (iI hn), .ref mp, .ref mb, .int (iI L), .ref m1, .ref m2, .ref m3, .ref mB, .ref mF, .ref mN, .ref mS, .int (iI sT), .ref mW, .long acc])), (mB, .inl (gI g, 512, .inl (aI ((mbF (drawW x y z 0 (drawBK x y z M 0))))))), (mF, .inl (gI g, 512, .inl (aI u_4))), (mN, .inl (gI g, 512, .inl (aI u_5)))] H := hP
  have hD : va_D A [(qm, .inr (5, [.int (iI th), .ref mz, .ref ms, .int (iI hn), .ref mp, .ref mb, .int (iI L), .ref m1, .ref m2, .ref m3, .ref mB, .ref mF, .ref mN, .ref mS, .int (iI sT), .ref mW, .long acc])), (mB, .inl (gI g, 512, .inl (aI ((mbF (drawW x y z 0 (drawBK x y z M 0))))))), (mF, .inl (gI g, 512, .inl (aI u_4))), (mN, .inl (gI g, 512, .inl (aI u_5)))] := hD
  have hP := hP.recell 1 rfl ((mbF (drawBK x y z M 1))) (fun j _ _ => rfl)
  have hD := hD.set (p := 1) (e := .inl (gI g, 512, .inl (aI ((mbF (drawBK x y z M 1)))))) rfl
  have hP : va_P g.1 vwCl [(qm, .inr (5, [.int (iI th), .ref mz, .ref ms, .int (iI hn), .ref mp, .ref mb, .int (iI L), .ref m1, .ref m2, .ref m3, .ref mB, .ref mF, .ref mN, .ref mS, .int (iI sT), .ref mW, .long acc])), (mB, .inl (gI g, 512, .inl (aI ((mbF (drawBK x y z M 1)))))), (mF, .inl (gI g, 512, .inl (aI u_4))), (mN, .inl (gI g, 512, .inl (aI u_5)))] _ := hP
  have hD : va_D A [(qm, .inr (5, [.int (iI th), .ref mz, .ref ms, .int (iI hn), .ref mp, .ref mb, .int (iI L), .ref m1, .ref m2, .ref m3, .ref mB, .ref mF, .ref mN, .ref mS, .int (iI sT), .ref mW, .long acc])), (mB, .inl (gI g, 512, .inl (aI ((mbF (drawBK x y z M 1)))))), (mF, .inl (gI g, 512, .inl (aI u_4))), (mN, .inl (gI g, 512, .inl (aI u_5)))] := hD
  have hg1 : GOk (drawBK x y z M 1) u_4 u_5 := hu_6
  refine lv_aload_n hx hb dX5_coverBy_48 rfl (lv_at hl 4 rfl) ?_
  refine lv_iload hx hb dX5_coverBy_49 (lv_at hl 3 rfl) ?_
  refine lv_iconst (v := iI 1) hx hb dX5_coverBy_51 rfl ?_
  refine ln_isub hx hb (x - z - 1) (rfl) dX5_coverBy_52 ?_
  refine lv_iload hx hb dX5_coverBy_53 (lv_at hl 2 rfl) ?_
  refine lv_iconst (v := iI 1) hx hb dX5_coverBy_55 rfl ?_
  refine ln_isub hx hb (y - z - 1) (rfl) dX5_coverBy_56 ?_
  refine lv_iconst (v := iI 1) hx hb dX5_coverBy_57 rfl ?_
  refine lv_iload hx hb dX5_coverBy_58 (lv_at hl 1 rfl) ?_
  refine lv_iconst (v := iI 0) hx hb dX5_coverBy_60 rfl ?_
  refine lv_iload hx hb dX5_coverBy_61 (lv_at hl 0 rfl) ?_
  have hPc_7 := hP.sub (ws' := [(qm, .inr (5, [.int (iI th), .ref mz, .ref ms, .int (iI hn), .ref mp, .ref mb, .int (iI L), .ref m1, .ref m2, .ref m3, .ref mB, .ref mF, .ref mN, .ref mS, .int (iI sT), .ref mW, .long acc])), (mB, .inl (gI g, 512, .inl (aI ((mbF (drawBK x y z M 1)))))), (mF, .inl (gI g, 512, .inl (aI u_4))), (mN, .inl (gI g, 512, .inl (aI u_5)))]) [0, 1, 2, 3] rfl
  have hDc_8 := hD.sub (ws' := [(qm, .inr (5, [.int (iI th), .ref mz, .ref ms, .int (iI hn), .ref mp, .ref mb, .int (iI L), .ref m1, .ref m2, .ref m3, .ref mB, .ref mF, .ref mN, .ref mS, .int (iI sT), .ref mW, .long acc])), (mB, .inl (gI g, 512, .inl (aI ((mbF (drawBK x y z M 1)))))), (mF, .inl (gI g, 512, .inl (aI u_4))), (mN, .inl (gI g, 512, .inl (aI u_5)))]) [0, 1, 2, 3] (by decide) rfl
  have hFc_9 := va_free (wc := [(qm, .inr (5, [.int (iI th), .ref mz, .ref ms, .int (iI hn), .ref mp, .ref mb, .int (iI L), .ref m1, .ref m2, .ref m3, .ref mB, .ref mF, .ref mN, .ref mS, .int (iI sT), .ref mW, .long acc])), (mB, .inl (gI g, 512, .inl (aI ((mbF (drawBK x y z M 1)))))), (mF, .inl (gI g, 512, .inl (aI u_4))), (mN, .inl (gI g, 512, .inl (aI u_5)))]) hD hS hA [0, 1, 2, 3] rfl
  refine mc_v (wr := []) (cells1 := 0) (slots1 := 0) (va_runV (As := [.int (iI (x - z - 1)), .int (iI (y - z - 1)), .int (iI 1), .int (iI (8 * (6 * y + x) + z)), .int (iI 0), .int (iI (x + y + z))]) (rest := []) ⟨hx, hb, hml, hown, hts⟩ (c_X5_cover l g qm th mz ms hn mp mb L m1 m2 m3 mB mF mN mS sT mW acc (drawBK x y z M 1) u_4 u_5 (x - z - 1) (y - z - 1) 1 (8 * (6 * y + x) + z) 0 (x + y + z) x y z 1 (drawBK_ok hM hX.1 hX.2.1 hX.2.2 (by decide) (by decide)) hg1 (hX.b (by decide)) ((show 2 * (16 * (_ + 9) + _ + 9) + _ = triN (x - z + -1) (y - z + -1) 1 by unfold triN; omega)) (rfl) (by decide) (rfl) H.size) (cwV 6 hts gX5_coverBy_X5_cover rfl rfl rfl (by decide +kernel) ⟨Nat.le_of_ble_eq_true rfl, Nat.le_of_ble_eq_true rfl⟩) (muV hE hS hPc_7 hDc_8 hFc_9 rfl rfl) rfl rfl hl.1 rfl (lv_room (Nat.le_of_ble_eq_true rfl)) dX5_coverBy_63 ⟨Nat.le_of_ble_eq_true rfl, Nat.le_of_ble_eq_true rfl⟩) hP hD hS hA [0, 1, 2, 3] [] [0, 1, 2, 3] rfl rfl (by decide) (by decide) (fun (u9 : (Int → Int) × (Int → Int)) => match u9 with | (u_10, u_11) => [(qm, .inr (5, [.int (iI th), .ref mz, .ref ms, .int (iI hn), .ref mp, .ref mb, .int (iI L), .ref m1, .ref m2, .ref m3, .ref mB, .ref mF, .ref mN, .ref mS, .int (iI sT), .ref mW, .long acc])), (mB, .inl (gI g, 512, .inl (aI ((mbF (drawW x y z 1 (drawBK x y z M 1))))))), (mF, .inl (gI g, 512, .inl (aI u_10))), (mN, .inl (gI g, 512, .inl (aI u_11)))]) (fun _ => rfl) (by decide) (Nat.le_of_ble_eq_true rfl) (Nat.le_of_ble_eq_true rfl) (fun u9 H locs hu_12 hP hD hS => ?_)
  obtain ⟨u_10, u_11⟩ := u9
  have hu_12 : GOk (drawW x y z 1 (drawBK x y z M 1)) u_10 u_11 := hu_12
  have hP : va_P g.1 vwCl [(qm, .inr (5, [.int (iI th), .ref mz, .ref ms, .int (iI hn), .ref mp, .ref mb, .int (iI L), .ref m1, .ref m2, .ref m3, .ref mB, .ref mF, .ref mN, .ref mS, .int (iI sT), .ref mW, .long acc])), (mB, .inl (gI g, 512, .inl (aI ((mbF (drawW x y z 1 (drawBK x y z M 1))))))), (mF, .inl (gI g, 512, .inl (aI u_10))), (mN, .inl (gI g, 512, .inl (aI u_11)))] H := hP
  have hD : va_D A [(qm, .inr (5, [.int (iI th), .ref mz, .ref ms, .int (iI hn), .ref mp, .ref mb, .int (iI L), .ref m1, .ref m2, .ref m3, .ref mB, .ref mF, .ref mN, .ref mS, .int (iI sT), .ref mW, .long acc])), (mB, .inl (gI g, 512, .inl (aI ((mbF (drawW x y z 1 (drawBK x y z M 1))))))), (mF, .inl (gI g, 512, .inl (aI u_10))), (mN, .inl (gI g, 512, .inl (aI u_11)))] := hD
  have hP := hP.recell 1 rfl ((mbF (drawBK x y z M 2))) (fun j _ _ => rfl)
  have hD := hD.set (p := 1) (e := .inl (gI g, 512, .inl (aI ((mbF (drawBK x y z M 2)))))) rfl
  have hP : va_P g.1 vwCl [(qm, .inr (5, [.int (iI th), .ref mz, .ref ms, .int (iI hn), .ref mp, .ref mb, .int (iI L), .ref m1, .ref m2, .ref m3, .ref mB, .ref mF, .ref mN, .ref mS, .int (iI sT), .ref mW, .long acc])), (mB, .inl (gI g, 512, .inl (aI ((mbF (drawBK x y z M 2)))))), (mF, .inl (gI g, 512, .inl (aI u_10))), (mN, .inl (gI g, 512, .inl (aI u_11)))] _ := hP
  have hD : va_D A [(qm, .inr (5, [.int (iI th), .ref mz, .ref ms, .int (iI hn), .ref mp, .ref mb, .int (iI L), .ref m1, .ref m2, .ref m3, .ref mB, .ref mF, .ref mN, .ref mS, .int (iI sT), .ref mW, .long acc])), (mB, .inl (gI g, 512, .inl (aI ((mbF (drawBK x y z M 2)))))), (mF, .inl (gI g, 512, .inl (aI u_10))), (mN, .inl (gI g, 512, .inl (aI u_11)))] := hD
  have hg2 : GOk (drawBK x y z M 2) u_10 u_11 := hu_12
  refine lv_aload_n hx hb dX5_coverBy_66 rfl (lv_at hl 4 rfl) ?_
  refine lv_iload hx hb dX5_coverBy_67 (lv_at hl 3 rfl) ?_
  refine lv_iload hx hb dX5_coverBy_69 (lv_at hl 2 rfl) ?_
  refine lv_iconst (v := iI 1) hx hb dX5_coverBy_71 rfl ?_
  refine ln_isub hx hb (y - z - 1) (rfl) dX5_coverBy_72 ?_
  refine lv_iconst (v := iI 1) hx hb dX5_coverBy_73 rfl ?_
  refine lv_iload hx hb dX5_coverBy_74 (lv_at hl 1 rfl) ?_
  refine lv_iconst (v := iI 1) hx hb dX5_coverBy_76 rfl ?_
  refine lv_iload hx hb dX5_coverBy_77 (lv_at hl 0 rfl) ?_
  have hPc_13 := hP.sub (ws' := [(qm, .inr (5, [.int (iI th), .ref mz, .ref ms, .int (iI hn), .ref mp, .ref mb, .int (iI L), .ref m1, .ref m2, .ref m3, .ref mB, .ref mF, .ref mN, .ref mS, .int (iI sT), .ref mW, .long acc])), (mB, .inl (gI g, 512, .inl (aI ((mbF (drawBK x y z M 2)))))), (mF, .inl (gI g, 512, .inl (aI u_10))), (mN, .inl (gI g, 512, .inl (aI u_11)))]) [0, 1, 2, 3] rfl
  have hDc_14 := hD.sub (ws' := [(qm, .inr (5, [.int (iI th), .ref mz, .ref ms, .int (iI hn), .ref mp, .ref mb, .int (iI L), .ref m1, .ref m2, .ref m3, .ref mB, .ref mF, .ref mN, .ref mS, .int (iI sT), .ref mW, .long acc])), (mB, .inl (gI g, 512, .inl (aI ((mbF (drawBK x y z M 2)))))), (mF, .inl (gI g, 512, .inl (aI u_10))), (mN, .inl (gI g, 512, .inl (aI u_11)))]) [0, 1, 2, 3] (by decide) rfl
  have hFc_15 := va_free (wc := [(qm, .inr (5, [.int (iI th), .ref mz, .ref ms, .int (iI hn), .ref mp, .ref mb, .int (iI L), .ref m1, .ref m2, .ref m3, .ref mB, .ref mF, .ref mN, .ref mS, .int (iI sT), .ref mW, .long acc])), (mB, .inl (gI g, 512, .inl (aI ((mbF (drawBK x y z M 2)))))), (mF, .inl (gI g, 512, .inl (aI u_10))), (mN, .inl (gI g, 512, .inl (aI u_11)))]) hD hS hA [0, 1, 2, 3] rfl
  refine mc_v (wr := []) (cells1 := 0) (slots1 := 0) (va_runV (As := [.int (iI (x - z)), .int (iI (y - z - 1)), .int (iI 1), .int (iI (8 * (6 * y + x) + z)), .int (iI 1), .int (iI (x + y + z))]) (rest := []) ⟨hx, hb, hml, hown, hts⟩ (c_X5_cover l g qm th mz ms hn mp mb L m1 m2 m3 mB mF mN mS sT mW acc (drawBK x y z M 2) u_10 u_11 (x - z) (y - z - 1) 1 (8 * (6 * y + x) + z) 1 (x + y + z) x y z 2 (drawBK_ok hM hX.1 hX.2.1 hX.2.2 (by decide) (by decide)) hg2 (hX.b (by decide)) ((show 2 * (16 * (_ + 9) + _ + 9) + _ = triN (x - z + 0) (y - z + -1) 1 by unfold triN; omega)) (rfl) (by decide) (rfl) H.size) (cwV 6 hts gX5_coverBy_X5_cover rfl rfl rfl (by decide +kernel) ⟨Nat.le_of_ble_eq_true rfl, Nat.le_of_ble_eq_true rfl⟩) (muV hE hS hPc_13 hDc_14 hFc_15 rfl rfl) rfl rfl hl.1 rfl (lv_room (Nat.le_of_ble_eq_true rfl)) dX5_coverBy_79 ⟨Nat.le_of_ble_eq_true rfl, Nat.le_of_ble_eq_true rfl⟩) hP hD hS hA [0, 1, 2, 3] [] [0, 1, 2, 3] rfl rfl (by decide) (by decide) (fun (u9 : (Int → Int) × (Int → Int)) => match u9 with | (u_16, u_17) => [(qm, .inr (5, [.int (iI th), .ref mz, .ref ms, .int (iI hn), .ref mp, .ref mb, .int (iI L), .ref m1, .ref m2, .ref m3, .ref mB, .ref mF, .ref mN, .ref mS, .int (iI sT), .ref mW, .long acc])), (mB, .inl (gI g, 512, .inl (aI ((mbF (drawW x y z 2 (drawBK x y z M 2))))))), (mF, .inl (gI g, 512, .inl (aI u_16))), (mN, .inl (gI g, 512, .inl (aI u_17)))]) (fun _ => rfl) (by decide) (Nat.le_of_ble_eq_true rfl) (Nat.le_of_ble_eq_true rfl) (fun u9 H locs hu_18 hP hD hS => ?_)
  obtain ⟨u_16, u_17⟩ := u9
  have hu_18 : GOk (drawW x y z 2 (drawBK x y z M 2)) u_16 u_17 := hu_18
  have hP : va_P g.1 vwCl [(qm, .inr (5, [.int (iI th), .ref mz, .ref ms, .int (iI hn), .ref mp, .ref mb, .int (iI L), .ref m1, .ref m2, .ref m3, .ref mB, .ref mF, .ref mN, .ref mS, .int (iI sT), .ref mW, .long acc])), (mB, .inl (gI g, 512, .inl (aI ((mbF (drawW x y z 2 (drawBK x y z M 2))))))), (mF, .inl (gI g, 512, .inl (aI u_16))), (mN, .inl (gI g, 512, .inl (aI u_17)))] H := hP
  have hD : va_D A [(qm, .inr (5, [.int (iI th), .ref mz, .ref ms, .int (iI hn), .ref mp, .ref mb, .int (iI L), .ref m1, .ref m2, .ref m3, .ref mB, .ref mF, .ref mN, .ref mS, .int (iI sT), .ref mW, .long acc])), (mB, .inl (gI g, 512, .inl (aI ((mbF (drawW x y z 2 (drawBK x y z M 2))))))), (mF, .inl (gI g, 512, .inl (aI u_16))), (mN, .inl (gI g, 512, .inl (aI u_17)))] := hD
  have hP := hP.recell 1 rfl ((mbF (drawBK x y z M 3))) (fun j _ _ => rfl)
  have hD := hD.set (p := 1) (e := .inl (gI g, 512, .inl (aI ((mbF (drawBK x y z M 3)))))) rfl
  have hP : va_P g.1 vwCl [(qm, .inr (5, [.int (iI th), .ref mz, .ref ms, .int (iI hn), .ref mp, .ref mb, .int (iI L), .ref m1, .ref m2, .ref m3, .ref mB, .ref mF, .ref mN, .ref mS, .int (iI sT), .ref mW, .long acc])), (mB, .inl (gI g, 512, .inl (aI ((mbF (drawBK x y z M 3)))))), (mF, .inl (gI g, 512, .inl (aI u_16))), (mN, .inl (gI g, 512, .inl (aI u_17)))] _ := hP
  have hD : va_D A [(qm, .inr (5, [.int (iI th), .ref mz, .ref ms, .int (iI hn), .ref mp, .ref mb, .int (iI L), .ref m1, .ref m2, .ref m3, .ref mB, .ref mF, .ref mN, .ref mS, .int (iI sT), .ref mW, .long acc])), (mB, .inl (gI g, 512, .inl (aI ((mbF (drawBK x y z M 3)))))), (mF, .inl (gI g, 512, .inl (aI u_16))), (mN, .inl (gI g, 512, .inl (aI u_17)))] := hD
  have hg3 : GOk (drawBK x y z M 3) u_16 u_17 := hu_18
  refine lv_aload_n hx hb dX5_coverBy_82 rfl (lv_at hl 4 rfl) ?_
  refine lv_iload hx hb dX5_coverBy_83 (lv_at hl 3 rfl) ?_
  refine lv_iload hx hb dX5_coverBy_85 (lv_at hl 2 rfl) ?_
  refine lv_iconst (v := iI 0) hx hb dX5_coverBy_87 rfl ?_
  refine lv_iload hx hb dX5_coverBy_88 (lv_at hl 1 rfl) ?_
  refine lv_iconst (v := iI 1) hx hb dX5_coverBy_90 rfl ?_
  refine lv_iload hx hb dX5_coverBy_91 (lv_at hl 0 rfl) ?_
  have hPc_19 := hP.sub (ws' := [(qm, .inr (5, [.int (iI th), .ref mz, .ref ms, .int (iI hn), .ref mp, .ref mb, .int (iI L), .ref m1, .ref m2, .ref m3, .ref mB, .ref mF, .ref mN, .ref mS, .int (iI sT), .ref mW, .long acc])), (mB, .inl (gI g, 512, .inl (aI ((mbF (drawBK x y z M 3)))))), (mF, .inl (gI g, 512, .inl (aI u_16))), (mN, .inl (gI g, 512, .inl (aI u_17)))]) [0, 1, 2, 3] rfl
  have hDc_20 := hD.sub (ws' := [(qm, .inr (5, [.int (iI th), .ref mz, .ref ms, .int (iI hn), .ref mp, .ref mb, .int (iI L), .ref m1, .ref m2, .ref m3, .ref mB, .ref mF, .ref mN, .ref mS, .int (iI sT), .ref mW, .long acc])), (mB, .inl (gI g, 512, .inl (aI ((mbF (drawBK x y z M 3)))))), (mF, .inl (gI g, 512, .inl (aI u_16))), (mN, .inl (gI g, 512, .inl (aI u_17)))]) [0, 1, 2, 3] (by decide) rfl
  have hFc_21 := va_free (wc := [(qm, .inr (5, [.int (iI th), .ref mz, .ref ms, .int (iI hn), .ref mp, .ref mb, .int (iI L), .ref m1, .ref m2, .ref m3, .ref mB, .ref mF, .ref mN, .ref mS, .int (iI sT), .ref mW, .long acc])), (mB, .inl (gI g, 512, .inl (aI ((mbF (drawBK x y z M 3)))))), (mF, .inl (gI g, 512, .inl (aI u_16))), (mN, .inl (gI g, 512, .inl (aI u_17)))]) hD hS hA [0, 1, 2, 3] rfl
  refine mc_v (wr := []) (cells1 := 0) (slots1 := 0) (va_runV (As := [.int (iI (x - z)), .int (iI (y - z)), .int (iI 0), .int (iI (8 * (6 * y + x) + z)), .int (iI 1), .int (iI (x + y + z))]) (rest := []) ⟨hx, hb, hml, hown, hts⟩ (c_X5_cover l g qm th mz ms hn mp mb L m1 m2 m3 mB mF mN mS sT mW acc (drawBK x y z M 3) u_16 u_17 (x - z) (y - z) 0 (8 * (6 * y + x) + z) 1 (x + y + z) x y z 3 (drawBK_ok hM hX.1 hX.2.1 hX.2.2 (by decide) (by decide)) hg3 (hX.b (by decide)) ((show 2 * (16 * (_ + 9) + _ + 9) + _ = triN (x - z + 0) (y - z + 0) 0 by unfold triN; omega)) (rfl) (by decide) (rfl) H.size) (cwV 6 hts gX5_coverBy_X5_cover rfl rfl rfl (by decide +kernel) ⟨Nat.le_of_ble_eq_true rfl, Nat.le_of_ble_eq_true rfl⟩) (muV hE hS hPc_19 hDc_20 hFc_21 rfl rfl) rfl rfl hl.1 rfl (lv_room (Nat.le_of_ble_eq_true rfl)) dX5_coverBy_93 ⟨Nat.le_of_ble_eq_true rfl, Nat.le_of_ble_eq_true rfl⟩) hP hD hS hA [0, 1, 2, 3] [] [0, 1, 2, 3] rfl rfl (by decide) (by decide) (fun (u9 : (Int → Int) × (Int → Int)) => match u9 with | (u_22, u_23) => [(qm, .inr (5, [.int (iI th), .ref mz, .ref ms, .int (iI hn), .ref mp, .ref mb, .int (iI L), .ref m1, .ref m2, .ref m3, .ref mB, .ref mF, .ref mN, .ref mS, .int (iI sT), .ref mW, .long acc])), (mB, .inl (gI g, 512, .inl (aI ((mbF (drawW x y z 3 (drawBK x y z M 3))))))), (mF, .inl (gI g, 512, .inl (aI u_22))), (mN, .inl (gI g, 512, .inl (aI u_23)))]) (fun _ => rfl) (by decide) (Nat.le_of_ble_eq_true rfl) (Nat.le_of_ble_eq_true rfl) (fun u9 H locs hu_24 hP hD hS => ?_)
  obtain ⟨u_22, u_23⟩ := u9
  have hu_24 : GOk (drawW x y z 3 (drawBK x y z M 3)) u_22 u_23 := hu_24
  have hP : va_P g.1 vwCl [(qm, .inr (5, [.int (iI th), .ref mz, .ref ms, .int (iI hn), .ref mp, .ref mb, .int (iI L), .ref m1, .ref m2, .ref m3, .ref mB, .ref mF, .ref mN, .ref mS, .int (iI sT), .ref mW, .long acc])), (mB, .inl (gI g, 512, .inl (aI ((mbF (drawW x y z 3 (drawBK x y z M 3))))))), (mF, .inl (gI g, 512, .inl (aI u_22))), (mN, .inl (gI g, 512, .inl (aI u_23)))] H := hP
  have hD : va_D A [(qm, .inr (5, [.int (iI th), .ref mz, .ref ms, .int (iI hn), .ref mp, .ref mb, .int (iI L), .ref m1, .ref m2, .ref m3, .ref mB, .ref mF, .ref mN, .ref mS, .int (iI sT), .ref mW, .long acc])), (mB, .inl (gI g, 512, .inl (aI ((mbF (drawW x y z 3 (drawBK x y z M 3))))))), (mF, .inl (gI g, 512, .inl (aI u_22))), (mN, .inl (gI g, 512, .inl (aI u_23)))] := hD
  have hP := hP.recell 1 rfl ((mbF (drawBK x y z M 4))) (fun j _ _ => rfl)
  have hD := hD.set (p := 1) (e := .inl (gI g, 512, .inl (aI ((mbF (drawBK x y z M 4)))))) rfl
  have hP : va_P g.1 vwCl [(qm, .inr (5, [.int (iI th), .ref mz, .ref ms, .int (iI hn), .ref mp, .ref mb, .int (iI L), .ref m1, .ref m2, .ref m3, .ref mB, .ref mF, .ref mN, .ref mS, .int (iI sT), .ref mW, .long acc])), (mB, .inl (gI g, 512, .inl (aI ((mbF (drawBK x y z M 4)))))), (mF, .inl (gI g, 512, .inl (aI u_22))), (mN, .inl (gI g, 512, .inl (aI u_23)))] _ := hP
  have hD : va_D A [(qm, .inr (5, [.int (iI th), .ref mz, .ref ms, .int (iI hn), .ref mp, .ref mb, .int (iI L), .ref m1, .ref m2, .ref m3, .ref mB, .ref mF, .ref mN, .ref mS, .int (iI sT), .ref mW, .long acc])), (mB, .inl (gI g, 512, .inl (aI ((mbF (drawBK x y z M 4)))))), (mF, .inl (gI g, 512, .inl (aI u_22))), (mN, .inl (gI g, 512, .inl (aI u_23)))] := hD
  have hg4 : GOk (drawBK x y z M 4) u_22 u_23 := hu_24
  refine lv_aload_n hx hb dX5_coverBy_96 rfl (lv_at hl 4 rfl) ?_
  refine lv_iload hx hb dX5_coverBy_97 (lv_at hl 3 rfl) ?_
  refine lv_iconst (v := iI 1) hx hb dX5_coverBy_99 rfl ?_
  refine ln_isub hx hb (x - z - 1) (rfl) dX5_coverBy_100 ?_
  refine lv_iload hx hb dX5_coverBy_101 (lv_at hl 2 rfl) ?_
  refine lv_iconst (v := iI 0) hx hb dX5_coverBy_103 rfl ?_
  refine lv_iload hx hb dX5_coverBy_104 (lv_at hl 1 rfl) ?_
  refine lv_iconst (v := iI 2) hx hb dX5_coverBy_106 rfl ?_
  refine lv_iload hx hb dX5_coverBy_107 (lv_at hl 0 rfl) ?_
  have hPc_25 := hP.sub (ws' := [(qm, .inr (5, [.int (iI th), .ref mz, .ref ms, .int (iI hn), .ref mp, .ref mb, .int (iI L), .ref m1, .ref m2, .ref m3, .ref mB, .ref mF, .ref mN, .ref mS, .int (iI sT), .ref mW, .long acc])), (mB, .inl (gI g, 512, .inl (aI ((mbF (drawBK x y z M 4)))))), (mF, .inl (gI g, 512, .inl (aI u_22))), (mN, .inl (gI g, 512, .inl (aI u_23)))]) [0, 1, 2, 3] rfl
  have hDc_26 := hD.sub (ws' := [(qm, .inr (5, [.int (iI th), .ref mz, .ref ms, .int (iI hn), .ref mp, .ref mb, .int (iI L), .ref m1, .ref m2, .ref m3, .ref mB, .ref mF, .ref mN, .ref mS, .int (iI sT), .ref mW, .long acc])), (mB, .inl (gI g, 512, .inl (aI ((mbF (drawBK x y z M 4)))))), (mF, .inl (gI g, 512, .inl (aI u_22))), (mN, .inl (gI g, 512, .inl (aI u_23)))]) [0, 1, 2, 3] (by decide) rfl
  have hFc_27 := va_free (wc := [(qm, .inr (5, [.int (iI th), .ref mz, .ref ms, .int (iI hn), .ref mp, .ref mb, .int (iI L), .ref m1, .ref m2, .ref m3, .ref mB, .ref mF, .ref mN, .ref mS, .int (iI sT), .ref mW, .long acc])), (mB, .inl (gI g, 512, .inl (aI ((mbF (drawBK x y z M 4)))))), (mF, .inl (gI g, 512, .inl (aI u_22))), (mN, .inl (gI g, 512, .inl (aI u_23)))]) hD hS hA [0, 1, 2, 3] rfl
  refine mc_v (wr := []) (cells1 := 0) (slots1 := 0) (va_runV (As := [.int (iI (x - z - 1)), .int (iI (y - z)), .int (iI 0), .int (iI (8 * (6 * y + x) + z)), .int (iI 2), .int (iI (x + y + z))]) (rest := []) ⟨hx, hb, hml, hown, hts⟩ (c_X5_cover l g qm th mz ms hn mp mb L m1 m2 m3 mB mF mN mS sT mW acc (drawBK x y z M 4) u_22 u_23 (x - z - 1) (y - z) 0 (8 * (6 * y + x) + z) 2 (x + y + z) x y z 4 (drawBK_ok hM hX.1 hX.2.1 hX.2.2 (by decide) (by decide)) hg4 (hX.b (by decide)) ((show 2 * (16 * (_ + 9) + _ + 9) + _ = triN (x - z + -1) (y - z + 0) 0 by unfold triN; omega)) (rfl) (by decide) (rfl) H.size) (cwV 6 hts gX5_coverBy_X5_cover rfl rfl rfl (by decide +kernel) ⟨Nat.le_of_ble_eq_true rfl, Nat.le_of_ble_eq_true rfl⟩) (muV hE hS hPc_25 hDc_26 hFc_27 rfl rfl) rfl rfl hl.1 rfl (lv_room (Nat.le_of_ble_eq_true rfl)) dX5_coverBy_109 ⟨Nat.le_of_ble_eq_true rfl, Nat.le_of_ble_eq_true rfl⟩) hP hD hS hA [0, 1, 2, 3] [] [0, 1, 2, 3] rfl rfl (by decide) (by decide) (fun (u9 : (Int → Int) × (Int → Int)) => match u9 with | (u_28, u_29) => [(qm, .inr (5, [.int (iI th), .ref mz, .ref ms, .int (iI hn), .ref mp, .ref mb, .int (iI L), .ref m1, .ref m2, .ref m3, .ref mB, .ref mF, .ref mN, .ref mS, .int (iI sT), .ref mW, .long acc])), (mB, .inl (gI g, 512, .inl (aI ((mbF (drawW x y z 4 (drawBK x y z M 4))))))), (mF, .inl (gI g, 512, .inl (aI u_28))), (mN, .inl (gI g, 512, .inl (aI u_29)))]) (fun _ => rfl) (by decide) (Nat.le_of_ble_eq_true rfl) (Nat.le_of_ble_eq_true rfl) (fun u9 H locs hu_30 hP hD hS => ?_)
  obtain ⟨u_28, u_29⟩ := u9
  have hu_30 : GOk (drawW x y z 4 (drawBK x y z M 4)) u_28 u_29 := hu_30
  have hP : va_P g.1 vwCl [(qm, .inr (5, [.int (iI th), .ref mz, .ref ms, .int (iI hn), .ref mp, .ref mb, .int (iI L), .ref m1, .ref m2, .ref m3, .ref mB, .ref mF, .ref mN, .ref mS, .int (iI sT), .ref mW, .long acc])), (mB, .inl (gI g, 512, .inl (aI ((mbF (drawW x y z 4 (drawBK x y z M 4))))))), (mF, .inl (gI g, 512, .inl (aI u_28))), (mN, .inl (gI g, 512, .inl (aI u_29)))] H := hP
  have hD : va_D A [(qm, .inr (5, [.int (iI th), .ref mz, .ref ms, .int (iI hn), .ref mp, .ref mb, .int (iI L), .ref m1, .ref m2, .ref m3, .ref mB, .ref mF, .ref mN, .ref mS, .int (iI sT), .ref mW, .long acc])), (mB, .inl (gI g, 512, .inl (aI ((mbF (drawW x y z 4 (drawBK x y z M 4))))))), (mF, .inl (gI g, 512, .inl (aI u_28))), (mN, .inl (gI g, 512, .inl (aI u_29)))] := hD
  have hP := hP.recell 1 rfl ((mbF (drawBK x y z M 5))) (fun j _ _ => rfl)
  have hD := hD.set (p := 1) (e := .inl (gI g, 512, .inl (aI ((mbF (drawBK x y z M 5)))))) rfl
  have hP : va_P g.1 vwCl [(qm, .inr (5, [.int (iI th), .ref mz, .ref ms, .int (iI hn), .ref mp, .ref mb, .int (iI L), .ref m1, .ref m2, .ref m3, .ref mB, .ref mF, .ref mN, .ref mS, .int (iI sT), .ref mW, .long acc])), (mB, .inl (gI g, 512, .inl (aI ((mbF (drawBK x y z M 5)))))), (mF, .inl (gI g, 512, .inl (aI u_28))), (mN, .inl (gI g, 512, .inl (aI u_29)))] _ := hP
  have hD : va_D A [(qm, .inr (5, [.int (iI th), .ref mz, .ref ms, .int (iI hn), .ref mp, .ref mb, .int (iI L), .ref m1, .ref m2, .ref m3, .ref mB, .ref mF, .ref mN, .ref mS, .int (iI sT), .ref mW, .long acc])), (mB, .inl (gI g, 512, .inl (aI ((mbF (drawBK x y z M 5)))))), (mF, .inl (gI g, 512, .inl (aI u_28))), (mN, .inl (gI g, 512, .inl (aI u_29)))] := hD
  have hg5 : GOk (drawBK x y z M 5) u_28 u_29 := hu_30
  refine lv_aload_n hx hb dX5_coverBy_112 rfl (lv_at hl 4 rfl) ?_
  refine lv_iload hx hb dX5_coverBy_113 (lv_at hl 3 rfl) ?_
  refine lv_iload hx hb dX5_coverBy_115 (lv_at hl 2 rfl) ?_
  refine lv_iconst (v := iI 1) hx hb dX5_coverBy_117 rfl ?_
  refine lv_iload hx hb dX5_coverBy_118 (lv_at hl 1 rfl) ?_
  refine lv_iconst (v := iI 2) hx hb dX5_coverBy_120 rfl ?_
  refine lv_iload hx hb dX5_coverBy_121 (lv_at hl 0 rfl) ?_
  have hPc_31 := hP.sub (ws' := [(qm, .inr (5, [.int (iI th), .ref mz, .ref ms, .int (iI hn), .ref mp, .ref mb, .int (iI L), .ref m1, .ref m2, .ref m3, .ref mB, .ref mF, .ref mN, .ref mS, .int (iI sT), .ref mW, .long acc])), (mB, .inl (gI g, 512, .inl (aI ((mbF (drawBK x y z M 5)))))), (mF, .inl (gI g, 512, .inl (aI u_28))), (mN, .inl (gI g, 512, .inl (aI u_29)))]) [0, 1, 2, 3] rfl
  have hDc_32 := hD.sub (ws' := [(qm, .inr (5, [.int (iI th), .ref mz, .ref ms, .int (iI hn), .ref mp, .ref mb, .int (iI L), .ref m1, .ref m2, .ref m3, .ref mB, .ref mF, .ref mN, .ref mS, .int (iI sT), .ref mW, .long acc])), (mB, .inl (gI g, 512, .inl (aI ((mbF (drawBK x y z M 5)))))), (mF, .inl (gI g, 512, .inl (aI u_28))), (mN, .inl (gI g, 512, .inl (aI u_29)))]) [0, 1, 2, 3] (by decide) rfl
  have hFc_33 := va_free (wc := [(qm, .inr (5, [.int (iI th), .ref mz, .ref ms, .int (iI hn), .ref mp, .ref mb, .int (iI L), .ref m1, .ref m2, .ref m3, .ref mB, .ref mF, .ref mN, .ref mS, .int (iI sT), .ref mW, .long acc])), (mB, .inl (gI g, 512, .inl (aI ((mbF (drawBK x y z M 5)))))), (mF, .inl (gI g, 512, .inl (aI u_28))), (mN, .inl (gI g, 512, .inl (aI u_29)))]) hD hS hA [0, 1, 2, 3] rfl
  refine mc_v (wr := []) (cells1 := 0) (slots1 := 0) (va_runV (As := [.int (iI (x - z)), .int (iI (y - z)), .int (iI 1), .int (iI (8 * (6 * y + x) + z)), .int (iI 2), .int (iI (x + y + z))]) (rest := []) ⟨hx, hb, hml, hown, hts⟩ (c_X5_cover l g qm th mz ms hn mp mb L m1 m2 m3 mB mF mN mS sT mW acc (drawBK x y z M 5) u_28 u_29 (x - z) (y - z) 1 (8 * (6 * y + x) + z) 2 (x + y + z) x y z 5 (drawBK_ok hM hX.1 hX.2.1 hX.2.2 (by decide) (by decide)) hg5 (hX.b (by decide)) ((show 2 * (16 * (_ + 9) + _ + 9) + _ = triN (x - z + 0) (y - z + 0) 1 by unfold triN; omega)) (rfl) (by decide) (rfl) H.size) (cwV 6 hts gX5_coverBy_X5_cover rfl rfl rfl (by decide +kernel) ⟨Nat.le_of_ble_eq_true rfl, Nat.le_of_ble_eq_true rfl⟩) (muV hE hS hPc_31 hDc_32 hFc_33 rfl rfl) rfl rfl hl.1 rfl (lv_room (Nat.le_of_ble_eq_true rfl)) dX5_coverBy_123 ⟨Nat.le_of_ble_eq_true rfl, Nat.le_of_ble_eq_true rfl⟩) hP hD hS hA [0, 1, 2, 3] [] [0, 1, 2, 3] rfl rfl (by decide) (by decide) (fun (u9 : (Int → Int) × (Int → Int)) => match u9 with | (u_34, u_35) => [(qm, .inr (5, [.int (iI th), .ref mz, .ref ms, .int (iI hn), .ref mp, .ref mb, .int (iI L), .ref m1, .ref m2, .ref m3, .ref mB, .ref mF, .ref mN, .ref mS, .int (iI sT), .ref mW, .long acc])), (mB, .inl (gI g, 512, .inl (aI ((mbF (drawW x y z 5 (drawBK x y z M 5))))))), (mF, .inl (gI g, 512, .inl (aI u_34))), (mN, .inl (gI g, 512, .inl (aI u_35)))]) (fun _ => rfl) (by decide) (Nat.le_of_ble_eq_true rfl) (Nat.le_of_ble_eq_true rfl) (fun u9 H locs hu_36 hP hD hS => ?_)
  obtain ⟨u_34, u_35⟩ := u9
  have hu_36 : GOk (drawW x y z 5 (drawBK x y z M 5)) u_34 u_35 := hu_36
  have hP : va_P g.1 vwCl [(qm, .inr (5, [.int (iI th), .ref mz, .ref ms, .int (iI hn), .ref mp, .ref mb, .int (iI L), .ref m1, .ref m2, .ref m3, .ref mB, .ref mF, .ref mN, .ref mS, .int (iI sT), .ref mW, .long acc])), (mB, .inl (gI g, 512, .inl (aI ((mbF (drawW x y z 5 (drawBK x y z M 5))))))), (mF, .inl (gI g, 512, .inl (aI u_34))), (mN, .inl (gI g, 512, .inl (aI u_35)))] H := hP
  have hD : va_D A [(qm, .inr (5, [.int (iI th), .ref mz, .ref ms, .int (iI hn), .ref mp, .ref mb, .int (iI L), .ref m1, .ref m2, .ref m3, .ref mB, .ref mF, .ref mN, .ref mS, .int (iI sT), .ref mW, .long acc])), (mB, .inl (gI g, 512, .inl (aI ((mbF (drawW x y z 5 (drawBK x y z M 5))))))), (mF, .inl (gI g, 512, .inl (aI u_34))), (mN, .inl (gI g, 512, .inl (aI u_35)))] := hD
  have hP := hP.recell 1 rfl ((mbF (drawBK x y z M 6))) (fun j _ _ => rfl)
  have hD := hD.set (p := 1) (e := .inl (gI g, 512, .inl (aI ((mbF (drawBK x y z M 6)))))) rfl
  have hP : va_P g.1 vwCl [(qm, .inr (5, [.int (iI th), .ref mz, .ref ms, .int (iI hn), .ref mp, .ref mb, .int (iI L), .ref m1, .ref m2, .ref m3, .ref mB, .ref mF, .ref mN, .ref mS, .int (iI sT), .ref mW, .long acc])), (mB, .inl (gI g, 512, .inl (aI ((mbF (drawBK x y z M 6)))))), (mF, .inl (gI g, 512, .inl (aI u_34))), (mN, .inl (gI g, 512, .inl (aI u_35)))] _ := hP
  have hD : va_D A [(qm, .inr (5, [.int (iI th), .ref mz, .ref ms, .int (iI hn), .ref mp, .ref mb, .int (iI L), .ref m1, .ref m2, .ref m3, .ref mB, .ref mF, .ref mN, .ref mS, .int (iI sT), .ref mW, .long acc])), (mB, .inl (gI g, 512, .inl (aI ((mbF (drawBK x y z M 6)))))), (mF, .inl (gI g, 512, .inl (aI u_34))), (mN, .inl (gI g, 512, .inl (aI u_35)))] := hD
  have hg6 : GOk (drawBK x y z M 6) u_34 u_35 := hu_36
  have hP : va_P g.1 vwCl [(qm, .inr (5, [.int (iI th), .ref mz, .ref ms, .int (iI hn), .ref mp, .ref mb, .int (iI L), .ref m1, .ref m2, .ref m3, .ref mB, .ref mF, .ref mN, .ref mS, .int (iI sT), .ref mW, .long acc])), (mB, .inl (gI g, 512, .inl (aI ((mbF (drawBK x y z M 6)))))), (mF, .inl (gI g, 512, .inl (aI u_34))), (mN, .inl (gI g, 512, .inl (aI u_35)))] _ := hP
  have hD : va_D A [(qm, .inr (5, [.int (iI th), .ref mz, .ref ms, .int (iI hn), .ref mp, .ref mb, .int (iI L), .ref m1, .ref m2, .ref m3, .ref mB, .ref mF, .ref mN, .ref mS, .int (iI sT), .ref mW, .long acc])), (mB, .inl (gI g, 512, .inl (aI ((mbF (drawBK x y z M 6)))))), (mF, .inl (gI g, 512, .inl (aI u_34))), (mN, .inl (gI g, 512, .inl (aI u_35)))] := hD
  exact mend_v (S := (Int → Int) × (Int → Int)) (w' := (fun (u9 : (Int → Int) × (Int → Int)) => match u9 with | (G2, N2) => [(qm, .inr (5, [.int (iI th), .ref mz, .ref ms, .int (iI hn), .ref mp, .ref mb, .int (iI L), .ref m1, .ref m2, .ref m3, .ref mB, .ref mF, .ref mN, .ref mS, .int (iI sT), .ref mW, .long acc])), (mB, .inl (gI g, 512, .inl (aI ((mbF (drawBK x y z M 6)))))), (mF, .inl (gI g, 512, .inl (aI G2))), (mN, .inl (gI g, 512, .inl (aI N2)))])) (post := (fun (u9 : (Int → Int) × (Int → Int)) => match u9 with | (G2, N2) => GOk (drawBK x y z M 6) G2 N2)) hx hb hr hlk hS (u_34, u_35) hP hD (by exact hg6) (Nat.le_of_ble_eq_true rfl) (Nat.le_of_ble_eq_true rfl) dX5_coverBy_126

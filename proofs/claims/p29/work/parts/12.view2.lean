set_option maxHeartbeats 800000 in
set_option maxRecDepth 100000 in
theorem c_X2_blocksSeenIn (l : Launch) (g : GT) (qv : Nat) (qs : Nat) (qn : Nat) (qf : Nat) (M : Int → Int) (vb : Int) (vg : Int) (vt : Int) (x : Int) (y : Int) (hh : Int) (hM : MOk M) (gx : 0 ≤ x ∧ x ≤ 5) (gy : 0 ≤ y ∧ y ≤ 5) (gh : 0 ≤ hh ∧ hh ≤ 8) : MetI l yX2_blocksSeenIn wsX2_blocksSeenIn ({ frames := 2, cells := 0, slots := 0, locals := 44 }) g [(qv, .inr (2, [.ref qs, .ref qn, .ref qf, .int (iI vb), .int (iI vg), .int (iI vt)])), (qs, .inl (gI g, 512, .inl (aI (faceF M)))), (qn, .inl (gI g, 512, .inl (aI (nearF M)))), (qf, .inl (gI g, 864, .inl (aI (ofF M 512))))] [.ref qv, .int (iI x), .int (iI y), .int (iI hh)] (seenIn M x y hh) := by
  refine pure_of (cc := cX2_blocksSeenIn) (maxL := 6) (ret := (some .int)) (by decide) rfl (Nat.le_of_ble_eq_true rfl) ?_
  intro pZ eZ sZ mZ bZ meZ cZ F hP hE hS ls hl
  obtain ⟨hx, hb, hr, hml, hts, hown, hlk⟩ := F
  have hown : sZ.vm.findClass RX2 = some mZ.cls := hown
  have hl : lv_has ls 6 [(0, .ref qv), (1, .int (iI x)), (2, .int (iI y)), (3, .int (iI hh))] := hl
  have w0 := hts (.initialized RX4) (by decide +kernel)
  have w1 := hts (.static yX4_blockNumber) (by decide +kernel)
  refine lv_iconst (v := iI 0) hx hb dX2_blocksSeenIn_0 rfl ?_
  refine lv_istore (lv' := [(4, .int (iI 0)), (0, .ref qv), (1, .int (iI x)), (2, .int (iI y)), (3, .int (iI hh))]) hx hb dX2_blocksSeenIn_1 hl (by decide) rfl (fun ls hl => ?_)
  refine lv_iconst (v := iI 0) hx hb dX2_blocksSeenIn_3 rfl ?_
  refine lv_istore (lv' := [(5, .int (iI 0)), (4, .int (iI 0)), (0, .ref qv), (1, .int (iI x)), (2, .int (iI y)), (3, .int (iI hh))]) hx hb dX2_blocksSeenIn_4 hl (by decide) rfl (fun ls hl => ?_)
  have L6 : ∀ (k_1 : Nat) (k : Int) (gk : 0 ≤ k) (gl : k ≤ hh) (ls : Array Slot), lv_has ls 6 [(0, .ref qv), (1, .int (iI x)), (2, .int (iI y)), (3, .int (iI hh)), (4, .int (iI (seenIn M x y k))), (5, .int (iI k))] → (hh - k).toNat < k_1 → W pZ l eZ ({ frames := 2, cells := 0, slots := 0, locals := 44 } : Room) sZ mZ [.ref qv, .int (iI x), .int (iI y), .int (iI hh)].toArray bZ meZ cZ sZ.heap [] 0 0 (MQ bZ (vp_Si (fun y9 => y9 = iI (seenIn M x y hh))) [.ref qv, .int (iI x), .int (iI y), .int (iI hh)].toArray sZ 0 0 (fun _ => False)) (F0 mZ 6 ls []) := by
    intro k_1
    induction k_1 with
    | zero => intro k gk gl ls hl hm_3; exact absurd hm_3 (Nat.not_lt_zero _)
    | succ k_1 ih_2 =>
      intro k gk gl ls hl hm_3
      have b_4 : 0 ≤ seenIn M x y k ∧ seenIn M x y k ≤ k := seenIn_rg M x y gk
      refine lv_iload hx hb dX2_blocksSeenIn_6 (lv_at hl 5 rfl) ?_
      refine lv_iload_n hx hb dX2_blocksSeenIn_8 rfl (lv_at hl 3 rfl) ?_
      refine ln_icmp_ge (tgt := 35) hx hb dX2_blocksSeenIn_9 (by decide) ⟨by omega, by omega⟩ ⟨by omega, by omega⟩ (fun c_5 => ?_) (fun c_5 => ?_)
      · skip
        refine lv_iload hx hb dX2_blocksSeenIn_35 (lv_at hl 4 rfl) ?_
        exact pend_i hx hb hr hlk hS rfl (by rw [show k = hh by omega]) dX2_blocksSeenIn_37
      · skip
        refine lv_aload_n hx hb dX2_blocksSeenIn_12 rfl (lv_at hl 0 rfl) ?_
        refine lv_iload_n hx hb dX2_blocksSeenIn_13 rfl (lv_at hl 1 rfl) ?_
        refine lv_iload_n hx hb dX2_blocksSeenIn_14 rfl (lv_at hl 2 rfl) ?_
        refine lv_iload hx hb dX2_blocksSeenIn_15 (lv_at hl 5 rfl) ?_
        refine pc_i (va_runSN (As := [.int (iI x), .int (iI y), .int (iI k)]) (rest := [.ref qv]) ⟨hx, hb, hml, hown, hts⟩ (c_X4_blockNumber l g x y k) ⟨va_cnB 3 hts gX2_blocksSeenIn_X4_blockNumber_n65 rfl rfl rfl (hE.2.1.1 (RX2, 65, yX4_blockNumber, RX4) (by decide +kernel)) w0 (by decide +kernel) ⟨Nat.le_of_ble_eq_true rfl, Nat.le_of_ble_eq_true rfl⟩, w1, trivial⟩ (puS hE hS (va_P_nil g.1 _)) rfl rfl hl.1 rfl (lv_room (Nat.le_of_ble_eq_true rfl)) dX2_blocksSeenIn_17 ⟨Nat.le_of_ble_eq_true rfl, Nat.le_of_ble_eq_true rfl⟩) ?_
        have hb9 := blkN_rg gx gy (z := k) ⟨gk, by omega⟩
        have hPc_6 := hP.sub (ws' := [(qv, .inr (2, [.ref qs, .ref qn, .ref qf, .int (iI vb), .int (iI vg), .int (iI vt)])), (qs, .inl (gI g, 512, .inl (aI (faceF M)))), (qn, .inl (gI g, 512, .inl (aI (nearF M)))), (qf, .inl (gI g, 864, .inl (aI (ofF M 512))))]) [0, 1, 2, 3] rfl
        refine pc_i (va_runV (As := [.int (iI (blkN x y k))]) (rest := []) ⟨hx, hb, hml, hown, hts⟩ (c_X2_trianglesOfBlock l g qv qs qn qf M M 512 vb vg vt (blkN x y k) hM (by omega) (by omega) (by decide)) (cwV 1 hts gX2_blocksSeenIn_X2_trianglesOfBlock rfl rfl rfl (by decide +kernel) ⟨Nat.le_of_ble_eq_true rfl, Nat.le_of_ble_eq_true rfl⟩) (puV hE hS hPc_6 rfl rfl) rfl rfl hl.1 rfl (lv_room (Nat.le_of_ble_eq_true rfl)) dX2_blocksSeenIn_20 ⟨Nat.le_of_ble_eq_true rfl, Nat.le_of_ble_eq_true rfl⟩) ?_
        have r_7 : 0 ≤ cntL (blkF M) (blkN x y k) 512 ∧ cntL (blkF M) (blkN x y k) 512 ≤ 512 := cntL_rg (blkF M) (blkN x y k) (show 0 ≤ (512 : Int) ∧ (512 : Int) ≤ 512 from (by decide)).1
        refine ln_if_le (tgt := 29) hx hb dX2_blocksSeenIn_23 (by decide) ⟨by omega, by omega⟩ (fun c_8 => ?_) (fun c_8 => ?_)
        · skip
          refine lv_iinc (v := iI (k + 1)) (lv' := [(5, .int (iI (k + 1))), (0, .ref qv), (1, .int (iI x)), (2, .int (iI y)), (3, .int (iI hh)), (4, .int (iI (seenIn M x y k)))]) hx hb dX2_blocksSeenIn_29 hl (k := 5) rfl (iI_add _ _) (by decide) rfl (fun ls hl => ?_)
          refine lv_goto (tgt := 6) hx hb dX2_blocksSeenIn_32 (by decide) ?_
          have hl := lv_re hl 5 rfl (.int (iI (seenIn M x y (k + 1)))) (congrArg (fun z => Value.int (iI z)) (show seenIn M x y k = seenIn M x y (k + 1) from by rw [seenIn_s gk]; first | (rw [bI_t (by omega)]) | (rw [bI_f (by omega)]; omega)))
          have hl : lv_has ls 6 [(5, .int (iI (k + 1))), (0, .ref qv), (1, .int (iI x)), (2, .int (iI y)), (3, .int (iI hh)), (4, .int (iI (seenIn M x y (k + 1))))] := hl
          exact ih_2 (k + 1) (by omega) (by omega) _ (lv_sub hl [1, 2, 3, 4, 5, 0] rfl) (by omega)
        · skip
          refine lv_iinc (v := iI ((seenIn M x y k) + 1)) (lv' := [(4, .int (iI ((seenIn M x y k) + 1))), (0, .ref qv), (1, .int (iI x)), (2, .int (iI y)), (3, .int (iI hh)), (5, .int (iI k))]) hx hb dX2_blocksSeenIn_26 hl (k := 4) rfl (iI_add _ _) (by decide) rfl (fun ls hl => ?_)
          refine lv_iinc (v := iI (k + 1)) (lv' := [(5, .int (iI (k + 1))), (4, .int (iI ((seenIn M x y k) + 1))), (0, .ref qv), (1, .int (iI x)), (2, .int (iI y)), (3, .int (iI hh))]) hx hb dX2_blocksSeenIn_29 hl (k := 5) rfl (iI_add _ _) (by decide) rfl (fun ls hl => ?_)
          refine lv_goto (tgt := 6) hx hb dX2_blocksSeenIn_32 (by decide) ?_
          have hl := lv_re hl 1 rfl (.int (iI (seenIn M x y (k + 1)))) (congrArg (fun z => Value.int (iI z)) (show (seenIn M x y k) + 1 = seenIn M x y (k + 1) from by rw [seenIn_s gk]; first | (rw [bI_t (by omega)]) | (rw [bI_f (by omega)]; omega)))
          have hl : lv_has ls 6 [(5, .int (iI (k + 1))), (4, .int (iI (seenIn M x y (k + 1)))), (0, .ref qv), (1, .int (iI x)), (2, .int (iI y)), (3, .int (iI hh))] := hl
          exact ih_2 (k + 1) (by omega) (by omega) _ (lv_sub hl [2, 3, 4, 5, 1, 0] rfl) (by omega)
  have hl := lv_re hl 1 rfl (.int (iI (seenIn M x y 0))) (congrArg (fun z => Value.int (iI z)) (show 0 = seenIn M x y 0 from by first | rfl | omega))
  have hl : lv_has ls 6 [(5, .int (iI 0)), (4, .int (iI (seenIn M x y 0))), (0, .ref qv), (1, .int (iI x)), (2, .int (iI y)), (3, .int (iI hh))] := hl
  exact L6 _ 0 (by omega) (by omega) _ (lv_sub hl [2, 3, 4, 5, 1, 0] rfl) (Nat.lt_succ_self _)
set_option maxHeartbeats 800000 in
set_option maxRecDepth 100000 in
theorem c_X2_trianglesOfColour (l : Launch) (g : GT) (qv : Nat) (qs : Nat) (qn : Nat) (qf : Nat) (M : Int → Int) (vb : Int) (vg : Int) (vt : Int) (qy : Nat) (qh : Nat) (qc : Nat) (n : Int) (ho : Int) (h : Int → Int) (c : Int → Int) (d : Int) (hY : YOk n ho h c) (hI : MIn n h M) (gd : 0 ≤ d ∧ d ≤ 3) : MetI l yX2_trianglesOfColour wsX2_trianglesOfColour ({ frames := 3, cells := 0, slots := 0, locals := 67 }) g [(qv, .inr (2, [.ref qs, .ref qn, .ref qf, .int (iI vb), .int (iI vg), .int (iI vt)])), (qs, .inl (gI g, 512, .inl (aI (faceF M)))), (qn, .inl (gI g, 512, .inl (aI (nearF M)))), (qf, .inl (gI g, 864, .inl (aI (ofF M 512)))), (qy, .inr (3, [.ref qh, .ref qc, .int (iI n), .int (iI ho)])), (qh, .inl (gI g, 36, .inl (aI h))), (qc, .inl (gI g, 36, .inl (aI c)))] [.ref qv, .ref qy, .int (iI d)] (colK M c d 512) := by
  refine pure_of (cc := cX2_trianglesOfColour) (maxL := 6) (ret := (some .int)) (by decide) rfl (Nat.le_of_ble_eq_true rfl) ?_
  intro pZ eZ sZ mZ bZ meZ cZ F hP hE hS ls hl
  obtain ⟨hx, hb, hr, hml, hts, hown, hlk⟩ := F
  have hown : sZ.vm.findClass RX2 = some mZ.cls := hown
  have hl : lv_has ls 6 [(0, .ref qv), (1, .ref qy), (2, .int (iI d))] := hl
  have w0 := hts (.initialized RX4) (by decide +kernel)
  have w1 := hts (.static yX4_columnOf) (by decide +kernel)
  have w2 := hts (.static yX4_rowOf) (by decide +kernel)
  have w3 := hts (.static yX4_heightOf) (by decide +kernel)
  have hnn := hY.n
  have hho := hY.hr
  have hM := MIn.ok hI
  refine lv_iconst (v := iI 0) hx hb dX2_trianglesOfColour_0 rfl ?_
  refine lv_istore_n (lv' := [(3, .int (iI 0)), (0, .ref qv), (1, .ref qy), (2, .int (iI d))]) hx hb dX2_trianglesOfColour_1 rfl hl (by decide) rfl (fun ls hl => ?_)
  refine lv_iconst (v := iI 0) hx hb dX2_trianglesOfColour_2 rfl ?_
  refine lv_istore (lv' := [(4, .int (iI 0)), (3, .int (iI 0)), (0, .ref qv), (1, .ref qy), (2, .int (iI d))]) hx hb dX2_trianglesOfColour_3 hl (by decide) rfl (fun ls hl => ?_)
  have L5 : ∀ (k_1 : Nat) (k : Int) (gk : 0 ≤ k) (gl : k ≤ 512) (ls : Array Slot), lv_has ls 6 [(0, .ref qv), (1, .ref qy), (2, .int (iI d)), (3, .int (iI (colK M c d k))), (4, .int (iI k))] → (512 - k).toNat < k_1 → W pZ l eZ ({ frames := 3, cells := 0, slots := 0, locals := 67 } : Room) sZ mZ [.ref qv, .ref qy, .int (iI d)].toArray bZ meZ cZ sZ.heap [] 0 0 (MQ bZ (vp_Si (fun y9 => y9 = iI (colK M c d 512))) [.ref qv, .ref qy, .int (iI d)].toArray sZ 0 0 (fun _ => False)) (F0 mZ 5 ls []) := by
    intro k_1
    induction k_1 with
    | zero => intro k gk gl ls hl hm_3; exact absurd hm_3 (Nat.not_lt_zero _)
    | succ k_1 ih_2 =>
      intro k gk gl ls hl hm_3
      have b_4 : 0 ≤ colK M c d k ∧ colK M c d k ≤ k := colK_rg M c d gk
      have b_5 : -1 ≤ faceF M k ∧ faceF M k < 864 := (MOk.rg hM k).2.1
      refine lv_iload hx hb dX2_trianglesOfColour_5 (lv_at hl 4 rfl) ?_
      refine lv_sipush (v := iI 512) hx hb dX2_trianglesOfColour_7 (by decide) ?_
      refine ln_icmp_ge (tgt := 65) hx hb dX2_trianglesOfColour_10 (by decide) ⟨by omega, by omega⟩ (by decide) (fun c_6 => ?_) (fun c_6 => ?_)
      · skip
        refine lv_iload_n hx hb dX2_trianglesOfColour_65 rfl (lv_at hl 3 rfl) ?_
        exact pend_i hx hb hr hlk hS rfl (by rw [show k = 512 by omega]) dX2_trianglesOfColour_66
      · skip
        refine lv_aload_n hx hb dX2_trianglesOfColour_13 rfl (lv_at hl 0 rfl) ?_
        refine lv_iload hx hb dX2_trianglesOfColour_14 (lv_at hl 4 rfl) ?_
        have hPc_7 := hP.sub (ws' := [(qv, .inr (2, [.ref qs, .ref qn, .ref qf, .int (iI vb), .int (iI vg), .int (iI vt)])), (qs, .inl (gI g, 512, .inl (aI (faceF M)))), (qn, .inl (gI g, 512, .inl (aI (nearF M)))), (qf, .inl (gI g, 864, .inl (aI (ofF M 512))))]) [0, 1, 2, 3] rfl
        refine pc_i (va_runV (As := [.int (iI k)]) (rest := []) ⟨hx, hb, hml, hown, hts⟩ (c_X2_faceIn l g qv qs qn qf M (ofF M 512) vb vg vt k hM gk (by omega)) (cwV 1 hts gX2_trianglesOfColour_X2_faceIn rfl rfl rfl (by decide +kernel) ⟨Nat.le_of_ble_eq_true rfl, Nat.le_of_ble_eq_true rfl⟩) (puV hE hS hPc_7 rfl rfl) rfl rfl hl.1 rfl (lv_room (Nat.le_of_ble_eq_true rfl)) dX2_trianglesOfColour_16 ⟨Nat.le_of_ble_eq_true rfl, Nat.le_of_ble_eq_true rfl⟩) ?_
        have r_8 : -1 ≤ faceF M k ∧ faceF M k < 864 := (MOk.rg hM k).2.1
        refine lv_iconst (v := iI 3) hx hb dX2_trianglesOfColour_19 rfl ?_
        refine ln_idivT hx hb ⟨by omega, by omega⟩ (by decide) (by decide) ((faceF M k).tdiv 3) rfl dX2_trianglesOfColour_20 ?_
        refine lv_istore (lv' := [(5, .int (iI ((faceF M k).tdiv 3))), (0, .ref qv), (1, .ref qy), (2, .int (iI d)), (3, .int (iI (colK M c d k))), (4, .int (iI k))]) hx hb dX2_trianglesOfColour_21 hl (by decide) rfl (fun ls hl => ?_)
        refine lv_aload_n hx hb dX2_trianglesOfColour_23 rfl (lv_at hl 1 rfl) ?_
        refine lv_iload hx hb dX2_trianglesOfColour_24 (lv_at hl 5 rfl) ?_
        have hPc_9 := hP.sub (ws' := [(qv, .inr (2, [.ref qs, .ref qn, .ref qf, .int (iI vb), .int (iI vg), .int (iI vt)])), (qs, .inl (gI g, 512, .inl (aI (faceF M)))), (qn, .inl (gI g, 512, .inl (aI (nearF M)))), (qf, .inl (gI g, 864, .inl (aI (ofF M 512))))]) [0, 1, 2, 3] rfl
        refine pc_i (va_runV (As := [.int (iI k)]) (rest := []) ⟨hx, hb, hml, hown, hts⟩ (c_X2_faceIn l g qv qs qn qf M (ofF M 512) vb vg vt k hM gk (by omega)) (cwV 1 hts gX2_trianglesOfColour_X2_faceIn rfl rfl rfl (by decide +kernel) ⟨Nat.le_of_ble_eq_true rfl, Nat.le_of_ble_eq_true rfl⟩) (puV hE hS hPc_9 rfl rfl) rfl rfl hl.1 rfl (lv_room (Nat.le_of_ble_eq_true rfl)) dX2_trianglesOfColour_26 ⟨Nat.le_of_ble_eq_true rfl, Nat.le_of_ble_eq_true rfl⟩) ?_
        have r_10 : -1 ≤ faceF M k ∧ faceF M k < 864 := (MOk.rg hM k).2.1
        refine lv_iconst (v := iI (-1)) hx hb dX2_trianglesOfColour_29 rfl ?_
        refine ln_icmp_eq (tgt := 59) hx hb dX2_trianglesOfColour_30 (by decide) ⟨by omega, by omega⟩ (by decide) (fun c_11 => ?_) (fun c_11 => ?_)
        · skip
          refine lv_iinc (v := iI (k + 1)) (lv' := [(4, .int (iI (k + 1))), (5, .int (iI ((faceF M k).tdiv 3))), (0, .ref qv), (1, .ref qy), (2, .int (iI d)), (3, .int (iI (colK M c d k)))]) hx hb dX2_trianglesOfColour_59 hl (k := 5) rfl (iI_add _ _) (by decide) rfl (fun ls hl => ?_)
          refine lv_goto (tgt := 5) hx hb dX2_trianglesOfColour_62 (by decide) ?_
          have hl := lv_re hl 5 rfl (.int (iI (colK M c d (k + 1)))) (congrArg (fun z => Value.int (iI z)) (show colK M c d k = colK M c d (k + 1) from by rw [colK_s gk]; first | (rw [bI_f (fun q9 => q9.1 ((face_none hM k).mp (by omega)))]; omega) | (rw [bI_t ⟨hne9, by unfold colB; rw [hbk9]; omega⟩]) | (rw [bI_f (fun q9 => by have e9 := q9.2; unfold colB at e9; rw [hbk9] at e9; omega)]; omega)))
          have hl : lv_has ls 6 [(4, .int (iI (k + 1))), (5, .int (iI ((faceF M k).tdiv 3))), (0, .ref qv), (1, .ref qy), (2, .int (iI d)), (3, .int (iI (colK M c d (k + 1))))] := hl
          exact ih_2 (k + 1) (by omega) (by omega) _ (lv_sub hl [2, 3, 4, 5, 0] rfl) (by omega)
        · skip
          have hne9 : M k ≠ 0 := fun q9 => absurd ((face_none hM k).mpr q9) (by omega)
          have htd9 : (faceF M k).tdiv 3 = faceF M k / 3 := Int.tdiv_eq_ediv_of_nonneg (by omega)
          have hbk9 : blkF M k = (faceF M k).tdiv 3 := by rw [htd9]; exact blk_face k hne9
          have hbb9 := MIn.blk hI hne9
          rw [hbk9] at hbb9
          refine lv_aload_n hx hb dX2_trianglesOfColour_33 rfl (lv_at hl 2 rfl) ?_
          refine lv_iload hx hb dX2_trianglesOfColour_34 (lv_at hl 0 rfl) ?_
          refine pc_i (va_runSN (As := [.int (iI ((faceF M k).tdiv 3))]) (rest := [.ref qy]) ⟨hx, hb, hml, hown, hts⟩ (c_X4_columnOf l g ((faceF M k).tdiv 3) (by omega)) ⟨va_cnB 1 hts gX2_trianglesOfColour_X4_columnOf_n89 rfl rfl rfl (hE.2.1.1 (RX2, 89, yX4_columnOf, RX4) (by decide +kernel)) w0 (by decide +kernel) ⟨Nat.le_of_ble_eq_true rfl, Nat.le_of_ble_eq_true rfl⟩, w1, trivial⟩ (puS hE hS (va_P_nil g.1 _)) rfl rfl hl.1 rfl (lv_room (Nat.le_of_ble_eq_true rfl)) dX2_trianglesOfColour_36 ⟨Nat.le_of_ble_eq_true rfl, Nat.le_of_ble_eq_true rfl⟩) ?_
          refine lv_iload hx hb dX2_trianglesOfColour_39 (lv_at hl 0 rfl) ?_
          refine pc_i (va_runSN (As := [.int (iI ((faceF M k).tdiv 3))]) (rest := [.int (iI (((faceF M k).tdiv 3) % 6)), .ref qy]) ⟨hx, hb, hml, hown, hts⟩ (c_X4_rowOf l g ((faceF M k).tdiv 3) (by omega)) ⟨va_cnB 1 hts gX2_trianglesOfColour_X4_rowOf_n92 rfl rfl rfl (hE.2.1.1 (RX2, 92, yX4_rowOf, RX4) (by decide +kernel)) w0 (by decide +kernel) ⟨Nat.le_of_ble_eq_true rfl, Nat.le_of_ble_eq_true rfl⟩, w2, trivial⟩ (puS hE hS (va_P_nil g.1 _)) rfl rfl hl.1 rfl (lv_room (Nat.le_of_ble_eq_true rfl)) dX2_trianglesOfColour_41 ⟨Nat.le_of_ble_eq_true rfl, Nat.le_of_ble_eq_true rfl⟩) ?_
          refine lv_iload hx hb dX2_trianglesOfColour_44 (lv_at hl 0 rfl) ?_
          refine pc_i (va_runSN (As := [.int (iI ((faceF M k).tdiv 3))]) (rest := [.int (iI (((faceF M k).tdiv 3) / 6 % 6)), .int (iI (((faceF M k).tdiv 3) % 6)), .ref qy]) ⟨hx, hb, hml, hown, hts⟩ (c_X4_heightOf l g ((faceF M k).tdiv 3) (by omega)) ⟨va_cnB 1 hts gX2_trianglesOfColour_X4_heightOf_n95 rfl rfl rfl (hE.2.1.1 (RX2, 95, yX4_heightOf, RX4) (by decide +kernel)) w0 (by decide +kernel) ⟨Nat.le_of_ble_eq_true rfl, Nat.le_of_ble_eq_true rfl⟩, w3, trivial⟩ (puS hE hS (va_P_nil g.1 _)) rfl rfl hl.1 rfl (lv_room (Nat.le_of_ble_eq_true rfl)) dX2_trianglesOfColour_46 ⟨Nat.le_of_ble_eq_true rfl, Nat.le_of_ble_eq_true rfl⟩) ?_
          have hPc_12 := hP.sub (ws' := [(qy, .inr (3, [.ref qh, .ref qc, .int (iI n), .int (iI ho)])), (qh, .inl (gI g, 36, .inl (aI h))), (qc, .inl (gI g, 36, .inl (aI c)))]) [4, 5, 6] rfl
          refine pc_i (va_runV (As := [.int (iI (((faceF M k).tdiv 3) % 6)), .int (iI (((faceF M k).tdiv 3) / 6 % 6)), .int (iI (((faceF M k).tdiv 3) / 36))]) (rest := []) ⟨hx, hb, hml, hown, hts⟩ (c_X3_colourAt l g qy qh qc n ho h c (((faceF M k).tdiv 3) % 6) (((faceF M k).tdiv 3) / 6 % 6) (((faceF M k).tdiv 3) / 36) hY (by omega) (by omega) (by omega) (by omega) (by omega)) (cwV 3 hts gX2_trianglesOfColour_X3_colourAt rfl rfl rfl (by decide +kernel) ⟨Nat.le_of_ble_eq_true rfl, Nat.le_of_ble_eq_true rfl⟩) (puV hE hS hPc_12 rfl rfl) rfl rfl hl.1 rfl (lv_room (Nat.le_of_ble_eq_true rfl)) dX2_trianglesOfColour_49 ⟨Nat.le_of_ble_eq_true rfl, Nat.le_of_ble_eq_true rfl⟩) ?_
          refine ln_top (y := colZ (c (((faceF M k).tdiv 3) / 6 % 6 * 6 + ((faceF M k).tdiv 3) % 6)) (((faceF M k).tdiv 3) / 36)) (if_pos ⟨by omega, by omega⟩) ?_
          have hcz9 := colZ_rg (c (((faceF M k).tdiv 3) / 6 % 6 * 6 + ((faceF M k).tdiv 3) % 6)) (((faceF M k).tdiv 3) / 36)
          refine lv_iload_n hx hb dX2_trianglesOfColour_52 rfl (lv_at hl 3 rfl) ?_
          refine ln_icmp_ne (tgt := 59) hx hb dX2_trianglesOfColour_53 (by decide) ⟨by omega, by omega⟩ ⟨by omega, by omega⟩ (fun c_13 => ?_) (fun c_13 => ?_)
          · skip
            refine lv_iinc (v := iI (k + 1)) (lv' := [(4, .int (iI (k + 1))), (5, .int (iI ((faceF M k).tdiv 3))), (0, .ref qv), (1, .ref qy), (2, .int (iI d)), (3, .int (iI (colK M c d k)))]) hx hb dX2_trianglesOfColour_59 hl (k := 5) rfl (iI_add _ _) (by decide) rfl (fun ls hl => ?_)
            refine lv_goto (tgt := 5) hx hb dX2_trianglesOfColour_62 (by decide) ?_
            have hl := lv_re hl 5 rfl (.int (iI (colK M c d (k + 1)))) (congrArg (fun z => Value.int (iI z)) (show colK M c d k = colK M c d (k + 1) from by rw [colK_s gk]; first | (rw [bI_f (fun q9 => q9.1 ((face_none hM k).mp (by omega)))]; omega) | (rw [bI_t ⟨hne9, by unfold colB; rw [hbk9]; omega⟩]) | (rw [bI_f (fun q9 => by have e9 := q9.2; unfold colB at e9; rw [hbk9] at e9; omega)]; omega)))
            have hl : lv_has ls 6 [(4, .int (iI (k + 1))), (5, .int (iI ((faceF M k).tdiv 3))), (0, .ref qv), (1, .ref qy), (2, .int (iI d)), (3, .int (iI (colK M c d (k + 1))))] := hl
            exact ih_2 (k + 1) (by omega) (by omega) _ (lv_sub hl [2, 3, 4, 5, 0] rfl) (by omega)
          · skip
            refine lv_iinc (v := iI ((colK M c d k) + 1)) (lv' := [(3, .int (iI ((colK M c d k) + 1))), (5, .int (iI ((faceF M k).tdiv 3))), (0, .ref qv), (1, .ref qy), (2, .int (iI d)), (4, .int (iI k))]) hx hb dX2_trianglesOfColour_56 hl (k := 4) rfl (iI_add _ _) (by decide) rfl (fun ls hl => ?_)
            refine lv_iinc (v := iI (k + 1)) (lv' := [(4, .int (iI (k + 1))), (3, .int (iI ((colK M c d k) + 1))), (5, .int (iI ((faceF M k).tdiv 3))), (0, .ref qv), (1, .ref qy), (2, .int (iI d))]) hx hb dX2_trianglesOfColour_59 hl (k := 5) rfl (iI_add _ _) (by decide) rfl (fun ls hl => ?_)
            refine lv_goto (tgt := 5) hx hb dX2_trianglesOfColour_62 (by decide) ?_
            have hl := lv_re hl 1 rfl (.int (iI (colK M c d (k + 1)))) (congrArg (fun z => Value.int (iI z)) (show (colK M c d k) + 1 = colK M c d (k + 1) from by rw [colK_s gk]; first | (rw [bI_f (fun q9 => q9.1 ((face_none hM k).mp (by omega)))]; omega) | (rw [bI_t ⟨hne9, by unfold colB; rw [hbk9]; omega⟩]) | (rw [bI_f (fun q9 => by have e9 := q9.2; unfold colB at e9; rw [hbk9] at e9; omega)]; omega)))
            have hl : lv_has ls 6 [(4, .int (iI (k + 1))), (3, .int (iI (colK M c d (k + 1)))), (5, .int (iI ((faceF M k).tdiv 3))), (0, .ref qv), (1, .ref qy), (2, .int (iI d))] := hl
            exact ih_2 (k + 1) (by omega) (by omega) _ (lv_sub hl [3, 4, 5, 1, 0] rfl) (by omega)
  have hl := lv_re hl 1 rfl (.int (iI (colK M c d 0))) (congrArg (fun z => Value.int (iI z)) (show 0 = colK M c d 0 from by first | rfl | omega))
  have hl : lv_has ls 6 [(4, .int (iI 0)), (3, .int (iI (colK M c d 0))), (0, .ref qv), (1, .ref qy), (2, .int (iI d))] := hl
  exact L5 _ 0 (by omega) (by omega) _ (lv_sub hl [2, 3, 4, 1, 0] rfl) (Nat.lt_succ_self _)


set_option maxHeartbeats 800000 in
set_option maxRecDepth 100000 in
theorem c_X2_changeBy_gen (l : Launch) (g : GT) (q : Nat) (N : Nat) (f : Int → Int) (i : Int) (d : Int) (hN : N < 2147483648) (h0 : -1 ≤ i) (h1 : i < (N : Int)) : MutV l yX2_changeBy wsX2_changeBy ({ frames := 1, cells := 0, slots := 0, locals := 22 }) 0 0 g [(q, .inl (gI g, N, .inl (aI f)))] [.ref q, .int (iI i), .int (iI d)] (S := Unit) (fun _ => True) (fun _ => [(q, .inl (gI g, N, .inl (aI ((chF f (N : Int) i d)))))]) := by
  refine mut_of (y := yX2_changeBy) (ws := wsX2_changeBy) (av := [.ref q, .int (iI i), .int (iI d)]) (w := [(q, .inl (gI g, N, .inl (aI f)))]) (Qc := fun A => va_Qv (fun (u9 : Unit) => (fun _ => True) u9) (fun u9 t9 => MB g ((fun _ => [(q, .inl (gI g, N, .inl (aI ((chF f (N : Int) i d)))))]) u9) A t9) A) (cc := cX2_changeBy) (maxL := 3) (ret := none) (by decide) rfl (Nat.le_of_ble_eq_true rfl) ?_
  intro pZ eZ sZ mZ bZ meZ cZ A F hin hA hP hD hE hS ls hl
  obtain ⟨hx, hb, hr, hml, hts, hown, hlk⟩ := F
  skip
  have hown : sZ.vm.findClass RX2 = some mZ.cls := hown
  have hl : lv_has ls 3 [(0, .ref q), (1, .int (iI i)), (2, .int (iI d))] := hl
  skip
  have w0 := hts (.initialized RX4) (by decide +kernel)
  have w1 := hts (.static yX4_valueAt) (by decide +kernel)
  have w2 := hts (.static yX4_setAt) (by decide +kernel)
  refine lv_aload_n hx hb dX2_changeBy_0 rfl (lv_at hl 0 rfl) ?_
  refine lv_iload_n hx hb dX2_changeBy_1 rfl (lv_at hl 1 rfl) ?_
  refine lv_aload_n hx hb dX2_changeBy_2 rfl (lv_at hl 0 rfl) ?_
  refine lv_iload_n hx hb dX2_changeBy_3 rfl (lv_at hl 1 rfl) ?_
  refine pc_i (va_runSN (As := [.ref q, .int (iI i)]) (rest := [.int (iI i), .ref q]) ⟨hx, hb, hml, hown, hts⟩ (c_X4_valueAt l g q N f i hN (by omega)) ⟨va_cnB 2 hts gX2_changeBy_X4_valueAt_n72 rfl rfl rfl (hE.2.1.1 (RX2, 72, yX4_valueAt, RX4) (by decide +kernel)) w0 (by decide +kernel) ⟨Nat.le_of_ble_eq_true rfl, Nat.le_of_ble_eq_true rfl⟩, w1, trivial⟩ (ruS (RA.ofP hE hP 0 rfl)) rfl rfl hl.1 rfl (lv_room (Nat.le_of_ble_eq_true rfl)) dX2_changeBy_4 ⟨Nat.le_of_ble_eq_true rfl, Nat.le_of_ble_eq_true rfl⟩) ?_
  refine lv_iload_n hx hb dX2_changeBy_7 rfl (lv_at hl 2 rfl) ?_
  refine ln_iadd hx hb ((if 0 ≤ i ∧ i < (N : Int) then f i else 0) + d) (rfl) dX2_changeBy_8 ?_
  have hPc_1 := hP.sub (ws' := [(q, .inl (gI g, N, .inl (aI f)))]) [0] rfl
  have hDc_2 := hD.sub (ws' := [(q, .inl (gI g, N, .inl (aI f)))]) [0] (by decide) rfl
  have hFc_3 := va_free (wc := [(q, .inl (gI g, N, .inl (aI f)))]) hD hS hA [0] rfl
  refine mc_v (wr := []) (cells1 := 0) (slots1 := 0) (va_runSN (As := [.ref q, .int (iI i), .int (iI ((if 0 ≤ i ∧ i < (N : Int) then f i else 0) + d))]) (rest := []) ⟨hx, hb, hml, hown, hts⟩ (c_X4_setAt l g q N f i ((if 0 ≤ i ∧ i < (N : Int) then f i else 0) + d) hN (by omega) sZ.heap.size) ⟨va_cnB 3 hts gX2_changeBy_X4_setAt_n61 rfl rfl rfl (hE.2.1.1 (RX2, 61, yX4_setAt, RX4) (by decide +kernel)) w0 (by decide +kernel) ⟨Nat.le_of_ble_eq_true rfl, Nat.le_of_ble_eq_true rfl⟩, w2, trivial⟩ (muS hE hS hPc_1 hDc_2 hFc_3) rfl rfl hl.1 rfl (lv_room (Nat.le_of_ble_eq_true rfl)) dX2_changeBy_9 ⟨Nat.le_of_ble_eq_true rfl, Nat.le_of_ble_eq_true rfl⟩) hP hD hS hA [0] [] [0] rfl rfl (by decide) (by decide) (fun _ => [(q, .inl (gI g, N, .inl (aI ((setF f (N : Int) i ((if 0 ≤ i ∧ i < (N : Int) then f i else 0) + d))))))]) (fun _ => rfl) (by decide) (Nat.le_of_ble_eq_true rfl) (Nat.le_of_ble_eq_true rfl) (fun u9 H locs hu_4 hP hD hS => ?_)
  have hP : va_P g.1 vwCl [(q, .inl (gI g, N, .inl (aI ((setF f (N : Int) i ((if 0 ≤ i ∧ i < (N : Int) then f i else 0) + d))))))] H := hP
  have hD : va_D A [(q, .inl (gI g, N, .inl (aI ((setF f (N : Int) i ((if 0 ≤ i ∧ i < (N : Int) then f i else 0) + d))))))] := hD
  have hP := hP.recell 0 rfl ((chF f (N : Int) i d)) (fun j _ _ => by unfold setF chF; by_cases q9 : 0 ≤ i ∧ i < (N : Int); (rw [if_pos q9, if_pos q9, if_pos q9]); (rw [if_neg q9, if_neg q9]))
  have hD := hD.set (p := 0) (e := .inl (gI g, N, .inl (aI ((chF f (N : Int) i d))))) rfl
  have hP : va_P g.1 vwCl [(q, .inl (gI g, N, .inl (aI ((chF f (N : Int) i d)))))] _ := hP
  have hD : va_D A [(q, .inl (gI g, N, .inl (aI ((chF f (N : Int) i d)))))] := hD
  exact mend_v (S := Unit) (w' := (fun _ => [(q, .inl (gI g, N, .inl (aI ((chF f (N : Int) i d)))))])) (post := (fun _ => True)) hx hb hr hlk hS () hP hD (trivial) (Nat.le_of_ble_eq_true rfl) (Nat.le_of_ble_eq_true rfl) dX2_changeBy_12



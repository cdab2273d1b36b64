set_option maxHeartbeats 800000 in
set_option maxRecDepth 100000 in
theorem c_X2_takes (l : Launch) (g : GT) (qv : Nat) (qs : Nat) (qn : Nat) (qf : Nat) (M : Int → Int) (F : Int → Int) (vb : Int) (vg : Int) (vt : Int) (x : Int) (y : Int) (z : Int) (t : Int) (hM : MOk M) (gx : 0 ≤ x ∧ x ≤ 5) (gy : 0 ≤ y ∧ y ≤ 5) (gz : 0 ≤ z ∧ z ≤ 7) (gt : 0 ≤ t) (gu : t < 512) : MetI l yX2_takes wsX2_takes ({ frames := 1, cells := 0, slots := 0, locals := 21 }) g [(qv, .inr (2, [.ref qs, .ref qn, .ref qf, .int (iI vb), .int (iI vg), .int (iI vt)])), (qs, .inl (gI g, 512, .inl (aI (faceF M)))), (qn, .inl (gI g, 512, .inl (aI (nearF M)))), (qf, .inl (gI g, 864, .inl (aI F)))] [.ref qv, .int (iI x), .int (iI y), .int (iI z), .int (iI t)] (bI (nearF M t < x + y + z)) := by
  refine pure_of (cc := cX2_takes) (maxL := 5) (ret := (some .boolean)) (by decide) rfl (Nat.le_of_ble_eq_true rfl) ?_
  intro pZ eZ sZ mZ bZ meZ cZ F hP hE hS ls hl
  obtain ⟨hx, hb, hr, hml, hts, hown, hlk⟩ := F
  have hown : sZ.vm.findClass RX2 = some mZ.cls := hown
  have hl : lv_has ls 5 [(0, .ref qv), (1, .int (iI x)), (2, .int (iI y)), (3, .int (iI z)), (4, .int (iI t))] := hl
  have w0 := hts (.fieldLink RX2 15 "SlantYard$View" "nearness" "[I") (by decide +kernel)
  have w1 := hts (.initialized RX4) (by decide +kernel)
  have w2 := hts (.static yX4_valueAt) (by decide +kernel)
  have in2 : ∀ w ∈ u_ws RX2 TX2 6, w ∈ wsX2_takes := by decide +kernel
  have hr9 := MOk.rg hM t
  refine lv_iload_n hx hb dX2_takes_0 rfl (lv_at hl 1 rfl) ?_
  refine lv_iload_n hx hb dX2_takes_1 rfl (lv_at hl 2 rfl) ?_
  refine ln_iadd hx hb (x + y) (rfl) dX2_takes_2 ?_
  refine lv_iload_n hx hb dX2_takes_3 rfl (lv_at hl 3 rfl) ?_
  refine ln_iadd hx hb (x + y + z) (rfl) dX2_takes_4 ?_
  refine lv_aload_n hx hb dX2_takes_5 rfl (lv_at hl 0 rfl) ?_
  refine va_get (D := g.1) (ci := 2) (v := .ref qn) (C := RX2) (T := TX2) (N := 6) hx hb hts in2 hown hE.1 hP 0 rfl rfl 1 (by decide) w0 (fun _ h9 => h9) rfl dX2_takes_6 ?_
  refine lv_iload hx hb dX2_takes_9 (lv_at hl 4 rfl) ?_
  refine pc_i (va_runSN (As := [.ref qn, .int (iI t)]) (rest := [.int (iI (x + y + z))]) ⟨hx, hb, hml, hown, hts⟩ (c_X4_valueAt_in l g qn 512 (nearF M) t (by omega) gt (by omega)) ⟨va_cnB 2 hts gX2_takes_X4_valueAt_n72 rfl rfl rfl (hE.2.1.1 (RX2, 72, yX4_valueAt, RX4) (by decide +kernel)) w1 (by decide +kernel) ⟨Nat.le_of_ble_eq_true rfl, Nat.le_of_ble_eq_true rfl⟩, w2, trivial⟩ (ruS (RA.ofP hE hP 2 rfl)) rfl rfl hl.1 rfl (lv_room (Nat.le_of_ble_eq_true rfl)) dX2_takes_11 ⟨Nat.le_of_ble_eq_true rfl, Nat.le_of_ble_eq_true rfl⟩) ?_
  refine ln_icmp_le (tgt := 21) hx hb dX2_takes_14 (by decide) ⟨by omega, by omega⟩ ⟨by omega, by omega⟩ (fun c_1 => ?_) (fun c_1 => ?_)
  · skip
    refine lv_iconst (v := iI 0) hx hb dX2_takes_21 rfl ?_
    exact pend_z hx hb hr hlk hS rfl (Or.inl rfl) (by first | (rw [bI_t (by omega)]) | (rw [bI_f (by omega)])) dX2_takes_22
  · skip
    refine lv_iconst (v := iI 1) hx hb dX2_takes_17 rfl ?_
    refine lv_goto (tgt := 22) hx hb dX2_takes_18 (by decide) ?_
    exact pend_z hx hb hr hlk hS rfl (Or.inr rfl) (by first | (rw [bI_t (by omega)]) | (rw [bI_f (by omega)])) dX2_takes_22
set_option maxHeartbeats 800000 in
set_option maxRecDepth 100000 in
theorem c_X2_faceIn (l : Launch) (g : GT) (qv : Nat) (qs : Nat) (qn : Nat) (qf : Nat) (M : Int → Int) (F : Int → Int) (vb : Int) (vg : Int) (vt : Int) (t : Int) (hM : MOk M) (gt : 0 ≤ t) (gu : t < 512) : MetI l yX2_faceIn wsX2_faceIn ({ frames := 1, cells := 0, slots := 0, locals := 21 }) g [(qv, .inr (2, [.ref qs, .ref qn, .ref qf, .int (iI vb), .int (iI vg), .int (iI vt)])), (qs, .inl (gI g, 512, .inl (aI (faceF M)))), (qn, .inl (gI g, 512, .inl (aI (nearF M)))), (qf, .inl (gI g, 864, .inl (aI F)))] [.ref qv, .int (iI t)] (faceF M t) := by
  refine pure_of (cc := cX2_faceIn) (maxL := 2) (ret := (some .int)) (by decide) rfl (Nat.le_of_ble_eq_true rfl) ?_
  intro pZ eZ sZ mZ bZ meZ cZ F hP hE hS ls hl
  obtain ⟨hx, hb, hr, hml, hts, hown, hlk⟩ := F
  have hown : sZ.vm.findClass RX2 = some mZ.cls := hown
  have hl : lv_has ls 2 [(0, .ref qv), (1, .int (iI t))] := hl
  have w0 := hts (.fieldLink RX2 9 "SlantYard$View" "shown" "[I") (by decide +kernel)
  have w1 := hts (.initialized RX4) (by decide +kernel)
  have w2 := hts (.static yX4_valueAt) (by decide +kernel)
  have in2 : ∀ w ∈ u_ws RX2 TX2 6, w ∈ wsX2_faceIn := by decide +kernel
  refine lv_aload_n hx hb dX2_faceIn_0 rfl (lv_at hl 0 rfl) ?_
  refine va_get (D := g.1) (ci := 2) (v := .ref qs) (C := RX2) (T := TX2) (N := 6) hx hb hts in2 hown hE.1 hP 0 rfl rfl 0 (by decide) w0 (fun _ h9 => h9) rfl dX2_faceIn_1 ?_
  refine lv_iload_n hx hb dX2_faceIn_4 rfl (lv_at hl 1 rfl) ?_
  refine pc_i (va_runSN (As := [.ref qs, .int (iI t)]) (rest := []) ⟨hx, hb, hml, hown, hts⟩ (c_X4_valueAt_in l g qs 512 (faceF M) t (by omega) gt (by omega)) ⟨va_cnB 2 hts gX2_faceIn_X4_valueAt_n72 rfl rfl rfl (hE.2.1.1 (RX2, 72, yX4_valueAt, RX4) (by decide +kernel)) w1 (by decide +kernel) ⟨Nat.le_of_ble_eq_true rfl, Nat.le_of_ble_eq_true rfl⟩, w2, trivial⟩ (ruS (RA.ofP hE hP 1 rfl)) rfl rfl hl.1 rfl (lv_room (Nat.le_of_ble_eq_true rfl)) dX2_faceIn_5 ⟨Nat.le_of_ble_eq_true rfl, Nat.le_of_ble_eq_true rfl⟩) ?_
  exact pend_i hx hb hr hlk hS rfl (by first | rfl | omega | (split <;> omega)) dX2_faceIn_8
set_option maxHeartbeats 800000 in
set_option maxRecDepth 100000 in
theorem c_X2_trianglesOfFace (l : Launch) (g : GT) (qv : Nat) (qs : Nat) (qn : Nat) (qf : Nat) (M : Int → Int) (N : Int → Int) (kk : Int) (vb : Int) (vg : Int) (vt : Int) (f : Int) (h0 : 0 ≤ f) (h1 : f < 864) (hkk : 0 ≤ kk ∧ kk ≤ 512) : MetI l yX2_trianglesOfFace wsX2_trianglesOfFace ({ frames := 1, cells := 0, slots := 0, locals := 21 }) g [(qv, .inr (2, [.ref qs, .ref qn, .ref qf, .int (iI vb), .int (iI vg), .int (iI vt)])), (qs, .inl (gI g, 512, .inl (aI (faceF M)))), (qn, .inl (gI g, 512, .inl (aI (nearF M)))), (qf, .inl (gI g, 864, .inl (aI (ofF N kk))))] [.ref qv, .int (iI f)] (ofF N kk f) := by
  refine pure_of (cc := cX2_trianglesOfFace) (maxL := 2) (ret := (some .int)) (by decide) rfl (Nat.le_of_ble_eq_true rfl) ?_
  intro pZ eZ sZ mZ bZ meZ cZ F hP hE hS ls hl
  obtain ⟨hx, hb, hr, hml, hts, hown, hlk⟩ := F
  have hown : sZ.vm.findClass RX2 = some mZ.cls := hown
  have hl : lv_has ls 2 [(0, .ref qv), (1, .int (iI f))] := hl
  have w0 := hts (.fieldLink RX2 18 "SlantYard$View" "ofFace" "[I") (by decide +kernel)
  have w1 := hts (.initialized RX4) (by decide +kernel)
  have w2 := hts (.static yX4_valueAt) (by decide +kernel)
  have in2 : ∀ w ∈ u_ws RX2 TX2 6, w ∈ wsX2_trianglesOfFace := by decide +kernel
  refine lv_aload_n hx hb dX2_trianglesOfFace_0 rfl (lv_at hl 0 rfl) ?_
  refine va_get (D := g.1) (ci := 2) (v := .ref qf) (C := RX2) (T := TX2) (N := 6) hx hb hts in2 hown hE.1 hP 0 rfl rfl 2 (by decide) w0 (fun _ h9 => h9) rfl dX2_trianglesOfFace_1 ?_
  refine lv_iload_n hx hb dX2_trianglesOfFace_4 rfl (lv_at hl 1 rfl) ?_
  refine pc_i (va_runSN (As := [.ref qf, .int (iI f)]) (rest := []) ⟨hx, hb, hml, hown, hts⟩ (c_X4_valueAt_in l g qf 864 (ofF N kk) f (by omega) h0 (by omega)) ⟨va_cnB 2 hts gX2_trianglesOfFace_X4_valueAt_n72 rfl rfl rfl (hE.2.1.1 (RX2, 72, yX4_valueAt, RX4) (by decide +kernel)) w1 (by decide +kernel) ⟨Nat.le_of_ble_eq_true rfl, Nat.le_of_ble_eq_true rfl⟩, w2, trivial⟩ (ruS (RA.ofP hE hP 3 rfl)) rfl rfl hl.1 rfl (lv_room (Nat.le_of_ble_eq_true rfl)) dX2_trianglesOfFace_5 ⟨Nat.le_of_ble_eq_true rfl, Nat.le_of_ble_eq_true rfl⟩) ?_
  exact pend_i hx hb hr hlk hS rfl (by first | rfl | omega | (split <;> omega)) dX2_trianglesOfFace_8
set_option maxHeartbeats 800000 in
set_option maxRecDepth 100000 in
theorem c_X2_trianglesOfBlock (l : Launch) (g : GT) (qv : Nat) (qs : Nat) (qn : Nat) (qf : Nat) (M : Int → Int) (N : Int → Int) (kk : Int) (vb : Int) (vg : Int) (vt : Int) (b : Int) (hN : MOk N) (h0 : 0 ≤ b) (h1 : b < 288) (hkk : 0 ≤ kk ∧ kk ≤ 512) : MetI l yX2_trianglesOfBlock wsX2_trianglesOfBlock ({ frames := 1, cells := 0, slots := 0, locals := 21 }) g [(qv, .inr (2, [.ref qs, .ref qn, .ref qf, .int (iI vb), .int (iI vg), .int (iI vt)])), (qs, .inl (gI g, 512, .inl (aI (faceF M)))), (qn, .inl (gI g, 512, .inl (aI (nearF M)))), (qf, .inl (gI g, 864, .inl (aI (ofF N kk))))] [.ref qv, .int (iI b)] (cntL (blkF N) b kk) := by
  refine pure_of (cc := cX2_trianglesOfBlock) (maxL := 4) (ret := (some .int)) (by decide) rfl (Nat.le_of_ble_eq_true rfl) ?_
  intro pZ eZ sZ mZ bZ meZ cZ F hP hE hS ls hl
  obtain ⟨hx, hb, hr, hml, hts, hown, hlk⟩ := F
  have hown : sZ.vm.findClass RX2 = some mZ.cls := hown
  have hl : lv_has ls 4 [(0, .ref qv), (1, .int (iI b))] := hl
  have w0 := hts (.fieldLink RX2 18 "SlantYard$View" "ofFace" "[I") (by decide +kernel)
  have w1 := hts (.initialized RX4) (by decide +kernel)
  have w2 := hts (.static yX4_faceNumber) (by decide +kernel)
  have w3 := hts (.static yX4_valueAt) (by decide +kernel)
  have in2 : ∀ w ∈ u_ws RX2 TX2 6, w ∈ wsX2_trianglesOfBlock := by decide +kernel
  refine lv_iconst (v := iI 0) hx hb dX2_trianglesOfBlock_0 rfl ?_
  refine lv_istore_n (lv' := [(2, .int (iI 0)), (0, .ref qv), (1, .int (iI b))]) hx hb dX2_trianglesOfBlock_1 rfl hl (by decide) rfl (fun ls hl => ?_)
  refine lv_iconst (v := iI 0) hx hb dX2_trianglesOfBlock_2 rfl ?_
  refine lv_istore_n (lv' := [(3, .int (iI 0)), (2, .int (iI 0)), (0, .ref qv), (1, .int (iI b))]) hx hb dX2_trianglesOfBlock_3 rfl hl (by decide) rfl (fun ls hl => ?_)
  have L4 : ∀ (k_1 : Nat) (k : Int) (gk : 0 ≤ k) (gl : k ≤ 3) (ls : Array Slot), lv_has ls 4 [(0, .ref qv), (1, .int (iI b)), (2, .int (iI (tobK N b kk k))), (3, .int (iI k))] → (3 - k).toNat < k_1 → W pZ l eZ ({ frames := 1, cells := 0, slots := 0, locals := 21 } : Room) sZ mZ [.ref qv, .int (iI b)].toArray bZ meZ cZ sZ.heap [] 0 0 (MQ bZ (vp_Si (fun y9 => y9 = iI (cntL (blkF N) b kk))) [.ref qv, .int (iI b)].toArray sZ 0 0 (fun _ => False)) (F0 mZ 4 ls []) := by
    intro k_1
    induction k_1 with
    | zero => intro k gk gl ls hl hm_3; exact absurd hm_3 (Nat.not_lt_zero _)
    | succ k_1 ih_2 =>
      intro k gk gl ls hl hm_3
      have b_4 : 0 ≤ tobK N b kk k ∧ tobK N b kk k ≤ k * kk := tobK_rg hkk.1 gk
      have b_5 : 0 ≤ ofF N kk (b * 3 + k) ∧ ofF N kk (b * 3 + k) ≤ kk := ofF_rg N hkk.1 _
      refine lv_iload_n hx hb dX2_trianglesOfBlock_4 rfl (lv_at hl 3 rfl) ?_
      refine lv_iconst (v := iI 3) hx hb dX2_trianglesOfBlock_5 rfl ?_
      refine ln_icmp_ge (tgt := 30) hx hb dX2_trianglesOfBlock_6 (by decide) ⟨by omega, by omega⟩ (by decide) (fun c_6 => ?_) (fun c_6 => ?_)
      · skip
        refine lv_iload_n hx hb dX2_trianglesOfBlock_30 rfl (lv_at hl 2 rfl) ?_
        exact pend_i hx hb hr hlk hS rfl (by rw [show k = 3 by omega]; exact tobK_3 hN h0 hkk.1) dX2_trianglesOfBlock_31
      · skip
        refine lv_iload_n hx hb dX2_trianglesOfBlock_9 rfl (lv_at hl 2 rfl) ?_
        refine lv_aload_n hx hb dX2_trianglesOfBlock_10 rfl (lv_at hl 0 rfl) ?_
        refine va_get (D := g.1) (ci := 2) (v := .ref qf) (C := RX2) (T := TX2) (N := 6) hx hb hts in2 hown hE.1 hP 0 rfl rfl 2 (by decide) w0 (fun _ h9 => h9) rfl dX2_trianglesOfBlock_11 ?_
        refine lv_iload_n hx hb dX2_trianglesOfBlock_14 rfl (lv_at hl 1 rfl) ?_
        refine lv_iload_n hx hb dX2_trianglesOfBlock_15 rfl (lv_at hl 3 rfl) ?_
        refine pc_i (va_runSN (As := [.int (iI b), .int (iI k)]) (rest := [.ref qf, .int (iI (tobK N b kk k))]) ⟨hx, hb, hml, hown, hts⟩ (c_X4_faceNumber l g b k) ⟨va_cnB 2 hts gX2_trianglesOfBlock_X4_faceNumber_n69 rfl rfl rfl (hE.2.1.1 (RX2, 69, yX4_faceNumber, RX4) (by decide +kernel)) w1 (by decide +kernel) ⟨Nat.le_of_ble_eq_true rfl, Nat.le_of_ble_eq_true rfl⟩, w2, trivial⟩ (puS hE hS (va_P_nil g.1 _)) rfl rfl hl.1 rfl (lv_room (Nat.le_of_ble_eq_true rfl)) dX2_trianglesOfBlock_16 ⟨Nat.le_of_ble_eq_true rfl, Nat.le_of_ble_eq_true rfl⟩) ?_
        refine pc_i (va_runSN (As := [.ref qf, .int (iI (b * 3 + k))]) (rest := [.int (iI (tobK N b kk k))]) ⟨hx, hb, hml, hown, hts⟩ (c_X4_valueAt_in l g qf 864 (ofF N kk) (b * 3 + k) (by omega) (by omega) (by omega)) ⟨va_cnB 2 hts gX2_trianglesOfBlock_X4_valueAt_n72 rfl rfl rfl (hE.2.1.1 (RX2, 72, yX4_valueAt, RX4) (by decide +kernel)) w1 (by decide +kernel) ⟨Nat.le_of_ble_eq_true rfl, Nat.le_of_ble_eq_true rfl⟩, w3, trivial⟩ (ruS (RA.ofP hE hP 3 rfl)) rfl rfl hl.1 rfl (lv_room (Nat.le_of_ble_eq_true rfl)) dX2_trianglesOfBlock_19 ⟨Nat.le_of_ble_eq_true rfl, Nat.le_of_ble_eq_true rfl⟩) ?_
        refine ln_iadd hx hb ((tobK N b kk k) + (ofF N kk) (b * 3 + k)) (rfl) dX2_trianglesOfBlock_22 ?_
        refine lv_istore_n (lv' := [(2, .int (iI ((tobK N b kk k) + (ofF N kk) (b * 3 + k)))), (0, .ref qv), (1, .int (iI b)), (3, .int (iI k))]) hx hb dX2_trianglesOfBlock_23 rfl hl (by decide) rfl (fun ls hl => ?_)
        refine lv_iinc (v := iI (k + 1)) (lv' := [(3, .int (iI (k + 1))), (2, .int (iI ((tobK N b kk k) + (ofF N kk) (b * 3 + k)))), (0, .ref qv), (1, .int (iI b))]) hx hb dX2_trianglesOfBlock_24 hl (k := 3) rfl (iI_add _ _) (by decide) rfl (fun ls hl => ?_)
        refine lv_goto (tgt := 4) hx hb dX2_trianglesOfBlock_27 (by decide) ?_
        have hl := lv_re hl 1 rfl (.int (iI (tobK N b kk (k + 1)))) (congrArg (fun z => Value.int (iI z)) (show (tobK N b kk k) + (ofF N kk) (b * 3 + k) = tobK N b kk (k + 1) from tobK_s gk))
        have hl : lv_has ls 4 [(3, .int (iI (k + 1))), (2, .int (iI (tobK N b kk (k + 1)))), (0, .ref qv), (1, .int (iI b))] := hl
        exact ih_2 (k + 1) (by omega) (by omega) _ (lv_sub hl [2, 3, 1, 0] rfl) (by omega)
  have hl := lv_re hl 1 rfl (.int (iI (tobK N b kk 0))) (congrArg (fun z => Value.int (iI z)) (show 0 = tobK N b kk 0 from by first | rfl | omega))
  have hl : lv_has ls 4 [(3, .int (iI 0)), (2, .int (iI (tobK N b kk 0))), (0, .ref qv), (1, .int (iI b))] := hl
  exact L4 _ 0 (by omega) (by omega) _ (lv_sub hl [2, 3, 1, 0] rfl) (Nat.lt_succ_self _)
set_option maxHeartbeats 800000 in
set_option maxRecDepth 100000 in
theorem c_X2_changeBy (l : Launch) (g : GT) (q : Nat) (N : Nat) (f : Int → Int) (i : Int) (d : Int) (hN : N < 2147483648) (h0 : 0 ≤ i) (h1 : i < (N : Int)) : MutV l yX2_changeBy wsX2_changeBy ({ frames := 1, cells := 0, slots := 0, locals := 22 }) 0 0 g [(q, .inl (gI g, N, .inl (aI f)))] [.ref q, .int (iI i), .int (iI d)] (S := Unit) (fun _ => True) (fun _ => [(q, .inl (gI g, N, .inl (aI ((updI f i (f i + d))))))]) := by
  refine mut_of (y := yX2_changeBy) (ws := wsX2_changeBy) (av := [.ref q, .int (iI i), .int (iI d)]) (w := [(q, .inl (gI g, N, .inl (aI f)))]) (Qc := fun A => va_Qv (fun (u9 : Unit) => (fun _ => True) u9) (fun u9 t9 => MB g ((fun _ => [(q, .inl (gI g, N, .inl (aI ((updI f i (f i + d))))))]) u9) A t9) A) (cc := cX2_changeBy) (maxL := 3) (ret := none) (by decide) rfl (Nat.le_of_ble_eq_true rfl) ?_
  intro pZ eZ sZ mZ bZ meZ cZ A F hin hA hP hD hE hS ls hl
  obtain ⟨hx, hb, hr, hml, hts, hown, hlk⟩ := F
  skip
  have hown : sZ.vm.findClass RX2 = some mZ.cls := hown
  have hl : lv_has ls 3 [(0, .ref q), (1, .int (iI i)), (2, .int (iI d))] := hl
  skip
  have w0 := hts (.initialized RX4) (by decide +kernel)
  have w1 := hts (.static yX4_valueAt) (by decide +kernel)
  have w2 := hts (.static yX4_setAt) (by decide +kernel)
  refine lv_aload_n hx hb dX2_changeBy_0 rfl (lv_at hl 0 rfl) ?_
  refine lv_iload_n hx hb dX2_changeBy_1 rfl (lv_at hl 1 rfl) ?_
  refine lv_aload_n hx hb dX2_changeBy_2 rfl (lv_at hl 0 rfl) ?_
  refine lv_iload_n hx hb dX2_changeBy_3 rfl (lv_at hl 1 rfl) ?_
  refine pc_i (va_runSN (As := [.ref q, .int (iI i)]) (rest := [.int (iI i), .ref q]) ⟨hx, hb, hml, hown, hts⟩ (c_X4_valueAt_in l g q N f i hN h0 h1) ⟨va_cnB 2 hts gX2_changeBy_X4_valueAt_n72 rfl rfl rfl (hE.2.1.1 (RX2, 72, yX4_valueAt, RX4) (by decide +kernel)) w0 (by decide +kernel) ⟨Nat.le_of_ble_eq_true rfl, Nat.le_of_ble_eq_true rfl⟩, w1, trivial⟩ (ruS (RA.ofP hE hP 0 rfl)) rfl rfl hl.1 rfl (lv_room (Nat.le_of_ble_eq_true rfl)) dX2_changeBy_4 ⟨Nat.le_of_ble_eq_true rfl, Nat.le_of_ble_eq_true rfl⟩) ?_
  refine lv_iload_n hx hb dX2_changeBy_7 rfl (lv_at hl 2 rfl) ?_
  refine ln_iadd hx hb (f i + d) (rfl) dX2_changeBy_8 ?_
  have hPc_1 := hP.sub (ws' := [(q, .inl (gI g, N, .inl (aI f)))]) [0] rfl
  have hDc_2 := hD.sub (ws' := [(q, .inl (gI g, N, .inl (aI f)))]) [0] (by decide) rfl
  have hFc_3 := va_free (wc := [(q, .inl (gI g, N, .inl (aI f)))]) hD hS hA [0] rfl
  refine mc_v (wr := []) (cells1 := 0) (slots1 := 0) (va_runSN (As := [.ref q, .int (iI i), .int (iI (f i + d))]) (rest := []) ⟨hx, hb, hml, hown, hts⟩ (c_X4_setAt_in l g q N f i (f i + d) hN h0 h1 sZ.heap.size) ⟨va_cnB 3 hts gX2_changeBy_X4_setAt_n61 rfl rfl rfl (hE.2.1.1 (RX2, 61, yX4_setAt, RX4) (by decide +kernel)) w0 (by decide +kernel) ⟨Nat.le_of_ble_eq_true rfl, Nat.le_of_ble_eq_true rfl⟩, w2, trivial⟩ (muS hE hS hPc_1 hDc_2 hFc_3) rfl rfl hl.1 rfl (lv_room (Nat.le_of_ble_eq_true rfl)) dX2_changeBy_9 ⟨Nat.le_of_ble_eq_true rfl, Nat.le_of_ble_eq_true rfl⟩) hP hD hS hA [0] [] [0] rfl rfl (by decide) (by decide) (fun _ => [(q, .inl (gI g, N, .inl (aI (updI f i (f i + d)))))]) (fun _ => rfl) (by decide) (Nat.le_of_ble_eq_true rfl) (Nat.le_of_ble_eq_true rfl) (fun u9 H locs hu_4 hP hD hS => ?_)
  have hP : va_P g.1 vwCl [(q, .inl (gI g, N, .inl (aI (updI f i (f i + d)))))] H := hP
  have hD : va_D A [(q, .inl (gI g, N, .inl (aI (updI f i (f i + d)))))] := hD
  have hP : va_P g.1 vwCl [(q, .inl (gI g, N, .inl (aI ((updI f i (f i + d))))))] _ := hP
  have hD : va_D A [(q, .inl (gI g, N, .inl (aI ((updI f i (f i + d))))))] := hD
  exact mend_v (S := Unit) (w' := (fun _ => [(q, .inl (gI g, N, .inl (aI ((updI f i (f i + d))))))])) (post := (fun _ => True)) hx hb hr hlk hS () hP hD (trivial) (Nat.le_of_ble_eq_true rfl) (Nat.le_of_ble_eq_true rfl) dX2_changeBy_12
set_option maxHeartbeats 800000 in
set_option maxRecDepth 100000 in
theorem c_X2_changeBy_no (l : Launch) (g : GT) (q : Nat) (N : Nat) (f : Int → Int) (i : Int) (d : Int) (hN : N < 2147483648) (h0 : i = -1) : MutV l yX2_changeBy wsX2_changeBy ({ frames := 1, cells := 0, slots := 0, locals := 22 }) 0 0 g [(q, .inl (gI g, N, .inl (aI f)))] [.ref q, .int (iI i), .int (iI d)] (S := Unit) (fun _ => True) (fun _ => [(q, .inl (gI g, N, .inl (aI f)))]) := by
  refine mut_of (y := yX2_changeBy) (ws := wsX2_changeBy) (av := [.ref q, .int (iI i), .int (iI d)]) (w := [(q, .inl (gI g, N, .inl (aI f)))]) (Qc := fun A => va_Qv (fun (u9 : Unit) => (fun _ => True) u9) (fun u9 t9 => MB g ((fun _ => [(q, .inl (gI g, N, .inl (aI f)))]) u9) A t9) A) (cc := cX2_changeBy) (maxL := 3) (ret := none) (by decide) rfl (Nat.le_of_ble_eq_true rfl) ?_
  intro pZ eZ sZ mZ bZ meZ cZ A F hin hA hP hD hE hS ls hl
  obtain ⟨hx, hb, hr, hml, hts, hown, hlk⟩ := F
  skip
  have hown : sZ.vm.findClass RX2 = some mZ.cls := hown
  have hl : lv_has ls 3 [(0, .ref q), (1, .int (iI i)), (2, .int (iI d))] := hl
  skip
  have w0 := hts (.initialized RX4) (by decide +kernel)
  have w1 := hts (.static yX4_valueAt) (by decide +kernel)
  have w2 := hts (.static yX4_setAt) (by decide +kernel)
  refine lv_aload_n hx hb dX2_changeBy_0 rfl (lv_at hl 0 rfl) ?_
  refine lv_iload_n hx hb dX2_changeBy_1 rfl (lv_at hl 1 rfl) ?_
  refine lv_aload_n hx hb dX2_changeBy_2 rfl (lv_at hl 0 rfl) ?_
  refine lv_iload_n hx hb dX2_changeBy_3 rfl (lv_at hl 1 rfl) ?_
  refine pc_i (va_runSN (As := [.ref q, .int (iI i)]) (rest := [.int (iI i), .ref q]) ⟨hx, hb, hml, hown, hts⟩ (c_X4_valueAt l g q N f i hN (by omega)) ⟨va_cnB 2 hts gX2_changeBy_X4_valueAt_n72 rfl rfl rfl (hE.2.1.1 (RX2, 72, yX4_valueAt, RX4) (by decide +kernel)) w0 (by decide +kernel) ⟨Nat.le_of_ble_eq_true rfl, Nat.le_of_ble_eq_true rfl⟩, w1, trivial⟩ (ruS (RA.ofP hE hP 0 rfl)) rfl rfl hl.1 rfl (lv_room (Nat.le_of_ble_eq_true rfl)) dX2_changeBy_4 ⟨Nat.le_of_ble_eq_true rfl, Nat.le_of_ble_eq_true rfl⟩) ?_
  refine lv_iload_n hx hb dX2_changeBy_7 rfl (lv_at hl 2 rfl) ?_
  refine ln_iadd hx hb ((if 0 ≤ i ∧ i < (N : Int) then f i else 0) + d) (rfl) dX2_changeBy_8 ?_
  have hPc_1 := hP.sub (ws' := [(q, .inl (gI g, N, .inl (aI f)))]) [0] rfl
  have hDc_2 := hD.sub (ws' := [(q, .inl (gI g, N, .inl (aI f)))]) [0] (by decide) rfl
  have hFc_3 := va_free (wc := [(q, .inl (gI g, N, .inl (aI f)))]) hD hS hA [0] rfl
  refine mc_v (wr := []) (cells1 := 0) (slots1 := 0) (va_runSN (As := [.ref q, .int (iI i), .int (iI ((if 0 ≤ i ∧ i < (N : Int) then f i else 0) + d))]) (rest := []) ⟨hx, hb, hml, hown, hts⟩ (c_X4_setAt l g q N f i ((if 0 ≤ i ∧ i < (N : Int) then f i else 0) + d) hN (by omega) sZ.heap.size) ⟨va_cnB 3 hts gX2_changeBy_X4_setAt_n61 rfl rfl rfl (hE.2.1.1 (RX2, 61, yX4_setAt, RX4) (by decide +kernel)) w0 (by decide +kernel) ⟨Nat.le_of_ble_eq_true rfl, Nat.le_of_ble_eq_true rfl⟩, w2, trivial⟩ (muS hE hS hPc_1 hDc_2 hFc_3) rfl rfl hl.1 rfl (lv_room (Nat.le_of_ble_eq_true rfl)) dX2_changeBy_9 ⟨Nat.le_of_ble_eq_true rfl, Nat.le_of_ble_eq_true rfl⟩) hP hD hS hA [0] [] [0] rfl rfl (by decide) (by decide) (fun _ => [(q, .inl (gI g, N, .inl (aI ((setF f (N : Int) i ((if 0 ≤ i ∧ i < (N : Int) then f i else 0) + d))))))]) (fun _ => rfl) (by decide) (Nat.le_of_ble_eq_true rfl) (Nat.le_of_ble_eq_true rfl) (fun u9 H locs hu_4 hP hD hS => ?_)
  have hP : va_P g.1 vwCl [(q, .inl (gI g, N, .inl (aI ((setF f (N : Int) i ((if 0 ≤ i ∧ i < (N : Int) then f i else 0) + d))))))] H := hP
  have hD : va_D A [(q, .inl (gI g, N, .inl (aI ((setF f (N : Int) i ((if 0 ≤ i ∧ i < (N : Int) then f i else 0) + d))))))] := hD
  have hP := hP.recell 0 rfl f (fun j _ _ => by unfold setF; rw [if_neg (by omega)])
  have hD := hD.set (p := 0) (e := .inl (gI g, N, .inl (aI f))) rfl
  have hP : va_P g.1 vwCl [(q, .inl (gI g, N, .inl (aI f)))] _ := hP
  have hD : va_D A [(q, .inl (gI g, N, .inl (aI f)))] := hD
  exact mend_v (S := Unit) (w' := (fun _ => [(q, .inl (gI g, N, .inl (aI f)))])) (post := (fun _ => True)) hx hb hr hlk hS () hP hD (trivial) (Nat.le_of_ble_eq_true rfl) (Nat.le_of_ble_eq_true rfl) dX2_changeBy_12
set_option maxHeartbeats 800000 in
set_option maxRecDepth 100000 in
theorem c_X2_drawBlock (l : Launch) (g : GT) (qv : Nat) (qs : Nat) (qn : Nat) (qf : Nat) (M : Int → Int) (F : Int → Int) (vb : Int) (vg : Int) (vt : Int) (x : Int) (y : Int) (z : Int) (hM : MOk M) (gx : 0 ≤ x ∧ x ≤ 5) (gy : 0 ≤ y ∧ y ≤ 5) (gz : 0 ≤ z ∧ z ≤ 7) : MutV l yX2_drawBlock wsX2_drawBlock ({ frames := 2, cells := 0, slots := 0, locals := 47 }) 0 0 g [(qv, .inr (2, [.ref qs, .ref qn, .ref qf, .int (iI vb), .int (iI vg), .int (iI vt)])), (qs, .inl (gI g, 512, .inl (aI (faceF M)))), (qn, .inl (gI g, 512, .inl (aI (nearF M)))), (qf, .inl (gI g, 864, .inl (aI F)))] [.ref qv, .int (iI x), .int (iI y), .int (iI z)] (S := Unit) (fun _ => True) (fun _ => [(qv, .inr (2, [.ref qs, .ref qn, .ref qf, .int (iI vb), .int (iI vg), .int (iI vt)])), (qs, .inl (gI g, 512, .inl (aI ((faceF (drawBK x y z M 6)))))), (qn, .inl (gI g, 512, .inl (aI ((nearF (drawBK x y z M 6)))))), (qf, .inl (gI g, 864, .inl (aI F)))]) := by
  refine mut_of (y := yX2_drawBlock) (ws := wsX2_drawBlock) (av := [.ref qv, .int (iI x), .int (iI y), .int (iI z)]) (w := [(qv, .inr (2, [.ref qs, .ref qn, .ref qf, .int (iI vb), .int (iI vg), .int (iI vt)])), (qs, .inl (gI g, 512, .inl (aI (faceF M)))), (qn, .inl (gI g, 512, .inl (aI (nearF M)))), (qf, .inl (gI g, 864, .inl (aI F)))]) (Qc := fun A => va_Qv (fun (u9 : Unit) => (fun _ => True) u9) (fun u9 t9 => MB g ((fun _ => [(qv, .inr (2, [.ref qs, .ref qn, .ref qf, .int (iI vb), .int (iI vg), .int (iI vt)])), (qs, .inl (gI g, 512, .inl (aI ((faceF (drawBK x y z M 6)))))), (qn, .inl (gI g, 512, .inl (aI ((nearF (drawBK x y z M 6)))))), (qf, .inl (gI g, 864, .inl (aI F)))]) u9) A t9) A) (cc := cX2_drawBlock) (maxL := 6) (ret := none) (by decide) rfl (Nat.le_of_ble_eq_true rfl) ?_
  intro pZ eZ sZ mZ bZ meZ cZ A F hin hA hP hD hE hS ls hl
  obtain ⟨hx, hb, hr, hml, hts, hown, hlk⟩ := F
  skip
  have hown : sZ.vm.findClass RX2 = some mZ.cls := hown
  have hl : lv_has ls 6 [(0, .ref qv), (1, .int (iI x)), (2, .int (iI y)), (3, .int (iI z))] := hl
  skip
  have w0 := hts (.initialized RX4) (by decide +kernel)
  have w1 := hts (.static yX4_triangleOfBlock) (by decide +kernel)
  have w2 := hts (.fieldLink RX2 15 "SlantYard$View" "nearness" "[I") (by decide +kernel)
  have w3 := hts (.static yX4_setAt) (by decide +kernel)
  have w4 := hts (.fieldLink RX2 9 "SlantYard$View" "shown" "[I") (by decide +kernel)
  have w5 := hts (.static yX4_blockNumber) (by decide +kernel)
  have w6 := hts (.static yX4_faceNumber) (by decide +kernel)
  have in2 : ∀ w ∈ u_ws RX2 TX2 6, w ∈ wsX2_drawBlock := by decide +kernel
  refine lv_iconst (v := iI 0) hx hb dX2_drawBlock_0 rfl ?_
  refine lv_istore (lv' := [(4, .int (iI 0)), (0, .ref qv), (1, .int (iI x)), (2, .int (iI y)), (3, .int (iI z))]) hx hb dX2_drawBlock_1 hl (by decide) rfl (fun ls hl => ?_)
  have L3 : ∀ (k_1 : Nat) (w : Int) (gw : 0 ≤ w) (gl : w ≤ 6) (H : Heap) (locs : List Loc), va_P g.1 vwCl [(qv, .inr (2, [.ref qs, .ref qn, .ref qf, .int (iI vb), .int (iI vg), .int (iI vt)])), (qs, .inl (gI g, 512, .inl (aI ((faceF (drawBK x y z M w)))))), (qn, .inl (gI g, 512, .inl (aI ((nearF (drawBK x y z M w)))))), (qf, .inl (gI g, 864, .inl (aI F)))] H → va_D A [(qv, .inr (2, [.ref qs, .ref qn, .ref qf, .int (iI vb), .int (iI vg), .int (iI vt)])), (qs, .inl (gI g, 512, .inl (aI ((faceF (drawBK x y z M w)))))), (qn, .inl (gI g, 512, .inl (aI ((nearF (drawBK x y z M w)))))), (qf, .inl (gI g, 864, .inl (aI F)))] → va_S A sZ.heap H locs → ∀ (ls : Array Slot), lv_has ls 6 [(0, .ref qv), (1, .int (iI x)), (2, .int (iI y)), (3, .int (iI z)), (4, .int (iI w))] → (6 - w).toNat < k_1 → W pZ l eZ ({ frames := 2, cells := 0, slots := 0, locals := 47 } : Room) sZ mZ [.ref qv, .int (iI x), .int (iI y), .int (iI z)].toArray bZ meZ cZ H locs 0 0 (MQ bZ (va_Qv (fun (u9 : Unit) => (fun _ => True) u9) (fun u9 t9 => MB g ((fun _ => [(qv, .inr (2, [.ref qs, .ref qn, .ref qf, .int (iI vb), .int (iI vg), .int (iI vt)])), (qs, .inl (gI g, 512, .inl (aI ((faceF (drawBK x y z M 6)))))), (qn, .inl (gI g, 512, .inl (aI ((nearF (drawBK x y z M 6)))))), (qf, .inl (gI g, 864, .inl (aI F)))]) u9) A t9) A) [.ref qv, .int (iI x), .int (iI y), .int (iI z)].toArray sZ 0 0 A) (F0 mZ 3 ls []) := by
    intro k_1
    induction k_1 with
    | zero => intro w gw gl H locs hP hD hS ls hl hm_3; exact absurd hm_3 (Nat.not_lt_zero _)
    | succ k_1 ih_2 =>
      intro w gw gl H locs hP hD hS ls hl hm_3
      have b_4 : MOk (drawBK x y z M w) := drawBK_ok hM gx gy gz gw (by omega)
      refine lv_iload hx hb dX2_drawBlock_3 (lv_at hl 4 rfl) ?_
      refine lv_bipush (v := iI 6) hx hb dX2_drawBlock_5 (by decide) ?_
      refine ln_icmp_ge (tgt := 74) hx hb dX2_drawBlock_7 (by decide) ⟨by omega, by omega⟩ (by decide) (fun c_5 => ?_) (fun c_5 => ?_)
      · skip
        have hP := hP.recell 1 rfl ((faceF (drawBK x y z M 6))) (fun j _ _ => by rw [show w = 6 by omega])
        have hD := hD.set (p := 1) (e := .inl (gI g, 512, .inl (aI ((faceF (drawBK x y z M 6)))))) rfl
        have hP := hP.recell 2 rfl ((nearF (drawBK x y z M 6))) (fun j _ _ => by rw [show w = 6 by omega])
        have hD := hD.set (p := 2) (e := .inl (gI g, 512, .inl (aI ((nearF (drawBK x y z M 6)))))) rfl
        have hP : va_P g.1 vwCl [(qv, .inr (2, [.ref qs, .ref qn, .ref qf, .int (iI vb), .int (iI vg), .int (iI vt)])), (qs, .inl (gI g, 512, .inl (aI ((faceF (drawBK x y z M 6)))))), (qn, .inl (gI g, 512, .inl (aI ((nearF (drawBK x y z M 6)))))), (qf, .inl (gI g, 864, .inl (aI F)))] _ := hP
        have hD : va_D A [(qv, .inr (2, [.ref qs, .ref qn, .ref qf, .int (iI vb), .int (iI vg), .int (iI vt)])), (qs, .inl (gI g, 512, .inl (aI ((faceF (drawBK x y z M 6)))))), (qn, .inl (gI g, 512, .inl (aI ((nearF (drawBK x y z M 6)))))), (qf, .inl (gI g, 864, .inl (aI F)))] := hD
        exact mend_v (S := Unit) (w' := (fun _ => [(qv, .inr (2, [.ref qs, .ref qn, .ref qf, .int (iI vb), .int (iI vg), .int (iI vt)])), (qs, .inl (gI g, 512, .inl (aI ((faceF (drawBK x y z M 6)))))), (qn, .inl (gI g, 512, .inl (aI ((nearF (drawBK x y z M 6)))))), (qf, .inl (gI g, 864, .inl (aI F)))])) (post := (fun _ => True)) hx hb hr hlk hS () hP hD (trivial) (Nat.le_of_ble_eq_true rfl) (Nat.le_of_ble_eq_true rfl) dX2_drawBlock_74
      · skip
        refine lv_iload_n hx hb dX2_drawBlock_10 rfl (lv_at hl 1 rfl) ?_
        refine lv_iload_n hx hb dX2_drawBlock_11 rfl (lv_at hl 2 rfl) ?_
        refine lv_iload_n hx hb dX2_drawBlock_12 rfl (lv_at hl 3 rfl) ?_
        refine lv_iload hx hb dX2_drawBlock_13 (lv_at hl 4 rfl) ?_
        refine pc_i (va_runSN (As := [.int (iI x), .int (iI y), .int (iI z), .int (iI w)]) (rest := []) ⟨hx, hb, hml, hown, hts⟩ (c_X4_triangleOfBlock l g x y z w (by omega)) ⟨va_cnB 4 hts gX2_drawBlock_X4_triangleOfBlock_n53 rfl rfl rfl (hE.2.1.1 (RX2, 53, yX4_triangleOfBlock, RX4) (by decide +kernel)) w0 (by decide +kernel) ⟨Nat.le_of_ble_eq_true rfl, Nat.le_of_ble_eq_true rfl⟩, w1, trivial⟩ (puS hE hS (va_P_nil g.1 _)) rfl rfl hl.1 rfl (lv_room (Nat.le_of_ble_eq_true rfl)) dX2_drawBlock_15 ⟨Nat.le_of_ble_eq_true rfl, Nat.le_of_ble_eq_true rfl⟩) ?_
        have ht9 := triB_rg gx gy gz (w := w) ⟨gw, by omega⟩
        have hMw : MOk (drawBK x y z M w) := drawBK_ok hM gx gy gz gw (by omega)
        have hr9 := MOk.rg hMw (triB x y z w)
        refine lv_istore (lv' := [(5, .int (iI (triB x y z w))), (0, .ref qv), (1, .int (iI x)), (2, .int (iI y)), (3, .int (iI z)), (4, .int (iI w))]) hx hb dX2_drawBlock_18 hl (by decide) rfl (fun ls hl => ?_)
        refine lv_aload_n hx hb dX2_drawBlock_20 rfl (lv_at hl 1 rfl) ?_
        refine lv_iload_n hx hb dX2_drawBlock_21 rfl (lv_at hl 2 rfl) ?_
        refine lv_iload_n hx hb dX2_drawBlock_22 rfl (lv_at hl 3 rfl) ?_
        refine lv_iload_n hx hb dX2_drawBlock_23 rfl (lv_at hl 4 rfl) ?_
        refine lv_iload hx hb dX2_drawBlock_24 (lv_at hl 0 rfl) ?_
        have hPc_6 := hP.sub (ws' := [(qv, .inr (2, [.ref qs, .ref qn, .ref qf, .int (iI vb), .int (iI vg), .int (iI vt)])), (qs, .inl (gI g, 512, .inl (aI ((faceF (drawBK x y z M w)))))), (qn, .inl (gI g, 512, .inl (aI ((nearF (drawBK x y z M w)))))), (qf, .inl (gI g, 864, .inl (aI F)))]) [0, 1, 2, 3] rfl
        refine pc_i (va_runV (As := [.int (iI x), .int (iI y), .int (iI z), .int (iI (triB x y z w))]) (rest := []) ⟨hx, hb, hml, hown, hts⟩ (c_X2_takes l g qv qs qn qf (drawBK x y z M w) F vb vg vt x y z (triB x y z w) b_4 gx gy gz (by omega) (by omega)) (cwV 4 hts gX2_drawBlock_X2_takes rfl rfl rfl (by decide +kernel) ⟨Nat.le_of_ble_eq_true rfl, Nat.le_of_ble_eq_true rfl⟩) (puV hE hS hPc_6 rfl rfl) rfl rfl hl.1 rfl (lv_room (Nat.le_of_ble_eq_true rfl)) dX2_drawBlock_26 ⟨Nat.le_of_ble_eq_true rfl, Nat.le_of_ble_eq_true rfl⟩) ?_
        refine lb_if_eq (tgt := 68) hx hb dX2_drawBlock_29 (by decide) (fun c_7 => ?_) (fun c_7 => ?_)
        · skip
          refine lv_iinc (v := iI (w + 1)) (lv' := [(4, .int (iI (w + 1))), (5, .int (iI (triB x y z w))), (0, .ref qv), (1, .int (iI x)), (2, .int (iI y)), (3, .int (iI z))]) hx hb dX2_drawBlock_68 hl (k := 5) rfl (iI_add _ _) (by decide) rfl (fun ls hl => ?_)
          refine lv_goto (tgt := 3) hx hb dX2_drawBlock_71 (by decide) ?_
          have hl : lv_has ls 6 [(4, .int (iI (w + 1))), (5, .int (iI (triB x y z w))), (0, .ref qv), (1, .int (iI x)), (2, .int (iI y)), (3, .int (iI z))] := hl
          have hP := hP.recell 1 rfl ((faceF (drawBK x y z M (w + 1)))) (fun j _ _ => by rw [drawBK_s gw, drawW_no hMw ⟨gx, gy, gz, gw, by omega⟩ (by omega)])
          have hD := hD.set (p := 1) (e := .inl (gI g, 512, .inl (aI ((faceF (drawBK x y z M (w + 1))))))) rfl
          have hP := hP.recell 2 rfl ((nearF (drawBK x y z M (w + 1)))) (fun j _ _ => by rw [drawBK_s gw, drawW_no hMw ⟨gx, gy, gz, gw, by omega⟩ (by omega)])
          have hD := hD.set (p := 2) (e := .inl (gI g, 512, .inl (aI ((nearF (drawBK x y z M (w + 1))))))) rfl
          exact ih_2 (w + 1) (by omega) (by omega) _ _ hP hD hS _ (lv_sub hl [2, 3, 4, 5, 0] rfl) (by omega)
        · skip
          refine lv_aload_n hx hb dX2_drawBlock_32 rfl (lv_at hl 1 rfl) ?_
          refine va_get (D := g.1) (ci := 2) (v := .ref qn) (C := RX2) (T := TX2) (N := 6) hx hb hts in2 hown hE.1 hP 0 rfl rfl 1 (by decide) w2 (fun _ h9 => h9) rfl dX2_drawBlock_33 ?_
          refine lv_iload hx hb dX2_drawBlock_36 (lv_at hl 0 rfl) ?_
          refine lv_iload_n hx hb dX2_drawBlock_38 rfl (lv_at hl 2 rfl) ?_
          refine lv_iload_n hx hb dX2_drawBlock_39 rfl (lv_at hl 3 rfl) ?_
          refine ln_iadd hx hb (x + y) (rfl) dX2_drawBlock_40 ?_
          refine lv_iload_n hx hb dX2_drawBlock_41 rfl (lv_at hl 4 rfl) ?_
          refine ln_iadd hx hb (x + y + z) (rfl) dX2_drawBlock_42 ?_
          have hPc_8 := hP.sub (ws' := [(qn, .inl (gI g, 512, .inl (aI ((nearF (drawBK x y z M w))))))]) [2] rfl
          have hDc_9 := hD.sub (ws' := [(qn, .inl (gI g, 512, .inl (aI ((nearF (drawBK x y z M w))))))]) [2] (by decide) rfl
          have hFc_10 := va_free (wc := [(qn, .inl (gI g, 512, .inl (aI ((nearF (drawBK x y z M w))))))]) hD hS hA [2] rfl
          refine mc_v (wr := [(qv, .inr (2, [.ref qs, .ref qn, .ref qf, .int (iI vb), .int (iI vg), .int (iI vt)])), (qs, .inl (gI g, 512, .inl (aI ((faceF (drawBK x y z M w)))))), (qf, .inl (gI g, 864, .inl (aI F)))]) (cells1 := 0) (slots1 := 0) (va_runSN (As := [.ref qn, .int (iI (triB x y z w)), .int (iI (x + y + z))]) (rest := []) ⟨hx, hb, hml, hown, hts⟩ (c_X4_setAt_in l g qn 512 ((nearF (drawBK x y z M w))) (triB x y z w) (x + y + z) (by omega) (by omega) (by omega) H.size) ⟨va_cnB 3 hts gX2_drawBlock_X4_setAt_n61 rfl rfl rfl (hE.2.1.1 (RX2, 61, yX4_setAt, RX4) (by decide +kernel)) w0 (by decide +kernel) ⟨Nat.le_of_ble_eq_true rfl, Nat.le_of_ble_eq_true rfl⟩, w3, trivial⟩ (muS hE hS hPc_8 hDc_9 hFc_10) rfl rfl hl.1 rfl (lv_room (Nat.le_of_ble_eq_true rfl)) dX2_drawBlock_43 ⟨Nat.le_of_ble_eq_true rfl, Nat.le_of_ble_eq_true rfl⟩) hP hD hS hA [2] [0, 1, 3] [0, 1, 3, 2] rfl rfl (by decide) (by decide) (fun _ => [(qv, .inr (2, [.ref qs, .ref qn, .ref qf, .int (iI vb), .int (iI vg), .int (iI vt)])), (qs, .inl (gI g, 512, .inl (aI ((faceF (drawBK x y z M w)))))), (qn, .inl (gI g, 512, .inl (aI (updI ((nearF (drawBK x y z M w))) (triB x y z w) (x + y + z))))), (qf, .inl (gI g, 864, .inl (aI F)))]) (fun _ => rfl) (by decide) (Nat.le_of_ble_eq_true rfl) (Nat.le_of_ble_eq_true rfl) (fun u9 H locs hu_11 hP hD hS => ?_)
          have hP : va_P g.1 vwCl [(qv, .inr (2, [.ref qs, .ref qn, .ref qf, .int (iI vb), .int (iI vg), .int (iI vt)])), (qs, .inl (gI g, 512, .inl (aI ((faceF (drawBK x y z M w)))))), (qn, .inl (gI g, 512, .inl (aI (updI ((nearF (drawBK x y z M w))) (triB x y z w) (x + y + z))))), (qf, .inl (gI g, 864, .inl (aI F)))] H := hP
          have hD : va_D A [(qv, .inr (2, [.ref qs, .ref qn, .ref qf, .int (iI vb), .int (iI vg), .int (iI vt)])), (qs, .inl (gI g, 512, .inl (aI ((faceF (drawBK x y z M w)))))), (qn, .inl (gI g, 512, .inl (aI (updI ((nearF (drawBK x y z M w))) (triB x y z w) (x + y + z))))), (qf, .inl (gI g, 864, .inl (aI F)))] := hD
          refine lv_aload_n hx hb dX2_drawBlock_46 rfl (lv_at hl 1 rfl) ?_
          refine va_get (D := g.1) (ci := 2) (v := .ref qs) (C := RX2) (T := TX2) (N := 6) hx hb hts in2 hown hE.1 hP 0 rfl rfl 0 (by decide) w4 (fun _ h9 => h9) rfl dX2_drawBlock_47 ?_
          refine lv_iload hx hb dX2_drawBlock_50 (lv_at hl 0 rfl) ?_
          refine lv_iload_n hx hb dX2_drawBlock_52 rfl (lv_at hl 2 rfl) ?_
          refine lv_iload_n hx hb dX2_drawBlock_53 rfl (lv_at hl 3 rfl) ?_
          refine lv_iload_n hx hb dX2_drawBlock_54 rfl (lv_at hl 4 rfl) ?_
          refine pc_i (va_runSN (As := [.int (iI x), .int (iI y), .int (iI z)]) (rest := [.int (iI (triB x y z w)), .ref qs]) ⟨hx, hb, hml, hown, hts⟩ (c_X4_blockNumber l g x y z) ⟨va_cnB 3 hts gX2_drawBlock_X4_blockNumber_n65 rfl rfl rfl (hE.2.1.1 (RX2, 65, yX4_blockNumber, RX4) (by decide +kernel)) w0 (by decide +kernel) ⟨Nat.le_of_ble_eq_true rfl, Nat.le_of_ble_eq_true rfl⟩, w5, trivial⟩ (puS hE hS (va_P_nil g.1 _)) rfl rfl hl.1 rfl (lv_room (Nat.le_of_ble_eq_true rfl)) dX2_drawBlock_55 ⟨Nat.le_of_ble_eq_true rfl, Nat.le_of_ble_eq_true rfl⟩) ?_
          refine lv_iload hx hb dX2_drawBlock_58 (lv_at hl 5 rfl) ?_
          refine lv_iconst (v := iI 2) hx hb dX2_drawBlock_60 rfl ?_
          refine ln_idiv hx hb (by omega) (by omega) (by decide) (by decide) (w / 2) (rfl) dX2_drawBlock_61 ?_
          refine pc_i (va_runSN (As := [.int (iI (blkN x y z)), .int (iI (w / 2))]) (rest := [.int (iI (triB x y z w)), .ref qs]) ⟨hx, hb, hml, hown, hts⟩ (c_X4_faceNumber l g (blkN x y z) (w / 2)) ⟨va_cnB 2 hts gX2_drawBlock_X4_faceNumber_n69 rfl rfl rfl (hE.2.1.1 (RX2, 69, yX4_faceNumber, RX4) (by decide +kernel)) w0 (by decide +kernel) ⟨Nat.le_of_ble_eq_true rfl, Nat.le_of_ble_eq_true rfl⟩, w6, trivial⟩ (puS hE hS (va_P_nil g.1 _)) rfl rfl hl.1 rfl (lv_room (Nat.le_of_ble_eq_true rfl)) dX2_drawBlock_62 ⟨Nat.le_of_ble_eq_true rfl, Nat.le_of_ble_eq_true rfl⟩) ?_
          have hPc_12 := hP.sub (ws' := [(qs, .inl (gI g, 512, .inl (aI ((faceF (drawBK x y z M w))))))]) [1] rfl
          have hDc_13 := hD.sub (ws' := [(qs, .inl (gI g, 512, .inl (aI ((faceF (drawBK x y z M w))))))]) [1] (by decide) rfl
          have hFc_14 := va_free (wc := [(qs, .inl (gI g, 512, .inl (aI ((faceF (drawBK x y z M w))))))]) hD hS hA [1] rfl
          refine mc_v (wr := [(qv, .inr (2, [.ref qs, .ref qn, .ref qf, .int (iI vb), .int (iI vg), .int (iI vt)])), (qn, .inl (gI g, 512, .inl (aI (updI ((nearF (drawBK x y z M w))) (triB x y z w) (x + y + z))))), (qf, .inl (gI g, 864, .inl (aI F)))]) (cells1 := 0) (slots1 := 0) (va_runSN (As := [.ref qs, .int (iI (triB x y z w)), .int (iI ((blkN x y z) * 3 + (w / 2)))]) (rest := []) ⟨hx, hb, hml, hown, hts⟩ (c_X4_setAt_in l g qs 512 ((faceF (drawBK x y z M w))) (triB x y z w) ((blkN x y z) * 3 + (w / 2)) (by omega) (by omega) (by omega) H.size) ⟨va_cnB 3 hts gX2_drawBlock_X4_setAt_n61 rfl rfl rfl (hE.2.1.1 (RX2, 61, yX4_setAt, RX4) (by decide +kernel)) w0 (by decide +kernel) ⟨Nat.le_of_ble_eq_true rfl, Nat.le_of_ble_eq_true rfl⟩, w3, trivial⟩ (muS hE hS hPc_12 hDc_13 hFc_14) rfl rfl hl.1 rfl (lv_room (Nat.le_of_ble_eq_true rfl)) dX2_drawBlock_65 ⟨Nat.le_of_ble_eq_true rfl, Nat.le_of_ble_eq_true rfl⟩) hP hD hS hA [1] [0, 2, 3] [0, 3, 1, 2] rfl rfl (by decide) (by decide) (fun _ => [(qv, .inr (2, [.ref qs, .ref qn, .ref qf, .int (iI vb), .int (iI vg), .int (iI vt)])), (qs, .inl (gI g, 512, .inl (aI (updI ((faceF (drawBK x y z M w))) (triB x y z w) ((blkN x y z) * 3 + (w / 2)))))), (qn, .inl (gI g, 512, .inl (aI (updI ((nearF (drawBK x y z M w))) (triB x y z w) (x + y + z))))), (qf, .inl (gI g, 864, .inl (aI F)))]) (fun _ => rfl) (by decide) (Nat.le_of_ble_eq_true rfl) (Nat.le_of_ble_eq_true rfl) (fun u9 H locs hu_15 hP hD hS => ?_)
          have hP : va_P g.1 vwCl [(qv, .inr (2, [.ref qs, .ref qn, .ref qf, .int (iI vb), .int (iI vg), .int (iI vt)])), (qs, .inl (gI g, 512, .inl (aI (updI ((faceF (drawBK x y z M w))) (triB x y z w) ((blkN x y z) * 3 + (w / 2)))))), (qn, .inl (gI g, 512, .inl (aI (updI ((nearF (drawBK x y z M w))) (triB x y z w) (x + y + z))))), (qf, .inl (gI g, 864, .inl (aI F)))] H := hP
          have hD : va_D A [(qv, .inr (2, [.ref qs, .ref qn, .ref qf, .int (iI vb), .int (iI vg), .int (iI vt)])), (qs, .inl (gI g, 512, .inl (aI (updI ((faceF (drawBK x y z M w))) (triB x y z w) ((blkN x y z) * 3 + (w / 2)))))), (qn, .inl (gI g, 512, .inl (aI (updI ((nearF (drawBK x y z M w))) (triB x y z w) (x + y + z))))), (qf, .inl (gI g, 864, .inl (aI F)))] := hD
          refine lv_iinc (v := iI (w + 1)) (lv' := [(4, .int (iI (w + 1))), (5, .int (iI (triB x y z w))), (0, .ref qv), (1, .int (iI x)), (2, .int (iI y)), (3, .int (iI z))]) hx hb dX2_drawBlock_68 hl (k := 5) rfl (iI_add _ _) (by decide) rfl (fun ls hl => ?_)
          refine lv_goto (tgt := 3) hx hb dX2_drawBlock_71 (by decide) ?_
          have hl : lv_has ls 6 [(4, .int (iI (w + 1))), (5, .int (iI (triB x y z w))), (0, .ref qv), (1, .int (iI x)), (2, .int (iI y)), (3, .int (iI z))] := hl
          have hP := hP.recell 1 rfl ((faceF (drawBK x y z M (w + 1)))) (fun j _ _ => by rw [drawBK_s gw]; exact drawW_face hMw ⟨gx, gy, gz, gw, by omega⟩ (by omega) j)
          have hD := hD.set (p := 1) (e := .inl (gI g, 512, .inl (aI ((faceF (drawBK x y z M (w + 1))))))) rfl
          have hP := hP.recell 2 rfl ((nearF (drawBK x y z M (w + 1)))) (fun j _ _ => by rw [drawBK_s gw]; exact drawW_near hMw ⟨gx, gy, gz, gw, by omega⟩ (by omega) j)
          have hD := hD.set (p := 2) (e := .inl (gI g, 512, .inl (aI ((nearF (drawBK x y z M (w + 1))))))) rfl
          exact ih_2 (w + 1) (by omega) (by omega) _ _ hP hD hS _ (lv_sub hl [2, 3, 4, 5, 0] rfl) (by omega)
  have hl : lv_has ls 6 [(4, .int (iI 0)), (0, .ref qv), (1, .int (iI x)), (2, .int (iI y)), (3, .int (iI z))] := hl
  have hP := hP.recell 1 rfl ((faceF (drawBK x y z M 0))) (fun j h0 h1 => rfl)
  have hD := hD.set (p := 1) (e := .inl (gI g, 512, .inl (aI ((faceF (drawBK x y z M 0)))))) rfl
  have hP := hP.recell 2 rfl ((nearF (drawBK x y z M 0))) (fun j h0 h1 => rfl)
  have hD := hD.set (p := 2) (e := .inl (gI g, 512, .inl (aI ((nearF (drawBK x y z M 0)))))) rfl
  exact L3 _ 0 (by omega) (by omega) _ _ hP hD hS _ (lv_sub hl [1, 2, 3, 4, 0] rfl) (Nat.lt_succ_self _)
set_option maxHeartbeats 800000 in
set_option maxRecDepth 100000 in
theorem c_X2_countTriangles (l : Launch) (g : GT) (qv : Nat) (qs : Nat) (qn : Nat) (qf : Nat) (M : Int → Int) (F : Int → Int) (vb : Int) (vg : Int) (vt : Int) (hM : MOk M) : MutV l yX2_countTriangles wsX2_countTriangles ({ frames := 2, cells := 0, slots := 0, locals := 44 }) 0 0 g [(qv, .inr (2, [.ref qs, .ref qn, .ref qf, .int (iI vb), .int (iI vg), .int (iI vt)])), (qs, .inl (gI g, 512, .inl (aI (faceF M)))), (qn, .inl (gI g, 512, .inl (aI (nearF M)))), (qf, .inl (gI g, 864, .inl (aI F)))] [.ref qv] (S := Unit) (fun _ => True) (fun _ => [(qv, .inr (2, [.ref qs, .ref qn, .ref qf, .int (iI ((distL (blkF M) 288 512))), .int (iI ((distL (faceF M) 864 512))), .int (iI (litK M 512))])), (qs, .inl (gI g, 512, .inl (aI (faceF M)))), (qn, .inl (gI g, 512, .inl (aI (nearF M)))), (qf, .inl (gI g, 864, .inl (aI (ofF M 512))))]) := by
  refine mut_of (y := yX2_countTriangles) (ws := wsX2_countTriangles) (av := [.ref qv]) (w := [(qv, .inr (2, [.ref qs, .ref qn, .ref qf, .int (iI vb), .int (iI vg), .int (iI vt)])), (qs, .inl (gI g, 512, .inl (aI (faceF M)))), (qn, .inl (gI g, 512, .inl (aI (nearF M)))), (qf, .inl (gI g, 864, .inl (aI F)))]) (Qc := fun A => va_Qv (fun (u9 : Unit) => (fun _ => True) u9) (fun u9 t9 => MB g ((fun _ => [(qv, .inr (2, [.ref qs, .ref qn, .ref qf, .int (iI ((distL (blkF M) 288 512))), .int (iI ((distL (faceF M) 864 512))), .int (iI (litK M 512))])), (qs, .inl (gI g, 512, .inl (aI (faceF M)))), (qn, .inl (gI g, 512, .inl (aI (nearF M)))), (qf, .inl (gI g, 864, .inl (aI (ofF M 512))))]) u9) A t9) A) (cc := cX2_countTriangles) (maxL := 3) (ret := none) (by decide) rfl (Nat.le_of_ble_eq_true rfl) ?_
  intro pZ eZ sZ mZ bZ meZ cZ A F hin hA hP hD hE hS ls hl
  obtain ⟨hx, hb, hr, hml, hts, hown, hlk⟩ := F
  skip
  have hown : sZ.vm.findClass RX2 = some mZ.cls := hown
  have hl : lv_has ls 3 [(0, .ref qv)] := hl
  skip
  have w0 := hts (.fieldLink RX2 18 "SlantYard$View" "ofFace" "[I") (by decide +kernel)
  have w1 := hts (.fieldLink RX2 21 "SlantYard$View" "blocks" "I") (by decide +kernel)
  have w2 := hts (.fieldLink RX2 25 "SlantYard$View" "faces" "I") (by decide +kernel)
  have w3 := hts (.fieldLink RX2 28 "SlantYard$View" "triangles" "I") (by decide +kernel)
  have in2 : ∀ w ∈ u_ws RX2 TX2 6, w ∈ wsX2_countTriangles := by decide +kernel
  refine lv_aload_n hx hb dX2_countTriangles_0 rfl (lv_at hl 0 rfl) ?_
  refine va_get (D := g.1) (ci := 2) (v := .ref qf) (C := RX2) (T := TX2) (N := 6) hx hb hts in2 hown hE.1 hP 0 rfl rfl 2 (by decide) w0 (fun _ h9 => h9) rfl dX2_countTriangles_1 ?_
  refine lv_iconst (v := iI 0) hx hb dX2_countTriangles_4 rfl ?_
  have hPc_1 := hP.sub (ws' := [(qf, .inl (gI g, 864, .inl (aI F)))]) [3] rfl
  have hDc_2 := hD.sub (ws' := [(qf, .inl (gI g, 864, .inl (aI F)))]) [3] (by decide) rfl
  have hFc_3 := va_free (wc := [(qf, .inl (gI g, 864, .inl (aI F)))]) hD hS hA [3] rfl
  refine mc_v (wr := [(qv, .inr (2, [.ref qs, .ref qn, .ref qf, .int (iI vb), .int (iI vg), .int (iI vt)])), (qs, .inl (gI g, 512, .inl (aI (faceF M)))), (qn, .inl (gI g, 512, .inl (aI (nearF M))))]) (cells1 := 0) (slots1 := 0) (va_runS (As := [.ref qf, .int (iI 0)]) (rest := []) ⟨hx, hb, hml, hown, hts⟩ (c_J7_fill_53178 l g qf 864 F 0 (by omega) sZ.heap.size) (va_cwS 2 hts gX2_countTriangles_J7_fill_53178 rfl rfl rfl (by decide +kernel) ⟨Nat.le_of_ble_eq_true rfl, Nat.le_of_ble_eq_true rfl⟩) (muS hE hS hPc_1 hDc_2 hFc_3) rfl rfl hl.1 rfl (lv_room (Nat.le_of_ble_eq_true rfl)) dX2_countTriangles_5 ⟨Nat.le_of_ble_eq_true rfl, Nat.le_of_ble_eq_true rfl⟩) hP hD hS hA [3] [0, 1, 2] [0, 1, 2, 3] rfl rfl (by decide) (by decide) (fun _ => [(qv, .inr (2, [.ref qs, .ref qn, .ref qf, .int (iI vb), .int (iI vg), .int (iI vt)])), (qs, .inl (gI g, 512, .inl (aI (faceF M)))), (qn, .inl (gI g, 512, .inl (aI (nearF M)))), (qf, .inl (gI g, 864, .inl (aI (fun _ => 0))))]) (fun _ => rfl) (by decide) (Nat.le_of_ble_eq_true rfl) (Nat.le_of_ble_eq_true rfl) (fun u9 H locs hu_4 hP hD hS => ?_)
  have hP : va_P g.1 vwCl [(qv, .inr (2, [.ref qs, .ref qn, .ref qf, .int (iI vb), .int (iI vg), .int (iI vt)])), (qs, .inl (gI g, 512, .inl (aI (faceF M)))), (qn, .inl (gI g, 512, .inl (aI (nearF M)))), (qf, .inl (gI g, 864, .inl (aI (fun _ => 0))))] H := hP
  have hD : va_D A [(qv, .inr (2, [.ref qs, .ref qn, .ref qf, .int (iI vb), .int (iI vg), .int (iI vt)])), (qs, .inl (gI g, 512, .inl (aI (faceF M)))), (qn, .inl (gI g, 512, .inl (aI (nearF M)))), (qf, .inl (gI g, 864, .inl (aI (fun _ => 0))))] := hD
  refine lv_aload_n hx hb dX2_countTriangles_8 rfl (lv_at hl 0 rfl) ?_
  refine lv_iconst (v := iI 0) hx hb dX2_countTriangles_9 rfl ?_
  refine va_put (D := g.1) (ci := 2) (v := .int (iI 0)) (ty := .int) (C := RX2) (T := TX2) (N := 6) hx hb hts in2 tyX2 tyX2_ok nmX2 hown hE.1 hP hD hS 0 rfl rfl 3 (by decide) w1 (fun _ h9 => h9) rfl (by decide +kernel) rfl rfl (Nat.le_of_ble_eq_true rfl) dX2_countTriangles_10 (fun H locs hP hD hS => ?_)
  have hP : va_P g.1 vwCl [(qv, .inr (2, [.ref qs, .ref qn, .ref qf, .int (iI 0), .int (iI vg), .int (iI vt)])), (qs, .inl (gI g, 512, .inl (aI (faceF M)))), (qn, .inl (gI g, 512, .inl (aI (nearF M)))), (qf, .inl (gI g, 864, .inl (aI (fun _ => 0))))] H := hP
  have hD : va_D A [(qv, .inr (2, [.ref qs, .ref qn, .ref qf, .int (iI 0), .int (iI vg), .int (iI vt)])), (qs, .inl (gI g, 512, .inl (aI (faceF M)))), (qn, .inl (gI g, 512, .inl (aI (nearF M)))), (qf, .inl (gI g, 864, .inl (aI (fun _ => 0))))] := hD
  refine lv_aload_n hx hb dX2_countTriangles_13 rfl (lv_at hl 0 rfl) ?_
  refine lv_iconst (v := iI 0) hx hb dX2_countTriangles_14 rfl ?_
  refine va_put (D := g.1) (ci := 2) (v := .int (iI 0)) (ty := .int) (C := RX2) (T := TX2) (N := 6) hx hb hts in2 tyX2 tyX2_ok nmX2 hown hE.1 hP hD hS 0 rfl rfl 4 (by decide) w2 (fun _ h9 => h9) rfl (by decide +kernel) rfl rfl (Nat.le_of_ble_eq_true rfl) dX2_countTriangles_15 (fun H locs hP hD hS => ?_)
  have hP : va_P g.1 vwCl [(qv, .inr (2, [.ref qs, .ref qn, .ref qf, .int (iI 0), .int (iI 0), .int (iI vt)])), (qs, .inl (gI g, 512, .inl (aI (faceF M)))), (qn, .inl (gI g, 512, .inl (aI (nearF M)))), (qf, .inl (gI g, 864, .inl (aI (fun _ => 0))))] H := hP
  have hD : va_D A [(qv, .inr (2, [.ref qs, .ref qn, .ref qf, .int (iI 0), .int (iI 0), .int (iI vt)])), (qs, .inl (gI g, 512, .inl (aI (faceF M)))), (qn, .inl (gI g, 512, .inl (aI (nearF M)))), (qf, .inl (gI g, 864, .inl (aI (fun _ => 0))))] := hD
  refine lv_aload_n hx hb dX2_countTriangles_18 rfl (lv_at hl 0 rfl) ?_
  refine lv_iconst (v := iI 0) hx hb dX2_countTriangles_19 rfl ?_
  refine va_put (D := g.1) (ci := 2) (v := .int (iI 0)) (ty := .int) (C := RX2) (T := TX2) (N := 6) hx hb hts in2 tyX2 tyX2_ok nmX2 hown hE.1 hP hD hS 0 rfl rfl 5 (by decide) w3 (fun _ h9 => h9) rfl (by decide +kernel) rfl rfl (Nat.le_of_ble_eq_true rfl) dX2_countTriangles_20 (fun H locs hP hD hS => ?_)
  have hP : va_P g.1 vwCl [(qv, .inr (2, [.ref qs, .ref qn, .ref qf, .int (iI 0), .int (iI 0), .int (iI 0)])), (qs, .inl (gI g, 512, .inl (aI (faceF M)))), (qn, .inl (gI g, 512, .inl (aI (nearF M)))), (qf, .inl (gI g, 864, .inl (aI (fun _ => 0))))] H := hP
  have hD : va_D A [(qv, .inr (2, [.ref qs, .ref qn, .ref qf, .int (iI 0), .int (iI 0), .int (iI 0)])), (qs, .inl (gI g, 512, .inl (aI (faceF M)))), (qn, .inl (gI g, 512, .inl (aI (nearF M)))), (qf, .inl (gI g, 864, .inl (aI (fun _ => 0))))] := hD
  refine lv_iconst (v := iI 0) hx hb dX2_countTriangles_23 rfl ?_
  refine lv_istore_n (lv' := [(1, .int (iI 0)), (0, .ref qv)]) hx hb dX2_countTriangles_24 rfl hl (by decide) rfl (fun ls hl => ?_)
  have L25 : ∀ (k_5 : Nat) (k : Int) (gk : 0 ≤ k) (gl : k ≤ 512) (H : Heap) (locs : List Loc), va_P g.1 vwCl [(qv, .inr (2, [.ref qs, .ref qn, .ref qf, .int (iI ((distL (blkF M) 288 k))), .int (iI ((distL (faceF M) 864 k))), .int (iI (litK M k))])), (qs, .inl (gI g, 512, .inl (aI (faceF M)))), (qn, .inl (gI g, 512, .inl (aI (nearF M)))), (qf, .inl (gI g, 864, .inl (aI (ofF M k))))] H → va_D A [(qv, .inr (2, [.ref qs, .ref qn, .ref qf, .int (iI ((distL (blkF M) 288 k))), .int (iI ((distL (faceF M) 864 k))), .int (iI (litK M k))])), (qs, .inl (gI g, 512, .inl (aI (faceF M)))), (qn, .inl (gI g, 512, .inl (aI (nearF M)))), (qf, .inl (gI g, 864, .inl (aI (ofF M k))))] → va_S A sZ.heap H locs → ∀ (ls : Array Slot), lv_has ls 3 [(0, .ref qv), (1, .int (iI k))] → (512 - k).toNat < k_5 → W pZ l eZ ({ frames := 2, cells := 0, slots := 0, locals := 44 } : Room) sZ mZ [.ref qv].toArray bZ meZ cZ H locs 0 0 (MQ bZ (va_Qv (fun (u9 : Unit) => (fun _ => True) u9) (fun u9 t9 => MB g ((fun _ => [(qv, .inr (2, [.ref qs, .ref qn, .ref qf, .int (iI ((distL (blkF M) 288 512))), .int (iI ((distL (faceF M) 864 512))), .int (iI (litK M 512))])), (qs, .inl (gI g, 512, .inl (aI (faceF M)))), (qn, .inl (gI g, 512, .inl (aI (nearF M)))), (qf, .inl (gI g, 864, .inl (aI (ofF M 512))))]) u9) A t9) A) [.ref qv].toArray sZ 0 0 A) (F0 mZ 25 ls []) := by
    intro k_5
    induction k_5 with
    | zero => intro k gk gl H locs hP hD hS ls hl hm_7; exact absurd hm_7 (Nat.not_lt_zero _)
    | succ k_5 ih_6 =>
      intro k gk gl H locs hP hD hS ls hl hm_7
      have b_8 : 0 ≤ distL (blkF M) 288 k ∧ distL (blkF M) 288 k ≤ 288 := distL_rg (by decide)
      have b_9 : 0 ≤ distL (faceF M) 864 k ∧ distL (faceF M) 864 k ≤ 864 := distL_rg (by decide)
      have b_10 : 0 ≤ litK M k ∧ litK M k ≤ k := litK_rg M gk
      have b_11 : -1 ≤ faceF M k ∧ faceF M k < 864 := (MOk.rg hM k).2.1
      refine lv_iload_n hx hb dX2_countTriangles_25 rfl (lv_at hl 1 rfl) ?_
      refine lv_sipush (v := iI 512) hx hb dX2_countTriangles_26 (by decide) ?_
      refine ln_icmp_ge (tgt := 114) hx hb dX2_countTriangles_29 (by decide) ⟨by omega, by omega⟩ (by decide) (fun c_12 => ?_) (fun c_12 => ?_)
      · skip
        have hf_13 : (distL (blkF M) 288 k) = (distL (blkF M) 288 512) := by rw [show k = 512 by omega]
        have hP := hP.recl 0 rfl (.inr (2, [.ref qs, .ref qn, .ref qf, .int (iI ((distL (blkF M) 288 512))), .int (iI ((distL (faceF M) 864 k))), .int (iI (litK M k))])) (congrArg (fun z9 => (Sum.inr (2, [.ref qs, .ref qn, .ref qf, .int (iI z9), .int (iI ((distL (faceF M) 864 k))), .int (iI (litK M k))]) : va_E)) hf_13)
        have hD := hD.set (p := 0) (e := .inr (2, [.ref qs, .ref qn, .ref qf, .int (iI ((distL (blkF M) 288 512))), .int (iI ((distL (faceF M) 864 k))), .int (iI (litK M k))])) rfl
        have hf_14 : (distL (faceF M) 864 k) = (distL (faceF M) 864 512) := by rw [show k = 512 by omega]
        have hP := hP.recl 0 rfl (.inr (2, [.ref qs, .ref qn, .ref qf, .int (iI ((distL (blkF M) 288 512))), .int (iI ((distL (faceF M) 864 512))), .int (iI (litK M k))])) (congrArg (fun z9 => (Sum.inr (2, [.ref qs, .ref qn, .ref qf, .int (iI ((distL (blkF M) 288 512))), .int (iI z9), .int (iI (litK M k))]) : va_E)) hf_14)
        have hD := hD.set (p := 0) (e := .inr (2, [.ref qs, .ref qn, .ref qf, .int (iI ((distL (blkF M) 288 512))), .int (iI ((distL (faceF M) 864 512))), .int (iI (litK M k))])) rfl
        have hf_15 : (litK M k) = (litK M 512) := by rw [show k = 512 by omega]
        have hP := hP.recl 0 rfl (.inr (2, [.ref qs, .ref qn, .ref qf, .int (iI ((distL (blkF M) 288 512))), .int (iI ((distL (faceF M) 864 512))), .int (iI (litK M 512))])) (congrArg (fun z9 => (Sum.inr (2, [.ref qs, .ref qn, .ref qf, .int (iI ((distL (blkF M) 288 512))), .int (iI ((distL (faceF M) 864 512))), .int (iI z9)]) : va_E)) hf_15)
        have hD := hD.set (p := 0) (e := .inr (2, [.ref qs, .ref qn, .ref qf, .int (iI ((distL (blkF M) 288 512))), .int (iI ((distL (faceF M) 864 512))), .int (iI (litK M 512))])) rfl
        have hP := hP.recell 3 rfl (ofF M 512) (fun j _ _ => by rw [show k = 512 by omega])
        have hD := hD.set (p := 3) (e := .inl (gI g, 864, .inl (aI (ofF M 512)))) rfl
        have hP : va_P g.1 vwCl [(qv, .inr (2, [.ref qs, .ref qn, .ref qf, .int (iI ((distL (blkF M) 288 512))), .int (iI ((distL (faceF M) 864 512))), .int (iI (litK M 512))])), (qs, .inl (gI g, 512, .inl (aI (faceF M)))), (qn, .inl (gI g, 512, .inl (aI (nearF M)))), (qf, .inl (gI g, 864, .inl (aI (ofF M 512))))] _ := hP
        have hD : va_D A [(qv, .inr (2, [.ref qs, .ref qn, .ref qf, .int (iI ((distL (blkF M) 288 512))), .int (iI ((distL (faceF M) 864 512))), .int (iI (litK M 512))])), (qs, .inl (gI g, 512, .inl (aI (faceF M)))), (qn, .inl (gI g, 512, .inl (aI (nearF M)))), (qf, .inl (gI g, 864, .inl (aI (ofF M 512))))] := hD
        exact mend_v (S := Unit) (w' := (fun _ => [(qv, .inr (2, [.ref qs, .ref qn, .ref qf, .int (iI ((distL (blkF M) 288 512))), .int (iI ((distL (faceF M) 864 512))), .int (iI (litK M 512))])), (qs, .inl (gI g, 512, .inl (aI (faceF M)))), (qn, .inl (gI g, 512, .inl (aI (nearF M)))), (qf, .inl (gI g, 864, .inl (aI (ofF M 512))))])) (post := (fun _ => True)) hx hb hr hlk hS () hP hD (trivial) (Nat.le_of_ble_eq_true rfl) (Nat.le_of_ble_eq_true rfl) dX2_countTriangles_114
      · skip
        refine lv_aload_n hx hb dX2_countTriangles_32 rfl (lv_at hl 0 rfl) ?_
        refine lv_iload_n hx hb dX2_countTriangles_33 rfl (lv_at hl 1 rfl) ?_
        have hPc_16 := hP.sub (ws' := [(qv, .inr (2, [.ref qs, .ref qn, .ref qf, .int (iI ((distL (blkF M) 288 k))), .int (iI ((distL (faceF M) 864 k))), .int (iI (litK M k))])), (qs, .inl (gI g, 512, .inl (aI (faceF M)))), (qn, .inl (gI g, 512, .inl (aI (nearF M)))), (qf, .inl (gI g, 864, .inl (aI (ofF M k))))]) [0, 1, 2, 3] rfl
        refine pc_i (va_runV (As := [.int (iI k)]) (rest := []) ⟨hx, hb, hml, hown, hts⟩ (c_X2_faceIn l g qv qs qn qf M (ofF M k) ((distL (blkF M) 288 k)) ((distL (faceF M) 864 k)) (litK M k) k hM gk (by omega)) (cwV 1 hts gX2_countTriangles_X2_faceIn rfl rfl rfl (by decide +kernel) ⟨Nat.le_of_ble_eq_true rfl, Nat.le_of_ble_eq_true rfl⟩) (puV hE hS hPc_16 rfl rfl) rfl rfl hl.1 rfl (lv_room (Nat.le_of_ble_eq_true rfl)) dX2_countTriangles_34 ⟨Nat.le_of_ble_eq_true rfl, Nat.le_of_ble_eq_true rfl⟩) ?_
        have r_17 : -1 ≤ faceF M k ∧ faceF M k < 864 := (MOk.rg hM k).2.1
        refine lv_istore_n (lv' := [(2, .int (iI (faceF M k))), (0, .ref qv), (1, .int (iI k))]) hx hb dX2_countTriangles_37 rfl hl (by decide) rfl (fun ls hl => ?_)
        refine lv_iload_n hx hb dX2_countTriangles_38 rfl (lv_at hl 0 rfl) ?_
        refine lv_iconst (v := iI (-1)) hx hb dX2_countTriangles_39 rfl ?_
        refine ln_icmp_eq (tgt := 108) hx hb dX2_countTriangles_40 (by decide) ⟨by omega, by omega⟩ (by decide) (fun c_18 => ?_) (fun c_18 => ?_)
        · skip
          refine lv_iinc (v := iI (k + 1)) (lv' := [(1, .int (iI (k + 1))), (2, .int (iI (faceF M k))), (0, .ref qv)]) hx hb dX2_countTriangles_108 hl (k := 2) rfl (iI_add _ _) (by decide) rfl (fun ls hl => ?_)
          refine lv_goto (tgt := 25) hx hb dX2_countTriangles_111 (by decide) ?_
          have hl : lv_has ls 3 [(1, .int (iI (k + 1))), (2, .int (iI (faceF M k))), (0, .ref qv)] := hl
          have hf_19 : (distL (blkF M) 288 k) = (distL (blkF M) 288 (k + 1)) := by first | (exact (distL_no gk (by have e9 := (face_none hM k).mp (by omega); unfold blkF; rw [if_pos e9]; decide)).symm) | (have e9 : M k ≠ 0 := fun q => absurd ((face_none hM k).mpr q) (by omega); rw [distL_s (by decide) gk (by rw [blk_face k e9]; omega) (by rw [blk_face k e9]; omega), blk_face k e9]; first | (rw [bI_t (by omega)]) | (rw [bI_f (by omega)]))
          have hP := hP.recl 0 rfl (.inr (2, [.ref qs, .ref qn, .ref qf, .int (iI ((distL (blkF M) 288 (k + 1)))), .int (iI ((distL (faceF M) 864 k))), .int (iI (litK M k))])) (congrArg (fun z9 => (Sum.inr (2, [.ref qs, .ref qn, .ref qf, .int (iI z9), .int (iI ((distL (faceF M) 864 k))), .int (iI (litK M k))]) : va_E)) hf_19)
          have hD := hD.set (p := 0) (e := .inr (2, [.ref qs, .ref qn, .ref qf, .int (iI ((distL (blkF M) 288 (k + 1)))), .int (iI ((distL (faceF M) 864 k))), .int (iI (litK M k))])) rfl
          have hf_20 : (distL (faceF M) 864 k) = (distL (faceF M) 864 (k + 1)) := by first | (exact (distL_no gk (by omega)).symm) | (rw [distL_s (by decide) gk (by omega) (by omega)]; have e8 : cntL (faceF M) (faceF M k) k = ofF M k (faceF M k) := rfl; first | (rw [bI_t (by omega)]) | (rw [bI_f (by omega)]))
          have hP := hP.recl 0 rfl (.inr (2, [.ref qs, .ref qn, .ref qf, .int (iI ((distL (blkF M) 288 (k + 1)))), .int (iI ((distL (faceF M) 864 (k + 1)))), .int (iI (litK M k))])) (congrArg (fun z9 => (Sum.inr (2, [.ref qs, .ref qn, .ref qf, .int (iI ((distL (blkF M) 288 (k + 1)))), .int (iI z9), .int (iI (litK M k))]) : va_E)) hf_20)
          have hD := hD.set (p := 0) (e := .inr (2, [.ref qs, .ref qn, .ref qf, .int (iI ((distL (blkF M) 288 (k + 1)))), .int (iI ((distL (faceF M) 864 (k + 1)))), .int (iI (litK M k))])) rfl
          have hf_21 : (litK M k) = (litK M (k + 1)) := by first | (have e9 := (face_none hM k).mp (by omega); rw [litK_s gk, bI_f (by rw [e9]; exact fun q => q rfl)]; omega) | (have e9 : M k ≠ 0 := fun q => absurd ((face_none hM k).mpr q) (by omega); rw [litK_s gk, bI_t e9])
          have hP := hP.recl 0 rfl (.inr (2, [.ref qs, .ref qn, .ref qf, .int (iI ((distL (blkF M) 288 (k + 1)))), .int (iI ((distL (faceF M) 864 (k + 1)))), .int (iI (litK M (k + 1)))])) (congrArg (fun z9 => (Sum.inr (2, [.ref qs, .ref qn, .ref qf, .int (iI ((distL (blkF M) 288 (k + 1)))), .int (iI ((distL (faceF M) 864 (k + 1)))), .int (iI z9)]) : va_E)) hf_21)
          have hD := hD.set (p := 0) (e := .inr (2, [.ref qs, .ref qn, .ref qf, .int (iI ((distL (blkF M) 288 (k + 1)))), .int (iI ((distL (faceF M) 864 (k + 1)))), .int (iI (litK M (k + 1)))])) rfl
          have hP := hP.recell 3 rfl (ofF M (k + 1)) (fun j h0 _ => ofF_no gk (by omega) h0)
          have hD := hD.set (p := 3) (e := .inl (gI g, 864, .inl (aI (ofF M (k + 1))))) rfl
          exact ih_6 (k + 1) (by omega) (by omega) _ _ hP hD hS _ (lv_sub hl [2, 0] rfl) (by omega)
        · skip
          refine lv_aload_n hx hb dX2_countTriangles_43 rfl (lv_at hl 1 rfl) ?_
          refine lv_dup hx hb dX2_countTriangles_44 rfl ?_
          refine va_get (D := g.1) (ci := 2) (v := .int (iI ((distL (blkF M) 288 k)))) (C := RX2) (T := TX2) (N := 6) hx hb hts in2 hown hE.1 hP 0 rfl rfl 3 (by decide) w1 (fun _ h9 => h9) rfl dX2_countTriangles_45 ?_
          refine lv_aload_n hx hb dX2_countTriangles_48 rfl (lv_at hl 1 rfl) ?_
          refine lv_iload_n hx hb dX2_countTriangles_49 rfl (lv_at hl 0 rfl) ?_
          refine lv_iconst (v := iI 3) hx hb dX2_countTriangles_50 rfl ?_
          refine ln_idiv hx hb (by omega) (by omega) (by decide) (by decide) ((faceF M k) / 3) (rfl) dX2_countTriangles_51 ?_
          have hPc_22 := hP.sub (ws' := [(qv, .inr (2, [.ref qs, .ref qn, .ref qf, .int (iI ((distL (blkF M) 288 k))), .int (iI ((distL (faceF M) 864 k))), .int (iI (litK M k))])), (qs, .inl (gI g, 512, .inl (aI (faceF M)))), (qn, .inl (gI g, 512, .inl (aI (nearF M)))), (qf, .inl (gI g, 864, .inl (aI (ofF M k))))]) [0, 1, 2, 3] rfl
          refine pc_i (va_runV (As := [.int (iI ((faceF M k) / 3))]) (rest := [.int (iI ((distL (blkF M) 288 k))), .ref qv]) ⟨hx, hb, hml, hown, hts⟩ (c_X2_trianglesOfBlock l g qv qs qn qf M M k ((distL (blkF M) 288 k)) ((distL (faceF M) 864 k)) (litK M k) ((faceF M k) / 3) hM (by omega) (by omega) (⟨gk, by omega⟩)) (cwV 1 hts gX2_countTriangles_X2_trianglesOfBlock rfl rfl rfl (by decide +kernel) ⟨Nat.le_of_ble_eq_true rfl, Nat.le_of_ble_eq_true rfl⟩) (puV hE hS hPc_22 rfl rfl) rfl rfl hl.1 rfl (lv_room (Nat.le_of_ble_eq_true rfl)) dX2_countTriangles_52 ⟨Nat.le_of_ble_eq_true rfl, Nat.le_of_ble_eq_true rfl⟩) ?_
          have r_23 : 0 ≤ cntL (blkF M) ((faceF M k) / 3) k ∧ cntL (blkF M) ((faceF M k) / 3) k ≤ k := cntL_rg (blkF M) ((faceF M k) / 3) (show 0 ≤ k ∧ k ≤ 512 from (⟨gk, by omega⟩)).1
          have c9 : 0 ≤ ofF M k (faceF M k) ∧ ofF M k (faceF M k) ≤ k := ofF_rg M gk _
          refine ln_if_ne (tgt := 62) hx hb dX2_countTriangles_55 (by decide) ⟨by omega, by omega⟩ (fun c_24 => ?_) (fun c_24 => ?_)
          · skip
            refine lv_iconst (v := iI 0) hx hb dX2_countTriangles_62 rfl ?_
            refine ln_iadd hx hb (((distL (blkF M) 288 k)) + 0) (rfl) dX2_countTriangles_63 ?_
            refine va_put (D := g.1) (ci := 2) (v := .int (iI (((distL (blkF M) 288 k)) + 0))) (ty := .int) (C := RX2) (T := TX2) (N := 6) hx hb hts in2 tyX2 tyX2_ok nmX2 hown hE.1 hP hD hS 0 rfl rfl 3 (by decide) w1 (fun _ h9 => h9) rfl (by decide +kernel) rfl rfl (Nat.le_of_ble_eq_true rfl) dX2_countTriangles_64 (fun H locs hP hD hS => ?_)
            have hP : va_P g.1 vwCl [(qv, .inr (2, [.ref qs, .ref qn, .ref qf, .int (iI (((distL (blkF M) 288 k)) + 0)), .int (iI ((distL (faceF M) 864 k))), .int (iI (litK M k))])), (qs, .inl (gI g, 512, .inl (aI (faceF M)))), (qn, .inl (gI g, 512, .inl (aI (nearF M)))), (qf, .inl (gI g, 864, .inl (aI (ofF M k))))] H := hP
            have hD : va_D A [(qv, .inr (2, [.ref qs, .ref qn, .ref qf, .int (iI (((distL (blkF M) 288 k)) + 0)), .int (iI ((distL (faceF M) 864 k))), .int (iI (litK M k))])), (qs, .inl (gI g, 512, .inl (aI (faceF M)))), (qn, .inl (gI g, 512, .inl (aI (nearF M)))), (qf, .inl (gI g, 864, .inl (aI (ofF M k))))] := hD
            refine lv_aload_n hx hb dX2_countTriangles_67 rfl (lv_at hl 1 rfl) ?_
            refine lv_dup hx hb dX2_countTriangles_68 rfl ?_
            refine va_get (D := g.1) (ci := 2) (v := .int (iI ((distL (faceF M) 864 k)))) (C := RX2) (T := TX2) (N := 6) hx hb hts in2 hown hE.1 hP 0 rfl rfl 4 (by decide) w2 (fun _ h9 => h9) rfl dX2_countTriangles_69 ?_
            refine lv_aload_n hx hb dX2_countTriangles_72 rfl (lv_at hl 1 rfl) ?_
            refine lv_iload_n hx hb dX2_countTriangles_73 rfl (lv_at hl 0 rfl) ?_
            have hPc_25 := hP.sub (ws' := [(qv, .inr (2, [.ref qs, .ref qn, .ref qf, .int (iI (((distL (blkF M) 288 k)) + 0)), .int (iI ((distL (faceF M) 864 k))), .int (iI (litK M k))])), (qs, .inl (gI g, 512, .inl (aI (faceF M)))), (qn, .inl (gI g, 512, .inl (aI (nearF M)))), (qf, .inl (gI g, 864, .inl (aI (ofF M k))))]) [0, 1, 2, 3] rfl
            refine pc_i (va_runV (As := [.int (iI (faceF M k))]) (rest := [.int (iI ((distL (faceF M) 864 k))), .ref qv]) ⟨hx, hb, hml, hown, hts⟩ (c_X2_trianglesOfFace l g qv qs qn qf M M k (((distL (blkF M) 288 k)) + 0) ((distL (faceF M) 864 k)) (litK M k) (faceF M k) (by omega) (by omega) (⟨gk, by omega⟩)) (cwV 1 hts gX2_countTriangles_X2_trianglesOfFace rfl rfl rfl (by decide +kernel) ⟨Nat.le_of_ble_eq_true rfl, Nat.le_of_ble_eq_true rfl⟩) (puV hE hS hPc_25 rfl rfl) rfl rfl hl.1 rfl (lv_room (Nat.le_of_ble_eq_true rfl)) dX2_countTriangles_74 ⟨Nat.le_of_ble_eq_true rfl, Nat.le_of_ble_eq_true rfl⟩) ?_
            have r_26 : 0 ≤ ofF M k (faceF M k) ∧ ofF M k (faceF M k) ≤ k := ofF_rg M (show 0 ≤ k ∧ k ≤ 512 from (⟨gk, by omega⟩)).1 (faceF M k)
            refine ln_if_ne (tgt := 84) hx hb dX2_countTriangles_77 (by decide) ⟨by omega, by omega⟩ (fun c_27 => ?_) (fun c_27 => ?_)
            · skip
              refine lv_iconst (v := iI 0) hx hb dX2_countTriangles_84 rfl ?_
              refine ln_iadd hx hb (((distL (faceF M) 864 k)) + 0) (rfl) dX2_countTriangles_85 ?_
              refine va_put (D := g.1) (ci := 2) (v := .int (iI (((distL (faceF M) 864 k)) + 0))) (ty := .int) (C := RX2) (T := TX2) (N := 6) hx hb hts in2 tyX2 tyX2_ok nmX2 hown hE.1 hP hD hS 0 rfl rfl 4 (by decide) w2 (fun _ h9 => h9) rfl (by decide +kernel) rfl rfl (Nat.le_of_ble_eq_true rfl) dX2_countTriangles_86 (fun H locs hP hD hS => ?_)
              have hP : va_P g.1 vwCl [(qv, .inr (2, [.ref qs, .ref qn, .ref qf, .int (iI (((distL (blkF M) 288 k)) + 0)), .int (iI (((distL (faceF M) 864 k)) + 0)), .int (iI (litK M k))])), (qs, .inl (gI g, 512, .inl (aI (faceF M)))), (qn, .inl (gI g, 512, .inl (aI (nearF M)))), (qf, .inl (gI g, 864, .inl (aI (ofF M k))))] H := hP
              have hD : va_D A [(qv, .inr (2, [.ref qs, .ref qn, .ref qf, .int (iI (((distL (blkF M) 288 k)) + 0)), .int (iI (((distL (faceF M) 864 k)) + 0)), .int (iI (litK M k))])), (qs, .inl (gI g, 512, .inl (aI (faceF M)))), (qn, .inl (gI g, 512, .inl (aI (nearF M)))), (qf, .inl (gI g, 864, .inl (aI (ofF M k))))] := hD
              refine lv_aload_n hx hb dX2_countTriangles_89 rfl (lv_at hl 1 rfl) ?_
              refine lv_dup hx hb dX2_countTriangles_90 rfl ?_
              refine va_get (D := g.1) (ci := 2) (v := .int (iI (litK M k))) (C := RX2) (T := TX2) (N := 6) hx hb hts in2 hown hE.1 hP 0 rfl rfl 5 (by decide) w3 (fun _ h9 => h9) rfl dX2_countTriangles_91 ?_
              refine lv_iconst (v := iI 1) hx hb dX2_countTriangles_94 rfl ?_
              refine ln_iadd hx hb ((litK M k) + 1) (rfl) dX2_countTriangles_95 ?_
              refine va_put (D := g.1) (ci := 2) (v := .int (iI ((litK M k) + 1))) (ty := .int) (C := RX2) (T := TX2) (N := 6) hx hb hts in2 tyX2 tyX2_ok nmX2 hown hE.1 hP hD hS 0 rfl rfl 5 (by decide) w3 (fun _ h9 => h9) rfl (by decide +kernel) rfl rfl (Nat.le_of_ble_eq_true rfl) dX2_countTriangles_96 (fun H locs hP hD hS => ?_)
              have hP : va_P g.1 vwCl [(qv, .inr (2, [.ref qs, .ref qn, .ref qf, .int (iI (((distL (blkF M) 288 k)) + 0)), .int (iI (((distL (faceF M) 864 k)) + 0)), .int (iI ((litK M k) + 1))])), (qs, .inl (gI g, 512, .inl (aI (faceF M)))), (qn, .inl (gI g, 512, .inl (aI (nearF M)))), (qf, .inl (gI g, 864, .inl (aI (ofF M k))))] H := hP
              have hD : va_D A [(qv, .inr (2, [.ref qs, .ref qn, .ref qf, .int (iI (((distL (blkF M) 288 k)) + 0)), .int (iI (((distL (faceF M) 864 k)) + 0)), .int (iI ((litK M k) + 1))])), (qs, .inl (gI g, 512, .inl (aI (faceF M)))), (qn, .inl (gI g, 512, .inl (aI (nearF M)))), (qf, .inl (gI g, 864, .inl (aI (ofF M k))))] := hD
              refine lv_aload_n hx hb dX2_countTriangles_99 rfl (lv_at hl 1 rfl) ?_
              refine va_get (D := g.1) (ci := 2) (v := .ref qf) (C := RX2) (T := TX2) (N := 6) hx hb hts in2 hown hE.1 hP 0 rfl rfl 2 (by decide) w0 (fun _ h9 => h9) rfl dX2_countTriangles_100 ?_
              refine lv_iload_n hx hb dX2_countTriangles_103 rfl (lv_at hl 0 rfl) ?_
              refine lv_iconst (v := iI 1) hx hb dX2_countTriangles_104 rfl ?_
              have hPc_28 := hP.sub (ws' := [(qf, .inl (gI g, 864, .inl (aI (ofF M k))))]) [3] rfl
              have hDc_29 := hD.sub (ws' := [(qf, .inl (gI g, 864, .inl (aI (ofF M k))))]) [3] (by decide) rfl
              have hFc_30 := va_free (wc := [(qf, .inl (gI g, 864, .inl (aI (ofF M k))))]) hD hS hA [3] rfl
              refine mc_v (wr := [(qv, .inr (2, [.ref qs, .ref qn, .ref qf, .int (iI (((distL (blkF M) 288 k)) + 0)), .int (iI (((distL (faceF M) 864 k)) + 0)), .int (iI ((litK M k) + 1))])), (qs, .inl (gI g, 512, .inl (aI (faceF M)))), (qn, .inl (gI g, 512, .inl (aI (nearF M))))]) (cells1 := 0) (slots1 := 0) (va_runS (As := [.ref qf, .int (iI (faceF M k)), .int (iI 1)]) (rest := []) ⟨hx, hb, hml, hown, hts⟩ (c_X2_changeBy l g qf 864 (ofF M k) (faceF M k) 1 (by omega) (by omega) (by omega) H.size) (va_cwS 3 hts gX2_countTriangles_X2_changeBy rfl rfl rfl (by decide +kernel) ⟨Nat.le_of_ble_eq_true rfl, Nat.le_of_ble_eq_true rfl⟩) (muS hE hS hPc_28 hDc_29 hFc_30) rfl rfl hl.1 rfl (lv_room (Nat.le_of_ble_eq_true rfl)) dX2_countTriangles_105 ⟨Nat.le_of_ble_eq_true rfl, Nat.le_of_ble_eq_true rfl⟩) hP hD hS hA [3] [0, 1, 2] [0, 1, 2, 3] rfl rfl (by decide) (by decide) (fun _ => [(qv, .inr (2, [.ref qs, .ref qn, .ref qf, .int (iI (((distL (blkF M) 288 k)) + 0)), .int (iI (((distL (faceF M) 864 k)) + 0)), .int (iI ((litK M k) + 1))])), (qs, .inl (gI g, 512, .inl (aI (faceF M)))), (qn, .inl (gI g, 512, .inl (aI (nearF M)))), (qf, .inl (gI g, 864, .inl (aI ((updI (ofF M k) (faceF M k) ((ofF M k) (faceF M k) + 1))))))]) (fun _ => rfl) (by decide) (Nat.le_of_ble_eq_true rfl) (Nat.le_of_ble_eq_true rfl) (fun u9 H locs hu_31 hP hD hS => ?_)
              have hP : va_P g.1 vwCl [(qv, .inr (2, [.ref qs, .ref qn, .ref qf, .int (iI (((distL (blkF M) 288 k)) + 0)), .int (iI (((distL (faceF M) 864 k)) + 0)), .int (iI ((litK M k) + 1))])), (qs, .inl (gI g, 512, .inl (aI (faceF M)))), (qn, .inl (gI g, 512, .inl (aI (nearF M)))), (qf, .inl (gI g, 864, .inl (aI ((updI (ofF M k) (faceF M k) ((ofF M k) (faceF M k) + 1))))))] H := hP
              have hD : va_D A [(qv, .inr (2, [.ref qs, .ref qn, .ref qf, .int (iI (((distL (blkF M) 288 k)) + 0)), .int (iI (((distL (faceF M) 864 k)) + 0)), .int (iI ((litK M k) + 1))])), (qs, .inl (gI g, 512, .inl (aI (faceF M)))), (qn, .inl (gI g, 512, .inl (aI (nearF M)))), (qf, .inl (gI g, 864, .inl (aI ((updI (ofF M k) (faceF M k) ((ofF M k) (faceF M k) + 1))))))] := hD
              refine lv_iinc (v := iI (k + 1)) (lv' := [(1, .int (iI (k + 1))), (2, .int (iI (faceF M k))), (0, .ref qv)]) hx hb dX2_countTriangles_108 hl (k := 2) rfl (iI_add _ _) (by decide) rfl (fun ls hl => ?_)
              refine lv_goto (tgt := 25) hx hb dX2_countTriangles_111 (by decide) ?_
              have hl : lv_has ls 3 [(1, .int (iI (k + 1))), (2, .int (iI (faceF M k))), (0, .ref qv)] := hl
              have hf_32 : ((distL (blkF M) 288 k)) + 0 = (distL (blkF M) 288 (k + 1)) := by first | (exact (distL_no gk (by have e9 := (face_none hM k).mp (by omega); unfold blkF; rw [if_pos e9]; decide)).symm) | (have e9 : M k ≠ 0 := fun q => absurd ((face_none hM k).mpr q) (by omega); rw [distL_s (by decide) gk (by rw [blk_face k e9]; omega) (by rw [blk_face k e9]; omega), blk_face k e9]; first | (rw [bI_t (by omega)]) | (rw [bI_f (by omega)]))
              have hP := hP.recl 0 rfl (.inr (2, [.ref qs, .ref qn, .ref qf, .int (iI ((distL (blkF M) 288 (k + 1)))), .int (iI (((distL (faceF M) 864 k)) + 0)), .int (iI ((litK M k) + 1))])) (congrArg (fun z9 => (Sum.inr (2, [.ref qs, .ref qn, .ref qf, .int (iI z9), .int (iI (((distL (faceF M) 864 k)) + 0)), .int (iI ((litK M k) + 1))]) : va_E)) hf_32)
              have hD := hD.set (p := 0) (e := .inr (2, [.ref qs, .ref qn, .ref qf, .int (iI ((distL (blkF M) 288 (k + 1)))), .int (iI (((distL (faceF M) 864 k)) + 0)), .int (iI ((litK M k) + 1))])) rfl
              have hf_33 : ((distL (faceF M) 864 k)) + 0 = (distL (faceF M) 864 (k + 1)) := by first | (exact (distL_no gk (by omega)).symm) | (rw [distL_s (by decide) gk (by omega) (by omega)]; have e8 : cntL (faceF M) (faceF M k) k = ofF M k (faceF M k) := rfl; first | (rw [bI_t (by omega)]) | (rw [bI_f (by omega)]))
              have hP := hP.recl 0 rfl (.inr (2, [.ref qs, .ref qn, .ref qf, .int (iI ((distL (blkF M) 288 (k + 1)))), .int (iI ((distL (faceF M) 864 (k + 1)))), .int (iI ((litK M k) + 1))])) (congrArg (fun z9 => (Sum.inr (2, [.ref qs, .ref qn, .ref qf, .int (iI ((distL (blkF M) 288 (k + 1)))), .int (iI z9), .int (iI ((litK M k) + 1))]) : va_E)) hf_33)
              have hD := hD.set (p := 0) (e := .inr (2, [.ref qs, .ref qn, .ref qf, .int (iI ((distL (blkF M) 288 (k + 1)))), .int (iI ((distL (faceF M) 864 (k + 1)))), .int (iI ((litK M k) + 1))])) rfl
              have hf_34 : (litK M k) + 1 = (litK M (k + 1)) := by first | (have e9 := (face_none hM k).mp (by omega); rw [litK_s gk, bI_f (by rw [e9]; exact fun q => q rfl)]; omega) | (have e9 : M k ≠ 0 := fun q => absurd ((face_none hM k).mpr q) (by omega); rw [litK_s gk, bI_t e9])
              have hP := hP.recl 0 rfl (.inr (2, [.ref qs, .ref qn, .ref qf, .int (iI ((distL (blkF M) 288 (k + 1)))), .int (iI ((distL (faceF M) 864 (k + 1)))), .int (iI (litK M (k + 1)))])) (congrArg (fun z9 => (Sum.inr (2, [.ref qs, .ref qn, .ref qf, .int (iI ((distL (blkF M) 288 (k + 1)))), .int (iI ((distL (faceF M) 864 (k + 1)))), .int (iI z9)]) : va_E)) hf_34)
              have hD := hD.set (p := 0) (e := .inr (2, [.ref qs, .ref qn, .ref qf, .int (iI ((distL (blkF M) 288 (k + 1)))), .int (iI ((distL (faceF M) 864 (k + 1)))), .int (iI (litK M (k + 1)))])) rfl
              have hP := hP.recell 3 rfl (ofF M (k + 1)) (fun j _ _ => ofF_s gk j)
              have hD := hD.set (p := 3) (e := .inl (gI g, 864, .inl (aI (ofF M (k + 1))))) rfl
              exact ih_6 (k + 1) (by omega) (by omega) _ _ hP hD hS _ (lv_sub hl [2, 0] rfl) (by omega)
            · skip
              refine lv_iconst (v := iI 1) hx hb dX2_countTriangles_80 rfl ?_
              refine lv_goto (tgt := 85) hx hb dX2_countTriangles_81 (by decide) ?_
              refine ln_iadd hx hb (((distL (faceF M) 864 k)) + 1) (rfl) dX2_countTriangles_85 ?_
              refine va_put (D := g.1) (ci := 2) (v := .int (iI (((distL (faceF M) 864 k)) + 1))) (ty := .int) (C := RX2) (T := TX2) (N := 6) hx hb hts in2 tyX2 tyX2_ok nmX2 hown hE.1 hP hD hS 0 rfl rfl 4 (by decide) w2 (fun _ h9 => h9) rfl (by decide +kernel) rfl rfl (Nat.le_of_ble_eq_true rfl) dX2_countTriangles_86 (fun H locs hP hD hS => ?_)
              have hP : va_P g.1 vwCl [(qv, .inr (2, [.ref qs, .ref qn, .ref qf, .int (iI (((distL (blkF M) 288 k)) + 0)), .int (iI (((distL (faceF M) 864 k)) + 1)), .int (iI (litK M k))])), (qs, .inl (gI g, 512, .inl (aI (faceF M)))), (qn, .inl (gI g, 512, .inl (aI (nearF M)))), (qf, .inl (gI g, 864, .inl (aI (ofF M k))))] H := hP
              have hD : va_D A [(qv, .inr (2, [.ref qs, .ref qn, .ref qf, .int (iI (((distL (blkF M) 288 k)) + 0)), .int (iI (((distL (faceF M) 864 k)) + 1)), .int (iI (litK M k))])), (qs, .inl (gI g, 512, .inl (aI (faceF M)))), (qn, .inl (gI g, 512, .inl (aI (nearF M)))), (qf, .inl (gI g, 864, .inl (aI (ofF M k))))] := hD
              refine lv_aload_n hx hb dX2_countTriangles_89 rfl (lv_at hl 1 rfl) ?_
              refine lv_dup hx hb dX2_countTriangles_90 rfl ?_
              refine va_get (D := g.1) (ci := 2) (v := .int (iI (litK M k))) (C := RX2) (T := TX2) (N := 6) hx hb hts in2 hown hE.1 hP 0 rfl rfl 5 (by decide) w3 (fun _ h9 => h9) rfl dX2_countTriangles_91 ?_
              refine lv_iconst (v := iI 1) hx hb dX2_countTriangles_94 rfl ?_
              refine ln_iadd hx hb ((litK M k) + 1) (rfl) dX2_countTriangles_95 ?_
              refine va_put (D := g.1) (ci := 2) (v := .int (iI ((litK M k) + 1))) (ty := .int) (C := RX2) (T := TX2) (N := 6) hx hb hts in2 tyX2 tyX2_ok nmX2 hown hE.1 hP hD hS 0 rfl rfl 5 (by decide) w3 (fun _ h9 => h9) rfl (by decide +kernel) rfl rfl (Nat.le_of_ble_eq_true rfl) dX2_countTriangles_96 (fun H locs hP hD hS => ?_)
              have hP : va_P g.1 vwCl [(qv, .inr (2, [.ref qs, .ref qn, .ref qf, .int (iI (((distL (blkF M) 288 k)) + 0)), .int (iI (((distL (faceF M) 864 k)) + 1)), .int (iI ((litK M k) + 1))])), (qs, .inl (gI g, 512, .inl (aI (faceF M)))), (qn, .inl (gI g, 512, .inl (aI (nearF M)))), (qf, .inl (gI g, 864, .inl (aI (ofF M k))))] H := hP
              have hD : va_D A [(qv, .inr (2, [.ref qs, .ref qn, .ref qf, .int (iI (((distL (blkF M) 288 k)) + 0)), .int (iI (((distL (faceF M) 864 k)) + 1)), .int (iI ((litK M k) + 1))])), (qs, .inl (gI g, 512, .inl (aI (faceF M)))), (qn, .inl (gI g, 512, .inl (aI (nearF M)))), (qf, .inl (gI g, 864, .inl (aI (ofF M k))))] := hD
              refine lv_aload_n hx hb dX2_countTriangles_99 rfl (lv_at hl 1 rfl) ?_
              refine va_get (D := g.1) (ci := 2) (v := .ref qf) (C := RX2) (T := TX2) (N := 6) hx hb hts in2 hown hE.1 hP 0 rfl rfl 2 (by decide) w0 (fun _ h9 => h9) rfl dX2_countTriangles_100 ?_
              refine lv_iload_n hx hb dX2_countTriangles_103 rfl (lv_at hl 0 rfl) ?_
              refine lv_iconst (v := iI 1) hx hb dX2_countTriangles_104 rfl ?_
              have hPc_35 := hP.sub (ws' := [(qf, .inl (gI g, 864, .inl (aI (ofF M k))))]) [3] rfl
              have hDc_36 := hD.sub (ws' := [(qf, .inl (gI g, 864, .inl (aI (ofF M k))))]) [3] (by decide) rfl
              have hFc_37 := va_free (wc := [(qf, .inl (gI g, 864, .inl (aI (ofF M k))))]) hD hS hA [3] rfl
              refine mc_v (wr := [(qv, .inr (2, [.ref qs, .ref qn, .ref qf, .int (iI (((distL (blkF M) 288 k)) + 0)), .int (iI (((distL (faceF M) 864 k)) + 1)), .int (iI ((litK M k) + 1))])), (qs, .inl (gI g, 512, .inl (aI (faceF M)))), (qn, .inl (gI g, 512, .inl (aI (nearF M))))]) (cells1 := 0) (slots1 := 0) (va_runS (As := [.ref qf, .int (iI (faceF M k)), .int (iI 1)]) (rest := []) ⟨hx, hb, hml, hown, hts⟩ (c_X2_changeBy l g qf 864 (ofF M k) (faceF M k) 1 (by omega) (by omega) (by omega) H.size) (va_cwS 3 hts gX2_countTriangles_X2_changeBy rfl rfl rfl (by decide +kernel) ⟨Nat.le_of_ble_eq_true rfl, Nat.le_of_ble_eq_true rfl⟩) (muS hE hS hPc_35 hDc_36 hFc_37) rfl rfl hl.1 rfl (lv_room (Nat.le_of_ble_eq_true rfl)) dX2_countTriangles_105 ⟨Nat.le_of_ble_eq_true rfl, Nat.le_of_ble_eq_true rfl⟩) hP hD hS hA [3] [0, 1, 2] [0, 1, 2, 3] rfl rfl (by decide) (by decide) (fun _ => [(qv, .inr (2, [.ref qs, .ref qn, .ref qf, .int (iI (((distL (blkF M) 288 k)) + 0)), .int (iI (((distL (faceF M) 864 k)) + 1)), .int (iI ((litK M k) + 1))])), (qs, .inl (gI g, 512, .inl (aI (faceF M)))), (qn, .inl (gI g, 512, .inl (aI (nearF M)))), (qf, .inl (gI g, 864, .inl (aI ((updI (ofF M k) (faceF M k) ((ofF M k) (faceF M k) + 1))))))]) (fun _ => rfl) (by decide) (Nat.le_of_ble_eq_true rfl) (Nat.le_of_ble_eq_true rfl) (fun u9 H locs hu_38 hP hD hS => ?_)
              have hP : va_P g.1 vwCl [(qv, .inr (2, [.ref qs, .ref qn, .ref qf, .int (iI (((distL (blkF M) 288 k)) + 0)), .int (iI (((distL (faceF M) 864 k)) + 1)), .int (iI ((litK M k) + 1))])), (qs, .inl (gI g, 512, .inl (aI (faceF M)))), (qn, .inl (gI g, 512, .inl (aI (nearF M)))), (qf, .inl (gI g, 864, .inl (aI ((updI (ofF M k) (faceF M k) ((ofF M k) (faceF M k) + 1))))))] H := hP
              have hD : va_D A [(qv, .inr (2, [.ref qs, .ref qn, .ref qf, .int (iI (((distL (blkF M) 288 k)) + 0)), .int (iI (((distL (faceF M) 864 k)) + 1)), .int (iI ((litK M k) + 1))])), (qs, .inl (gI g, 512, .inl (aI (faceF M)))), (qn, .inl (gI g, 512, .inl (aI (nearF M)))), (qf, .inl (gI g, 864, .inl (aI ((updI (ofF M k) (faceF M k) ((ofF M k) (faceF M k) + 1))))))] := hD
              refine lv_iinc (v := iI (k + 1)) (lv' := [(1, .int (iI (k + 1))), (2, .int (iI (faceF M k))), (0, .ref qv)]) hx hb dX2_countTriangles_108 hl (k := 2) rfl (iI_add _ _) (by decide) rfl (fun ls hl => ?_)
              refine lv_goto (tgt := 25) hx hb dX2_countTriangles_111 (by decide) ?_
              have hl : lv_has ls 3 [(1, .int (iI (k + 1))), (2, .int (iI (faceF M k))), (0, .ref qv)] := hl
              have hf_39 : ((distL (blkF M) 288 k)) + 0 = (distL (blkF M) 288 (k + 1)) := by first | (exact (distL_no gk (by have e9 := (face_none hM k).mp (by omega); unfold blkF; rw [if_pos e9]; decide)).symm) | (have e9 : M k ≠ 0 := fun q => absurd ((face_none hM k).mpr q) (by omega); rw [distL_s (by decide) gk (by rw [blk_face k e9]; omega) (by rw [blk_face k e9]; omega), blk_face k e9]; first | (rw [bI_t (by omega)]) | (rw [bI_f (by omega)]))
              have hP := hP.recl 0 rfl (.inr (2, [.ref qs, .ref qn, .ref qf, .int (iI ((distL (blkF M) 288 (k + 1)))), .int (iI (((distL (faceF M) 864 k)) + 1)), .int (iI ((litK M k) + 1))])) (congrArg (fun z9 => (Sum.inr (2, [.ref qs, .ref qn, .ref qf, .int (iI z9), .int (iI (((distL (faceF M) 864 k)) + 1)), .int (iI ((litK M k) + 1))]) : va_E)) hf_39)
              have hD := hD.set (p := 0) (e := .inr (2, [.ref qs, .ref qn, .ref qf, .int (iI ((distL (blkF M) 288 (k + 1)))), .int (iI (((distL (faceF M) 864 k)) + 1)), .int (iI ((litK M k) + 1))])) rfl
              have hf_40 : ((distL (faceF M) 864 k)) + 1 = (distL (faceF M) 864 (k + 1)) := by first | (exact (distL_no gk (by omega)).symm) | (rw [distL_s (by decide) gk (by omega) (by omega)]; have e8 : cntL (faceF M) (faceF M k) k = ofF M k (faceF M k) := rfl; first | (rw [bI_t (by omega)]) | (rw [bI_f (by omega)]))
              have hP := hP.recl 0 rfl (.inr (2, [.ref qs, .ref qn, .ref qf, .int (iI ((distL (blkF M) 288 (k + 1)))), .int (iI ((distL (faceF M) 864 (k + 1)))), .int (iI ((litK M k) + 1))])) (congrArg (fun z9 => (Sum.inr (2, [.ref qs, .ref qn, .ref qf, .int (iI ((distL (blkF M) 288 (k + 1)))), .int (iI z9), .int (iI ((litK M k) + 1))]) : va_E)) hf_40)
              have hD := hD.set (p := 0) (e := .inr (2, [.ref qs, .ref qn, .ref qf, .int (iI ((distL (blkF M) 288 (k + 1)))), .int (iI ((distL (faceF M) 864 (k + 1)))), .int (iI ((litK M k) + 1))])) rfl
              have hf_41 : (litK M k) + 1 = (litK M (k + 1)) := by first | (have e9 := (face_none hM k).mp (by omega); rw [litK_s gk, bI_f (by rw [e9]; exact fun q => q rfl)]; omega) | (have e9 : M k ≠ 0 := fun q => absurd ((face_none hM k).mpr q) (by omega); rw [litK_s gk, bI_t e9])
              have hP := hP.recl 0 rfl (.inr (2, [.ref qs, .ref qn, .ref qf, .int (iI ((distL (blkF M) 288 (k + 1)))), .int (iI ((distL (faceF M) 864 (k + 1)))), .int (iI (litK M (k + 1)))])) (congrArg (fun z9 => (Sum.inr (2, [.ref qs, .ref qn, .ref qf, .int (iI ((distL (blkF M) 288 (k + 1)))), .int (iI ((distL (faceF M) 864 (k + 1)))), .int (iI z9)]) : va_E)) hf_41)
              have hD := hD.set (p := 0) (e := .inr (2, [.ref qs, .ref qn, .ref qf, .int (iI ((distL (blkF M) 288 (k + 1)))), .int (iI ((distL (faceF M) 864 (k + 1)))), .int (iI (litK M (k + 1)))])) rfl
              have hP := hP.recell 3 rfl (ofF M (k + 1)) (fun j _ _ => ofF_s gk j)
              have hD := hD.set (p := 3) (e := .inl (gI g, 864, .inl (aI (ofF M (k + 1))))) rfl
              exact ih_6 (k + 1) (by omega) (by omega) _ _ hP hD hS _ (lv_sub hl [2, 0] rfl) (by omega)
          · skip
            refine lv_iconst (v := iI 1) hx hb dX2_countTriangles_58 rfl ?_
            refine lv_goto (tgt := 63) hx hb dX2_countTriangles_59 (by decide) ?_
            refine ln_iadd hx hb (((distL (blkF M) 288 k)) + 1) (rfl) dX2_countTriangles_63 ?_
            refine va_put (D := g.1) (ci := 2) (v := .int (iI (((distL (blkF M) 288 k)) + 1))) (ty := .int) (C := RX2) (T := TX2) (N := 6) hx hb hts in2 tyX2 tyX2_ok nmX2 hown hE.1 hP hD hS 0 rfl rfl 3 (by decide) w1 (fun _ h9 => h9) rfl (by decide +kernel) rfl rfl (Nat.le_of_ble_eq_true rfl) dX2_countTriangles_64 (fun H locs hP hD hS => ?_)
            have hP : va_P g.1 vwCl [(qv, .inr (2, [.ref qs, .ref qn, .ref qf, .int (iI (((distL (blkF M) 288 k)) + 1)), .int (iI ((distL (faceF M) 864 k))), .int (iI (litK M k))])), (qs, .inl (gI g, 512, .inl (aI (faceF M)))), (qn, .inl (gI g, 512, .inl (aI (nearF M)))), (qf, .inl (gI g, 864, .inl (aI (ofF M k))))] H := hP
            have hD : va_D A [(qv, .inr (2, [.ref qs, .ref qn, .ref qf, .int (iI (((distL (blkF M) 288 k)) + 1)), .int (iI ((distL (faceF M) 864 k))), .int (iI (litK M k))])), (qs, .inl (gI g, 512, .inl (aI (faceF M)))), (qn, .inl (gI g, 512, .inl (aI (nearF M)))), (qf, .inl (gI g, 864, .inl (aI (ofF M k))))] := hD
            refine lv_aload_n hx hb dX2_countTriangles_67 rfl (lv_at hl 1 rfl) ?_
            refine lv_dup hx hb dX2_countTriangles_68 rfl ?_
            refine va_get (D := g.1) (ci := 2) (v := .int (iI ((distL (faceF M) 864 k)))) (C := RX2) (T := TX2) (N := 6) hx hb hts in2 hown hE.1 hP 0 rfl rfl 4 (by decide) w2 (fun _ h9 => h9) rfl dX2_countTriangles_69 ?_
            refine lv_aload_n hx hb dX2_countTriangles_72 rfl (lv_at hl 1 rfl) ?_
            refine lv_iload_n hx hb dX2_countTriangles_73 rfl (lv_at hl 0 rfl) ?_
            have hPc_42 := hP.sub (ws' := [(qv, .inr (2, [.ref qs, .ref qn, .ref qf, .int (iI (((distL (blkF M) 288 k)) + 1)), .int (iI ((distL (faceF M) 864 k))), .int (iI (litK M k))])), (qs, .inl (gI g, 512, .inl (aI (faceF M)))), (qn, .inl (gI g, 512, .inl (aI (nearF M)))), (qf, .inl (gI g, 864, .inl (aI (ofF M k))))]) [0, 1, 2, 3] rfl
            refine pc_i (va_runV (As := [.int (iI (faceF M k))]) (rest := [.int (iI ((distL (faceF M) 864 k))), .ref qv]) ⟨hx, hb, hml, hown, hts⟩ (c_X2_trianglesOfFace l g qv qs qn qf M M k (((distL (blkF M) 288 k)) + 1) ((distL (faceF M) 864 k)) (litK M k) (faceF M k) (by omega) (by omega) (⟨gk, by omega⟩)) (cwV 1 hts gX2_countTriangles_X2_trianglesOfFace rfl rfl rfl (by decide +kernel) ⟨Nat.le_of_ble_eq_true rfl, Nat.le_of_ble_eq_true rfl⟩) (puV hE hS hPc_42 rfl rfl) rfl rfl hl.1 rfl (lv_room (Nat.le_of_ble_eq_true rfl)) dX2_countTriangles_74 ⟨Nat.le_of_ble_eq_true rfl, Nat.le_of_ble_eq_true rfl⟩) ?_
            have r_43 : 0 ≤ ofF M k (faceF M k) ∧ ofF M k (faceF M k) ≤ k := ofF_rg M (show 0 ≤ k ∧ k ≤ 512 from (⟨gk, by omega⟩)).1 (faceF M k)
            refine ln_if_ne (tgt := 84) hx hb dX2_countTriangles_77 (by decide) ⟨by omega, by omega⟩ (fun c_44 => ?_) (fun c_44 => ?_)
            · skip
              refine lv_iconst (v := iI 0) hx hb dX2_countTriangles_84 rfl ?_
              refine ln_iadd hx hb (((distL (faceF M) 864 k)) + 0) (rfl) dX2_countTriangles_85 ?_
              refine va_put (D := g.1) (ci := 2) (v := .int (iI (((distL (faceF M) 864 k)) + 0))) (ty := .int) (C := RX2) (T := TX2) (N := 6) hx hb hts in2 tyX2 tyX2_ok nmX2 hown hE.1 hP hD hS 0 rfl rfl 4 (by decide) w2 (fun _ h9 => h9) rfl (by decide +kernel) rfl rfl (Nat.le_of_ble_eq_true rfl) dX2_countTriangles_86 (fun H locs hP hD hS => ?_)
              have hP : va_P g.1 vwCl [(qv, .inr (2, [.ref qs, .ref qn, .ref qf, .int (iI (((distL (blkF M) 288 k)) + 1)), .int (iI (((distL (faceF M) 864 k)) + 0)), .int (iI (litK M k))])), (qs, .inl (gI g, 512, .inl (aI (faceF M)))), (qn, .inl (gI g, 512, .inl (aI (nearF M)))), (qf, .inl (gI g, 864, .inl (aI (ofF M k))))] H := hP
              have hD : va_D A [(qv, .inr (2, [.ref qs, .ref qn, .ref qf, .int (iI (((distL (blkF M) 288 k)) + 1)), .int (iI (((distL (faceF M) 864 k)) + 0)), .int (iI (litK M k))])), (qs, .inl (gI g, 512, .inl (aI (faceF M)))), (qn, .inl (gI g, 512, .inl (aI (nearF M)))), (qf, .inl (gI g, 864, .inl (aI (ofF M k))))] := hD
              refine lv_aload_n hx hb dX2_countTriangles_89 rfl (lv_at hl 1 rfl) ?_
              refine lv_dup hx hb dX2_countTriangles_90 rfl ?_
              refine va_get (D := g.1) (ci := 2) (v := .int (iI (litK M k))) (C := RX2) (T := TX2) (N := 6) hx hb hts in2 hown hE.1 hP 0 rfl rfl 5 (by decide) w3 (fun _ h9 => h9) rfl dX2_countTriangles_91 ?_
              refine lv_iconst (v := iI 1) hx hb dX2_countTriangles_94 rfl ?_
              refine ln_iadd hx hb ((litK M k) + 1) (rfl) dX2_countTriangles_95 ?_
              refine va_put (D := g.1) (ci := 2) (v := .int (iI ((litK M k) + 1))) (ty := .int) (C := RX2) (T := TX2) (N := 6) hx hb hts in2 tyX2 tyX2_ok nmX2 hown hE.1 hP hD hS 0 rfl rfl 5 (by decide) w3 (fun _ h9 => h9) rfl (by decide +kernel) rfl rfl (Nat.le_of_ble_eq_true rfl) dX2_countTriangles_96 (fun H locs hP hD hS => ?_)
              have hP : va_P g.1 vwCl [(qv, .inr (2, [.ref qs, .ref qn, .ref qf, .int (iI (((distL (blkF M) 288 k)) + 1)), .int (iI (((distL (faceF M) 864 k)) + 0)), .int (iI ((litK M k) + 1))])), (qs, .inl (gI g, 512, .inl (aI (faceF M)))), (qn, .inl (gI g, 512, .inl (aI (nearF M)))), (qf, .inl (gI g, 864, .inl (aI (ofF M k))))] H := hP
              have hD : va_D A [(qv, .inr (2, [.ref qs, .ref qn, .ref qf, .int (iI (((distL (blkF M) 288 k)) + 1)), .int (iI (((distL (faceF M) 864 k)) + 0)), .int (iI ((litK M k) + 1))])), (qs, .inl (gI g, 512, .inl (aI (faceF M)))), (qn, .inl (gI g, 512, .inl (aI (nearF M)))), (qf, .inl (gI g, 864, .inl (aI (ofF M k))))] := hD
              refine lv_aload_n hx hb dX2_countTriangles_99 rfl (lv_at hl 1 rfl) ?_
              refine va_get (D := g.1) (ci := 2) (v := .ref qf) (C := RX2) (T := TX2) (N := 6) hx hb hts in2 hown hE.1 hP 0 rfl rfl 2 (by decide) w0 (fun _ h9 => h9) rfl dX2_countTriangles_100 ?_
              refine lv_iload_n hx hb dX2_countTriangles_103 rfl (lv_at hl 0 rfl) ?_
              refine lv_iconst (v := iI 1) hx hb dX2_countTriangles_104 rfl ?_
              have hPc_45 := hP.sub (ws' := [(qf, .inl (gI g, 864, .inl (aI (ofF M k))))]) [3] rfl
              have hDc_46 := hD.sub (ws' := [(qf, .inl (gI g, 864, .inl (aI (ofF M k))))]) [3] (by decide) rfl
              have hFc_47 := va_free (wc := [(qf, .inl (gI g, 864, .inl (aI (ofF M k))))]) hD hS hA [3] rfl
              refine mc_v (wr := [(qv, .inr (2, [.ref qs, .ref qn, .ref qf, .int (iI (((distL (blkF M) 288 k)) + 1)), .int (iI (((distL (faceF M) 864 k)) + 0)), .int (iI ((litK M k) + 1))])), (qs, .inl (gI g, 512, .inl (aI (faceF M)))), (qn, .inl (gI g, 512, .inl (aI (nearF M))))]) (cells1 := 0) (slots1 := 0) (va_runS (As := [.ref qf, .int (iI (faceF M k)), .int (iI 1)]) (rest := []) ⟨hx, hb, hml, hown, hts⟩ (c_X2_changeBy l g qf 864 (ofF M k) (faceF M k) 1 (by omega) (by omega) (by omega) H.size) (va_cwS 3 hts gX2_countTriangles_X2_changeBy rfl rfl rfl (by decide +kernel) ⟨Nat.le_of_ble_eq_true rfl, Nat.le_of_ble_eq_true rfl⟩) (muS hE hS hPc_45 hDc_46 hFc_47) rfl rfl hl.1 rfl (lv_room (Nat.le_of_ble_eq_true rfl)) dX2_countTriangles_105 ⟨Nat.le_of_ble_eq_true rfl, Nat.le_of_ble_eq_true rfl⟩) hP hD hS hA [3] [0, 1, 2] [0, 1, 2, 3] rfl rfl (by decide) (by decide) (fun _ => [(qv, .inr (2, [.ref qs, .ref qn, .ref qf, .int (iI (((distL (blkF M) 288 k)) + 1)), .int (iI (((distL (faceF M) 864 k)) + 0)), .int (iI ((litK M k) + 1))])), (qs, .inl (gI g, 512, .inl (aI (faceF M)))), (qn, .inl (gI g, 512, .inl (aI (nearF M)))), (qf, .inl (gI g, 864, .inl (aI ((updI (ofF M k) (faceF M k) ((ofF M k) (faceF M k) + 1))))))]) (fun _ => rfl) (by decide) (Nat.le_of_ble_eq_true rfl) (Nat.le_of_ble_eq_true rfl) (fun u9 H locs hu_48 hP hD hS => ?_)
              have hP : va_P g.1 vwCl [(qv, .inr (2, [.ref qs, .ref qn, .ref qf, .int (iI (((distL (blkF M) 288 k)) + 1)), .int (iI (((distL (faceF M) 864 k)) + 0)), .int (iI ((litK M k) + 1))])), (qs, .inl (gI g, 512, .inl (aI (faceF M)))), (qn, .inl (gI g, 512, .inl (aI (nearF M)))), (qf, .inl (gI g, 864, .inl (aI ((updI (ofF M k) (faceF M k) ((ofF M k) (faceF M k) + 1))))))] H := hP
              have hD : va_D A [(qv, .inr (2, [.ref qs, .ref qn, .ref qf, .int (iI (((distL (blkF M) 288 k)) + 1)), .int (iI (((distL (faceF M) 864 k)) + 0)), .int (iI ((litK M k) + 1))])), (qs, .inl (gI g, 512, .inl (aI (faceF M)))), (qn, .inl (gI g, 512, .inl (aI (nearF M)))), (qf, .inl (gI g, 864, .inl (aI ((updI (ofF M k) (faceF M k) ((ofF M k) (faceF M k) + 1))))))] := hD
              refine lv_iinc (v := iI (k + 1)) (lv' := [(1, .int (iI (k + 1))), (2, .int (iI (faceF M k))), (0, .ref qv)]) hx hb dX2_countTriangles_108 hl (k := 2) rfl (iI_add _ _) (by decide) rfl (fun ls hl => ?_)
              refine lv_goto (tgt := 25) hx hb dX2_countTriangles_111 (by decide) ?_
              have hl : lv_has ls 3 [(1, .int (iI (k + 1))), (2, .int (iI (faceF M k))), (0, .ref qv)] := hl
              have hf_49 : ((distL (blkF M) 288 k)) + 1 = (distL (blkF M) 288 (k + 1)) := by first | (exact (distL_no gk (by have e9 := (face_none hM k).mp (by omega); unfold blkF; rw [if_pos e9]; decide)).symm) | (have e9 : M k ≠ 0 := fun q => absurd ((face_none hM k).mpr q) (by omega); rw [distL_s (by decide) gk (by rw [blk_face k e9]; omega) (by rw [blk_face k e9]; omega), blk_face k e9]; first | (rw [bI_t (by omega)]) | (rw [bI_f (by omega)]))
              have hP := hP.recl 0 rfl (.inr (2, [.ref qs, .ref qn, .ref qf, .int (iI ((distL (blkF M) 288 (k + 1)))), .int (iI (((distL (faceF M) 864 k)) + 0)), .int (iI ((litK M k) + 1))])) (congrArg (fun z9 => (Sum.inr (2, [.ref qs, .ref qn, .ref qf, .int (iI z9), .int (iI (((distL (faceF M) 864 k)) + 0)), .int (iI ((litK M k) + 1))]) : va_E)) hf_49)
              have hD := hD.set (p := 0) (e := .inr (2, [.ref qs, .ref qn, .ref qf, .int (iI ((distL (blkF M) 288 (k + 1)))), .int (iI (((distL (faceF M) 864 k)) + 0)), .int (iI ((litK M k) + 1))])) rfl
              have hf_50 : ((distL (faceF M) 864 k)) + 0 = (distL (faceF M) 864 (k + 1)) := by first | (exact (distL_no gk (by omega)).symm) | (rw [distL_s (by decide) gk (by omega) (by omega)]; have e8 : cntL (faceF M) (faceF M k) k = ofF M k (faceF M k) := rfl; first | (rw [bI_t (by omega)]) | (rw [bI_f (by omega)]))
              have hP := hP.recl 0 rfl (.inr (2, [.ref qs, .ref qn, .ref qf, .int (iI ((distL (blkF M) 288 (k + 1)))), .int (iI ((distL (faceF M) 864 (k + 1)))), .int (iI ((litK M k) + 1))])) (congrArg (fun z9 => (Sum.inr (2, [.ref qs, .ref qn, .ref qf, .int (iI ((distL (blkF M) 288 (k + 1)))), .int (iI z9), .int (iI ((litK M k) + 1))]) : va_E)) hf_50)
              have hD := hD.set (p := 0) (e := .inr (2, [.ref qs, .ref qn, .ref qf, .int (iI ((distL (blkF M) 288 (k + 1)))), .int (iI ((distL (faceF M) 864 (k + 1)))), .int (iI ((litK M k) + 1))])) rfl
              have hf_51 : (litK M k) + 1 = (litK M (k + 1)) := by first | (have e9 := (face_none hM k).mp (by omega); rw [litK_s gk, bI_f (by rw [e9]; exact fun q => q rfl)]; omega) | (have e9 : M k ≠ 0 := fun q => absurd ((face_none hM k).mpr q) (by omega); rw [litK_s gk, bI_t e9])
              have hP := hP.recl 0 rfl (.inr (2, [.ref qs, .ref qn, .ref qf, .int (iI ((distL (blkF M) 288 (k + 1)))), .int (iI ((distL (faceF M) 864 (k + 1)))), .int (iI (litK M (k + 1)))])) (congrArg (fun z9 => (Sum.inr (2, [.ref qs, .ref qn, .ref qf, .int (iI ((distL (blkF M) 288 (k + 1)))), .int (iI ((distL (faceF M) 864 (k + 1)))), .int (iI z9)]) : va_E)) hf_51)
              have hD := hD.set (p := 0) (e := .inr (2, [.ref qs, .ref qn, .ref qf, .int (iI ((distL (blkF M) 288 (k + 1)))), .int (iI ((distL (faceF M) 864 (k + 1)))), .int (iI (litK M (k + 1)))])) rfl
              have hP := hP.recell 3 rfl (ofF M (k + 1)) (fun j _ _ => ofF_s gk j)
              have hD := hD.set (p := 3) (e := .inl (gI g, 864, .inl (aI (ofF M (k + 1))))) rfl
              exact ih_6 (k + 1) (by omega) (by omega) _ _ hP hD hS _ (lv_sub hl [2, 0] rfl) (by omega)
            · skip
              refine lv_iconst (v := iI 1) hx hb dX2_countTriangles_80 rfl ?_
              refine lv_goto (tgt := 85) hx hb dX2_countTriangles_81 (by decide) ?_
              refine ln_iadd hx hb (((distL (faceF M) 864 k)) + 1) (rfl) dX2_countTriangles_85 ?_
              refine va_put (D := g.1) (ci := 2) (v := .int (iI (((distL (faceF M) 864 k)) + 1))) (ty := .int) (C := RX2) (T := TX2) (N := 6) hx hb hts in2 tyX2 tyX2_ok nmX2 hown hE.1 hP hD hS 0 rfl rfl 4 (by decide) w2 (fun _ h9 => h9) rfl (by decide +kernel) rfl rfl (Nat.le_of_ble_eq_true rfl) dX2_countTriangles_86 (fun H locs hP hD hS => ?_)
              have hP : va_P g.1 vwCl [(qv, .inr (2, [.ref qs, .ref qn, .ref qf, .int (iI (((distL (blkF M) 288 k)) + 1)), .int (iI (((distL (faceF M) 864 k)) + 1)), .int (iI (litK M k))])), (qs, .inl (gI g, 512, .inl (aI (faceF M)))), (qn, .inl (gI g, 512, .inl (aI (nearF M)))), (qf, .inl (gI g, 864, .inl (aI (ofF M k))))] H := hP
              have hD : va_D A [(qv, .inr (2, [.ref qs, .ref qn, .ref qf, .int (iI (((distL (blkF M) 288 k)) + 1)), .int (iI (((distL (faceF M) 864 k)) + 1)), .int (iI (litK M k))])), (qs, .inl (gI g, 512, .inl (aI (faceF M)))), (qn, .inl (gI g, 512, .inl (aI (nearF M)))), (qf, .inl (gI g, 864, .inl (aI (ofF M k))))] := hD
              refine lv_aload_n hx hb dX2_countTriangles_89 rfl (lv_at hl 1 rfl) ?_
              refine lv_dup hx hb dX2_countTriangles_90 rfl ?_
              refine va_get (D := g.1) (ci := 2) (v := .int (iI (litK M k))) (C := RX2) (T := TX2) (N := 6) hx hb hts in2 hown hE.1 hP 0 rfl rfl 5 (by decide) w3 (fun _ h9 => h9) rfl dX2_countTriangles_91 ?_
              refine lv_iconst (v := iI 1) hx hb dX2_countTriangles_94 rfl ?_
              refine ln_iadd hx hb ((litK M k) + 1) (rfl) dX2_countTriangles_95 ?_
              refine va_put (D := g.1) (ci := 2) (v := .int (iI ((litK M k) + 1))) (ty := .int) (C := RX2) (T := TX2) (N := 6) hx hb hts in2 tyX2 tyX2_ok nmX2 hown hE.1 hP hD hS 0 rfl rfl 5 (by decide) w3 (fun _ h9 => h9) rfl (by decide +kernel) rfl rfl (Nat.le_of_ble_eq_true rfl) dX2_countTriangles_96 (fun H locs hP hD hS => ?_)
              have hP : va_P g.1 vwCl [(qv, .inr (2, [.ref qs, .ref qn, .ref qf, .int (iI (((distL (blkF M) 288 k)) + 1)), .int (iI (((distL (faceF M) 864 k)) + 1)), .int (iI ((litK M k) + 1))])), (qs, .inl (gI g, 512, .inl (aI (faceF M)))), (qn, .inl (gI g, 512, .inl (aI (nearF M)))), (qf, .inl (gI g, 864, .inl (aI (ofF M k))))] H := hP
              have hD : va_D A [(qv, .inr (2, [.ref qs, .ref qn, .ref qf, .int (iI (((distL (blkF M) 288 k)) + 1)), .int (iI (((distL (faceF M) 864 k)) + 1)), .int (iI ((litK M k) + 1))])), (qs, .inl (gI g, 512, .inl (aI (faceF M)))), (qn, .inl (gI g, 512, .inl (aI (nearF M)))), (qf, .inl (gI g, 864, .inl (aI (ofF M k))))] := hD
              refine lv_aload_n hx hb dX2_countTriangles_99 rfl (lv_at hl 1 rfl) ?_
              refine va_get (D := g.1) (ci := 2) (v := .ref qf) (C := RX2) (T := TX2) (N := 6) hx hb hts in2 hown hE.1 hP 0 rfl rfl 2 (by decide) w0 (fun _ h9 => h9) rfl dX2_countTriangles_100 ?_
              refine lv_iload_n hx hb dX2_countTriangles_103 rfl (lv_at hl 0 rfl) ?_
              refine lv_iconst (v := iI 1) hx hb dX2_countTriangles_104 rfl ?_
              have hPc_52 := hP.sub (ws' := [(qf, .inl (gI g, 864, .inl (aI (ofF M k))))]) [3] rfl
              have hDc_53 := hD.sub (ws' := [(qf, .inl (gI g, 864, .inl (aI (ofF M k))))]) [3] (by decide) rfl
              have hFc_54 := va_free (wc := [(qf, .inl (gI g, 864, .inl (aI (ofF M k))))]) hD hS hA [3] rfl
              refine mc_v (wr := [(qv, .inr (2, [.ref qs, .ref qn, .ref qf, .int (iI (((distL (blkF M) 288 k)) + 1)), .int (iI (((distL (faceF M) 864 k)) + 1)), .int (iI ((litK M k) + 1))])), (qs, .inl (gI g, 512, .inl (aI (faceF M)))), (qn, .inl (gI g, 512, .inl (aI (nearF M))))]) (cells1 := 0) (slots1 := 0) (va_runS (As := [.ref qf, .int (iI (faceF M k)), .int (iI 1)]) (rest := []) ⟨hx, hb, hml, hown, hts⟩ (c_X2_changeBy l g qf 864 (ofF M k) (faceF M k) 1 (by omega) (by omega) (by omega) H.size) (va_cwS 3 hts gX2_countTriangles_X2_changeBy rfl rfl rfl (by decide +kernel) ⟨Nat.le_of_ble_eq_true rfl, Nat.le_of_ble_eq_true rfl⟩) (muS hE hS hPc_52 hDc_53 hFc_54) rfl rfl hl.1 rfl (lv_room (Nat.le_of_ble_eq_true rfl)) dX2_countTriangles_105 ⟨Nat.le_of_ble_eq_true rfl, Nat.le_of_ble_eq_true rfl⟩) hP hD hS hA [3] [0, 1, 2] [0, 1, 2, 3] rfl rfl (by decide) (by decide) (fun _ => [(qv, .inr (2, [.ref qs, .ref qn, .ref qf, .int (iI (((distL (blkF M) 288 k)) + 1)), .int (iI (((distL (faceF M) 864 k)) + 1)), .int (iI ((litK M k) + 1))])), (qs, .inl (gI g, 512, .inl (aI (faceF M)))), (qn, .inl (gI g, 512, .inl (aI (nearF M)))), (qf, .inl (gI g, 864, .inl (aI ((updI (ofF M k) (faceF M k) ((ofF M k) (faceF M k) + 1))))))]) (fun _ => rfl) (by decide) (Nat.le_of_ble_eq_true rfl) (Nat.le_of_ble_eq_true rfl) (fun u9 H locs hu_55 hP hD hS => ?_)
              have hP : va_P g.1 vwCl [(qv, .inr (2, [.ref qs, .ref qn, .ref qf, .int (iI (((distL (blkF M) 288 k)) + 1)), .int (iI (((distL (faceF M) 864 k)) + 1)), .int (iI ((litK M k) + 1))])), (qs, .inl (gI g, 512, .inl (aI (faceF M)))), (qn, .inl (gI g, 512, .inl (aI (nearF M)))), (qf, .inl (gI g, 864, .inl (aI ((updI (ofF M k) (faceF M k) ((ofF M k) (faceF M k) + 1))))))] H := hP
              have hD : va_D A [(qv, .inr (2, [.ref qs, .ref qn, .ref qf, .int (iI (((distL (blkF M) 288 k)) + 1)), .int (iI (((distL (faceF M) 864 k)) + 1)), .int (iI ((litK M k) + 1))])), (qs, .inl (gI g, 512, .inl (aI (faceF M)))), (qn, .inl (gI g, 512, .inl (aI (nearF M)))), (qf, .inl (gI g, 864, .inl (aI ((updI (ofF M k) (faceF M k) ((ofF M k) (faceF M k) + 1))))))] := hD
              refine lv_iinc (v := iI (k + 1)) (lv' := [(1, .int (iI (k + 1))), (2, .int (iI (faceF M k))), (0, .ref qv)]) hx hb dX2_countTriangles_108 hl (k := 2) rfl (iI_add _ _) (by decide) rfl (fun ls hl => ?_)
              refine lv_goto (tgt := 25) hx hb dX2_countTriangles_111 (by decide) ?_
              have hl : lv_has ls 3 [(1, .int (iI (k + 1))), (2, .int (iI (faceF M k))), (0, .ref qv)] := hl
              have hf_56 : ((distL (blkF M) 288 k)) + 1 = (distL (blkF M) 288 (k + 1)) := by first | (exact (distL_no gk (by have e9 := (face_none hM k).mp (by omega); unfold blkF; rw [if_pos e9]; decide)).symm) | (have e9 : M k ≠ 0 := fun q => absurd ((face_none hM k).mpr q) (by omega); rw [distL_s (by decide) gk (by rw [blk_face k e9]; omega) (by rw [blk_face k e9]; omega), blk_face k e9]; first | (rw [bI_t (by omega)]) | (rw [bI_f (by omega)]))
              have hP := hP.recl 0 rfl (.inr (2, [.ref qs, .ref qn, .ref qf, .int (iI ((distL (blkF M) 288 (k + 1)))), .int (iI (((distL (faceF M) 864 k)) + 1)), .int (iI ((litK M k) + 1))])) (congrArg (fun z9 => (Sum.inr (2, [.ref qs, .ref qn, .ref qf, .int (iI z9), .int (iI (((distL (faceF M) 864 k)) + 1)), .int (iI ((litK M k) + 1))]) : va_E)) hf_56)
              have hD := hD.set (p := 0) (e := .inr (2, [.ref qs, .ref qn, .ref qf, .int (iI ((distL (blkF M) 288 (k + 1)))), .int (iI (((distL (faceF M) 864 k)) + 1)), .int (iI ((litK M k) + 1))])) rfl
              have hf_57 : ((distL (faceF M) 864 k)) + 1 = (distL (faceF M) 864 (k + 1)) := by first | (exact (distL_no gk (by omega)).symm) | (rw [distL_s (by decide) gk (by omega) (by omega)]; have e8 : cntL (faceF M) (faceF M k) k = ofF M k (faceF M k) := rfl; first | (rw [bI_t (by omega)]) | (rw [bI_f (by omega)]))
              have hP := hP.recl 0 rfl (.inr (2, [.ref qs, .ref qn, .ref qf, .int (iI ((distL (blkF M) 288 (k + 1)))), .int (iI ((distL (faceF M) 864 (k + 1)))), .int (iI ((litK M k) + 1))])) (congrArg (fun z9 => (Sum.inr (2, [.ref qs, .ref qn, .ref qf, .int (iI ((distL (blkF M) 288 (k + 1)))), .int (iI z9), .int (iI ((litK M k) + 1))]) : va_E)) hf_57)
              have hD := hD.set (p := 0) (e := .inr (2, [.ref qs, .ref qn, .ref qf, .int (iI ((distL (blkF M) 288 (k + 1)))), .int (iI ((distL (faceF M) 864 (k + 1)))), .int (iI ((litK M k) + 1))])) rfl
              have hf_58 : (litK M k) + 1 = (litK M (k + 1)) := by first | (have e9 := (face_none hM k).mp (by omega); rw [litK_s gk, bI_f (by rw [e9]; exact fun q => q rfl)]; omega) | (have e9 : M k ≠ 0 := fun q => absurd ((face_none hM k).mpr q) (by omega); rw [litK_s gk, bI_t e9])
              have hP := hP.recl 0 rfl (.inr (2, [.ref qs, .ref qn, .ref qf, .int (iI ((distL (blkF M) 288 (k + 1)))), .int (iI ((distL (faceF M) 864 (k + 1)))), .int (iI (litK M (k + 1)))])) (congrArg (fun z9 => (Sum.inr (2, [.ref qs, .ref qn, .ref qf, .int (iI ((distL (blkF M) 288 (k + 1)))), .int (iI ((distL (faceF M) 864 (k + 1)))), .int (iI z9)]) : va_E)) hf_58)
              have hD := hD.set (p := 0) (e := .inr (2, [.ref qs, .ref qn, .ref qf, .int (iI ((distL (blkF M) 288 (k + 1)))), .int (iI ((distL (faceF M) 864 (k + 1)))), .int (iI (litK M (k + 1)))])) rfl
              have hP := hP.recell 3 rfl (ofF M (k + 1)) (fun j _ _ => ofF_s gk j)
              have hD := hD.set (p := 3) (e := .inl (gI g, 864, .inl (aI (ofF M (k + 1))))) rfl
              exact ih_6 (k + 1) (by omega) (by omega) _ _ hP hD hS _ (lv_sub hl [2, 0] rfl) (by omega)
  have hl : lv_has ls 3 [(1, .int (iI 0)), (0, .ref qv)] := hl
  have hf_59 : 0 = (distL (blkF M) 288 0) := distL_0.symm
  have hP := hP.recl 0 rfl (.inr (2, [.ref qs, .ref qn, .ref qf, .int (iI ((distL (blkF M) 288 0))), .int (iI 0), .int (iI 0)])) (congrArg (fun z9 => (Sum.inr (2, [.ref qs, .ref qn, .ref qf, .int (iI z9), .int (iI 0), .int (iI 0)]) : va_E)) hf_59)
  have hD := hD.set (p := 0) (e := .inr (2, [.ref qs, .ref qn, .ref qf, .int (iI ((distL (blkF M) 288 0))), .int (iI 0), .int (iI 0)])) rfl
  have hf_60 : 0 = (distL (faceF M) 864 0) := distL_0.symm
  have hP := hP.recl 0 rfl (.inr (2, [.ref qs, .ref qn, .ref qf, .int (iI ((distL (blkF M) 288 0))), .int (iI ((distL (faceF M) 864 0))), .int (iI 0)])) (congrArg (fun z9 => (Sum.inr (2, [.ref qs, .ref qn, .ref qf, .int (iI ((distL (blkF M) 288 0))), .int (iI z9), .int (iI 0)]) : va_E)) hf_60)
  have hD := hD.set (p := 0) (e := .inr (2, [.ref qs, .ref qn, .ref qf, .int (iI ((distL (blkF M) 288 0))), .int (iI ((distL (faceF M) 864 0))), .int (iI 0)])) rfl
  have hf_61 : 0 = (litK M 0) := rfl
  have hP := hP.recl 0 rfl (.inr (2, [.ref qs, .ref qn, .ref qf, .int (iI ((distL (blkF M) 288 0))), .int (iI ((distL (faceF M) 864 0))), .int (iI (litK M 0))])) (congrArg (fun z9 => (Sum.inr (2, [.ref qs, .ref qn, .ref qf, .int (iI ((distL (blkF M) 288 0))), .int (iI ((distL (faceF M) 864 0))), .int (iI z9)]) : va_E)) hf_61)
  have hD := hD.set (p := 0) (e := .inr (2, [.ref qs, .ref qn, .ref qf, .int (iI ((distL (blkF M) 288 0))), .int (iI ((distL (faceF M) 864 0))), .int (iI (litK M 0))])) rfl
  have hP := hP.recell 3 rfl (ofF M 0) (fun j _ _ => rfl)
  have hD := hD.set (p := 3) (e := .inl (gI g, 864, .inl (aI (ofF M 0)))) rfl
  exact L25 _ 0 (by omega) (by omega) _ _ hP hD hS _ (lv_sub hl [1, 0] rfl) (Nat.lt_succ_self _)
set_option maxHeartbeats 800000 in
set_option maxRecDepth 100000 in
theorem c_X2_draw (l : Launch) (g : GT) (qv : Nat) (qs : Nat) (qn : Nat) (qf : Nat) (s9 : Int → Int) (e9 : Int → Int) (F : Int → Int) (vb : Int) (vg : Int) (vt : Int) (qy : Nat) (qh : Nat) (qc : Nat) (n : Int) (ho : Int) (h : Int → Int) (c : Int → Int) (hY : YOk n ho h c) : MutV l yX2_draw wsX2_draw ({ frames := 3, cells := 0, slots := 0, locals := 72 }) 0 0 g [(qv, .inr (2, [.ref qs, .ref qn, .ref qf, .int (iI vb), .int (iI vg), .int (iI vt)])), (qs, .inl (gI g, 512, .inl (aI s9))), (qn, .inl (gI g, 512, .inl (aI e9))), (qf, .inl (gI g, 864, .inl (aI F))), (qy, .inr (3, [.ref qh, .ref qc, .int (iI n), .int (iI ho)])), (qh, .inl (gI g, 36, .inl (aI h))), (qc, .inl (gI g, 36, .inl (aI c)))] [.ref qv, .ref qy] (S := Unit) (fun _ => True) (fun _ => [(qv, .inr (2, [.ref qs, .ref qn, .ref qf, .int (iI ((distL (blkF (picM n h)) 288 512))), .int (iI ((distL (faceF (picM n h)) 864 512))), .int (iI ((litK (picM n h) 512)))])), (qs, .inl (gI g, 512, .inl (aI ((faceF (picM n h)))))), (qn, .inl (gI g, 512, .inl (aI ((nearF (picM n h)))))), (qf, .inl (gI g, 864, .inl (aI ((ofF (picM n h) 512))))), (qy, .inr (3, [.ref qh, .ref qc, .int (iI n), .int (iI ho)])), (qh, .inl (gI g, 36, .inl (aI h))), (qc, .inl (gI g, 36, .inl (aI c)))]) := by
  refine mut_of (y := yX2_draw) (ws := wsX2_draw) (av := [.ref qv, .ref qy]) (w := [(qv, .inr (2, [.ref qs, .ref qn, .ref qf, .int (iI vb), .int (iI vg), .int (iI vt)])), (qs, .inl (gI g, 512, .inl (aI s9))), (qn, .inl (gI g, 512, .inl (aI e9))), (qf, .inl (gI g, 864, .inl (aI F))), (qy, .inr (3, [.ref qh, .ref qc, .int (iI n), .int (iI ho)])), (qh, .inl (gI g, 36, .inl (aI h))), (qc, .inl (gI g, 36, .inl (aI c)))]) (Qc := fun A => va_Qv (fun (u9 : Unit) => (fun _ => True) u9) (fun u9 t9 => MB g ((fun _ => [(qv, .inr (2, [.ref qs, .ref qn, .ref qf, .int (iI ((distL (blkF (picM n h)) 288 512))), .int (iI ((distL (faceF (picM n h)) 864 512))), .int (iI ((litK (picM n h) 512)))])), (qs, .inl (gI g, 512, .inl (aI ((faceF (picM n h)))))), (qn, .inl (gI g, 512, .inl (aI ((nearF (picM n h)))))), (qf, .inl (gI g, 864, .inl (aI ((ofF (picM n h) 512))))), (qy, .inr (3, [.ref qh, .ref qc, .int (iI n), .int (iI ho)])), (qh, .inl (gI g, 36, .inl (aI h))), (qc, .inl (gI g, 36, .inl (aI c)))]) u9) A t9) A) (cc := cX2_draw) (maxL := 6) (ret := none) (by decide) rfl (Nat.le_of_ble_eq_true rfl) ?_
  intro pZ eZ sZ mZ bZ meZ cZ A F hin hA hP hD hE hS ls hl
  obtain ⟨hx, hb, hr, hml, hts, hown, hlk⟩ := F
  skip
  have hown : sZ.vm.findClass RX2 = some mZ.cls := hown
  have hl : lv_has ls 6 [(0, .ref qv), (1, .ref qy)] := hl
  skip
  have w0 := hts (.fieldLink RX2 9 "SlantYard$View" "shown" "[I") (by decide +kernel)
  have w1 := hts (.fieldLink RX2 15 "SlantYard$View" "nearness" "[I") (by decide +kernel)
  have in2 : ∀ w ∈ u_ws RX2 TX2 6, w ∈ wsX2_draw := by decide +kernel
  have in3 : ∀ w ∈ u_ws RX3 TX3 4, w ∈ wsX2_draw := by decide +kernel
  have hnn := hY.n
  have hho := hY.hr
  refine lv_aload_n hx hb dX2_draw_0 rfl (lv_at hl 0 rfl) ?_
  refine va_get (D := g.1) (ci := 2) (v := .ref qs) (C := RX2) (T := TX2) (N := 6) hx hb hts in2 hown hE.1 hP 0 rfl rfl 0 (by decide) w0 (fun _ h9 => h9) rfl dX2_draw_1 ?_
  refine lv_iconst (v := iI (-1)) hx hb dX2_draw_4 rfl ?_
  have hPc_1 := hP.sub (ws' := [(qs, .inl (gI g, 512, .inl (aI s9)))]) [1] rfl
  have hDc_2 := hD.sub (ws' := [(qs, .inl (gI g, 512, .inl (aI s9)))]) [1] (by decide) rfl
  have hFc_3 := va_free (wc := [(qs, .inl (gI g, 512, .inl (aI s9)))]) hD hS hA [1] rfl
  refine mc_v (wr := [(qv, .inr (2, [.ref qs, .ref qn, .ref qf, .int (iI vb), .int (iI vg), .int (iI vt)])), (qn, .inl (gI g, 512, .inl (aI e9))), (qf, .inl (gI g, 864, .inl (aI F))), (qy, .inr (3, [.ref qh, .ref qc, .int (iI n), .int (iI ho)])), (qh, .inl (gI g, 36, .inl (aI h))), (qc, .inl (gI g, 36, .inl (aI c)))]) (cells1 := 0) (slots1 := 0) (va_runS (As := [.ref qs, .int (iI (-1))]) (rest := []) ⟨hx, hb, hml, hown, hts⟩ (c_J7_fill_53178 l g qs 512 s9 (-1) (by omega) sZ.heap.size) (va_cwS 2 hts gX2_draw_J7_fill_53178 rfl rfl rfl (by decide +kernel) ⟨Nat.le_of_ble_eq_true rfl, Nat.le_of_ble_eq_true rfl⟩) (muS hE hS hPc_1 hDc_2 hFc_3) rfl rfl hl.1 rfl (lv_room (Nat.le_of_ble_eq_true rfl)) dX2_draw_5 ⟨Nat.le_of_ble_eq_true rfl, Nat.le_of_ble_eq_true rfl⟩) hP hD hS hA [1] [0, 2, 3, 4, 5, 6] [0, 6, 1, 2, 3, 4, 5] rfl rfl (by decide) (by decide) (fun _ => [(qv, .inr (2, [.ref qs, .ref qn, .ref qf, .int (iI vb), .int (iI vg), .int (iI vt)])), (qs, .inl (gI g, 512, .inl (aI (fun _ => (-1))))), (qn, .inl (gI g, 512, .inl (aI e9))), (qf, .inl (gI g, 864, .inl (aI F))), (qy, .inr (3, [.ref qh, .ref qc, .int (iI n), .int (iI ho)])), (qh, .inl (gI g, 36, .inl (aI h))), (qc, .inl (gI g, 36, .inl (aI c)))]) (fun _ => rfl) (by decide) (Nat.le_of_ble_eq_true rfl) (Nat.le_of_ble_eq_true rfl) (fun u9 H locs hu_4 hP hD hS => ?_)
  have hP : va_P g.1 vwCl [(qv, .inr (2, [.ref qs, .ref qn, .ref qf, .int (iI vb), .int (iI vg), .int (iI vt)])), (qs, .inl (gI g, 512, .inl (aI (fun _ => (-1))))), (qn, .inl (gI g, 512, .inl (aI e9))), (qf, .inl (gI g, 864, .inl (aI F))), (qy, .inr (3, [.ref qh, .ref qc, .int (iI n), .int (iI ho)])), (qh, .inl (gI g, 36, .inl (aI h))), (qc, .inl (gI g, 36, .inl (aI c)))] H := hP
  have hD : va_D A [(qv, .inr (2, [.ref qs, .ref qn, .ref qf, .int (iI vb), .int (iI vg), .int (iI vt)])), (qs, .inl (gI g, 512, .inl (aI (fun _ => (-1))))), (qn, .inl (gI g, 512, .inl (aI e9))), (qf, .inl (gI g, 864, .inl (aI F))), (qy, .inr (3, [.ref qh, .ref qc, .int (iI n), .int (iI ho)])), (qh, .inl (gI g, 36, .inl (aI h))), (qc, .inl (gI g, 36, .inl (aI c)))] := hD
  refine lv_aload_n hx hb dX2_draw_8 rfl (lv_at hl 0 rfl) ?_
  refine va_get (D := g.1) (ci := 2) (v := .ref qn) (C := RX2) (T := TX2) (N := 6) hx hb hts in2 hown hE.1 hP 0 rfl rfl 1 (by decide) w1 (fun _ h9 => h9) rfl dX2_draw_9 ?_
  refine lv_iconst (v := iI (-1)) hx hb dX2_draw_12 rfl ?_
  have hPc_5 := hP.sub (ws' := [(qn, .inl (gI g, 512, .inl (aI e9)))]) [2] rfl
  have hDc_6 := hD.sub (ws' := [(qn, .inl (gI g, 512, .inl (aI e9)))]) [2] (by decide) rfl
  have hFc_7 := va_free (wc := [(qn, .inl (gI g, 512, .inl (aI e9)))]) hD hS hA [2] rfl
  refine mc_v (wr := [(qv, .inr (2, [.ref qs, .ref qn, .ref qf, .int (iI vb), .int (iI vg), .int (iI vt)])), (qs, .inl (gI g, 512, .inl (aI (fun _ => (-1))))), (qf, .inl (gI g, 864, .inl (aI F))), (qy, .inr (3, [.ref qh, .ref qc, .int (iI n), .int (iI ho)])), (qh, .inl (gI g, 36, .inl (aI h))), (qc, .inl (gI g, 36, .inl (aI c)))]) (cells1 := 0) (slots1 := 0) (va_runS (As := [.ref qn, .int (iI (-1))]) (rest := []) ⟨hx, hb, hml, hown, hts⟩ (c_J7_fill_53178 l g qn 512 e9 (-1) (by omega) H.size) (va_cwS 2 hts gX2_draw_J7_fill_53178 rfl rfl rfl (by decide +kernel) ⟨Nat.le_of_ble_eq_true rfl, Nat.le_of_ble_eq_true rfl⟩) (muS hE hS hPc_5 hDc_6 hFc_7) rfl rfl hl.1 rfl (lv_room (Nat.le_of_ble_eq_true rfl)) dX2_draw_13 ⟨Nat.le_of_ble_eq_true rfl, Nat.le_of_ble_eq_true rfl⟩) hP hD hS hA [2] [0, 1, 3, 4, 5, 6] [0, 1, 6, 2, 3, 4, 5] rfl rfl (by decide) (by decide) (fun _ => [(qv, .inr (2, [.ref qs, .ref qn, .ref qf, .int (iI vb), .int (iI vg), .int (iI vt)])), (qs, .inl (gI g, 512, .inl (aI (fun _ => (-1))))), (qn, .inl (gI g, 512, .inl (aI (fun _ => (-1))))), (qf, .inl (gI g, 864, .inl (aI F))), (qy, .inr (3, [.ref qh, .ref qc, .int (iI n), .int (iI ho)])), (qh, .inl (gI g, 36, .inl (aI h))), (qc, .inl (gI g, 36, .inl (aI c)))]) (fun _ => rfl) (by decide) (Nat.le_of_ble_eq_true rfl) (Nat.le_of_ble_eq_true rfl) (fun u9 H locs hu_8 hP hD hS => ?_)
  have hP : va_P g.1 vwCl [(qv, .inr (2, [.ref qs, .ref qn, .ref qf, .int (iI vb), .int (iI vg), .int (iI vt)])), (qs, .inl (gI g, 512, .inl (aI (fun _ => (-1))))), (qn, .inl (gI g, 512, .inl (aI (fun _ => (-1))))), (qf, .inl (gI g, 864, .inl (aI F))), (qy, .inr (3, [.ref qh, .ref qc, .int (iI n), .int (iI ho)])), (qh, .inl (gI g, 36, .inl (aI h))), (qc, .inl (gI g, 36, .inl (aI c)))] H := hP
  have hD : va_D A [(qv, .inr (2, [.ref qs, .ref qn, .ref qf, .int (iI vb), .int (iI vg), .int (iI vt)])), (qs, .inl (gI g, 512, .inl (aI (fun _ => (-1))))), (qn, .inl (gI g, 512, .inl (aI (fun _ => (-1))))), (qf, .inl (gI g, 864, .inl (aI F))), (qy, .inr (3, [.ref qh, .ref qc, .int (iI n), .int (iI ho)])), (qh, .inl (gI g, 36, .inl (aI h))), (qc, .inl (gI g, 36, .inl (aI c)))] := hD
  refine lv_iconst (v := iI 0) hx hb dX2_draw_16 rfl ?_
  refine lv_istore_n (lv' := [(2, .int (iI 0)), (0, .ref qv), (1, .ref qy)]) hx hb dX2_draw_17 rfl hl (by decide) rfl (fun ls hl => ?_)
  have L18 : ∀ (k_9 : Nat) (y : Int) (gy : 0 ≤ y) (ly : y ≤ n) (H : Heap) (locs : List Loc), va_P g.1 vwCl [(qv, .inr (2, [.ref qs, .ref qn, .ref qf, .int (iI vb), .int (iI vg), .int (iI vt)])), (qs, .inl (gI g, 512, .inl (aI ((faceF (drawYK n h y)))))), (qn, .inl (gI g, 512, .inl (aI ((nearF (drawYK n h y)))))), (qf, .inl (gI g, 864, .inl (aI F))), (qy, .inr (3, [.ref qh, .ref qc, .int (iI n), .int (iI ho)])), (qh, .inl (gI g, 36, .inl (aI h))), (qc, .inl (gI g, 36, .inl (aI c)))] H → va_D A [(qv, .inr (2, [.ref qs, .ref qn, .ref qf, .int (iI vb), .int (iI vg), .int (iI vt)])), (qs, .inl (gI g, 512, .inl (aI ((faceF (drawYK n h y)))))), (qn, .inl (gI g, 512, .inl (aI ((nearF (drawYK n h y)))))), (qf, .inl (gI g, 864, .inl (aI F))), (qy, .inr (3, [.ref qh, .ref qc, .int (iI n), .int (iI ho)])), (qh, .inl (gI g, 36, .inl (aI h))), (qc, .inl (gI g, 36, .inl (aI c)))] → va_S A sZ.heap H locs → ∀ (ls : Array Slot), lv_has ls 6 [(0, .ref qv), (1, .ref qy), (2, .int (iI y))] → (n - y).toNat < k_9 → W pZ l eZ ({ frames := 3, cells := 0, slots := 0, locals := 72 } : Room) sZ mZ [.ref qv, .ref qy].toArray bZ meZ cZ H locs 0 0 (MQ bZ (va_Qv (fun (u9 : Unit) => (fun _ => True) u9) (fun u9 t9 => MB g ((fun _ => [(qv, .inr (2, [.ref qs, .ref qn, .ref qf, .int (iI ((distL (blkF (picM n h)) 288 512))), .int (iI ((distL (faceF (picM n h)) 864 512))), .int (iI ((litK (picM n h) 512)))])), (qs, .inl (gI g, 512, .inl (aI ((faceF (picM n h)))))), (qn, .inl (gI g, 512, .inl (aI ((nearF (picM n h)))))), (qf, .inl (gI g, 864, .inl (aI ((ofF (picM n h) 512))))), (qy, .inr (3, [.ref qh, .ref qc, .int (iI n), .int (iI ho)])), (qh, .inl (gI g, 36, .inl (aI h))), (qc, .inl (gI g, 36, .inl (aI c)))]) u9) A t9) A) [.ref qv, .ref qy].toArray sZ 0 0 A) (F0 mZ 18 ls []) := by
    intro k_9
    induction k_9 with
    | zero => intro y gy ly H locs hP hD hS ls hl hm_11; exact absurd hm_11 (Nat.not_lt_zero _)
    | succ k_9 ih_10 =>
      intro y gy ly H locs hP hD hS ls hl hm_11
      refine lv_iload_n hx hb dX2_draw_18 rfl (lv_at hl 2 rfl) ?_
      refine lv_aload_n hx hb dX2_draw_19 rfl (lv_at hl 1 rfl) ?_
      refine va_getN (D := g.1) (ci := 3) (v := .int (iI n)) (C := RX3) (T := TX3) (N := 4) hx hb hts in3 hown hE.1 hP 4 rfl rfl 2 (by decide) (va_Nw.use rfl (hE.2.1.2.1 (RX2, 37, "SlantYard$Yard", "size", "I", RX4) (by decide +kernel))) (fun _ h9 => h9) rfl dX2_draw_20 ?_
      refine ln_icmp_ge (tgt := 80) hx hb dX2_draw_23 (by decide) ⟨by omega, by omega⟩ ⟨by omega, by omega⟩ (fun c_12 => ?_) (fun c_12 => ?_)
      · skip
        have hP := hP.recell 1 rfl ((faceF (picM n h))) (fun j _ _ => by rw [show y = n by omega]; rfl)
        have hD := hD.set (p := 1) (e := .inl (gI g, 512, .inl (aI ((faceF (picM n h)))))) rfl
        have hP : va_P g.1 vwCl [(qv, .inr (2, [.ref qs, .ref qn, .ref qf, .int (iI vb), .int (iI vg), .int (iI vt)])), (qs, .inl (gI g, 512, .inl (aI ((faceF (picM n h)))))), (qn, .inl (gI g, 512, .inl (aI ((nearF (drawYK n h y)))))), (qf, .inl (gI g, 864, .inl (aI F))), (qy, .inr (3, [.ref qh, .ref qc, .int (iI n), .int (iI ho)])), (qh, .inl (gI g, 36, .inl (aI h))), (qc, .inl (gI g, 36, .inl (aI c)))] _ := hP
        have hD : va_D A [(qv, .inr (2, [.ref qs, .ref qn, .ref qf, .int (iI vb), .int (iI vg), .int (iI vt)])), (qs, .inl (gI g, 512, .inl (aI ((faceF (picM n h)))))), (qn, .inl (gI g, 512, .inl (aI ((nearF (drawYK n h y)))))), (qf, .inl (gI g, 864, .inl (aI F))), (qy, .inr (3, [.ref qh, .ref qc, .int (iI n), .int (iI ho)])), (qh, .inl (gI g, 36, .inl (aI h))), (qc, .inl (gI g, 36, .inl (aI c)))] := hD
        have hP := hP.recell 2 rfl ((nearF (picM n h))) (fun j _ _ => by rw [show y = n by omega]; rfl)
        have hD := hD.set (p := 2) (e := .inl (gI g, 512, .inl (aI ((nearF (picM n h)))))) rfl
        have hP : va_P g.1 vwCl [(qv, .inr (2, [.ref qs, .ref qn, .ref qf, .int (iI vb), .int (iI vg), .int (iI vt)])), (qs, .inl (gI g, 512, .inl (aI ((faceF (picM n h)))))), (qn, .inl (gI g, 512, .inl (aI ((nearF (picM n h)))))), (qf, .inl (gI g, 864, .inl (aI F))), (qy, .inr (3, [.ref qh, .ref qc, .int (iI n), .int (iI ho)])), (qh, .inl (gI g, 36, .inl (aI h))), (qc, .inl (gI g, 36, .inl (aI c)))] _ := hP
        have hD : va_D A [(qv, .inr (2, [.ref qs, .ref qn, .ref qf, .int (iI vb), .int (iI vg), .int (iI vt)])), (qs, .inl (gI g, 512, .inl (aI ((faceF (picM n h)))))), (qn, .inl (gI g, 512, .inl (aI ((nearF (picM n h)))))), (qf, .inl (gI g, 864, .inl (aI F))), (qy, .inr (3, [.ref qh, .ref qc, .int (iI n), .int (iI ho)])), (qh, .inl (gI g, 36, .inl (aI h))), (qc, .inl (gI g, 36, .inl (aI c)))] := hD
        refine lv_aload_n hx hb dX2_draw_80 rfl (lv_at hl 0 rfl) ?_
        have hPc_13 := hP.sub (ws' := [(qv, .inr (2, [.ref qs, .ref qn, .ref qf, .int (iI vb), .int (iI vg), .int (iI vt)])), (qs, .inl (gI g, 512, .inl (aI ((faceF (picM n h)))))), (qn, .inl (gI g, 512, .inl (aI ((nearF (picM n h)))))), (qf, .inl (gI g, 864, .inl (aI F)))]) [0, 1, 2, 3] rfl
        have hDc_14 := hD.sub (ws' := [(qv, .inr (2, [.ref qs, .ref qn, .ref qf, .int (iI vb), .int (iI vg), .int (iI vt)])), (qs, .inl (gI g, 512, .inl (aI ((faceF (picM n h)))))), (qn, .inl (gI g, 512, .inl (aI ((nearF (picM n h)))))), (qf, .inl (gI g, 864, .inl (aI F)))]) [0, 1, 2, 3] (by decide) rfl
        have hFc_15 := va_free (wc := [(qv, .inr (2, [.ref qs, .ref qn, .ref qf, .int (iI vb), .int (iI vg), .int (iI vt)])), (qs, .inl (gI g, 512, .inl (aI ((faceF (picM n h)))))), (qn, .inl (gI g, 512, .inl (aI ((nearF (picM n h)))))), (qf, .inl (gI g, 864, .inl (aI F)))]) hD hS hA [0, 1, 2, 3] rfl
        refine mc_v (wr := [(qy, .inr (3, [.ref qh, .ref qc, .int (iI n), .int (iI ho)])), (qh, .inl (gI g, 36, .inl (aI h))), (qc, .inl (gI g, 36, .inl (aI c)))]) (cells1 := 0) (slots1 := 0) (va_runV (As := []) (rest := []) ⟨hx, hb, hml, hown, hts⟩ (c_X2_countTriangles l g qv qs qn qf (picM n h) F vb vg vt (picM_ok hY) H.size) (cwV 0 hts gX2_draw_X2_countTriangles rfl rfl rfl (by decide +kernel) ⟨Nat.le_of_ble_eq_true rfl, Nat.le_of_ble_eq_true rfl⟩) (muV hE hS hPc_13 hDc_14 hFc_15 rfl rfl) rfl rfl hl.1 rfl (lv_room (Nat.le_of_ble_eq_true rfl)) dX2_draw_81 ⟨Nat.le_of_ble_eq_true rfl, Nat.le_of_ble_eq_true rfl⟩) hP hD hS hA [0, 1, 2, 3] [4, 5, 6] [3, 4, 5, 6, 0, 1, 2] rfl rfl (by decide) (by decide) (fun _ => [(qv, .inr (2, [.ref qs, .ref qn, .ref qf, .int (iI ((distL (blkF (picM n h)) 288 512))), .int (iI ((distL (faceF (picM n h)) 864 512))), .int (iI (litK (picM n h) 512))])), (qs, .inl (gI g, 512, .inl (aI (faceF (picM n h))))), (qn, .inl (gI g, 512, .inl (aI (nearF (picM n h))))), (qf, .inl (gI g, 864, .inl (aI (ofF (picM n h) 512)))), (qy, .inr (3, [.ref qh, .ref qc, .int (iI n), .int (iI ho)])), (qh, .inl (gI g, 36, .inl (aI h))), (qc, .inl (gI g, 36, .inl (aI c)))]) (fun _ => rfl) (by decide) (Nat.le_of_ble_eq_true rfl) (Nat.le_of_ble_eq_true rfl) (fun u9 H locs hu_16 hP hD hS => ?_)
        have hP : va_P g.1 vwCl [(qv, .inr (2, [.ref qs, .ref qn, .ref qf, .int (iI ((distL (blkF (picM n h)) 288 512))), .int (iI ((distL (faceF (picM n h)) 864 512))), .int (iI (litK (picM n h) 512))])), (qs, .inl (gI g, 512, .inl (aI (faceF (picM n h))))), (qn, .inl (gI g, 512, .inl (aI (nearF (picM n h))))), (qf, .inl (gI g, 864, .inl (aI (ofF (picM n h) 512)))), (qy, .inr (3, [.ref qh, .ref qc, .int (iI n), .int (iI ho)])), (qh, .inl (gI g, 36, .inl (aI h))), (qc, .inl (gI g, 36, .inl (aI c)))] H := hP
        have hD : va_D A [(qv, .inr (2, [.ref qs, .ref qn, .ref qf, .int (iI ((distL (blkF (picM n h)) 288 512))), .int (iI ((distL (faceF (picM n h)) 864 512))), .int (iI (litK (picM n h) 512))])), (qs, .inl (gI g, 512, .inl (aI (faceF (picM n h))))), (qn, .inl (gI g, 512, .inl (aI (nearF (picM n h))))), (qf, .inl (gI g, 864, .inl (aI (ofF (picM n h) 512)))), (qy, .inr (3, [.ref qh, .ref qc, .int (iI n), .int (iI ho)])), (qh, .inl (gI g, 36, .inl (aI h))), (qc, .inl (gI g, 36, .inl (aI c)))] := hD
        have hf_17 : (litK (picM n h) 512) = (litK (picM n h) 512) := by omega
        have hP := hP.recl 0 rfl (.inr (2, [.ref qs, .ref qn, .ref qf, .int (iI ((distL (blkF (picM n h)) 288 512))), .int (iI ((distL (faceF (picM n h)) 864 512))), .int (iI ((litK (picM n h) 512)))])) (congrArg (fun z9 => (Sum.inr (2, [.ref qs, .ref qn, .ref qf, .int (iI ((distL (blkF (picM n h)) 288 512))), .int (iI ((distL (faceF (picM n h)) 864 512))), .int (iI z9)]) : va_E)) hf_17)
        have hD := hD.set (p := 0) (e := .inr (2, [.ref qs, .ref qn, .ref qf, .int (iI ((distL (blkF (picM n h)) 288 512))), .int (iI ((distL (faceF (picM n h)) 864 512))), .int (iI ((litK (picM n h) 512)))])) rfl
        have hP : va_P g.1 vwCl [(qv, .inr (2, [.ref qs, .ref qn, .ref qf, .int (iI ((distL (blkF (picM n h)) 288 512))), .int (iI ((distL (faceF (picM n h)) 864 512))), .int (iI ((litK (picM n h) 512)))])), (qs, .inl (gI g, 512, .inl (aI ((faceF (picM n h)))))), (qn, .inl (gI g, 512, .inl (aI ((nearF (picM n h)))))), (qf, .inl (gI g, 864, .inl (aI ((ofF (picM n h) 512))))), (qy, .inr (3, [.ref qh, .ref qc, .int (iI n), .int (iI ho)])), (qh, .inl (gI g, 36, .inl (aI h))), (qc, .inl (gI g, 36, .inl (aI c)))] _ := hP
        have hD : va_D A [(qv, .inr (2, [.ref qs, .ref qn, .ref qf, .int (iI ((distL (blkF (picM n h)) 288 512))), .int (iI ((distL (faceF (picM n h)) 864 512))), .int (iI ((litK (picM n h) 512)))])), (qs, .inl (gI g, 512, .inl (aI ((faceF (picM n h)))))), (qn, .inl (gI g, 512, .inl (aI ((nearF (picM n h)))))), (qf, .inl (gI g, 864, .inl (aI ((ofF (picM n h) 512))))), (qy, .inr (3, [.ref qh, .ref qc, .int (iI n), .int (iI ho)])), (qh, .inl (gI g, 36, .inl (aI h))), (qc, .inl (gI g, 36, .inl (aI c)))] := hD
        exact mend_v (S := Unit) (w' := (fun _ => [(qv, .inr (2, [.ref qs, .ref qn, .ref qf, .int (iI ((distL (blkF (picM n h)) 288 512))), .int (iI ((distL (faceF (picM n h)) 864 512))), .int (iI ((litK (picM n h) 512)))])), (qs, .inl (gI g, 512, .inl (aI ((faceF (picM n h)))))), (qn, .inl (gI g, 512, .inl (aI ((nearF (picM n h)))))), (qf, .inl (gI g, 864, .inl (aI ((ofF (picM n h) 512))))), (qy, .inr (3, [.ref qh, .ref qc, .int (iI n), .int (iI ho)])), (qh, .inl (gI g, 36, .inl (aI h))), (qc, .inl (gI g, 36, .inl (aI c)))])) (post := (fun _ => True)) hx hb hr hlk hS () hP hD (trivial) (Nat.le_of_ble_eq_true rfl) (Nat.le_of_ble_eq_true rfl) dX2_draw_84
      · skip
        refine lv_iconst (v := iI 0) hx hb dX2_draw_26 rfl ?_
        refine lv_istore_n (lv' := [(3, .int (iI 0)), (0, .ref qv), (1, .ref qy), (2, .int (iI y))]) hx hb dX2_draw_27 rfl hl (by decide) rfl (fun ls hl => ?_)
        have L28 : ∀ (k_18 : Nat) (x : Int) (gx : 0 ≤ x) (lx : x ≤ n) (H : Heap) (locs : List Loc), va_P g.1 vwCl [(qv, .inr (2, [.ref qs, .ref qn, .ref qf, .int (iI vb), .int (iI vg), .int (iI vt)])), (qs, .inl (gI g, 512, .inl (aI ((faceF (drawXK h y (drawYK n h y) x)))))), (qn, .inl (gI g, 512, .inl (aI ((nearF (drawXK h y (drawYK n h y) x)))))), (qf, .inl (gI g, 864, .inl (aI F))), (qy, .inr (3, [.ref qh, .ref qc, .int (iI n), .int (iI ho)])), (qh, .inl (gI g, 36, .inl (aI h))), (qc, .inl (gI g, 36, .inl (aI c)))] H → va_D A [(qv, .inr (2, [.ref qs, .ref qn, .ref qf, .int (iI vb), .int (iI vg), .int (iI vt)])), (qs, .inl (gI g, 512, .inl (aI ((faceF (drawXK h y (drawYK n h y) x)))))), (qn, .inl (gI g, 512, .inl (aI ((nearF (drawXK h y (drawYK n h y) x)))))), (qf, .inl (gI g, 864, .inl (aI F))), (qy, .inr (3, [.ref qh, .ref qc, .int (iI n), .int (iI ho)])), (qh, .inl (gI g, 36, .inl (aI h))), (qc, .inl (gI g, 36, .inl (aI c)))] → va_S A sZ.heap H locs → ∀ (ls : Array Slot), lv_has ls 6 [(0, .ref qv), (1, .ref qy), (2, .int (iI y)), (3, .int (iI x))] → (n - x).toNat < k_18 → W pZ l eZ ({ frames := 3, cells := 0, slots := 0, locals := 72 } : Room) sZ mZ [.ref qv, .ref qy].toArray bZ meZ cZ H locs 0 0 (MQ bZ (va_Qv (fun (u9 : Unit) => (fun _ => True) u9) (fun u9 t9 => MB g ((fun _ => [(qv, .inr (2, [.ref qs, .ref qn, .ref qf, .int (iI ((distL (blkF (picM n h)) 288 512))), .int (iI ((distL (faceF (picM n h)) 864 512))), .int (iI ((litK (picM n h) 512)))])), (qs, .inl (gI g, 512, .inl (aI ((faceF (picM n h)))))), (qn, .inl (gI g, 512, .inl (aI ((nearF (picM n h)))))), (qf, .inl (gI g, 864, .inl (aI ((ofF (picM n h) 512))))), (qy, .inr (3, [.ref qh, .ref qc, .int (iI n), .int (iI ho)])), (qh, .inl (gI g, 36, .inl (aI h))), (qc, .inl (gI g, 36, .inl (aI c)))]) u9) A t9) A) [.ref qv, .ref qy].toArray sZ 0 0 A) (F0 mZ 28 ls []) := by
          intro k_18
          induction k_18 with
          | zero => intro x gx lx H locs hP hD hS ls hl hm_20; exact absurd hm_20 (Nat.not_lt_zero _)
          | succ k_18 ih_19 =>
            intro x gx lx H locs hP hD hS ls hl hm_20
            refine lv_iload_n hx hb dX2_draw_28 rfl (lv_at hl 3 rfl) ?_
            refine lv_aload_n hx hb dX2_draw_29 rfl (lv_at hl 1 rfl) ?_
            refine va_getN (D := g.1) (ci := 3) (v := .int (iI n)) (C := RX3) (T := TX3) (N := 4) hx hb hts in3 hown hE.1 hP 4 rfl rfl 2 (by decide) (va_Nw.use rfl (hE.2.1.2.1 (RX2, 37, "SlantYard$Yard", "size", "I", RX4) (by decide +kernel))) (fun _ h9 => h9) rfl dX2_draw_30 ?_
            refine ln_icmp_ge (tgt := 74) hx hb dX2_draw_33 (by decide) ⟨by omega, by omega⟩ ⟨by omega, by omega⟩ (fun c_21 => ?_) (fun c_21 => ?_)
            · skip
              refine lv_iinc (v := iI (y + 1)) (lv' := [(2, .int (iI (y + 1))), (0, .ref qv), (1, .ref qy), (3, .int (iI x))]) hx hb dX2_draw_74 hl (k := 2) rfl (iI_add _ _) (by decide) rfl (fun ls hl => ?_)
              refine lv_goto (tgt := 18) hx hb dX2_draw_77 (by decide) ?_
              have hl : lv_has ls 6 [(2, .int (iI (y + 1))), (0, .ref qv), (1, .ref qy), (3, .int (iI x))] := hl
              have hP := hP.recell 1 rfl ((faceF (drawYK n h (y + 1)))) (fun j _ _ => by rw [drawYK_s gy, show x = n by omega])
              have hD := hD.set (p := 1) (e := .inl (gI g, 512, .inl (aI ((faceF (drawYK n h (y + 1))))))) rfl
              have hP := hP.recell 2 rfl ((nearF (drawYK n h (y + 1)))) (fun j _ _ => by rw [drawYK_s gy, show x = n by omega])
              have hD := hD.set (p := 2) (e := .inl (gI g, 512, .inl (aI ((nearF (drawYK n h (y + 1))))))) rfl
              exact ih_10 (y + 1) (by omega) (by omega) _ _ hP hD hS _ (lv_sub hl [1, 2, 0] rfl) (by omega)
            · skip
              refine lv_aload_n hx hb dX2_draw_36 rfl (lv_at hl 1 rfl) ?_
              refine lv_iload_n hx hb dX2_draw_37 rfl (lv_at hl 3 rfl) ?_
              refine lv_iload_n hx hb dX2_draw_38 rfl (lv_at hl 2 rfl) ?_
              have hPc_22 := hP.sub (ws' := [(qy, .inr (3, [.ref qh, .ref qc, .int (iI n), .int (iI ho)])), (qh, .inl (gI g, 36, .inl (aI h))), (qc, .inl (gI g, 36, .inl (aI c)))]) [4, 5, 6] rfl
              refine pc_i (va_runV (As := [.int (iI x), .int (iI y)]) (rest := []) ⟨hx, hb, hml, hown, hts⟩ (c_X3_heightAt l g qy qh qc n ho h c x y hY gx (by omega) gy (by omega)) (cwV 2 hts gX2_draw_X3_heightAt rfl rfl rfl (by decide +kernel) ⟨Nat.le_of_ble_eq_true rfl, Nat.le_of_ble_eq_true rfl⟩) (puV hE hS hPc_22 rfl rfl) rfl rfl hl.1 rfl (lv_room (Nat.le_of_ble_eq_true rfl)) dX2_draw_39 ⟨Nat.le_of_ble_eq_true rfl, Nat.le_of_ble_eq_true rfl⟩) ?_
              have r_23 : 0 ≤ h (y * 6 + x) ∧ h (y * 6 + x) ≤ 8 := YOk.h hY (y * 6 + x)
              refine lv_istore (lv' := [(4, .int (iI (h (y * 6 + x)))), (0, .ref qv), (1, .ref qy), (2, .int (iI y)), (3, .int (iI x))]) hx hb dX2_draw_42 hl (by decide) rfl (fun ls hl => ?_)
              refine lv_iconst (v := iI 0) hx hb dX2_draw_44 rfl ?_
              refine lv_istore (lv' := [(5, .int (iI 0)), (4, .int (iI (h (y * 6 + x)))), (0, .ref qv), (1, .ref qy), (2, .int (iI y)), (3, .int (iI x))]) hx hb dX2_draw_45 hl (by decide) rfl (fun ls hl => ?_)
              have L47 : ∀ (k_24 : Nat) (z : Int) (gz : 0 ≤ z) (lz : z ≤ (h (y * 6 + x))) (H : Heap) (locs : List Loc), va_P g.1 vwCl [(qv, .inr (2, [.ref qs, .ref qn, .ref qf, .int (iI vb), .int (iI vg), .int (iI vt)])), (qs, .inl (gI g, 512, .inl (aI ((faceF (drawZK x y (drawXK h y (drawYK n h y) x) z)))))), (qn, .inl (gI g, 512, .inl (aI ((nearF (drawZK x y (drawXK h y (drawYK n h y) x) z)))))), (qf, .inl (gI g, 864, .inl (aI F))), (qy, .inr (3, [.ref qh, .ref qc, .int (iI n), .int (iI ho)])), (qh, .inl (gI g, 36, .inl (aI h))), (qc, .inl (gI g, 36, .inl (aI c)))] H → va_D A [(qv, .inr (2, [.ref qs, .ref qn, .ref qf, .int (iI vb), .int (iI vg), .int (iI vt)])), (qs, .inl (gI g, 512, .inl (aI ((faceF (drawZK x y (drawXK h y (drawYK n h y) x) z)))))), (qn, .inl (gI g, 512, .inl (aI ((nearF (drawZK x y (drawXK h y (drawYK n h y) x) z)))))), (qf, .inl (gI g, 864, .inl (aI F))), (qy, .inr (3, [.ref qh, .ref qc, .int (iI n), .int (iI ho)])), (qh, .inl (gI g, 36, .inl (aI h))), (qc, .inl (gI g, 36, .inl (aI c)))] → va_S A sZ.heap H locs → ∀ (ls : Array Slot), lv_has ls 6 [(0, .ref qv), (1, .ref qy), (2, .int (iI y)), (3, .int (iI x)), (4, .int (iI (h (y * 6 + x)))), (5, .int (iI z))] → ((h (y * 6 + x)) - z).toNat < k_24 → W pZ l eZ ({ frames := 3, cells := 0, slots := 0, locals := 72 } : Room) sZ mZ [.ref qv, .ref qy].toArray bZ meZ cZ H locs 0 0 (MQ bZ (va_Qv (fun (u9 : Unit) => (fun _ => True) u9) (fun u9 t9 => MB g ((fun _ => [(qv, .inr (2, [.ref qs, .ref qn, .ref qf, .int (iI ((distL (blkF (picM n h)) 288 512))), .int (iI ((distL (faceF (picM n h)) 864 512))), .int (iI ((litK (picM n h) 512)))])), (qs, .inl (gI g, 512, .inl (aI ((faceF (picM n h)))))), (qn, .inl (gI g, 512, .inl (aI ((nearF (picM n h)))))), (qf, .inl (gI g, 864, .inl (aI ((ofF (picM n h) 512))))), (qy, .inr (3, [.ref qh, .ref qc, .int (iI n), .int (iI ho)])), (qh, .inl (gI g, 36, .inl (aI h))), (qc, .inl (gI g, 36, .inl (aI c)))]) u9) A t9) A) [.ref qv, .ref qy].toArray sZ 0 0 A) (F0 mZ 47 ls []) := by
                intro k_24
                induction k_24 with
                | zero => intro z gz lz H locs hP hD hS ls hl hm_26; exact absurd hm_26 (Nat.not_lt_zero _)
                | succ k_24 ih_25 =>
                  intro z gz lz H locs hP hD hS ls hl hm_26
                  have b_27 : MOk (drawZK x y (drawXK h y (drawYK n h y) x) z) := drawZK_ok (drawXK_ok (drawYK_ok (by omega) (YOk.h hY) gy (by omega)) (YOk.h hY) ⟨gy, by omega⟩ gx (by omega)) ⟨gx, by omega⟩ ⟨gy, by omega⟩ gz (by omega)
                  refine lv_iload hx hb dX2_draw_47 (lv_at hl 5 rfl) ?_
                  refine lv_iload hx hb dX2_draw_49 (lv_at hl 4 rfl) ?_
                  refine ln_icmp_ge (tgt := 68) hx hb dX2_draw_51 (by decide) ⟨by omega, by omega⟩ ⟨by omega, by omega⟩ (fun c_28 => ?_) (fun c_28 => ?_)
                  · skip
                    refine lv_iinc (v := iI (x + 1)) (lv' := [(3, .int (iI (x + 1))), (0, .ref qv), (1, .ref qy), (2, .int (iI y)), (4, .int (iI (h (y * 6 + x)))), (5, .int (iI z))]) hx hb dX2_draw_68 hl (k := 3) rfl (iI_add _ _) (by decide) rfl (fun ls hl => ?_)
                    refine lv_goto (tgt := 28) hx hb dX2_draw_71 (by decide) ?_
                    have hl : lv_has ls 6 [(3, .int (iI (x + 1))), (0, .ref qv), (1, .ref qy), (2, .int (iI y)), (4, .int (iI (h (y * 6 + x)))), (5, .int (iI z))] := hl
                    have hP := hP.recell 1 rfl ((faceF (drawXK h y (drawYK n h y) (x + 1)))) (fun j _ _ => by rw [drawXK_s gx, show z = h (y * 6 + x) by omega])
                    have hD := hD.set (p := 1) (e := .inl (gI g, 512, .inl (aI ((faceF (drawXK h y (drawYK n h y) (x + 1))))))) rfl
                    have hP := hP.recell 2 rfl ((nearF (drawXK h y (drawYK n h y) (x + 1)))) (fun j _ _ => by rw [drawXK_s gx, show z = h (y * 6 + x) by omega])
                    have hD := hD.set (p := 2) (e := .inl (gI g, 512, .inl (aI ((nearF (drawXK h y (drawYK n h y) (x + 1))))))) rfl
                    exact ih_19 (x + 1) (by omega) (by omega) _ _ hP hD hS _ (lv_sub hl [1, 2, 3, 0] rfl) (by omega)
                  · skip
                    refine lv_aload_n hx hb dX2_draw_54 rfl (lv_at hl 0 rfl) ?_
                    refine lv_iload_n hx hb dX2_draw_55 rfl (lv_at hl 3 rfl) ?_
                    refine lv_iload_n hx hb dX2_draw_56 rfl (lv_at hl 2 rfl) ?_
                    refine lv_iload hx hb dX2_draw_57 (lv_at hl 5 rfl) ?_
                    have hPc_29 := hP.sub (ws' := [(qv, .inr (2, [.ref qs, .ref qn, .ref qf, .int (iI vb), .int (iI vg), .int (iI vt)])), (qs, .inl (gI g, 512, .inl (aI ((faceF (drawZK x y (drawXK h y (drawYK n h y) x) z)))))), (qn, .inl (gI g, 512, .inl (aI ((nearF (drawZK x y (drawXK h y (drawYK n h y) x) z)))))), (qf, .inl (gI g, 864, .inl (aI F)))]) [0, 1, 2, 3] rfl
                    have hDc_30 := hD.sub (ws' := [(qv, .inr (2, [.ref qs, .ref qn, .ref qf, .int (iI vb), .int (iI vg), .int (iI vt)])), (qs, .inl (gI g, 512, .inl (aI ((faceF (drawZK x y (drawXK h y (drawYK n h y) x) z)))))), (qn, .inl (gI g, 512, .inl (aI ((nearF (drawZK x y (drawXK h y (drawYK n h y) x) z)))))), (qf, .inl (gI g, 864, .inl (aI F)))]) [0, 1, 2, 3] (by decide) rfl
                    have hFc_31 := va_free (wc := [(qv, .inr (2, [.ref qs, .ref qn, .ref qf, .int (iI vb), .int (iI vg), .int (iI vt)])), (qs, .inl (gI g, 512, .inl (aI ((faceF (drawZK x y (drawXK h y (drawYK n h y) x) z)))))), (qn, .inl (gI g, 512, .inl (aI ((nearF (drawZK x y (drawXK h y (drawYK n h y) x) z)))))), (qf, .inl (gI g, 864, .inl (aI F)))]) hD hS hA [0, 1, 2, 3] rfl
                    refine mc_v (wr := [(qy, .inr (3, [.ref qh, .ref qc, .int (iI n), .int (iI ho)])), (qh, .inl (gI g, 36, .inl (aI h))), (qc, .inl (gI g, 36, .inl (aI c)))]) (cells1 := 0) (slots1 := 0) (va_runV (As := [.int (iI x), .int (iI y), .int (iI z)]) (rest := []) ⟨hx, hb, hml, hown, hts⟩ (c_X2_drawBlock l g qv qs qn qf ((drawZK x y (drawXK h y (drawYK n h y) x) z)) F vb vg vt x y z b_27 (by omega) (by omega) (by omega) H.size) (cwV 3 hts gX2_draw_X2_drawBlock rfl rfl rfl (by decide +kernel) ⟨Nat.le_of_ble_eq_true rfl, Nat.le_of_ble_eq_true rfl⟩) (muV hE hS hPc_29 hDc_30 hFc_31 rfl rfl) rfl rfl hl.1 rfl (lv_room (Nat.le_of_ble_eq_true rfl)) dX2_draw_59 ⟨Nat.le_of_ble_eq_true rfl, Nat.le_of_ble_eq_true rfl⟩) hP hD hS hA [0, 1, 2, 3] [4, 5, 6] [3, 4, 5, 6, 0, 1, 2] rfl rfl (by decide) (by decide) (fun _ => [(qv, .inr (2, [.ref qs, .ref qn, .ref qf, .int (iI vb), .int (iI vg), .int (iI vt)])), (qs, .inl (gI g, 512, .inl (aI ((faceF (drawBK x y z ((drawZK x y (drawXK h y (drawYK n h y) x) z)) 6)))))), (qn, .inl (gI g, 512, .inl (aI ((nearF (drawBK x y z ((drawZK x y (drawXK h y (drawYK n h y) x) z)) 6)))))), (qf, .inl (gI g, 864, .inl (aI F))), (qy, .inr (3, [.ref qh, .ref qc, .int (iI n), .int (iI ho)])), (qh, .inl (gI g, 36, .inl (aI h))), (qc, .inl (gI g, 36, .inl (aI c)))]) (fun _ => rfl) (by decide) (Nat.le_of_ble_eq_true rfl) (Nat.le_of_ble_eq_true rfl) (fun u9 H locs hu_32 hP hD hS => ?_)
                    have hP : va_P g.1 vwCl [(qv, .inr (2, [.ref qs, .ref qn, .ref qf, .int (iI vb), .int (iI vg), .int (iI vt)])), (qs, .inl (gI g, 512, .inl (aI ((faceF (drawBK x y z ((drawZK x y (drawXK h y (drawYK n h y) x) z)) 6)))))), (qn, .inl (gI g, 512, .inl (aI ((nearF (drawBK x y z ((drawZK x y (drawXK h y (drawYK n h y) x) z)) 6)))))), (qf, .inl (gI g, 864, .inl (aI F))), (qy, .inr (3, [.ref qh, .ref qc, .int (iI n), .int (iI ho)])), (qh, .inl (gI g, 36, .inl (aI h))), (qc, .inl (gI g, 36, .inl (aI c)))] H := hP
                    have hD : va_D A [(qv, .inr (2, [.ref qs, .ref qn, .ref qf, .int (iI vb), .int (iI vg), .int (iI vt)])), (qs, .inl (gI g, 512, .inl (aI ((faceF (drawBK x y z ((drawZK x y (drawXK h y (drawYK n h y) x) z)) 6)))))), (qn, .inl (gI g, 512, .inl (aI ((nearF (drawBK x y z ((drawZK x y (drawXK h y (drawYK n h y) x) z)) 6)))))), (qf, .inl (gI g, 864, .inl (aI F))), (qy, .inr (3, [.ref qh, .ref qc, .int (iI n), .int (iI ho)])), (qh, .inl (gI g, 36, .inl (aI h))), (qc, .inl (gI g, 36, .inl (aI c)))] := hD
                    refine lv_iinc (v := iI (z + 1)) (lv' := [(5, .int (iI (z + 1))), (0, .ref qv), (1, .ref qy), (2, .int (iI y)), (3, .int (iI x)), (4, .int (iI (h (y * 6 + x))))]) hx hb dX2_draw_62 hl (k := 5) rfl (iI_add _ _) (by decide) rfl (fun ls hl => ?_)
                    refine lv_goto (tgt := 47) hx hb dX2_draw_65 (by decide) ?_
                    have hl : lv_has ls 6 [(5, .int (iI (z + 1))), (0, .ref qv), (1, .ref qy), (2, .int (iI y)), (3, .int (iI x)), (4, .int (iI (h (y * 6 + x))))] := hl
                    have hP := hP.recell 1 rfl ((faceF (drawZK x y (drawXK h y (drawYK n h y) x) (z + 1)))) (fun j _ _ => by rw [drawZK_s gz])
                    have hD := hD.set (p := 1) (e := .inl (gI g, 512, .inl (aI ((faceF (drawZK x y (drawXK h y (drawYK n h y) x) (z + 1))))))) rfl
                    have hP := hP.recell 2 rfl ((nearF (drawZK x y (drawXK h y (drawYK n h y) x) (z + 1)))) (fun j _ _ => by rw [drawZK_s gz])
                    have hD := hD.set (p := 2) (e := .inl (gI g, 512, .inl (aI ((nearF (drawZK x y (drawXK h y (drawYK n h y) x) (z + 1))))))) rfl
                    exact ih_25 (z + 1) (by omega) (by omega) _ _ hP hD hS _ (lv_sub hl [1, 2, 3, 4, 5, 0] rfl) (by omega)
              have hl : lv_has ls 6 [(5, .int (iI 0)), (4, .int (iI (h (y * 6 + x)))), (0, .ref qv), (1, .ref qy), (2, .int (iI y)), (3, .int (iI x))] := hl
              have hP := hP.recell 1 rfl ((faceF (drawZK x y (drawXK h y (drawYK n h y) x) 0))) (fun j h0 h1 => rfl)
              have hD := hD.set (p := 1) (e := .inl (gI g, 512, .inl (aI ((faceF (drawZK x y (drawXK h y (drawYK n h y) x) 0)))))) rfl
              have hP := hP.recell 2 rfl ((nearF (drawZK x y (drawXK h y (drawYK n h y) x) 0))) (fun j h0 h1 => rfl)
              have hD := hD.set (p := 2) (e := .inl (gI g, 512, .inl (aI ((nearF (drawZK x y (drawXK h y (drawYK n h y) x) 0)))))) rfl
              exact L47 _ 0 (by omega) (by omega) _ _ hP hD hS _ (lv_sub hl [2, 3, 4, 5, 1, 0] rfl) (Nat.lt_succ_self _)
        have hl : lv_has ls 6 [(3, .int (iI 0)), (0, .ref qv), (1, .ref qy), (2, .int (iI y))] := hl
        have hP := hP.recell 1 rfl ((faceF (drawXK h y (drawYK n h y) 0))) (fun j h0 h1 => rfl)
        have hD := hD.set (p := 1) (e := .inl (gI g, 512, .inl (aI ((faceF (drawXK h y (drawYK n h y) 0)))))) rfl
        have hP := hP.recell 2 rfl ((nearF (drawXK h y (drawYK n h y) 0))) (fun j h0 h1 => rfl)
        have hD := hD.set (p := 2) (e := .inl (gI g, 512, .inl (aI ((nearF (drawXK h y (drawYK n h y) 0)))))) rfl
        exact L28 _ 0 (by omega) (by omega) _ _ hP hD hS _ (lv_sub hl [1, 2, 3, 0] rfl) (Nat.lt_succ_self _)
  have hl : lv_has ls 6 [(2, .int (iI 0)), (0, .ref qv), (1, .ref qy)] := hl
  have hP := hP.recell 1 rfl ((faceF (drawYK n h 0))) (fun j _ _ => rfl)
  have hD := hD.set (p := 1) (e := .inl (gI g, 512, .inl (aI ((faceF (drawYK n h 0)))))) rfl
  have hP := hP.recell 2 rfl ((nearF (drawYK n h 0))) (fun j _ _ => rfl)
  have hD := hD.set (p := 2) (e := .inl (gI g, 512, .inl (aI ((nearF (drawYK n h 0)))))) rfl
  exact L18 _ 0 (by omega) (by omega) _ _ hP hD hS _ (lv_sub hl [1, 2, 0] rfl) (Nat.lt_succ_self _)

set_option maxHeartbeats 800000 in
set_option maxRecDepth 100000 in
theorem c_X4_setAt_in (l : Launch) (g : GT) (q : Nat) (N : Nat) (f : Int → Int) (i : Int) (v : Int) (hN : N < 2147483648) (h0 : 0 ≤ i) (h1 : i < (N : Int)) : MutV l yX4_setAt wsX4_setAt ({ frames := 0, cells := 0, slots := 0, locals := 0 }) 0 0 g [(q, .inl (gI g, N, .inl (aI f)))] [.ref q, .int (iI i), .int (iI v)] (S := Unit) (fun _ => True) (fun _ => [(q, .inl (gI g, N, .inl (aI (updI f i v))))]) := by
  refine mut_of (y := yX4_setAt) (ws := wsX4_setAt) (av := [.ref q, .int (iI i), .int (iI v)]) (w := [(q, .inl (gI g, N, .inl (aI f)))]) (Qc := fun A => va_Qv (fun (u9 : Unit) => (fun _ => True) u9) (fun u9 t9 => MB g ((fun _ => [(q, .inl (gI g, N, .inl (aI (updI f i v))))]) u9) A t9) A) (cc := cX4_setAt) (maxL := 3) (ret := none) (by decide) rfl (Nat.le_of_ble_eq_true rfl) ?_
  intro pZ eZ sZ mZ bZ meZ cZ A F hin hA hP hD hE hS ls hl
  obtain ⟨hx, hb, hr, hml, hts, hown, hlk⟩ := F
  skip
  have hown : sZ.vm.findClass RX4 = some mZ.cls := hown
  have hl : lv_has ls 3 [(0, .ref q), (1, .int (iI i)), (2, .int (iI v))] := hl
  skip
  refine lv_iload_n hx hb dX4_setAt_0 rfl (lv_at hl 1 rfl) ?_
  refine ln_if_lt (tgt := 14) hx hb dX4_setAt_1 (by decide) ⟨by omega, by omega⟩ (fun c_1 => ?_) (fun c_1 => ?_)
  · exfalso; omega
  · skip
    refine lv_iload_n hx hb dX4_setAt_4 rfl (lv_at hl 1 rfl) ?_
    refine lv_aload_n hx hb dX4_setAt_5 rfl (lv_at hl 0 rfl) ?_
    refine ln_alen hx hb hE hP 0 rfl (N : Int) rfl dX4_setAt_6 ?_
    refine ln_icmp_ge (tgt := 14) hx hb dX4_setAt_7 (by decide) ⟨by omega, by omega⟩ ⟨by omega, by omega⟩ (fun c_2 => ?_) (fun c_2 => ?_)
    · exfalso; omega
    · skip
      refine lv_aload_n hx hb dX4_setAt_10 rfl (lv_at hl 0 rfl) ?_
      refine lv_iload_n hx hb dX4_setAt_11 rfl (lv_at hl 1 rfl) ?_
      refine lv_iload_n hx hb dX4_setAt_12 rfl (lv_at hl 2 rfl) ?_
      refine ln_iast hx hb hE hP hD hS 0 rfl (by omega) (by omega) (hN) (updI f i v) (fun _ _ _ => rfl) dX4_setAt_13 (fun H locs hP hD hS => ?_)
      have hP : va_P g.1 vwCl [(q, .inl (gI g, N, .inl (aI (updI f i v))))] H := hP
      have hD : va_D A [(q, .inl (gI g, N, .inl (aI (updI f i v))))] := hD
      have hP := hP.recell 0 rfl (updI f i v) (fun j h0 h1 => by omega)
      have hD := hD.set (p := 0) (e := .inl (gI g, N, .inl (aI (updI f i v)))) rfl
      have hP : va_P g.1 vwCl [(q, .inl (gI g, N, .inl (aI (updI f i v))))] _ := hP
      have hD : va_D A [(q, .inl (gI g, N, .inl (aI (updI f i v))))] := hD
      exact mend_v (S := Unit) (w' := (fun _ => [(q, .inl (gI g, N, .inl (aI (updI f i v))))])) (post := (fun _ => True)) hx hb hr hlk hS () hP hD (trivial) (Nat.le_of_ble_eq_true rfl) (Nat.le_of_ble_eq_true rfl) dX4_setAt_14
set_option maxHeartbeats 800000 in
set_option maxRecDepth 100000 in
theorem c_X4_setAt (l : Launch) (g : GT) (q : Nat) (N : Nat) (f : Int → Int) (i : Int) (v : Int) (hN : N < 2147483648) (gi : Rg i) : MutV l yX4_setAt wsX4_setAt ({ frames := 0, cells := 0, slots := 0, locals := 0 }) 0 0 g [(q, .inl (gI g, N, .inl (aI f)))] [.ref q, .int (iI i), .int (iI v)] (S := Unit) (fun _ => True) (fun _ => [(q, .inl (gI g, N, .inl (aI ((setF f (N : Int) i v)))))]) := by
  refine mut_of (y := yX4_setAt) (ws := wsX4_setAt) (av := [.ref q, .int (iI i), .int (iI v)]) (w := [(q, .inl (gI g, N, .inl (aI f)))]) (Qc := fun A => va_Qv (fun (u9 : Unit) => (fun _ => True) u9) (fun u9 t9 => MB g ((fun _ => [(q, .inl (gI g, N, .inl (aI ((setF f (N : Int) i v)))))]) u9) A t9) A) (cc := cX4_setAt) (maxL := 3) (ret := none) (by decide) rfl (Nat.le_of_ble_eq_true rfl) ?_
  intro pZ eZ sZ mZ bZ meZ cZ A F hin hA hP hD hE hS ls hl
  obtain ⟨hx, hb, hr, hml, hts, hown, hlk⟩ := F
  skip
  have hown : sZ.vm.findClass RX4 = some mZ.cls := hown
  have hl : lv_has ls 3 [(0, .ref q), (1, .int (iI i)), (2, .int (iI v))] := hl
  skip
  refine lv_iload_n hx hb dX4_setAt_0 rfl (lv_at hl 1 rfl) ?_
  refine ln_if_lt (tgt := 14) hx hb dX4_setAt_1 (by decide) ⟨by omega, by omega⟩ (fun c_1 => ?_) (fun c_1 => ?_)
  · skip
    have hP := hP.recell 0 rfl ((setF f (N : Int) i v)) (fun j _ _ => by unfold setF; first | (rw [if_pos ⟨by omega, by omega⟩]; done) | (rw [if_neg (by omega)]))
    have hD := hD.set (p := 0) (e := .inl (gI g, N, .inl (aI ((setF f (N : Int) i v))))) rfl
    have hP : va_P g.1 vwCl [(q, .inl (gI g, N, .inl (aI ((setF f (N : Int) i v)))))] _ := hP
    have hD : va_D A [(q, .inl (gI g, N, .inl (aI ((setF f (N : Int) i v)))))] := hD
    exact mend_v (S := Unit) (w' := (fun _ => [(q, .inl (gI g, N, .inl (aI ((setF f (N : Int) i v)))))])) (post := (fun _ => True)) hx hb hr hlk hS () hP hD (trivial) (Nat.le_of_ble_eq_true rfl) (Nat.le_of_ble_eq_true rfl) dX4_setAt_14
  · skip
    refine lv_iload_n hx hb dX4_setAt_4 rfl (lv_at hl 1 rfl) ?_
    refine lv_aload_n hx hb dX4_setAt_5 rfl (lv_at hl 0 rfl) ?_
    refine ln_alen hx hb hE hP 0 rfl (N : Int) rfl dX4_setAt_6 ?_
    refine ln_icmp_ge (tgt := 14) hx hb dX4_setAt_7 (by decide) ⟨by omega, by omega⟩ ⟨by omega, by omega⟩ (fun c_2 => ?_) (fun c_2 => ?_)
    · skip
      have hP := hP.recell 0 rfl ((setF f (N : Int) i v)) (fun j _ _ => by unfold setF; first | (rw [if_pos ⟨by omega, by omega⟩]; done) | (rw [if_neg (by omega)]))
      have hD := hD.set (p := 0) (e := .inl (gI g, N, .inl (aI ((setF f (N : Int) i v))))) rfl
      have hP : va_P g.1 vwCl [(q, .inl (gI g, N, .inl (aI ((setF f (N : Int) i v)))))] _ := hP
      have hD : va_D A [(q, .inl (gI g, N, .inl (aI ((setF f (N : Int) i v)))))] := hD
      exact mend_v (S := Unit) (w' := (fun _ => [(q, .inl (gI g, N, .inl (aI ((setF f (N : Int) i v)))))])) (post := (fun _ => True)) hx hb hr hlk hS () hP hD (trivial) (Nat.le_of_ble_eq_true rfl) (Nat.le_of_ble_eq_true rfl) dX4_setAt_14
    · skip
      refine lv_aload_n hx hb dX4_setAt_10 rfl (lv_at hl 0 rfl) ?_
      refine lv_iload_n hx hb dX4_setAt_11 rfl (lv_at hl 1 rfl) ?_
      refine lv_iload_n hx hb dX4_setAt_12 rfl (lv_at hl 2 rfl) ?_
      refine ln_iast hx hb hE hP hD hS 0 rfl (by omega) (by omega) (hN) (updI f i v) (fun _ _ _ => rfl) dX4_setAt_13 (fun H locs hP hD hS => ?_)
      have hP : va_P g.1 vwCl [(q, .inl (gI g, N, .inl (aI (updI f i v))))] H := hP
      have hD : va_D A [(q, .inl (gI g, N, .inl (aI (updI f i v))))] := hD
      have hP := hP.recell 0 rfl ((setF f (N : Int) i v)) (fun j _ _ => by unfold setF; first | (rw [if_pos ⟨by omega, by omega⟩]; done) | (rw [if_neg (by omega)]))
      have hD := hD.set (p := 0) (e := .inl (gI g, N, .inl (aI ((setF f (N : Int) i v))))) rfl
      have hP : va_P g.1 vwCl [(q, .inl (gI g, N, .inl (aI ((setF f (N : Int) i v)))))] _ := hP
      have hD : va_D A [(q, .inl (gI g, N, .inl (aI ((setF f (N : Int) i v)))))] := hD
      exact mend_v (S := Unit) (w' := (fun _ => [(q, .inl (gI g, N, .inl (aI ((setF f (N : Int) i v)))))])) (post := (fun _ => True)) hx hb hr hlk hS () hP hD (trivial) (Nat.le_of_ble_eq_true rfl) (Nat.le_of_ble_eq_true rfl) dX4_setAt_14
set_option maxHeartbeats 800000 in
set_option maxRecDepth 100000 in
theorem c_J7_fill_53178 (l : Launch) (g : GT) (q : Nat) (N : Nat) (f : Int → Int) (v : Int) (hN : N < 2147483648) : MutV l yJ7_fill_53178 wsJ7_fill_53178 ({ frames := 0, cells := 0, slots := 0, locals := 0 }) 0 0 g [(q, .inl (gI g, N, .inl (aI f)))] [.ref q, .int (iI v)] (S := Unit) (fun _ => True) (fun _ => [(q, .inl (gI g, N, .inl (aI (fun _ => v))))]) := by
  refine mut_of (y := yJ7_fill_53178) (ws := wsJ7_fill_53178) (av := [.ref q, .int (iI v)]) (w := [(q, .inl (gI g, N, .inl (aI f)))]) (Qc := fun A => va_Qv (fun (u9 : Unit) => (fun _ => True) u9) (fun u9 t9 => MB g ((fun _ => [(q, .inl (gI g, N, .inl (aI (fun _ => v))))]) u9) A t9) A) (cc := cJ7_fill_53178) (maxL := 4) (ret := none) (by decide) rfl (Nat.le_of_ble_eq_true rfl) ?_
  intro pZ eZ sZ mZ bZ meZ cZ A F hin hA hP hD hE hS ls hl
  obtain ⟨hx, hb, hr, hml, hts, hown, hlk⟩ := F
  skip
  have hown : sZ.vm.findClass RJ7 = some mZ.cls := hown
  have hl : lv_has ls 4 [(0, .ref q), (1, .int (iI v))] := hl
  skip
  refine lv_iconst (v := iI 0) hx hb dJ7_fill_53178_0 rfl ?_
  refine lv_istore_n (lv' := [(2, .int (iI 0)), (0, .ref q), (1, .int (iI v))]) hx hb dJ7_fill_53178_1 rfl hl (by decide) rfl (fun ls hl => ?_)
  refine lv_aload_n hx hb dJ7_fill_53178_2 rfl (lv_at hl 1 rfl) ?_
  refine ln_alen hx hb hE hP 0 rfl (N : Int) rfl dJ7_fill_53178_3 ?_
  refine lv_istore_n (lv' := [(3, .int (iI (N : Int))), (2, .int (iI 0)), (0, .ref q), (1, .int (iI v))]) hx hb dJ7_fill_53178_4 rfl hl (by decide) rfl (fun ls hl => ?_)
  have L5 : ∀ (k_1 : Nat) (k : Int) (e : Int → Int) (gk : 0 ≤ k) (gl : k ≤ (N : Int)) (ge : ∀ j, 0 ≤ j → j < k → e j = v) (H : Heap) (locs : List Loc), va_P g.1 vwCl [(q, .inl (gI g, N, .inl (aI e)))] H → va_D A [(q, .inl (gI g, N, .inl (aI e)))] → va_S A sZ.heap H locs → ∀ (ls : Array Slot), lv_has ls 4 [(0, .ref q), (1, .int (iI v)), (2, .int (iI k)), (3, .int (iI (N : Int)))] → ((N : Int) - k).toNat < k_1 → W pZ l eZ ({ frames := 0, cells := 0, slots := 0, locals := 0 } : Room) sZ mZ [.ref q, .int (iI v)].toArray bZ meZ cZ H locs 0 0 (MQ bZ (va_Qv (fun (u9 : Unit) => (fun _ => True) u9) (fun u9 t9 => MB g ((fun _ => [(q, .inl (gI g, N, .inl (aI (fun _ => v))))]) u9) A t9) A) [.ref q, .int (iI v)].toArray sZ 0 0 A) (F0 mZ 5 ls []) := by
    intro k_1
    induction k_1 with
    | zero => intro k e gk gl ge H locs hP hD hS ls hl hm_3; exact absurd hm_3 (Nat.not_lt_zero _)
    | succ k_1 ih_2 =>
      intro k e gk gl ge H locs hP hD hS ls hl hm_3
      refine lv_iload_n hx hb dJ7_fill_53178_5 rfl (lv_at hl 2 rfl) ?_
      refine lv_iload_n hx hb dJ7_fill_53178_6 rfl (lv_at hl 3 rfl) ?_
      refine ln_icmp_ge (tgt := 20) hx hb dJ7_fill_53178_7 (by decide) ⟨by omega, by omega⟩ ⟨by omega, by omega⟩ (fun c_4 => ?_) (fun c_4 => ?_)
      · skip
        have hP := hP.recell 0 rfl (fun _ => v) (fun j h0 h1 => ge j h0 (by omega))
        have hD := hD.set (p := 0) (e := .inl (gI g, N, .inl (aI (fun _ => v)))) rfl
        have hP : va_P g.1 vwCl [(q, .inl (gI g, N, .inl (aI (fun _ => v))))] _ := hP
        have hD : va_D A [(q, .inl (gI g, N, .inl (aI (fun _ => v))))] := hD
        exact mend_v (S := Unit) (w' := (fun _ => [(q, .inl (gI g, N, .inl (aI (fun _ => v))))])) (post := (fun _ => True)) hx hb hr hlk hS () hP hD (trivial) (Nat.le_of_ble_eq_true rfl) (Nat.le_of_ble_eq_true rfl) dJ7_fill_53178_20
      · skip
        refine lv_aload_n hx hb dJ7_fill_53178_10 rfl (lv_at hl 0 rfl) ?_
        refine lv_iload_n hx hb dJ7_fill_53178_11 rfl (lv_at hl 2 rfl) ?_
        refine lv_iload_n hx hb dJ7_fill_53178_12 rfl (lv_at hl 1 rfl) ?_
        refine ln_iast hx hb hE hP hD hS 0 rfl (by omega) (by omega) (hN) (updI e k v) (fun _ _ _ => rfl) dJ7_fill_53178_13 (fun H locs hP hD hS => ?_)
        have hP : va_P g.1 vwCl [(q, .inl (gI g, N, .inl (aI (updI e k v))))] H := hP
        have hD : va_D A [(q, .inl (gI g, N, .inl (aI (updI e k v))))] := hD
        refine lv_iinc (v := iI (k + 1)) (lv' := [(2, .int (iI (k + 1))), (0, .ref q), (1, .int (iI v)), (3, .int (iI (N : Int)))]) hx hb dJ7_fill_53178_14 hl (k := 2) rfl (iI_add _ _) (by decide) rfl (fun ls hl => ?_)
        refine lv_goto (tgt := 5) hx hb dJ7_fill_53178_17 (by decide) ?_
        have hl : lv_has ls 4 [(2, .int (iI (k + 1))), (0, .ref q), (1, .int (iI v)), (3, .int (iI (N : Int)))] := hl
        have hP := hP.recell 0 rfl (updI e k v) (fun j h0 h1 => rfl)
        have hD := hD.set (p := 0) (e := .inl (gI g, N, .inl (aI (updI e k v)))) rfl
        exact ih_2 (k + 1) (updI e k v) (by omega) (by omega) (fun j h0 h1 => by unfold updI; split; rfl; exact ge j h0 (by omega)) _ _ hP hD hS _ (lv_sub hl [1, 2, 0, 3] rfl) (by omega)
  have hl : lv_has ls 4 [(3, .int (iI (N : Int))), (2, .int (iI 0)), (0, .ref q), (1, .int (iI v))] := hl
  exact L5 _ 0 f (by omega) (by omega) (fun j h0 h1 => absurd h1 (by omega)) _ _ hP hD hS _ (lv_sub hl [2, 3, 1, 0] rfl) (Nat.lt_succ_self _)
set_option maxHeartbeats 800000 in
set_option maxRecDepth 100000 in
theorem c_X3_empty (l : Launch) (g : GT) (qy : Nat) (qh : Nat) (qc : Nat) (n : Int) (ho : Int) (h : Int → Int) (c : Int → Int) (m : Int) : MutV l yX3_empty wsX3_empty ({ frames := 1, cells := 0, slots := 0, locals := 23 }) 0 0 g [(qy, .inr (3, [.ref qh, .ref qc, .int (iI n), .int (iI ho)])), (qh, .inl (gI g, 36, .inl (aI h))), (qc, .inl (gI g, 36, .inl (aI c)))] [.ref qy, .int (iI m)] (S := Unit) (fun _ => True) (fun _ => [(qy, .inr (3, [.ref qh, .ref qc, .int (iI m), .int (iI ho)])), (qh, .inl (gI g, 36, .inl (aI (fun _ => 0)))), (qc, .inl (gI g, 36, .inl (aI (fun _ => 0))))]) := by
  refine mut_of (y := yX3_empty) (ws := wsX3_empty) (av := [.ref qy, .int (iI m)]) (w := [(qy, .inr (3, [.ref qh, .ref qc, .int (iI n), .int (iI ho)])), (qh, .inl (gI g, 36, .inl (aI h))), (qc, .inl (gI g, 36, .inl (aI c)))]) (Qc := fun A => va_Qv (fun (u9 : Unit) => (fun _ => True) u9) (fun u9 t9 => MB g ((fun _ => [(qy, .inr (3, [.ref qh, .ref qc, .int (iI m), .int (iI ho)])), (qh, .inl (gI g, 36, .inl (aI (fun _ => 0)))), (qc, .inl (gI g, 36, .inl (aI (fun _ => 0))))]) u9) A t9) A) (cc := cX3_empty) (maxL := 2) (ret := none) (by decide) rfl (Nat.le_of_ble_eq_true rfl) ?_
  intro pZ eZ sZ mZ bZ meZ cZ A F hin hA hP hD hE hS ls hl
  obtain ⟨hx, hb, hr, hml, hts, hown, hlk⟩ := F
  skip
  have hown : sZ.vm.findClass RX3 = some mZ.cls := hown
  have hl : lv_has ls 2 [(0, .ref qy), (1, .int (iI m))] := hl
  skip
  have w0 := hts (.fieldLink RX3 18 "SlantYard$Yard" "size" "I") (by decide +kernel)
  have w1 := hts (.fieldLink RX3 9 "SlantYard$Yard" "heights" "[I") (by decide +kernel)
  have w2 := hts (.fieldLink RX3 15 "SlantYard$Yard" "colours" "[I") (by decide +kernel)
  have in3 : ∀ w ∈ u_ws RX3 TX3 4, w ∈ wsX3_empty := by decide +kernel
  refine lv_aload_n hx hb dX3_empty_0 rfl (lv_at hl 0 rfl) ?_
  refine lv_iload_n hx hb dX3_empty_1 rfl (lv_at hl 1 rfl) ?_
  refine va_put (D := g.1) (ci := 3) (v := .int (iI m)) (ty := .int) (C := RX3) (T := TX3) (N := 4) hx hb hts in3 tyX3 tyX3_ok nmX3 hown hE.1 hP hD hS 0 rfl rfl 2 (by decide) w0 (fun _ h9 => h9) rfl (by decide +kernel) rfl rfl (Nat.le_of_ble_eq_true rfl) dX3_empty_2 (fun H locs hP hD hS => ?_)
  have hP : va_P g.1 vwCl [(qy, .inr (3, [.ref qh, .ref qc, .int (iI m), .int (iI ho)])), (qh, .inl (gI g, 36, .inl (aI h))), (qc, .inl (gI g, 36, .inl (aI c)))] H := hP
  have hD : va_D A [(qy, .inr (3, [.ref qh, .ref qc, .int (iI m), .int (iI ho)])), (qh, .inl (gI g, 36, .inl (aI h))), (qc, .inl (gI g, 36, .inl (aI c)))] := hD
  refine lv_aload_n hx hb dX3_empty_5 rfl (lv_at hl 0 rfl) ?_
  refine va_get (D := g.1) (ci := 3) (v := .ref qh) (C := RX3) (T := TX3) (N := 4) hx hb hts in3 hown hE.1 hP 0 rfl rfl 0 (by decide) w1 (fun _ h9 => h9) rfl dX3_empty_6 ?_
  refine lv_iconst (v := iI 0) hx hb dX3_empty_9 rfl ?_
  have hPc_1 := hP.sub (ws' := [(qh, .inl (gI g, 36, .inl (aI h)))]) [1] rfl
  have hDc_2 := hD.sub (ws' := [(qh, .inl (gI g, 36, .inl (aI h)))]) [1] (by decide) rfl
  have hFc_3 := va_free (wc := [(qh, .inl (gI g, 36, .inl (aI h)))]) hD hS hA [1] rfl
  refine mc_v (wr := [(qy, .inr (3, [.ref qh, .ref qc, .int (iI m), .int (iI ho)])), (qc, .inl (gI g, 36, .inl (aI c)))]) (cells1 := 0) (slots1 := 0) (va_runS (As := [.ref qh, .int (iI 0)]) (rest := []) ⟨hx, hb, hml, hown, hts⟩ (c_J7_fill_53178 l g qh 36 h 0 (by omega) H.size) (va_cwS 2 hts gX3_empty_J7_fill_53178 rfl rfl rfl (by decide +kernel) ⟨Nat.le_of_ble_eq_true rfl, Nat.le_of_ble_eq_true rfl⟩) (muS hE hS hPc_1 hDc_2 hFc_3) rfl rfl hl.1 rfl (lv_room (Nat.le_of_ble_eq_true rfl)) dX3_empty_10 ⟨Nat.le_of_ble_eq_true rfl, Nat.le_of_ble_eq_true rfl⟩) hP hD hS hA [1] [0, 2] [0, 2, 1] rfl rfl (by decide) (by decide) (fun _ => [(qy, .inr (3, [.ref qh, .ref qc, .int (iI m), .int (iI ho)])), (qh, .inl (gI g, 36, .inl (aI (fun _ => 0)))), (qc, .inl (gI g, 36, .inl (aI c)))]) (fun _ => rfl) (by decide) (Nat.le_of_ble_eq_true rfl) (Nat.le_of_ble_eq_true rfl) (fun u9 H locs hu_4 hP hD hS => ?_)
  have hP : va_P g.1 vwCl [(qy, .inr (3, [.ref qh, .ref qc, .int (iI m), .int (iI ho)])), (qh, .inl (gI g, 36, .inl (aI (fun _ => 0)))), (qc, .inl (gI g, 36, .inl (aI c)))] H := hP
  have hD : va_D A [(qy, .inr (3, [.ref qh, .ref qc, .int (iI m), .int (iI ho)])), (qh, .inl (gI g, 36, .inl (aI (fun _ => 0)))), (qc, .inl (gI g, 36, .inl (aI c)))] := hD
  refine lv_aload_n hx hb dX3_empty_13 rfl (lv_at hl 0 rfl) ?_
  refine va_get (D := g.1) (ci := 3) (v := .ref qc) (C := RX3) (T := TX3) (N := 4) hx hb hts in3 hown hE.1 hP 0 rfl rfl 1 (by decide) w2 (fun _ h9 => h9) rfl dX3_empty_14 ?_
  refine lv_iconst (v := iI 0) hx hb dX3_empty_17 rfl ?_
  have hPc_5 := hP.sub (ws' := [(qc, .inl (gI g, 36, .inl (aI c)))]) [2] rfl
  have hDc_6 := hD.sub (ws' := [(qc, .inl (gI g, 36, .inl (aI c)))]) [2] (by decide) rfl
  have hFc_7 := va_free (wc := [(qc, .inl (gI g, 36, .inl (aI c)))]) hD hS hA [2] rfl
  refine mc_v (wr := [(qy, .inr (3, [.ref qh, .ref qc, .int (iI m), .int (iI ho)])), (qh, .inl (gI g, 36, .inl (aI (fun _ => 0))))]) (cells1 := 0) (slots1 := 0) (va_runS (As := [.ref qc, .int (iI 0)]) (rest := []) ⟨hx, hb, hml, hown, hts⟩ (c_J7_fill_53178 l g qc 36 c 0 (by omega) H.size) (va_cwS 2 hts gX3_empty_J7_fill_53178 rfl rfl rfl (by decide +kernel) ⟨Nat.le_of_ble_eq_true rfl, Nat.le_of_ble_eq_true rfl⟩) (muS hE hS hPc_5 hDc_6 hFc_7) rfl rfl hl.1 rfl (lv_room (Nat.le_of_ble_eq_true rfl)) dX3_empty_18 ⟨Nat.le_of_ble_eq_true rfl, Nat.le_of_ble_eq_true rfl⟩) hP hD hS hA [2] [0, 1] [0, 1, 2] rfl rfl (by decide) (by decide) (fun _ => [(qy, .inr (3, [.ref qh, .ref qc, .int (iI m), .int (iI ho)])), (qh, .inl (gI g, 36, .inl (aI (fun _ => 0)))), (qc, .inl (gI g, 36, .inl (aI (fun _ => 0))))]) (fun _ => rfl) (by decide) (Nat.le_of_ble_eq_true rfl) (Nat.le_of_ble_eq_true rfl) (fun u9 H locs hu_8 hP hD hS => ?_)
  have hP : va_P g.1 vwCl [(qy, .inr (3, [.ref qh, .ref qc, .int (iI m), .int (iI ho)])), (qh, .inl (gI g, 36, .inl (aI (fun _ => 0)))), (qc, .inl (gI g, 36, .inl (aI (fun _ => 0))))] H := hP
  have hD : va_D A [(qy, .inr (3, [.ref qh, .ref qc, .int (iI m), .int (iI ho)])), (qh, .inl (gI g, 36, .inl (aI (fun _ => 0)))), (qc, .inl (gI g, 36, .inl (aI (fun _ => 0))))] := hD
  have hP : va_P g.1 vwCl [(qy, .inr (3, [.ref qh, .ref qc, .int (iI m), .int (iI ho)])), (qh, .inl (gI g, 36, .inl (aI (fun _ => 0)))), (qc, .inl (gI g, 36, .inl (aI (fun _ => 0))))] _ := hP
  have hD : va_D A [(qy, .inr (3, [.ref qh, .ref qc, .int (iI m), .int (iI ho)])), (qh, .inl (gI g, 36, .inl (aI (fun _ => 0)))), (qc, .inl (gI g, 36, .inl (aI (fun _ => 0))))] := hD
  exact mend_v (S := Unit) (w' := (fun _ => [(qy, .inr (3, [.ref qh, .ref qc, .int (iI m), .int (iI ho)])), (qh, .inl (gI g, 36, .inl (aI (fun _ => 0)))), (qc, .inl (gI g, 36, .inl (aI (fun _ => 0))))])) (post := (fun _ => True)) hx hb hr hlk hS () hP hD (trivial) (Nat.le_of_ble_eq_true rfl) (Nat.le_of_ble_eq_true rfl) dX3_empty_21
set_option maxHeartbeats 800000 in
set_option maxRecDepth 100000 in
theorem c_X3_become (l : Launch) (g : GT) (qy : Nat) (qh : Nat) (qc : Nat) (n : Int) (ho : Int) (h : Int → Int) (c : Int → Int) (oy : Nat) (oh : Nat) (oc : Nat) (n2 : Int) (ho2 : Int) (h2 : Int → Int) (c2 : Int → Int) : MutV l yX3_become wsX3_become ({ frames := 1, cells := 0, slots := 0, locals := 22 }) 0 0 g [(qy, .inr (3, [.ref qh, .ref qc, .int (iI n), .int (iI ho)])), (qh, .inl (gI g, 36, .inl (aI h))), (qc, .inl (gI g, 36, .inl (aI c))), (oy, .inr (3, [.ref oh, .ref oc, .int (iI n2), .int (iI ho2)])), (oh, .inl (gI g, 36, .inl (aI h2))), (oc, .inl (gI g, 36, .inl (aI c2)))] [.ref qy, .ref oy] (S := Unit) (fun _ => True) (fun _ => [(qy, .inr (3, [.ref qh, .ref qc, .int (iI n2), .int (iI ho2)])), (qh, .inl (gI g, 36, .inl (aI h2))), (qc, .inl (gI g, 36, .inl (aI c2))), (oy, .inr (3, [.ref oh, .ref oc, .int (iI n2), .int (iI ho2)])), (oh, .inl (gI g, 36, .inl (aI h2))), (oc, .inl (gI g, 36, .inl (aI c2)))]) := by
  refine mut_of (y := yX3_become) (ws := wsX3_become) (av := [.ref qy, .ref oy]) (w := [(qy, .inr (3, [.ref qh, .ref qc, .int (iI n), .int (iI ho)])), (qh, .inl (gI g, 36, .inl (aI h))), (qc, .inl (gI g, 36, .inl (aI c))), (oy, .inr (3, [.ref oh, .ref oc, .int (iI n2), .int (iI ho2)])), (oh, .inl (gI g, 36, .inl (aI h2))), (oc, .inl (gI g, 36, .inl (aI c2)))]) (Qc := fun A => va_Qv (fun (u9 : Unit) => (fun _ => True) u9) (fun u9 t9 => MB g ((fun _ => [(qy, .inr (3, [.ref qh, .ref qc, .int (iI n2), .int (iI ho2)])), (qh, .inl (gI g, 36, .inl (aI h2))), (qc, .inl (gI g, 36, .inl (aI c2))), (oy, .inr (3, [.ref oh, .ref oc, .int (iI n2), .int (iI ho2)])), (oh, .inl (gI g, 36, .inl (aI h2))), (oc, .inl (gI g, 36, .inl (aI c2)))]) u9) A t9) A) (cc := cX3_become) (maxL := 3) (ret := none) (by decide) rfl (Nat.le_of_ble_eq_true rfl) ?_
  intro pZ eZ sZ mZ bZ meZ cZ A F hin hA hP hD hE hS ls hl
  obtain ⟨hx, hb, hr, hml, hts, hown, hlk⟩ := F
  skip
  have hown : sZ.vm.findClass RX3 = some mZ.cls := hown
  have hl : lv_has ls 3 [(0, .ref qy), (1, .ref oy)] := hl
  skip
  have w0 := hts (.fieldLink RX3 18 "SlantYard$Yard" "size" "I") (by decide +kernel)
  have w1 := hts (.fieldLink RX3 22 "SlantYard$Yard" "hour" "I") (by decide +kernel)
  have w2 := hts (.fieldLink RX3 9 "SlantYard$Yard" "heights" "[I") (by decide +kernel)
  have w3 := hts (.initialized RX4) (by decide +kernel)
  have w4 := hts (.static yX4_valueAt) (by decide +kernel)
  have w5 := hts (.static yX4_setAt) (by decide +kernel)
  have w6 := hts (.fieldLink RX3 15 "SlantYard$Yard" "colours" "[I") (by decide +kernel)
  have in3 : ∀ w ∈ u_ws RX3 TX3 4, w ∈ wsX3_become := by decide +kernel
  refine lv_aload_n hx hb dX3_become_0 rfl (lv_at hl 0 rfl) ?_
  refine lv_aload_n hx hb dX3_become_1 rfl (lv_at hl 1 rfl) ?_
  refine va_get (D := g.1) (ci := 3) (v := .int (iI n2)) (C := RX3) (T := TX3) (N := 4) hx hb hts in3 hown hE.1 hP 3 rfl rfl 2 (by decide) w0 (fun _ h9 => h9) rfl dX3_become_2 ?_
  refine va_put (D := g.1) (ci := 3) (v := .int (iI n2)) (ty := .int) (C := RX3) (T := TX3) (N := 4) hx hb hts in3 tyX3 tyX3_ok nmX3 hown hE.1 hP hD hS 0 rfl rfl 2 (by decide) w0 (fun _ h9 => h9) rfl (by decide +kernel) rfl rfl (Nat.le_of_ble_eq_true rfl) dX3_become_5 (fun H locs hP hD hS => ?_)
  have hP : va_P g.1 vwCl [(qy, .inr (3, [.ref qh, .ref qc, .int (iI n2), .int (iI ho)])), (qh, .inl (gI g, 36, .inl (aI h))), (qc, .inl (gI g, 36, .inl (aI c))), (oy, .inr (3, [.ref oh, .ref oc, .int (iI n2), .int (iI ho2)])), (oh, .inl (gI g, 36, .inl (aI h2))), (oc, .inl (gI g, 36, .inl (aI c2)))] H := hP
  have hD : va_D A [(qy, .inr (3, [.ref qh, .ref qc, .int (iI n2), .int (iI ho)])), (qh, .inl (gI g, 36, .inl (aI h))), (qc, .inl (gI g, 36, .inl (aI c))), (oy, .inr (3, [.ref oh, .ref oc, .int (iI n2), .int (iI ho2)])), (oh, .inl (gI g, 36, .inl (aI h2))), (oc, .inl (gI g, 36, .inl (aI c2)))] := hD
  refine lv_aload_n hx hb dX3_become_8 rfl (lv_at hl 0 rfl) ?_
  refine lv_aload_n hx hb dX3_become_9 rfl (lv_at hl 1 rfl) ?_
  refine va_get (D := g.1) (ci := 3) (v := .int (iI ho2)) (C := RX3) (T := TX3) (N := 4) hx hb hts in3 hown hE.1 hP 3 rfl rfl 3 (by decide) w1 (fun _ h9 => h9) rfl dX3_become_10 ?_
  refine va_put (D := g.1) (ci := 3) (v := .int (iI ho2)) (ty := .int) (C := RX3) (T := TX3) (N := 4) hx hb hts in3 tyX3 tyX3_ok nmX3 hown hE.1 hP hD hS 0 rfl rfl 3 (by decide) w1 (fun _ h9 => h9) rfl (by decide +kernel) rfl rfl (Nat.le_of_ble_eq_true rfl) dX3_become_13 (fun H locs hP hD hS => ?_)
  have hP : va_P g.1 vwCl [(qy, .inr (3, [.ref qh, .ref qc, .int (iI n2), .int (iI ho2)])), (qh, .inl (gI g, 36, .inl (aI h))), (qc, .inl (gI g, 36, .inl (aI c))), (oy, .inr (3, [.ref oh, .ref oc, .int (iI n2), .int (iI ho2)])), (oh, .inl (gI g, 36, .inl (aI h2))), (oc, .inl (gI g, 36, .inl (aI c2)))] H := hP
  have hD : va_D A [(qy, .inr (3, [.ref qh, .ref qc, .int (iI n2), .int (iI ho2)])), (qh, .inl (gI g, 36, .inl (aI h))), (qc, .inl (gI g, 36, .inl (aI c))), (oy, .inr (3, [.ref oh, .ref oc, .int (iI n2), .int (iI ho2)])), (oh, .inl (gI g, 36, .inl (aI h2))), (oc, .inl (gI g, 36, .inl (aI c2)))] := hD
  refine lv_iconst (v := iI 0) hx hb dX3_become_16 rfl ?_
  refine lv_istore_n (lv' := [(2, .int (iI 0)), (0, .ref qy), (1, .ref oy)]) hx hb dX3_become_17 rfl hl (by decide) rfl (fun ls hl => ?_)
  have L18 : ∀ (k_1 : Nat) (k : Int) (f : Int → Int) (e : Int → Int) (gk : 0 ≤ k) (gl : k ≤ 36) (gf : ∀ j, 0 ≤ j → j < k → f j = h2 j) (ge : ∀ j, 0 ≤ j → j < k → e j = c2 j) (H : Heap) (locs : List Loc), va_P g.1 vwCl [(qy, .inr (3, [.ref qh, .ref qc, .int (iI n2), .int (iI ho2)])), (qh, .inl (gI g, 36, .inl (aI f))), (qc, .inl (gI g, 36, .inl (aI e))), (oy, .inr (3, [.ref oh, .ref oc, .int (iI n2), .int (iI ho2)])), (oh, .inl (gI g, 36, .inl (aI h2))), (oc, .inl (gI g, 36, .inl (aI c2)))] H → va_D A [(qy, .inr (3, [.ref qh, .ref qc, .int (iI n2), .int (iI ho2)])), (qh, .inl (gI g, 36, .inl (aI f))), (qc, .inl (gI g, 36, .inl (aI e))), (oy, .inr (3, [.ref oh, .ref oc, .int (iI n2), .int (iI ho2)])), (oh, .inl (gI g, 36, .inl (aI h2))), (oc, .inl (gI g, 36, .inl (aI c2)))] → va_S A sZ.heap H locs → ∀ (ls : Array Slot), lv_has ls 3 [(0, .ref qy), (1, .ref oy), (2, .int (iI k))] → (36 - k).toNat < k_1 → W pZ l eZ ({ frames := 1, cells := 0, slots := 0, locals := 22 } : Room) sZ mZ [.ref qy, .ref oy].toArray bZ meZ cZ H locs 0 0 (MQ bZ (va_Qv (fun (u9 : Unit) => (fun _ => True) u9) (fun u9 t9 => MB g ((fun _ => [(qy, .inr (3, [.ref qh, .ref qc, .int (iI n2), .int (iI ho2)])), (qh, .inl (gI g, 36, .inl (aI h2))), (qc, .inl (gI g, 36, .inl (aI c2))), (oy, .inr (3, [.ref oh, .ref oc, .int (iI n2), .int (iI ho2)])), (oh, .inl (gI g, 36, .inl (aI h2))), (oc, .inl (gI g, 36, .inl (aI c2)))]) u9) A t9) A) [.ref qy, .ref oy].toArray sZ 0 0 A) (F0 mZ 18 ls []) := by
    intro k_1
    induction k_1 with
    | zero => intro k f e gk gl gf ge H locs hP hD hS ls hl hm_3; exact absurd hm_3 (Nat.not_lt_zero _)
    | succ k_1 ih_2 =>
      intro k f e gk gl gf ge H locs hP hD hS ls hl hm_3
      refine lv_iload_n hx hb dX3_become_18 rfl (lv_at hl 2 rfl) ?_
      refine lv_bipush (v := iI 36) hx hb dX3_become_19 (by decide) ?_
      refine ln_icmp_ge (tgt := 62) hx hb dX3_become_21 (by decide) ⟨by omega, by omega⟩ (by decide) (fun c_4 => ?_) (fun c_4 => ?_)
      · skip
        have hP := hP.recell 1 rfl h2 (fun j h0 h1 => gf j h0 (by omega))
        have hD := hD.set (p := 1) (e := .inl (gI g, 36, .inl (aI h2))) rfl
        have hP := hP.recell 2 rfl c2 (fun j h0 h1 => ge j h0 (by omega))
        have hD := hD.set (p := 2) (e := .inl (gI g, 36, .inl (aI c2))) rfl
        have hP : va_P g.1 vwCl [(qy, .inr (3, [.ref qh, .ref qc, .int (iI n2), .int (iI ho2)])), (qh, .inl (gI g, 36, .inl (aI h2))), (qc, .inl (gI g, 36, .inl (aI c2))), (oy, .inr (3, [.ref oh, .ref oc, .int (iI n2), .int (iI ho2)])), (oh, .inl (gI g, 36, .inl (aI h2))), (oc, .inl (gI g, 36, .inl (aI c2)))] _ := hP
        have hD : va_D A [(qy, .inr (3, [.ref qh, .ref qc, .int (iI n2), .int (iI ho2)])), (qh, .inl (gI g, 36, .inl (aI h2))), (qc, .inl (gI g, 36, .inl (aI c2))), (oy, .inr (3, [.ref oh, .ref oc, .int (iI n2), .int (iI ho2)])), (oh, .inl (gI g, 36, .inl (aI h2))), (oc, .inl (gI g, 36, .inl (aI c2)))] := hD
        exact mend_v (S := Unit) (w' := (fun _ => [(qy, .inr (3, [.ref qh, .ref qc, .int (iI n2), .int (iI ho2)])), (qh, .inl (gI g, 36, .inl (aI h2))), (qc, .inl (gI g, 36, .inl (aI c2))), (oy, .inr (3, [.ref oh, .ref oc, .int (iI n2), .int (iI ho2)])), (oh, .inl (gI g, 36, .inl (aI h2))), (oc, .inl (gI g, 36, .inl (aI c2)))])) (post := (fun _ => True)) hx hb hr hlk hS () hP hD (trivial) (Nat.le_of_ble_eq_true rfl) (Nat.le_of_ble_eq_true rfl) dX3_become_62
      · skip
        refine lv_aload_n hx hb dX3_become_24 rfl (lv_at hl 0 rfl) ?_
        refine va_get (D := g.1) (ci := 3) (v := .ref qh) (C := RX3) (T := TX3) (N := 4) hx hb hts in3 hown hE.1 hP 0 rfl rfl 0 (by decide) w2 (fun _ h9 => h9) rfl dX3_become_25 ?_
        refine lv_iload_n hx hb dX3_become_28 rfl (lv_at hl 2 rfl) ?_
        refine lv_aload_n hx hb dX3_become_29 rfl (lv_at hl 1 rfl) ?_
        refine va_get (D := g.1) (ci := 3) (v := .ref oh) (C := RX3) (T := TX3) (N := 4) hx hb hts in3 hown hE.1 hP 3 rfl rfl 0 (by decide) w2 (fun _ h9 => h9) rfl dX3_become_30 ?_
        refine lv_iload_n hx hb dX3_become_33 rfl (lv_at hl 2 rfl) ?_
        refine pc_i (va_runSN (As := [.ref oh, .int (iI k)]) (rest := [.int (iI k), .ref qh]) ⟨hx, hb, hml, hown, hts⟩ (c_X4_valueAt_in l g oh 36 h2 k (by omega) gk (by omega)) ⟨va_cnB 2 hts gX3_become_X4_valueAt_n31 rfl rfl rfl (hE.2.1.1 (RX3, 31, yX4_valueAt, RX4) (by decide +kernel)) w3 (by decide +kernel) ⟨Nat.le_of_ble_eq_true rfl, Nat.le_of_ble_eq_true rfl⟩, w4, trivial⟩ (ruS (RA.ofP hE hP 4 rfl)) rfl rfl hl.1 rfl (lv_room (Nat.le_of_ble_eq_true rfl)) dX3_become_34 ⟨Nat.le_of_ble_eq_true rfl, Nat.le_of_ble_eq_true rfl⟩) ?_
        have hPc_5 := hP.sub (ws' := [(qh, .inl (gI g, 36, .inl (aI f)))]) [1] rfl
        have hDc_6 := hD.sub (ws' := [(qh, .inl (gI g, 36, .inl (aI f)))]) [1] (by decide) rfl
        have hFc_7 := va_free (wc := [(qh, .inl (gI g, 36, .inl (aI f)))]) hD hS hA [1] rfl
        refine mc_v (wr := [(qy, .inr (3, [.ref qh, .ref qc, .int (iI n2), .int (iI ho2)])), (qc, .inl (gI g, 36, .inl (aI e))), (oy, .inr (3, [.ref oh, .ref oc, .int (iI n2), .int (iI ho2)])), (oh, .inl (gI g, 36, .inl (aI h2))), (oc, .inl (gI g, 36, .inl (aI c2)))]) (cells1 := 0) (slots1 := 0) (va_runSN (As := [.ref qh, .int (iI k), .int (iI (h2 k))]) (rest := []) ⟨hx, hb, hml, hown, hts⟩ (c_X4_setAt_in l g qh 36 f k (h2 k) (by omega) gk (by omega) H.size) ⟨va_cnB 3 hts gX3_become_X4_setAt_n35 rfl rfl rfl (hE.2.1.1 (RX3, 35, yX4_setAt, RX4) (by decide +kernel)) w3 (by decide +kernel) ⟨Nat.le_of_ble_eq_true rfl, Nat.le_of_ble_eq_true rfl⟩, w5, trivial⟩ (muS hE hS hPc_5 hDc_6 hFc_7) rfl rfl hl.1 rfl (lv_room (Nat.le_of_ble_eq_true rfl)) dX3_become_37 ⟨Nat.le_of_ble_eq_true rfl, Nat.le_of_ble_eq_true rfl⟩) hP hD hS hA [1] [0, 2, 3, 4, 5] [0, 5, 1, 2, 3, 4] rfl rfl (by decide) (by decide) (fun _ => [(qy, .inr (3, [.ref qh, .ref qc, .int (iI n2), .int (iI ho2)])), (qh, .inl (gI g, 36, .inl (aI (updI f k (h2 k))))), (qc, .inl (gI g, 36, .inl (aI e))), (oy, .inr (3, [.ref oh, .ref oc, .int (iI n2), .int (iI ho2)])), (oh, .inl (gI g, 36, .inl (aI h2))), (oc, .inl (gI g, 36, .inl (aI c2)))]) (fun _ => rfl) (by decide) (Nat.le_of_ble_eq_true rfl) (Nat.le_of_ble_eq_true rfl) (fun u9 H locs hu_8 hP hD hS => ?_)
        have hP : va_P g.1 vwCl [(qy, .inr (3, [.ref qh, .ref qc, .int (iI n2), .int (iI ho2)])), (qh, .inl (gI g, 36, .inl (aI (updI f k (h2 k))))), (qc, .inl (gI g, 36, .inl (aI e))), (oy, .inr (3, [.ref oh, .ref oc, .int (iI n2), .int (iI ho2)])), (oh, .inl (gI g, 36, .inl (aI h2))), (oc, .inl (gI g, 36, .inl (aI c2)))] H := hP
        have hD : va_D A [(qy, .inr (3, [.ref qh, .ref qc, .int (iI n2), .int (iI ho2)])), (qh, .inl (gI g, 36, .inl (aI (updI f k (h2 k))))), (qc, .inl (gI g, 36, .inl (aI e))), (oy, .inr (3, [.ref oh, .ref oc, .int (iI n2), .int (iI ho2)])), (oh, .inl (gI g, 36, .inl (aI h2))), (oc, .inl (gI g, 36, .inl (aI c2)))] := hD
        refine lv_aload_n hx hb dX3_become_40 rfl (lv_at hl 0 rfl) ?_
        refine va_get (D := g.1) (ci := 3) (v := .ref qc) (C := RX3) (T := TX3) (N := 4) hx hb hts in3 hown hE.1 hP 0 rfl rfl 1 (by decide) w6 (fun _ h9 => h9) rfl dX3_become_41 ?_
        refine lv_iload_n hx hb dX3_become_44 rfl (lv_at hl 2 rfl) ?_
        refine lv_aload_n hx hb dX3_become_45 rfl (lv_at hl 1 rfl) ?_
        refine va_get (D := g.1) (ci := 3) (v := .ref oc) (C := RX3) (T := TX3) (N := 4) hx hb hts in3 hown hE.1 hP 3 rfl rfl 1 (by decide) w6 (fun _ h9 => h9) rfl dX3_become_46 ?_
        refine lv_iload_n hx hb dX3_become_49 rfl (lv_at hl 2 rfl) ?_
        refine pc_i (va_runSN (As := [.ref oc, .int (iI k)]) (rest := [.int (iI k), .ref qc]) ⟨hx, hb, hml, hown, hts⟩ (c_X4_valueAt_in l g oc 36 c2 k (by omega) gk (by omega)) ⟨va_cnB 2 hts gX3_become_X4_valueAt_n31 rfl rfl rfl (hE.2.1.1 (RX3, 31, yX4_valueAt, RX4) (by decide +kernel)) w3 (by decide +kernel) ⟨Nat.le_of_ble_eq_true rfl, Nat.le_of_ble_eq_true rfl⟩, w4, trivial⟩ (ruS (RA.ofP hE hP 5 rfl)) rfl rfl hl.1 rfl (lv_room (Nat.le_of_ble_eq_true rfl)) dX3_become_50 ⟨Nat.le_of_ble_eq_true rfl, Nat.le_of_ble_eq_true rfl⟩) ?_
        have hPc_9 := hP.sub (ws' := [(qc, .inl (gI g, 36, .inl (aI e)))]) [2] rfl
        have hDc_10 := hD.sub (ws' := [(qc, .inl (gI g, 36, .inl (aI e)))]) [2] (by decide) rfl
        have hFc_11 := va_free (wc := [(qc, .inl (gI g, 36, .inl (aI e)))]) hD hS hA [2] rfl
        refine mc_v (wr := [(qy, .inr (3, [.ref qh, .ref qc, .int (iI n2), .int (iI ho2)])), (qh, .inl (gI g, 36, .inl (aI (updI f k (h2 k))))), (oy, .inr (3, [.ref oh, .ref oc, .int (iI n2), .int (iI ho2)])), (oh, .inl (gI g, 36, .inl (aI h2))), (oc, .inl (gI g, 36, .inl (aI c2)))]) (cells1 := 0) (slots1 := 0) (va_runSN (As := [.ref qc, .int (iI k), .int (iI (c2 k))]) (rest := []) ⟨hx, hb, hml, hown, hts⟩ (c_X4_setAt_in l g qc 36 e k (c2 k) (by omega) gk (by omega) H.size) ⟨va_cnB 3 hts gX3_become_X4_setAt_n35 rfl rfl rfl (hE.2.1.1 (RX3, 35, yX4_setAt, RX4) (by decide +kernel)) w3 (by decide +kernel) ⟨Nat.le_of_ble_eq_true rfl, Nat.le_of_ble_eq_true rfl⟩, w5, trivial⟩ (muS hE hS hPc_9 hDc_10 hFc_11) rfl rfl hl.1 rfl (lv_room (Nat.le_of_ble_eq_true rfl)) dX3_become_53 ⟨Nat.le_of_ble_eq_true rfl, Nat.le_of_ble_eq_true rfl⟩) hP hD hS hA [2] [0, 1, 3, 4, 5] [0, 1, 5, 2, 3, 4] rfl rfl (by decide) (by decide) (fun _ => [(qy, .inr (3, [.ref qh, .ref qc, .int (iI n2), .int (iI ho2)])), (qh, .inl (gI g, 36, .inl (aI (updI f k (h2 k))))), (qc, .inl (gI g, 36, .inl (aI (updI e k (c2 k))))), (oy, .inr (3, [.ref oh, .ref oc, .int (iI n2), .int (iI ho2)])), (oh, .inl (gI g, 36, .inl (aI h2))), (oc, .inl (gI g, 36, .inl (aI c2)))]) (fun _ => rfl) (by decide) (Nat.le_of_ble_eq_true rfl) (Nat.le_of_ble_eq_true rfl) (fun u9 H locs hu_12 hP hD hS => ?_)
        have hP : va_P g.1 vwCl [(qy, .inr (3, [.ref qh, .ref qc, .int (iI n2), .int (iI ho2)])), (qh, .inl (gI g, 36, .inl (aI (updI f k (h2 k))))), (qc, .inl (gI g, 36, .inl (aI (updI e k (c2 k))))), (oy, .inr (3, [.ref oh, .ref oc, .int (iI n2), .int (iI ho2)])), (oh, .inl (gI g, 36, .inl (aI h2))), (oc, .inl (gI g, 36, .inl (aI c2)))] H := hP
        have hD : va_D A [(qy, .inr (3, [.ref qh, .ref qc, .int (iI n2), .int (iI ho2)])), (qh, .inl (gI g, 36, .inl (aI (updI f k (h2 k))))), (qc, .inl (gI g, 36, .inl (aI (updI e k (c2 k))))), (oy, .inr (3, [.ref oh, .ref oc, .int (iI n2), .int (iI ho2)])), (oh, .inl (gI g, 36, .inl (aI h2))), (oc, .inl (gI g, 36, .inl (aI c2)))] := hD
        refine lv_iinc (v := iI (k + 1)) (lv' := [(2, .int (iI (k + 1))), (0, .ref qy), (1, .ref oy)]) hx hb dX3_become_56 hl (k := 2) rfl (iI_add _ _) (by decide) rfl (fun ls hl => ?_)
        refine lv_goto (tgt := 18) hx hb dX3_become_59 (by decide) ?_
        have hl : lv_has ls 3 [(2, .int (iI (k + 1))), (0, .ref qy), (1, .ref oy)] := hl
        exact ih_2 (k + 1) ((updI f k (h2 k))) ((updI e k (c2 k))) (by omega) (by omega) (fun j h0 h1 => by unfold updI; split; (rename_i q; rw [q]); exact gf j h0 (by omega)) (fun j h0 h1 => by unfold updI; split; (rename_i q; rw [q]); exact ge j h0 (by omega)) _ _ hP hD hS _ (lv_sub hl [1, 2, 0] rfl) (by omega)
  have hl : lv_has ls 3 [(2, .int (iI 0)), (0, .ref qy), (1, .ref oy)] := hl
  exact L18 _ 0 h c (by omega) (by omega) (fun j h0 h1 => absurd h1 (by omega)) (fun j h0 h1 => absurd h1 (by omega)) _ _ hP hD hS _ (lv_sub hl [1, 2, 0] rfl) (Nat.lt_succ_self _)
set_option maxHeartbeats 800000 in
set_option maxRecDepth 100000 in
theorem c_X3_becomeTurned (l : Launch) (g : GT) (qy : Nat) (qh : Nat) (qc : Nat) (n : Int) (ho : Int) (h : Int → Int) (c : Int → Int) (oy : Nat) (oh : Nat) (oc : Nat) (n2 : Int) (ho2 : Int) (h2 : Int → Int) (c2 : Int → Int) (hn2 : 2 ≤ n2 ∧ n2 ≤ 6) : MutV l yX3_becomeTurned wsX3_becomeTurned ({ frames := 2, cells := 0, slots := 0, locals := 44 }) 0 0 g [(qy, .inr (3, [.ref qh, .ref qc, .int (iI n), .int (iI ho)])), (qh, .inl (gI g, 36, .inl (aI h))), (qc, .inl (gI g, 36, .inl (aI c))), (oy, .inr (3, [.ref oh, .ref oc, .int (iI n2), .int (iI ho2)])), (oh, .inl (gI g, 36, .inl (aI h2))), (oc, .inl (gI g, 36, .inl (aI c2)))] [.ref qy, .ref oy] (S := Unit) (fun _ => True) (fun _ => [(qy, .inr (3, [.ref qh, .ref qc, .int (iI n2), .int (iI ho2)])), (qh, .inl (gI g, 36, .inl (aI (turnF n2 h2)))), (qc, .inl (gI g, 36, .inl (aI (turnF n2 c2)))), (oy, .inr (3, [.ref oh, .ref oc, .int (iI n2), .int (iI ho2)])), (oh, .inl (gI g, 36, .inl (aI h2))), (oc, .inl (gI g, 36, .inl (aI c2)))]) := by
  refine mut_of (y := yX3_becomeTurned) (ws := wsX3_becomeTurned) (av := [.ref qy, .ref oy]) (w := [(qy, .inr (3, [.ref qh, .ref qc, .int (iI n), .int (iI ho)])), (qh, .inl (gI g, 36, .inl (aI h))), (qc, .inl (gI g, 36, .inl (aI c))), (oy, .inr (3, [.ref oh, .ref oc, .int (iI n2), .int (iI ho2)])), (oh, .inl (gI g, 36, .inl (aI h2))), (oc, .inl (gI g, 36, .inl (aI c2)))]) (Qc := fun A => va_Qv (fun (u9 : Unit) => (fun _ => True) u9) (fun u9 t9 => MB g ((fun _ => [(qy, .inr (3, [.ref qh, .ref qc, .int (iI n2), .int (iI ho2)])), (qh, .inl (gI g, 36, .inl (aI (turnF n2 h2)))), (qc, .inl (gI g, 36, .inl (aI (turnF n2 c2)))), (oy, .inr (3, [.ref oh, .ref oc, .int (iI n2), .int (iI ho2)])), (oh, .inl (gI g, 36, .inl (aI h2))), (oc, .inl (gI g, 36, .inl (aI c2)))]) u9) A t9) A) (cc := cX3_becomeTurned) (maxL := 6) (ret := none) (by decide) rfl (Nat.le_of_ble_eq_true rfl) ?_
  intro pZ eZ sZ mZ bZ meZ cZ A F hin hA hP hD hE hS ls hl
  obtain ⟨hx, hb, hr, hml, hts, hown, hlk⟩ := F
  skip
  have hown : sZ.vm.findClass RX3 = some mZ.cls := hown
  have hl : lv_has ls 6 [(0, .ref qy), (1, .ref oy)] := hl
  skip
  have w0 := hts (.fieldLink RX3 18 "SlantYard$Yard" "size" "I") (by decide +kernel)
  have w1 := hts (.fieldLink RX3 22 "SlantYard$Yard" "hour" "I") (by decide +kernel)
  have w2 := hts (.fieldLink RX3 9 "SlantYard$Yard" "heights" "[I") (by decide +kernel)
  have w3 := hts (.initialized RX4) (by decide +kernel)
  have w4 := hts (.static yX4_valueAt) (by decide +kernel)
  have w5 := hts (.static yX4_setAt) (by decide +kernel)
  have w6 := hts (.fieldLink RX3 15 "SlantYard$Yard" "colours" "[I") (by decide +kernel)
  have in3 : ∀ w ∈ u_ws RX3 TX3 4, w ∈ wsX3_becomeTurned := by decide +kernel
  refine lv_aload_n hx hb dX3_becomeTurned_0 rfl (lv_at hl 0 rfl) ?_
  refine lv_aload_n hx hb dX3_becomeTurned_1 rfl (lv_at hl 1 rfl) ?_
  refine va_get (D := g.1) (ci := 3) (v := .int (iI n2)) (C := RX3) (T := TX3) (N := 4) hx hb hts in3 hown hE.1 hP 3 rfl rfl 2 (by decide) w0 (fun _ h9 => h9) rfl dX3_becomeTurned_2 ?_
  have hPc_1 := hP.sub (ws' := [(qy, .inr (3, [.ref qh, .ref qc, .int (iI n), .int (iI ho)])), (qh, .inl (gI g, 36, .inl (aI h))), (qc, .inl (gI g, 36, .inl (aI c)))]) [0, 1, 2] rfl
  have hDc_2 := hD.sub (ws' := [(qy, .inr (3, [.ref qh, .ref qc, .int (iI n), .int (iI ho)])), (qh, .inl (gI g, 36, .inl (aI h))), (qc, .inl (gI g, 36, .inl (aI c)))]) [0, 1, 2] (by decide) rfl
  have hFc_3 := va_free (wc := [(qy, .inr (3, [.ref qh, .ref qc, .int (iI n), .int (iI ho)])), (qh, .inl (gI g, 36, .inl (aI h))), (qc, .inl (gI g, 36, .inl (aI c)))]) hD hS hA [0, 1, 2] rfl
  refine mc_v (wr := [(oy, .inr (3, [.ref oh, .ref oc, .int (iI n2), .int (iI ho2)])), (oh, .inl (gI g, 36, .inl (aI h2))), (oc, .inl (gI g, 36, .inl (aI c2)))]) (cells1 := 0) (slots1 := 0) (va_runV (As := [.int (iI n2)]) (rest := []) ⟨hx, hb, hml, hown, hts⟩ (c_X3_empty l g qy qh qc n ho h c n2 sZ.heap.size) (cwV 1 hts gX3_becomeTurned_X3_empty rfl rfl rfl (by decide +kernel) ⟨Nat.le_of_ble_eq_true rfl, Nat.le_of_ble_eq_true rfl⟩) (muV hE hS hPc_1 hDc_2 hFc_3 rfl rfl) rfl rfl hl.1 rfl (lv_room (Nat.le_of_ble_eq_true rfl)) dX3_becomeTurned_5 ⟨Nat.le_of_ble_eq_true rfl, Nat.le_of_ble_eq_true rfl⟩) hP hD hS hA [0, 1, 2] [3, 4, 5] [3, 4, 5, 0, 1, 2] rfl rfl (by decide) (by decide) (fun _ => [(qy, .inr (3, [.ref qh, .ref qc, .int (iI n2), .int (iI ho)])), (qh, .inl (gI g, 36, .inl (aI (fun _ => 0)))), (qc, .inl (gI g, 36, .inl (aI (fun _ => 0)))), (oy, .inr (3, [.ref oh, .ref oc, .int (iI n2), .int (iI ho2)])), (oh, .inl (gI g, 36, .inl (aI h2))), (oc, .inl (gI g, 36, .inl (aI c2)))]) (fun _ => rfl) (by decide) (Nat.le_of_ble_eq_true rfl) (Nat.le_of_ble_eq_true rfl) (fun u9 H locs hu_4 hP hD hS => ?_)
  have hP : va_P g.1 vwCl [(qy, .inr (3, [.ref qh, .ref qc, .int (iI n2), .int (iI ho)])), (qh, .inl (gI g, 36, .inl (aI (fun _ => 0)))), (qc, .inl (gI g, 36, .inl (aI (fun _ => 0)))), (oy, .inr (3, [.ref oh, .ref oc, .int (iI n2), .int (iI ho2)])), (oh, .inl (gI g, 36, .inl (aI h2))), (oc, .inl (gI g, 36, .inl (aI c2)))] H := hP
  have hD : va_D A [(qy, .inr (3, [.ref qh, .ref qc, .int (iI n2), .int (iI ho)])), (qh, .inl (gI g, 36, .inl (aI (fun _ => 0)))), (qc, .inl (gI g, 36, .inl (aI (fun _ => 0)))), (oy, .inr (3, [.ref oh, .ref oc, .int (iI n2), .int (iI ho2)])), (oh, .inl (gI g, 36, .inl (aI h2))), (oc, .inl (gI g, 36, .inl (aI c2)))] := hD
  refine lv_aload_n hx hb dX3_becomeTurned_8 rfl (lv_at hl 0 rfl) ?_
  refine lv_aload_n hx hb dX3_becomeTurned_9 rfl (lv_at hl 1 rfl) ?_
  refine va_get (D := g.1) (ci := 3) (v := .int (iI ho2)) (C := RX3) (T := TX3) (N := 4) hx hb hts in3 hown hE.1 hP 3 rfl rfl 3 (by decide) w1 (fun _ h9 => h9) rfl dX3_becomeTurned_10 ?_
  refine va_put (D := g.1) (ci := 3) (v := .int (iI ho2)) (ty := .int) (C := RX3) (T := TX3) (N := 4) hx hb hts in3 tyX3 tyX3_ok nmX3 hown hE.1 hP hD hS 0 rfl rfl 3 (by decide) w1 (fun _ h9 => h9) rfl (by decide +kernel) rfl rfl (Nat.le_of_ble_eq_true rfl) dX3_becomeTurned_13 (fun H locs hP hD hS => ?_)
  have hP : va_P g.1 vwCl [(qy, .inr (3, [.ref qh, .ref qc, .int (iI n2), .int (iI ho2)])), (qh, .inl (gI g, 36, .inl (aI (fun _ => 0)))), (qc, .inl (gI g, 36, .inl (aI (fun _ => 0)))), (oy, .inr (3, [.ref oh, .ref oc, .int (iI n2), .int (iI ho2)])), (oh, .inl (gI g, 36, .inl (aI h2))), (oc, .inl (gI g, 36, .inl (aI c2)))] H := hP
  have hD : va_D A [(qy, .inr (3, [.ref qh, .ref qc, .int (iI n2), .int (iI ho2)])), (qh, .inl (gI g, 36, .inl (aI (fun _ => 0)))), (qc, .inl (gI g, 36, .inl (aI (fun _ => 0)))), (oy, .inr (3, [.ref oh, .ref oc, .int (iI n2), .int (iI ho2)])), (oh, .inl (gI g, 36, .inl (aI h2))), (oc, .inl (gI g, 36, .inl (aI c2)))] := hD
  refine lv_iconst (v := iI 0) hx hb dX3_becomeTurned_16 rfl ?_
  refine lv_istore_n (lv' := [(2, .int (iI 0)), (0, .ref qy), (1, .ref oy)]) hx hb dX3_becomeTurned_17 rfl hl (by decide) rfl (fun ls hl => ?_)
  have L18 : ∀ (k_5 : Nat) (y : Int) (gk : 0 ≤ y) (gl : y ≤ n2) (H : Heap) (locs : List Loc), va_P g.1 vwCl [(qy, .inr (3, [.ref qh, .ref qc, .int (iI n2), .int (iI ho2)])), (qh, .inl (gI g, 36, .inl (aI (turnK n2 h2 y 0)))), (qc, .inl (gI g, 36, .inl (aI (turnK n2 c2 y 0)))), (oy, .inr (3, [.ref oh, .ref oc, .int (iI n2), .int (iI ho2)])), (oh, .inl (gI g, 36, .inl (aI h2))), (oc, .inl (gI g, 36, .inl (aI c2)))] H → va_D A [(qy, .inr (3, [.ref qh, .ref qc, .int (iI n2), .int (iI ho2)])), (qh, .inl (gI g, 36, .inl (aI (turnK n2 h2 y 0)))), (qc, .inl (gI g, 36, .inl (aI (turnK n2 c2 y 0)))), (oy, .inr (3, [.ref oh, .ref oc, .int (iI n2), .int (iI ho2)])), (oh, .inl (gI g, 36, .inl (aI h2))), (oc, .inl (gI g, 36, .inl (aI c2)))] → va_S A sZ.heap H locs → ∀ (ls : Array Slot), lv_has ls 6 [(0, .ref qy), (1, .ref oy), (2, .int (iI y))] → (n2 - y).toNat < k_5 → W pZ l eZ ({ frames := 2, cells := 0, slots := 0, locals := 44 } : Room) sZ mZ [.ref qy, .ref oy].toArray bZ meZ cZ H locs 0 0 (MQ bZ (va_Qv (fun (u9 : Unit) => (fun _ => True) u9) (fun u9 t9 => MB g ((fun _ => [(qy, .inr (3, [.ref qh, .ref qc, .int (iI n2), .int (iI ho2)])), (qh, .inl (gI g, 36, .inl (aI (turnF n2 h2)))), (qc, .inl (gI g, 36, .inl (aI (turnF n2 c2)))), (oy, .inr (3, [.ref oh, .ref oc, .int (iI n2), .int (iI ho2)])), (oh, .inl (gI g, 36, .inl (aI h2))), (oc, .inl (gI g, 36, .inl (aI c2)))]) u9) A t9) A) [.ref qy, .ref oy].toArray sZ 0 0 A) (F0 mZ 18 ls []) := by
    intro k_5
    induction k_5 with
    | zero => intro y gk gl H locs hP hD hS ls hl hm_7; exact absurd hm_7 (Nat.not_lt_zero _)
    | succ k_5 ih_6 =>
      intro y gk gl H locs hP hD hS ls hl hm_7
      refine lv_iload_n hx hb dX3_becomeTurned_18 rfl (lv_at hl 2 rfl) ?_
      refine lv_aload_n hx hb dX3_becomeTurned_19 rfl (lv_at hl 0 rfl) ?_
      refine va_get (D := g.1) (ci := 3) (v := .int (iI n2)) (C := RX3) (T := TX3) (N := 4) hx hb hts in3 hown hE.1 hP 0 rfl rfl 2 (by decide) w0 (fun _ h9 => h9) rfl dX3_becomeTurned_20 ?_
      refine ln_icmp_ge (tgt := 107) hx hb dX3_becomeTurned_23 (by decide) ⟨by omega, by omega⟩ ⟨by omega, by omega⟩ (fun c_8 => ?_) (fun c_8 => ?_)
      · skip
        have hP := hP.recell 1 rfl (turnF n2 h2) (fun j _ _ => by rw [show y = n2 by omega]; rfl)
        have hD := hD.set (p := 1) (e := .inl (gI g, 36, .inl (aI (turnF n2 h2)))) rfl
        have hP := hP.recell 2 rfl (turnF n2 c2) (fun j _ _ => by rw [show y = n2 by omega]; rfl)
        have hD := hD.set (p := 2) (e := .inl (gI g, 36, .inl (aI (turnF n2 c2)))) rfl
        have hP : va_P g.1 vwCl [(qy, .inr (3, [.ref qh, .ref qc, .int (iI n2), .int (iI ho2)])), (qh, .inl (gI g, 36, .inl (aI (turnF n2 h2)))), (qc, .inl (gI g, 36, .inl (aI (turnF n2 c2)))), (oy, .inr (3, [.ref oh, .ref oc, .int (iI n2), .int (iI ho2)])), (oh, .inl (gI g, 36, .inl (aI h2))), (oc, .inl (gI g, 36, .inl (aI c2)))] _ := hP
        have hD : va_D A [(qy, .inr (3, [.ref qh, .ref qc, .int (iI n2), .int (iI ho2)])), (qh, .inl (gI g, 36, .inl (aI (turnF n2 h2)))), (qc, .inl (gI g, 36, .inl (aI (turnF n2 c2)))), (oy, .inr (3, [.ref oh, .ref oc, .int (iI n2), .int (iI ho2)])), (oh, .inl (gI g, 36, .inl (aI h2))), (oc, .inl (gI g, 36, .inl (aI c2)))] := hD
        exact mend_v (S := Unit) (w' := (fun _ => [(qy, .inr (3, [.ref qh, .ref qc, .int (iI n2), .int (iI ho2)])), (qh, .inl (gI g, 36, .inl (aI (turnF n2 h2)))), (qc, .inl (gI g, 36, .inl (aI (turnF n2 c2)))), (oy, .inr (3, [.ref oh, .ref oc, .int (iI n2), .int (iI ho2)])), (oh, .inl (gI g, 36, .inl (aI h2))), (oc, .inl (gI g, 36, .inl (aI c2)))])) (post := (fun _ => True)) hx hb hr hlk hS () hP hD (trivial) (Nat.le_of_ble_eq_true rfl) (Nat.le_of_ble_eq_true rfl) dX3_becomeTurned_107
      · skip
        refine lv_iconst (v := iI 0) hx hb dX3_becomeTurned_26 rfl ?_
        refine lv_istore_n (lv' := [(3, .int (iI 0)), (0, .ref qy), (1, .ref oy), (2, .int (iI y))]) hx hb dX3_becomeTurned_27 rfl hl (by decide) rfl (fun ls hl => ?_)
        have L28 : ∀ (k_9 : Nat) (x : Int) (gx : 0 ≤ x) (gm : x ≤ n2) (H : Heap) (locs : List Loc), va_P g.1 vwCl [(qy, .inr (3, [.ref qh, .ref qc, .int (iI n2), .int (iI ho2)])), (qh, .inl (gI g, 36, .inl (aI (turnK n2 h2 y x)))), (qc, .inl (gI g, 36, .inl (aI (turnK n2 c2 y x)))), (oy, .inr (3, [.ref oh, .ref oc, .int (iI n2), .int (iI ho2)])), (oh, .inl (gI g, 36, .inl (aI h2))), (oc, .inl (gI g, 36, .inl (aI c2)))] H → va_D A [(qy, .inr (3, [.ref qh, .ref qc, .int (iI n2), .int (iI ho2)])), (qh, .inl (gI g, 36, .inl (aI (turnK n2 h2 y x)))), (qc, .inl (gI g, 36, .inl (aI (turnK n2 c2 y x)))), (oy, .inr (3, [.ref oh, .ref oc, .int (iI n2), .int (iI ho2)])), (oh, .inl (gI g, 36, .inl (aI h2))), (oc, .inl (gI g, 36, .inl (aI c2)))] → va_S A sZ.heap H locs → ∀ (ls : Array Slot), lv_has ls 6 [(0, .ref qy), (1, .ref oy), (2, .int (iI y)), (3, .int (iI x))] → (n2 - x).toNat < k_9 → W pZ l eZ ({ frames := 2, cells := 0, slots := 0, locals := 44 } : Room) sZ mZ [.ref qy, .ref oy].toArray bZ meZ cZ H locs 0 0 (MQ bZ (va_Qv (fun (u9 : Unit) => (fun _ => True) u9) (fun u9 t9 => MB g ((fun _ => [(qy, .inr (3, [.ref qh, .ref qc, .int (iI n2), .int (iI ho2)])), (qh, .inl (gI g, 36, .inl (aI (turnF n2 h2)))), (qc, .inl (gI g, 36, .inl (aI (turnF n2 c2)))), (oy, .inr (3, [.ref oh, .ref oc, .int (iI n2), .int (iI ho2)])), (oh, .inl (gI g, 36, .inl (aI h2))), (oc, .inl (gI g, 36, .inl (aI c2)))]) u9) A t9) A) [.ref qy, .ref oy].toArray sZ 0 0 A) (F0 mZ 28 ls []) := by
          intro k_9
          induction k_9 with
          | zero => intro x gx gm H locs hP hD hS ls hl hm_11; exact absurd hm_11 (Nat.not_lt_zero _)
          | succ k_9 ih_10 =>
            intro x gx gm H locs hP hD hS ls hl hm_11
            refine lv_iload_n hx hb dX3_becomeTurned_28 rfl (lv_at hl 3 rfl) ?_
            refine lv_aload_n hx hb dX3_becomeTurned_29 rfl (lv_at hl 0 rfl) ?_
            refine va_get (D := g.1) (ci := 3) (v := .int (iI n2)) (C := RX3) (T := TX3) (N := 4) hx hb hts in3 hown hE.1 hP 0 rfl rfl 2 (by decide) w0 (fun _ h9 => h9) rfl dX3_becomeTurned_30 ?_
            refine ln_icmp_ge (tgt := 101) hx hb dX3_becomeTurned_33 (by decide) ⟨by omega, by omega⟩ ⟨by omega, by omega⟩ (fun c_12 => ?_) (fun c_12 => ?_)
            · skip
              refine lv_iinc (v := iI (y + 1)) (lv' := [(2, .int (iI (y + 1))), (0, .ref qy), (1, .ref oy), (3, .int (iI x))]) hx hb dX3_becomeTurned_101 hl (k := 2) rfl (iI_add _ _) (by decide) rfl (fun ls hl => ?_)
              refine lv_goto (tgt := 18) hx hb dX3_becomeTurned_104 (by decide) ?_
              have hl : lv_has ls 6 [(2, .int (iI (y + 1))), (0, .ref qy), (1, .ref oy), (3, .int (iI x))] := hl
              have hP := hP.recell 1 rfl (turnK n2 h2 (y + 1) 0) (fun j _ _ => by rw [show x = n2 by omega]; exact turnK_row j)
              have hD := hD.set (p := 1) (e := .inl (gI g, 36, .inl (aI (turnK n2 h2 (y + 1) 0)))) rfl
              have hP := hP.recell 2 rfl (turnK n2 c2 (y + 1) 0) (fun j _ _ => by rw [show x = n2 by omega]; exact turnK_row j)
              have hD := hD.set (p := 2) (e := .inl (gI g, 36, .inl (aI (turnK n2 c2 (y + 1) 0)))) rfl
              exact ih_6 (y + 1) (by omega) (by omega) _ _ hP hD hS _ (lv_sub hl [1, 2, 0] rfl) (by omega)
            · skip
              refine lv_aload_n hx hb dX3_becomeTurned_36 rfl (lv_at hl 1 rfl) ?_
              refine lv_iload_n hx hb dX3_becomeTurned_37 rfl (lv_at hl 3 rfl) ?_
              refine lv_iload_n hx hb dX3_becomeTurned_38 rfl (lv_at hl 2 rfl) ?_
              have hPc_13 := hP.sub (ws' := [(oy, .inr (3, [.ref oh, .ref oc, .int (iI n2), .int (iI ho2)]))]) [3] rfl
              refine pc_i (va_runV (As := [.int (iI x), .int (iI y)]) (rest := []) ⟨hx, hb, hml, hown, hts⟩ (c_X3_squareAt_in l g oy oh oc n2 ho2 x y hn2 gx (by omega) gk (by omega)) (cwV 2 hts gX3_becomeTurned_X3_squareAt rfl rfl rfl (by decide +kernel) ⟨Nat.le_of_ble_eq_true rfl, Nat.le_of_ble_eq_true rfl⟩) (puV hE hS hPc_13 rfl rfl) rfl rfl hl.1 rfl (lv_room (Nat.le_of_ble_eq_true rfl)) dX3_becomeTurned_39 ⟨Nat.le_of_ble_eq_true rfl, Nat.le_of_ble_eq_true rfl⟩) ?_
              refine lv_istore (lv' := [(4, .int (iI (y * 6 + x))), (0, .ref qy), (1, .ref oy), (2, .int (iI y)), (3, .int (iI x))]) hx hb dX3_becomeTurned_42 hl (by decide) rfl (fun ls hl => ?_)
              refine lv_aload_n hx hb dX3_becomeTurned_44 rfl (lv_at hl 1 rfl) ?_
              refine lv_aload_n hx hb dX3_becomeTurned_45 rfl (lv_at hl 1 rfl) ?_
              refine va_get (D := g.1) (ci := 3) (v := .int (iI n2)) (C := RX3) (T := TX3) (N := 4) hx hb hts in3 hown hE.1 hP 0 rfl rfl 2 (by decide) w0 (fun _ h9 => h9) rfl dX3_becomeTurned_46 ?_
              refine lv_iconst (v := iI 1) hx hb dX3_becomeTurned_49 rfl ?_
              refine ln_isub hx hb (n2 - 1) (rfl) dX3_becomeTurned_50 ?_
              refine lv_iload_n hx hb dX3_becomeTurned_51 rfl (lv_at hl 3 rfl) ?_
              refine ln_isub hx hb (n2 - 1 - y) (rfl) dX3_becomeTurned_52 ?_
              refine lv_iload_n hx hb dX3_becomeTurned_53 rfl (lv_at hl 4 rfl) ?_
              have hPc_14 := hP.sub (ws' := [(qy, .inr (3, [.ref qh, .ref qc, .int (iI n2), .int (iI ho2)]))]) [0] rfl
              refine pc_i (va_runV (As := [.int (iI (n2 - 1 - y)), .int (iI x)]) (rest := []) ⟨hx, hb, hml, hown, hts⟩ (c_X3_squareAt_in l g qy qh qc n2 ho2 (n2 - 1 - y) x hn2 (by omega) (by omega) gx (by omega)) (cwV 2 hts gX3_becomeTurned_X3_squareAt rfl rfl rfl (by decide +kernel) ⟨Nat.le_of_ble_eq_true rfl, Nat.le_of_ble_eq_true rfl⟩) (puV hE hS hPc_14 rfl rfl) rfl rfl hl.1 rfl (lv_room (Nat.le_of_ble_eq_true rfl)) dX3_becomeTurned_54 ⟨Nat.le_of_ble_eq_true rfl, Nat.le_of_ble_eq_true rfl⟩) ?_
              refine lv_istore (lv' := [(5, .int (iI (x * 6 + (n2 - 1 - y)))), (4, .int (iI (y * 6 + x))), (0, .ref qy), (1, .ref oy), (2, .int (iI y)), (3, .int (iI x))]) hx hb dX3_becomeTurned_57 hl (by decide) rfl (fun ls hl => ?_)
              refine lv_aload_n hx hb dX3_becomeTurned_59 rfl (lv_at hl 2 rfl) ?_
              refine va_get (D := g.1) (ci := 3) (v := .ref qh) (C := RX3) (T := TX3) (N := 4) hx hb hts in3 hown hE.1 hP 0 rfl rfl 0 (by decide) w2 (fun _ h9 => h9) rfl dX3_becomeTurned_60 ?_
              refine lv_iload hx hb dX3_becomeTurned_63 (lv_at hl 0 rfl) ?_
              refine lv_aload_n hx hb dX3_becomeTurned_65 rfl (lv_at hl 3 rfl) ?_
              refine va_get (D := g.1) (ci := 3) (v := .ref oh) (C := RX3) (T := TX3) (N := 4) hx hb hts in3 hown hE.1 hP 3 rfl rfl 0 (by decide) w2 (fun _ h9 => h9) rfl dX3_becomeTurned_66 ?_
              refine lv_iload hx hb dX3_becomeTurned_69 (lv_at hl 1 rfl) ?_
              refine pc_i (va_runSN (As := [.ref oh, .int (iI (y * 6 + x))]) (rest := [.int (iI (x * 6 + (n2 - 1 - y))), .ref qh]) ⟨hx, hb, hml, hown, hts⟩ (c_X4_valueAt_in l g oh 36 h2 (y * 6 + x) (by omega) (by omega) (by omega)) ⟨va_cnB 2 hts gX3_becomeTurned_X4_valueAt_n31 rfl rfl rfl (hE.2.1.1 (RX3, 31, yX4_valueAt, RX4) (by decide +kernel)) w3 (by decide +kernel) ⟨Nat.le_of_ble_eq_true rfl, Nat.le_of_ble_eq_true rfl⟩, w4, trivial⟩ (ruS (RA.ofP hE hP 4 rfl)) rfl rfl hl.1 rfl (lv_room (Nat.le_of_ble_eq_true rfl)) dX3_becomeTurned_71 ⟨Nat.le_of_ble_eq_true rfl, Nat.le_of_ble_eq_true rfl⟩) ?_
              have hPc_15 := hP.sub (ws' := [(qh, .inl (gI g, 36, .inl (aI (turnK n2 h2 y x))))]) [1] rfl
              have hDc_16 := hD.sub (ws' := [(qh, .inl (gI g, 36, .inl (aI (turnK n2 h2 y x))))]) [1] (by decide) rfl
              have hFc_17 := va_free (wc := [(qh, .inl (gI g, 36, .inl (aI (turnK n2 h2 y x))))]) hD hS hA [1] rfl
              refine mc_v (wr := [(qy, .inr (3, [.ref qh, .ref qc, .int (iI n2), .int (iI ho2)])), (qc, .inl (gI g, 36, .inl (aI (turnK n2 c2 y x)))), (oy, .inr (3, [.ref oh, .ref oc, .int (iI n2), .int (iI ho2)])), (oh, .inl (gI g, 36, .inl (aI h2))), (oc, .inl (gI g, 36, .inl (aI c2)))]) (cells1 := 0) (slots1 := 0) (va_runSN (As := [.ref qh, .int (iI (x * 6 + (n2 - 1 - y))), .int (iI (h2 (y * 6 + x)))]) (rest := []) ⟨hx, hb, hml, hown, hts⟩ (c_X4_setAt_in l g qh 36 (turnK n2 h2 y x) (x * 6 + (n2 - 1 - y)) (h2 (y * 6 + x)) (by omega) (by omega) (by omega) H.size) ⟨va_cnB 3 hts gX3_becomeTurned_X4_setAt_n35 rfl rfl rfl (hE.2.1.1 (RX3, 35, yX4_setAt, RX4) (by decide +kernel)) w3 (by decide +kernel) ⟨Nat.le_of_ble_eq_true rfl, Nat.le_of_ble_eq_true rfl⟩, w5, trivial⟩ (muS hE hS hPc_15 hDc_16 hFc_17) rfl rfl hl.1 rfl (lv_room (Nat.le_of_ble_eq_true rfl)) dX3_becomeTurned_74 ⟨Nat.le_of_ble_eq_true rfl, Nat.le_of_ble_eq_true rfl⟩) hP hD hS hA [1] [0, 2, 3, 4, 5] [0, 5, 1, 2, 3, 4] rfl rfl (by decide) (by decide) (fun _ => [(qy, .inr (3, [.ref qh, .ref qc, .int (iI n2), .int (iI ho2)])), (qh, .inl (gI g, 36, .inl (aI (updI (turnK n2 h2 y x) (x * 6 + (n2 - 1 - y)) (h2 (y * 6 + x)))))), (qc, .inl (gI g, 36, .inl (aI (turnK n2 c2 y x)))), (oy, .inr (3, [.ref oh, .ref oc, .int (iI n2), .int (iI ho2)])), (oh, .inl (gI g, 36, .inl (aI h2))), (oc, .inl (gI g, 36, .inl (aI c2)))]) (fun _ => rfl) (by decide) (Nat.le_of_ble_eq_true rfl) (Nat.le_of_ble_eq_true rfl) (fun u9 H locs hu_18 hP hD hS => ?_)
              have hP : va_P g.1 vwCl [(qy, .inr (3, [.ref qh, .ref qc, .int (iI n2), .int (iI ho2)])), (qh, .inl (gI g, 36, .inl (aI (updI (turnK n2 h2 y x) (x * 6 + (n2 - 1 - y)) (h2 (y * 6 + x)))))), (qc, .inl (gI g, 36, .inl (aI (turnK n2 c2 y x)))), (oy, .inr (3, [.ref oh, .ref oc, .int (iI n2), .int (iI ho2)])), (oh, .inl (gI g, 36, .inl (aI h2))), (oc, .inl (gI g, 36, .inl (aI c2)))] H := hP
              have hD : va_D A [(qy, .inr (3, [.ref qh, .ref qc, .int (iI n2), .int (iI ho2)])), (qh, .inl (gI g, 36, .inl (aI (updI (turnK n2 h2 y x) (x * 6 + (n2 - 1 - y)) (h2 (y * 6 + x)))))), (qc, .inl (gI g, 36, .inl (aI (turnK n2 c2 y x)))), (oy, .inr (3, [.ref oh, .ref oc, .int (iI n2), .int (iI ho2)])), (oh, .inl (gI g, 36, .inl (aI h2))), (oc, .inl (gI g, 36, .inl (aI c2)))] := hD
              refine lv_aload_n hx hb dX3_becomeTurned_77 rfl (lv_at hl 2 rfl) ?_
              refine va_get (D := g.1) (ci := 3) (v := .ref qc) (C := RX3) (T := TX3) (N := 4) hx hb hts in3 hown hE.1 hP 0 rfl rfl 1 (by decide) w6 (fun _ h9 => h9) rfl dX3_becomeTurned_78 ?_
              refine lv_iload hx hb dX3_becomeTurned_81 (lv_at hl 0 rfl) ?_
              refine lv_aload_n hx hb dX3_becomeTurned_83 rfl (lv_at hl 3 rfl) ?_
              refine va_get (D := g.1) (ci := 3) (v := .ref oc) (C := RX3) (T := TX3) (N := 4) hx hb hts in3 hown hE.1 hP 3 rfl rfl 1 (by decide) w6 (fun _ h9 => h9) rfl dX3_becomeTurned_84 ?_
              refine lv_iload hx hb dX3_becomeTurned_87 (lv_at hl 1 rfl) ?_
              refine pc_i (va_runSN (As := [.ref oc, .int (iI (y * 6 + x))]) (rest := [.int (iI (x * 6 + (n2 - 1 - y))), .ref qc]) ⟨hx, hb, hml, hown, hts⟩ (c_X4_valueAt_in l g oc 36 c2 (y * 6 + x) (by omega) (by omega) (by omega)) ⟨va_cnB 2 hts gX3_becomeTurned_X4_valueAt_n31 rfl rfl rfl (hE.2.1.1 (RX3, 31, yX4_valueAt, RX4) (by decide +kernel)) w3 (by decide +kernel) ⟨Nat.le_of_ble_eq_true rfl, Nat.le_of_ble_eq_true rfl⟩, w4, trivial⟩ (ruS (RA.ofP hE hP 5 rfl)) rfl rfl hl.1 rfl (lv_room (Nat.le_of_ble_eq_true rfl)) dX3_becomeTurned_89 ⟨Nat.le_of_ble_eq_true rfl, Nat.le_of_ble_eq_true rfl⟩) ?_
              have hPc_19 := hP.sub (ws' := [(qc, .inl (gI g, 36, .inl (aI (turnK n2 c2 y x))))]) [2] rfl
              have hDc_20 := hD.sub (ws' := [(qc, .inl (gI g, 36, .inl (aI (turnK n2 c2 y x))))]) [2] (by decide) rfl
              have hFc_21 := va_free (wc := [(qc, .inl (gI g, 36, .inl (aI (turnK n2 c2 y x))))]) hD hS hA [2] rfl
              refine mc_v (wr := [(qy, .inr (3, [.ref qh, .ref qc, .int (iI n2), .int (iI ho2)])), (qh, .inl (gI g, 36, .inl (aI (updI (turnK n2 h2 y x) (x * 6 + (n2 - 1 - y)) (h2 (y * 6 + x)))))), (oy, .inr (3, [.ref oh, .ref oc, .int (iI n2), .int (iI ho2)])), (oh, .inl (gI g, 36, .inl (aI h2))), (oc, .inl (gI g, 36, .inl (aI c2)))]) (cells1 := 0) (slots1 := 0) (va_runSN (As := [.ref qc, .int (iI (x * 6 + (n2 - 1 - y))), .int (iI (c2 (y * 6 + x)))]) (rest := []) ⟨hx, hb, hml, hown, hts⟩ (c_X4_setAt_in l g qc 36 (turnK n2 c2 y x) (x * 6 + (n2 - 1 - y)) (c2 (y * 6 + x)) (by omega) (by omega) (by omega) H.size) ⟨va_cnB 3 hts gX3_becomeTurned_X4_setAt_n35 rfl rfl rfl (hE.2.1.1 (RX3, 35, yX4_setAt, RX4) (by decide +kernel)) w3 (by decide +kernel) ⟨Nat.le_of_ble_eq_true rfl, Nat.le_of_ble_eq_true rfl⟩, w5, trivial⟩ (muS hE hS hPc_19 hDc_20 hFc_21) rfl rfl hl.1 rfl (lv_room (Nat.le_of_ble_eq_true rfl)) dX3_becomeTurned_92 ⟨Nat.le_of_ble_eq_true rfl, Nat.le_of_ble_eq_true rfl⟩) hP hD hS hA [2] [0, 1, 3, 4, 5] [0, 1, 5, 2, 3, 4] rfl rfl (by decide) (by decide) (fun _ => [(qy, .inr (3, [.ref qh, .ref qc, .int (iI n2), .int (iI ho2)])), (qh, .inl (gI g, 36, .inl (aI (updI (turnK n2 h2 y x) (x * 6 + (n2 - 1 - y)) (h2 (y * 6 + x)))))), (qc, .inl (gI g, 36, .inl (aI (updI (turnK n2 c2 y x) (x * 6 + (n2 - 1 - y)) (c2 (y * 6 + x)))))), (oy, .inr (3, [.ref oh, .ref oc, .int (iI n2), .int (iI ho2)])), (oh, .inl (gI g, 36, .inl (aI h2))), (oc, .inl (gI g, 36, .inl (aI c2)))]) (fun _ => rfl) (by decide) (Nat.le_of_ble_eq_true rfl) (Nat.le_of_ble_eq_true rfl) (fun u9 H locs hu_22 hP hD hS => ?_)
              have hP : va_P g.1 vwCl [(qy, .inr (3, [.ref qh, .ref qc, .int (iI n2), .int (iI ho2)])), (qh, .inl (gI g, 36, .inl (aI (updI (turnK n2 h2 y x) (x * 6 + (n2 - 1 - y)) (h2 (y * 6 + x)))))), (qc, .inl (gI g, 36, .inl (aI (updI (turnK n2 c2 y x) (x * 6 + (n2 - 1 - y)) (c2 (y * 6 + x)))))), (oy, .inr (3, [.ref oh, .ref oc, .int (iI n2), .int (iI ho2)])), (oh, .inl (gI g, 36, .inl (aI h2))), (oc, .inl (gI g, 36, .inl (aI c2)))] H := hP
              have hD : va_D A [(qy, .inr (3, [.ref qh, .ref qc, .int (iI n2), .int (iI ho2)])), (qh, .inl (gI g, 36, .inl (aI (updI (turnK n2 h2 y x) (x * 6 + (n2 - 1 - y)) (h2 (y * 6 + x)))))), (qc, .inl (gI g, 36, .inl (aI (updI (turnK n2 c2 y x) (x * 6 + (n2 - 1 - y)) (c2 (y * 6 + x)))))), (oy, .inr (3, [.ref oh, .ref oc, .int (iI n2), .int (iI ho2)])), (oh, .inl (gI g, 36, .inl (aI h2))), (oc, .inl (gI g, 36, .inl (aI c2)))] := hD
              refine lv_iinc (v := iI (x + 1)) (lv' := [(3, .int (iI (x + 1))), (5, .int (iI (x * 6 + (n2 - 1 - y)))), (4, .int (iI (y * 6 + x))), (0, .ref qy), (1, .ref oy), (2, .int (iI y))]) hx hb dX3_becomeTurned_95 hl (k := 5) rfl (iI_add _ _) (by decide) rfl (fun ls hl => ?_)
              refine lv_goto (tgt := 28) hx hb dX3_becomeTurned_98 (by decide) ?_
              have hl : lv_has ls 6 [(3, .int (iI (x + 1))), (5, .int (iI (x * 6 + (n2 - 1 - y)))), (4, .int (iI (y * 6 + x))), (0, .ref qy), (1, .ref oy), (2, .int (iI y))] := hl
              have hP := hP.recell 1 rfl (turnK n2 h2 y (x + 1)) (fun j _ _ => turnK_s hn2.2 gx (by omega) gk (by omega) j)
              have hD := hD.set (p := 1) (e := .inl (gI g, 36, .inl (aI (turnK n2 h2 y (x + 1))))) rfl
              have hP := hP.recell 2 rfl (turnK n2 c2 y (x + 1)) (fun j _ _ => turnK_s hn2.2 gx (by omega) gk (by omega) j)
              have hD := hD.set (p := 2) (e := .inl (gI g, 36, .inl (aI (turnK n2 c2 y (x + 1))))) rfl
              exact ih_10 (x + 1) (by omega) (by omega) _ _ hP hD hS _ (lv_sub hl [3, 4, 5, 0] rfl) (by omega)
        have hl : lv_has ls 6 [(3, .int (iI 0)), (0, .ref qy), (1, .ref oy), (2, .int (iI y))] := hl
        exact L28 _ 0 (by omega) (by omega) _ _ hP hD hS _ (lv_sub hl [1, 2, 3, 0] rfl) (Nat.lt_succ_self _)
  have hl : lv_has ls 6 [(2, .int (iI 0)), (0, .ref qy), (1, .ref oy)] := hl
  have hP := hP.recell 1 rfl (turnK n2 h2 0 0) (fun j _ _ => (turnK_0 n2 h2 j hn2.2).symm)
  have hD := hD.set (p := 1) (e := .inl (gI g, 36, .inl (aI (turnK n2 h2 0 0)))) rfl
  have hP := hP.recell 2 rfl (turnK n2 c2 0 0) (fun j _ _ => (turnK_0 n2 c2 j hn2.2).symm)
  have hD := hD.set (p := 2) (e := .inl (gI g, 36, .inl (aI (turnK n2 c2 0 0)))) rfl
  exact L18 _ 0 (by omega) (by omega) _ _ hP hD hS _ (lv_sub hl [1, 2, 0] rfl) (Nat.lt_succ_self _)
set_option maxHeartbeats 800000 in
set_option maxRecDepth 100000 in
theorem c_X3_addBlock (l : Launch) (g : GT) (qy : Nat) (qh : Nat) (qc : Nat) (n : Int) (ho : Int) (h : Int → Int) (c : Int → Int) (x : Int) (y : Int) (d : Int) (hY : YOk n ho h c) (h1 : 0 ≤ x) (h2 : x < n) (h3 : 0 ≤ y) (h4 : y < n) (gd : 0 ≤ d ∧ d ≤ 3) (g8 : h (y * 6 + x) < 8) : MutV l yX3_addBlock wsX3_addBlock ({ frames := 1, cells := 0, slots := 0, locals := 22 }) 0 0 g [(qy, .inr (3, [.ref qh, .ref qc, .int (iI n), .int (iI ho)])), (qh, .inl (gI g, 36, .inl (aI h))), (qc, .inl (gI g, 36, .inl (aI c)))] [.ref qy, .int (iI x), .int (iI y), .int (iI d)] (S := Unit) (fun _ => True) (fun _ => [(qy, .inr (3, [.ref qh, .ref qc, .int (iI n), .int (iI ho)])), (qh, .inl (gI g, 36, .inl (aI ((updI h (y * 6 + x) (h (y * 6 + x) + 1)))))), (qc, .inl (gI g, 36, .inl (aI ((updI c (y * 6 + x) (c (y * 6 + x) + d * p4 (h (y * 6 + x))))))))]) := by
  refine mut_of (y := yX3_addBlock) (ws := wsX3_addBlock) (av := [.ref qy, .int (iI x), .int (iI y), .int (iI d)]) (w := [(qy, .inr (3, [.ref qh, .ref qc, .int (iI n), .int (iI ho)])), (qh, .inl (gI g, 36, .inl (aI h))), (qc, .inl (gI g, 36, .inl (aI c)))]) (Qc := fun A => va_Qv (fun (u9 : Unit) => (fun _ => True) u9) (fun u9 t9 => MB g ((fun _ => [(qy, .inr (3, [.ref qh, .ref qc, .int (iI n), .int (iI ho)])), (qh, .inl (gI g, 36, .inl (aI ((updI h (y * 6 + x) (h (y * 6 + x) + 1)))))), (qc, .inl (gI g, 36, .inl (aI ((updI c (y * 6 + x) (c (y * 6 + x) + d * p4 (h (y * 6 + x))))))))]) u9) A t9) A) (cc := cX3_addBlock) (maxL := 6) (ret := none) (by decide) rfl (Nat.le_of_ble_eq_true rfl) ?_
  intro pZ eZ sZ mZ bZ meZ cZ A F hin hA hP hD hE hS ls hl
  obtain ⟨hx, hb, hr, hml, hts, hown, hlk⟩ := F
  skip
  have hown : sZ.vm.findClass RX3 = some mZ.cls := hown
  have hl : lv_has ls 6 [(0, .ref qy), (1, .int (iI x)), (2, .int (iI y)), (3, .int (iI d))] := hl
  skip
  have w0 := hts (.fieldLink RX3 9 "SlantYard$Yard" "heights" "[I") (by decide +kernel)
  have w1 := hts (.initialized RX4) (by decide +kernel)
  have w2 := hts (.static yX4_valueAt) (by decide +kernel)
  have w3 := hts (.fieldLink RX3 15 "SlantYard$Yard" "colours" "[I") (by decide +kernel)
  have w4 := hts (.static yX4_setAt) (by decide +kernel)
  have in3 : ∀ w ∈ u_ws RX3 TX3 4, w ∈ wsX3_addBlock := by decide +kernel
  have hnn := hY.n
  have hho := hY.hr
  have hh9 := YOk.h hY (y * 6 + x)
  have hc9 := YOk.c hY (y * 6 + x)
  have hc8 := YOk.c8 hY (y * 6 + x)
  have hp9 := p4_pos (h (y * 6 + x))
  refine lv_aload_n hx hb dX3_addBlock_0 rfl (lv_at hl 0 rfl) ?_
  refine lv_iload_n hx hb dX3_addBlock_1 rfl (lv_at hl 1 rfl) ?_
  refine lv_iload_n hx hb dX3_addBlock_2 rfl (lv_at hl 2 rfl) ?_
  have hPc_1 := hP.sub (ws' := [(qy, .inr (3, [.ref qh, .ref qc, .int (iI n), .int (iI ho)]))]) [0] rfl
  refine pc_i (va_runV (As := [.int (iI x), .int (iI y)]) (rest := []) ⟨hx, hb, hml, hown, hts⟩ (c_X3_squareAt_in l g qy qh qc n ho x y hnn h1 h2 h3 h4) (cwV 2 hts gX3_addBlock_X3_squareAt rfl rfl rfl (by decide +kernel) ⟨Nat.le_of_ble_eq_true rfl, Nat.le_of_ble_eq_true rfl⟩) (puV hE hS hPc_1 rfl rfl) rfl rfl hl.1 rfl (lv_room (Nat.le_of_ble_eq_true rfl)) dX3_addBlock_3 ⟨Nat.le_of_ble_eq_true rfl, Nat.le_of_ble_eq_true rfl⟩) ?_
  refine lv_istore (lv' := [(4, .int (iI (y * 6 + x))), (0, .ref qy), (1, .int (iI x)), (2, .int (iI y)), (3, .int (iI d))]) hx hb dX3_addBlock_6 hl (by decide) rfl (fun ls hl => ?_)
  refine lv_aload_n hx hb dX3_addBlock_8 rfl (lv_at hl 1 rfl) ?_
  refine va_get (D := g.1) (ci := 3) (v := .ref qh) (C := RX3) (T := TX3) (N := 4) hx hb hts in3 hown hE.1 hP 0 rfl rfl 0 (by decide) w0 (fun _ h9 => h9) rfl dX3_addBlock_9 ?_
  refine lv_iload hx hb dX3_addBlock_12 (lv_at hl 0 rfl) ?_
  refine pc_i (va_runSN (As := [.ref qh, .int (iI (y * 6 + x))]) (rest := []) ⟨hx, hb, hml, hown, hts⟩ (c_X4_valueAt_in l g qh 36 h (y * 6 + x) (by omega) (by omega) (by omega)) ⟨va_cnB 2 hts gX3_addBlock_X4_valueAt_n31 rfl rfl rfl (hE.2.1.1 (RX3, 31, yX4_valueAt, RX4) (by decide +kernel)) w1 (by decide +kernel) ⟨Nat.le_of_ble_eq_true rfl, Nat.le_of_ble_eq_true rfl⟩, w2, trivial⟩ (ruS (RA.ofP hE hP 1 rfl)) rfl rfl hl.1 rfl (lv_room (Nat.le_of_ble_eq_true rfl)) dX3_addBlock_14 ⟨Nat.le_of_ble_eq_true rfl, Nat.le_of_ble_eq_true rfl⟩) ?_
  refine lv_istore (lv' := [(5, .int (iI (h (y * 6 + x)))), (4, .int (iI (y * 6 + x))), (0, .ref qy), (1, .int (iI x)), (2, .int (iI y)), (3, .int (iI d))]) hx hb dX3_addBlock_17 hl (by decide) rfl (fun ls hl => ?_)
  refine lv_iload hx hb dX3_addBlock_19 (lv_at hl 0 rfl) ?_
  refine lv_bipush (v := iI 8) hx hb dX3_addBlock_21 (by decide) ?_
  refine ln_icmp_ge (tgt := 64) hx hb dX3_addBlock_23 (by decide) ⟨by omega, by omega⟩ (by decide) (fun c_2 => ?_) (fun c_2 => ?_)
  · exfalso; omega
  · skip
    refine lv_aload_n hx hb dX3_addBlock_26 rfl (lv_at hl 2 rfl) ?_
    refine va_get (D := g.1) (ci := 3) (v := .ref qc) (C := RX3) (T := TX3) (N := 4) hx hb hts in3 hown hE.1 hP 0 rfl rfl 1 (by decide) w3 (fun _ h9 => h9) rfl dX3_addBlock_27 ?_
    refine lv_iload hx hb dX3_addBlock_30 (lv_at hl 1 rfl) ?_
    refine lv_aload_n hx hb dX3_addBlock_32 rfl (lv_at hl 2 rfl) ?_
    refine va_get (D := g.1) (ci := 3) (v := .ref qc) (C := RX3) (T := TX3) (N := 4) hx hb hts in3 hown hE.1 hP 0 rfl rfl 1 (by decide) w3 (fun _ h9 => h9) rfl dX3_addBlock_33 ?_
    refine lv_iload hx hb dX3_addBlock_36 (lv_at hl 1 rfl) ?_
    refine pc_i (va_runSN (As := [.ref qc, .int (iI (y * 6 + x))]) (rest := [.int (iI (y * 6 + x)), .ref qc]) ⟨hx, hb, hml, hown, hts⟩ (c_X4_valueAt_in l g qc 36 c (y * 6 + x) (by omega) (by omega) (by omega)) ⟨va_cnB 2 hts gX3_addBlock_X4_valueAt_n31 rfl rfl rfl (hE.2.1.1 (RX3, 31, yX4_valueAt, RX4) (by decide +kernel)) w1 (by decide +kernel) ⟨Nat.le_of_ble_eq_true rfl, Nat.le_of_ble_eq_true rfl⟩, w2, trivial⟩ (ruS (RA.ofP hE hP 2 rfl)) rfl rfl hl.1 rfl (lv_room (Nat.le_of_ble_eq_true rfl)) dX3_addBlock_38 ⟨Nat.le_of_ble_eq_true rfl, Nat.le_of_ble_eq_true rfl⟩) ?_
    refine lv_iload_n hx hb dX3_addBlock_41 rfl (lv_at hl 5 rfl) ?_
    refine lv_iconst (v := iI 2) hx hb dX3_addBlock_42 rfl ?_
    refine lv_iload hx hb dX3_addBlock_43 (lv_at hl 0 rfl) ?_
    refine ln_imul hx hb (2 * h (y * 6 + x)) (rfl) dX3_addBlock_45 ?_
    refine ln_ishl hx hb (d * p4 ((h (y * 6 + x)))) (shl4 gd (by omega)) dX3_addBlock_46 ?_
    refine ln_ior hx hb (c (y * 6 + x) + d * p4 (h (y * 6 + x))) (or4 hc9.1 hc9.2 gd.1) dX3_addBlock_47 ?_
    have hPc_3 := hP.sub (ws' := [(qc, .inl (gI g, 36, .inl (aI c)))]) [2] rfl
    have hDc_4 := hD.sub (ws' := [(qc, .inl (gI g, 36, .inl (aI c)))]) [2] (by decide) rfl
    have hFc_5 := va_free (wc := [(qc, .inl (gI g, 36, .inl (aI c)))]) hD hS hA [2] rfl
    refine mc_v (wr := [(qy, .inr (3, [.ref qh, .ref qc, .int (iI n), .int (iI ho)])), (qh, .inl (gI g, 36, .inl (aI h)))]) (cells1 := 0) (slots1 := 0) (va_runSN (As := [.ref qc, .int (iI (y * 6 + x)), .int (iI (c (y * 6 + x) + d * p4 (h (y * 6 + x))))]) (rest := []) ⟨hx, hb, hml, hown, hts⟩ (c_X4_setAt_in l g qc 36 c (y * 6 + x) (c (y * 6 + x) + d * p4 (h (y * 6 + x))) (by omega) (by omega) (by omega) sZ.heap.size) ⟨va_cnB 3 hts gX3_addBlock_X4_setAt_n35 rfl rfl rfl (hE.2.1.1 (RX3, 35, yX4_setAt, RX4) (by decide +kernel)) w1 (by decide +kernel) ⟨Nat.le_of_ble_eq_true rfl, Nat.le_of_ble_eq_true rfl⟩, w4, trivial⟩ (muS hE hS hPc_3 hDc_4 hFc_5) rfl rfl hl.1 rfl (lv_room (Nat.le_of_ble_eq_true rfl)) dX3_addBlock_48 ⟨Nat.le_of_ble_eq_true rfl, Nat.le_of_ble_eq_true rfl⟩) hP hD hS hA [2] [0, 1] [0, 1, 2] rfl rfl (by decide) (by decide) (fun _ => [(qy, .inr (3, [.ref qh, .ref qc, .int (iI n), .int (iI ho)])), (qh, .inl (gI g, 36, .inl (aI h))), (qc, .inl (gI g, 36, .inl (aI (updI c (y * 6 + x) (c (y * 6 + x) + d * p4 (h (y * 6 + x)))))))]) (fun _ => rfl) (by decide) (Nat.le_of_ble_eq_true rfl) (Nat.le_of_ble_eq_true rfl) (fun u9 H locs hu_6 hP hD hS => ?_)
    have hP : va_P g.1 vwCl [(qy, .inr (3, [.ref qh, .ref qc, .int (iI n), .int (iI ho)])), (qh, .inl (gI g, 36, .inl (aI h))), (qc, .inl (gI g, 36, .inl (aI (updI c (y * 6 + x) (c (y * 6 + x) + d * p4 (h (y * 6 + x)))))))] H := hP
    have hD : va_D A [(qy, .inr (3, [.ref qh, .ref qc, .int (iI n), .int (iI ho)])), (qh, .inl (gI g, 36, .inl (aI h))), (qc, .inl (gI g, 36, .inl (aI (updI c (y * 6 + x) (c (y * 6 + x) + d * p4 (h (y * 6 + x)))))))] := hD
    refine lv_aload_n hx hb dX3_addBlock_51 rfl (lv_at hl 2 rfl) ?_
    refine va_get (D := g.1) (ci := 3) (v := .ref qh) (C := RX3) (T := TX3) (N := 4) hx hb hts in3 hown hE.1 hP 0 rfl rfl 0 (by decide) w0 (fun _ h9 => h9) rfl dX3_addBlock_52 ?_
    refine lv_iload hx hb dX3_addBlock_55 (lv_at hl 1 rfl) ?_
    refine lv_iload hx hb dX3_addBlock_57 (lv_at hl 0 rfl) ?_
    refine lv_iconst (v := iI 1) hx hb dX3_addBlock_59 rfl ?_
    refine ln_iadd hx hb (h (y * 6 + x) + 1) (rfl) dX3_addBlock_60 ?_
    have hPc_7 := hP.sub (ws' := [(qh, .inl (gI g, 36, .inl (aI h)))]) [1] rfl
    have hDc_8 := hD.sub (ws' := [(qh, .inl (gI g, 36, .inl (aI h)))]) [1] (by decide) rfl
    have hFc_9 := va_free (wc := [(qh, .inl (gI g, 36, .inl (aI h)))]) hD hS hA [1] rfl
    refine mc_v (wr := [(qy, .inr (3, [.ref qh, .ref qc, .int (iI n), .int (iI ho)])), (qc, .inl (gI g, 36, .inl (aI (updI c (y * 6 + x) (c (y * 6 + x) + d * p4 (h (y * 6 + x)))))))]) (cells1 := 0) (slots1 := 0) (va_runSN (As := [.ref qh, .int (iI (y * 6 + x)), .int (iI (h (y * 6 + x) + 1))]) (rest := []) ⟨hx, hb, hml, hown, hts⟩ (c_X4_setAt_in l g qh 36 h (y * 6 + x) (h (y * 6 + x) + 1) (by omega) (by omega) (by omega) H.size) ⟨va_cnB 3 hts gX3_addBlock_X4_setAt_n35 rfl rfl rfl (hE.2.1.1 (RX3, 35, yX4_setAt, RX4) (by decide +kernel)) w1 (by decide +kernel) ⟨Nat.le_of_ble_eq_true rfl, Nat.le_of_ble_eq_true rfl⟩, w4, trivial⟩ (muS hE hS hPc_7 hDc_8 hFc_9) rfl rfl hl.1 rfl (lv_room (Nat.le_of_ble_eq_true rfl)) dX3_addBlock_61 ⟨Nat.le_of_ble_eq_true rfl, Nat.le_of_ble_eq_true rfl⟩) hP hD hS hA [1] [0, 2] [0, 2, 1] rfl rfl (by decide) (by decide) (fun _ => [(qy, .inr (3, [.ref qh, .ref qc, .int (iI n), .int (iI ho)])), (qh, .inl (gI g, 36, .inl (aI (updI h (y * 6 + x) (h (y * 6 + x) + 1))))), (qc, .inl (gI g, 36, .inl (aI (updI c (y * 6 + x) (c (y * 6 + x) + d * p4 (h (y * 6 + x)))))))]) (fun _ => rfl) (by decide) (Nat.le_of_ble_eq_true rfl) (Nat.le_of_ble_eq_true rfl) (fun u9 H locs hu_10 hP hD hS => ?_)
    have hP : va_P g.1 vwCl [(qy, .inr (3, [.ref qh, .ref qc, .int (iI n), .int (iI ho)])), (qh, .inl (gI g, 36, .inl (aI (updI h (y * 6 + x) (h (y * 6 + x) + 1))))), (qc, .inl (gI g, 36, .inl (aI (updI c (y * 6 + x) (c (y * 6 + x) + d * p4 (h (y * 6 + x)))))))] H := hP
    have hD : va_D A [(qy, .inr (3, [.ref qh, .ref qc, .int (iI n), .int (iI ho)])), (qh, .inl (gI g, 36, .inl (aI (updI h (y * 6 + x) (h (y * 6 + x) + 1))))), (qc, .inl (gI g, 36, .inl (aI (updI c (y * 6 + x) (c (y * 6 + x) + d * p4 (h (y * 6 + x)))))))] := hD
    have hP : va_P g.1 vwCl [(qy, .inr (3, [.ref qh, .ref qc, .int (iI n), .int (iI ho)])), (qh, .inl (gI g, 36, .inl (aI ((updI h (y * 6 + x) (h (y * 6 + x) + 1)))))), (qc, .inl (gI g, 36, .inl (aI ((updI c (y * 6 + x) (c (y * 6 + x) + d * p4 (h (y * 6 + x))))))))] _ := hP
    have hD : va_D A [(qy, .inr (3, [.ref qh, .ref qc, .int (iI n), .int (iI ho)])), (qh, .inl (gI g, 36, .inl (aI ((updI h (y * 6 + x) (h (y * 6 + x) + 1)))))), (qc, .inl (gI g, 36, .inl (aI ((updI c (y * 6 + x) (c (y * 6 + x) + d * p4 (h (y * 6 + x))))))))] := hD
    exact mend_v (S := Unit) (w' := (fun _ => [(qy, .inr (3, [.ref qh, .ref qc, .int (iI n), .int (iI ho)])), (qh, .inl (gI g, 36, .inl (aI ((updI h (y * 6 + x) (h (y * 6 + x) + 1)))))), (qc, .inl (gI g, 36, .inl (aI ((updI c (y * 6 + x) (c (y * 6 + x) + d * p4 (h (y * 6 + x))))))))])) (post := (fun _ => True)) hx hb hr hlk hS () hP hD (trivial) (Nat.le_of_ble_eq_true rfl) (Nat.le_of_ble_eq_true rfl) dX3_addBlock_64
set_option maxHeartbeats 800000 in
set_option maxRecDepth 100000 in
theorem c_X3_lowerTo (l : Launch) (g : GT) (qy : Nat) (qh : Nat) (qc : Nat) (n : Int) (ho : Int) (h : Int → Int) (c : Int → Int) (x : Int) (y : Int) (v : Int) (hY : YOk n ho h c) (h1 : 0 ≤ x) (h2 : x < n) (h3 : 0 ≤ y) (h4 : y < n) (gv : -1 ≤ v ∧ v ≤ 8) : MutV l yX3_lowerTo wsX3_lowerTo ({ frames := 1, cells := 0, slots := 0, locals := 22 }) 0 0 g [(qy, .inr (3, [.ref qh, .ref qc, .int (iI n), .int (iI ho)])), (qh, .inl (gI g, 36, .inl (aI h))), (qc, .inl (gI g, 36, .inl (aI c)))] [.ref qy, .int (iI x), .int (iI y), .int (iI v)] (S := Unit) (fun _ => True) (fun _ => [(qy, .inr (3, [.ref qh, .ref qc, .int (iI n), .int (iI ho)])), (qh, .inl (gI g, 36, .inl (aI ((lowH h (y * 6 + x) v))))), (qc, .inl (gI g, 36, .inl (aI ((lowC h c (y * 6 + x) v)))))]) := by
  refine mut_of (y := yX3_lowerTo) (ws := wsX3_lowerTo) (av := [.ref qy, .int (iI x), .int (iI y), .int (iI v)]) (w := [(qy, .inr (3, [.ref qh, .ref qc, .int (iI n), .int (iI ho)])), (qh, .inl (gI g, 36, .inl (aI h))), (qc, .inl (gI g, 36, .inl (aI c)))]) (Qc := fun A => va_Qv (fun (u9 : Unit) => (fun _ => True) u9) (fun u9 t9 => MB g ((fun _ => [(qy, .inr (3, [.ref qh, .ref qc, .int (iI n), .int (iI ho)])), (qh, .inl (gI g, 36, .inl (aI ((lowH h (y * 6 + x) v))))), (qc, .inl (gI g, 36, .inl (aI ((lowC h c (y * 6 + x) v)))))]) u9) A t9) A) (cc := cX3_lowerTo) (maxL := 5) (ret := none) (by decide) rfl (Nat.le_of_ble_eq_true rfl) ?_
  intro pZ eZ sZ mZ bZ meZ cZ A F hin hA hP hD hE hS ls hl
  obtain ⟨hx, hb, hr, hml, hts, hown, hlk⟩ := F
  skip
  have hown : sZ.vm.findClass RX3 = some mZ.cls := hown
  have hl : lv_has ls 5 [(0, .ref qy), (1, .int (iI x)), (2, .int (iI y)), (3, .int (iI v))] := hl
  skip
  have w0 := hts (.fieldLink RX3 9 "SlantYard$Yard" "heights" "[I") (by decide +kernel)
  have w1 := hts (.initialized RX4) (by decide +kernel)
  have w2 := hts (.static yX4_valueAt) (by decide +kernel)
  have w3 := hts (.static yX4_setAt) (by decide +kernel)
  have w4 := hts (.fieldLink RX3 15 "SlantYard$Yard" "colours" "[I") (by decide +kernel)
  have in3 : ∀ w ∈ u_ws RX3 TX3 4, w ∈ wsX3_lowerTo := by decide +kernel
  have hnn := hY.n
  have hho := hY.hr
  have hh9 := YOk.h hY (y * 6 + x)
  have hc8 := YOk.c8 hY (y * 6 + x)
  refine lv_aload_n hx hb dX3_lowerTo_0 rfl (lv_at hl 0 rfl) ?_
  refine lv_iload_n hx hb dX3_lowerTo_1 rfl (lv_at hl 1 rfl) ?_
  refine lv_iload_n hx hb dX3_lowerTo_2 rfl (lv_at hl 2 rfl) ?_
  have hPc_1 := hP.sub (ws' := [(qy, .inr (3, [.ref qh, .ref qc, .int (iI n), .int (iI ho)]))]) [0] rfl
  refine pc_i (va_runV (As := [.int (iI x), .int (iI y)]) (rest := []) ⟨hx, hb, hml, hown, hts⟩ (c_X3_squareAt_in l g qy qh qc n ho x y hnn h1 h2 h3 h4) (cwV 2 hts gX3_lowerTo_X3_squareAt rfl rfl rfl (by decide +kernel) ⟨Nat.le_of_ble_eq_true rfl, Nat.le_of_ble_eq_true rfl⟩) (puV hE hS hPc_1 rfl rfl) rfl rfl hl.1 rfl (lv_room (Nat.le_of_ble_eq_true rfl)) dX3_lowerTo_3 ⟨Nat.le_of_ble_eq_true rfl, Nat.le_of_ble_eq_true rfl⟩) ?_
  refine lv_istore (lv' := [(4, .int (iI (y * 6 + x))), (0, .ref qy), (1, .int (iI x)), (2, .int (iI y)), (3, .int (iI v))]) hx hb dX3_lowerTo_6 hl (by decide) rfl (fun ls hl => ?_)
  refine lv_iload_n hx hb dX3_lowerTo_8 rfl (lv_at hl 4 rfl) ?_
  refine ln_if_lt (tgt := 61) hx hb dX3_lowerTo_9 (by decide) ⟨by omega, by omega⟩ (fun c_2 => ?_) (fun c_2 => ?_)
  · skip
    have hP := hP.recell 1 rfl ((lowH h (y * 6 + x) v)) (fun j _ _ => by unfold lowH; first | (rw [if_pos ⟨by omega, by omega⟩]; done) | (rw [if_neg (by omega)]))
    have hD := hD.set (p := 1) (e := .inl (gI g, 36, .inl (aI ((lowH h (y * 6 + x) v))))) rfl
    have hP := hP.recell 2 rfl ((lowC h c (y * 6 + x) v)) (fun j _ _ => by unfold lowC; first | (rw [if_pos ⟨by omega, by omega⟩]; done) | (rw [if_neg (by omega)]))
    have hD := hD.set (p := 2) (e := .inl (gI g, 36, .inl (aI ((lowC h c (y * 6 + x) v))))) rfl
    have hP : va_P g.1 vwCl [(qy, .inr (3, [.ref qh, .ref qc, .int (iI n), .int (iI ho)])), (qh, .inl (gI g, 36, .inl (aI ((lowH h (y * 6 + x) v))))), (qc, .inl (gI g, 36, .inl (aI ((lowC h c (y * 6 + x) v)))))] _ := hP
    have hD : va_D A [(qy, .inr (3, [.ref qh, .ref qc, .int (iI n), .int (iI ho)])), (qh, .inl (gI g, 36, .inl (aI ((lowH h (y * 6 + x) v))))), (qc, .inl (gI g, 36, .inl (aI ((lowC h c (y * 6 + x) v)))))] := hD
    exact mend_v (S := Unit) (w' := (fun _ => [(qy, .inr (3, [.ref qh, .ref qc, .int (iI n), .int (iI ho)])), (qh, .inl (gI g, 36, .inl (aI ((lowH h (y * 6 + x) v))))), (qc, .inl (gI g, 36, .inl (aI ((lowC h c (y * 6 + x) v)))))])) (post := (fun _ => True)) hx hb hr hlk hS () hP hD (trivial) (Nat.le_of_ble_eq_true rfl) (Nat.le_of_ble_eq_true rfl) dX3_lowerTo_61
  · skip
    refine lv_iload_n hx hb dX3_lowerTo_12 rfl (lv_at hl 4 rfl) ?_
    refine lv_aload_n hx hb dX3_lowerTo_13 rfl (lv_at hl 1 rfl) ?_
    refine va_get (D := g.1) (ci := 3) (v := .ref qh) (C := RX3) (T := TX3) (N := 4) hx hb hts in3 hown hE.1 hP 0 rfl rfl 0 (by decide) w0 (fun _ h9 => h9) rfl dX3_lowerTo_14 ?_
    refine lv_iload hx hb dX3_lowerTo_17 (lv_at hl 0 rfl) ?_
    refine pc_i (va_runSN (As := [.ref qh, .int (iI (y * 6 + x))]) (rest := [.int (iI v)]) ⟨hx, hb, hml, hown, hts⟩ (c_X4_valueAt_in l g qh 36 h (y * 6 + x) (by omega) (by omega) (by omega)) ⟨va_cnB 2 hts gX3_lowerTo_X4_valueAt_n31 rfl rfl rfl (hE.2.1.1 (RX3, 31, yX4_valueAt, RX4) (by decide +kernel)) w1 (by decide +kernel) ⟨Nat.le_of_ble_eq_true rfl, Nat.le_of_ble_eq_true rfl⟩, w2, trivial⟩ (ruS (RA.ofP hE hP 1 rfl)) rfl rfl hl.1 rfl (lv_room (Nat.le_of_ble_eq_true rfl)) dX3_lowerTo_19 ⟨Nat.le_of_ble_eq_true rfl, Nat.le_of_ble_eq_true rfl⟩) ?_
    refine ln_icmp_ge (tgt := 61) hx hb dX3_lowerTo_22 (by decide) ⟨by omega, by omega⟩ ⟨by omega, by omega⟩ (fun c_3 => ?_) (fun c_3 => ?_)
    · skip
      have hP := hP.recell 1 rfl ((lowH h (y * 6 + x) v)) (fun j _ _ => by unfold lowH; first | (rw [if_pos ⟨by omega, by omega⟩]; done) | (rw [if_neg (by omega)]))
      have hD := hD.set (p := 1) (e := .inl (gI g, 36, .inl (aI ((lowH h (y * 6 + x) v))))) rfl
      have hP := hP.recell 2 rfl ((lowC h c (y * 6 + x) v)) (fun j _ _ => by unfold lowC; first | (rw [if_pos ⟨by omega, by omega⟩]; done) | (rw [if_neg (by omega)]))
      have hD := hD.set (p := 2) (e := .inl (gI g, 36, .inl (aI ((lowC h c (y * 6 + x) v))))) rfl
      have hP : va_P g.1 vwCl [(qy, .inr (3, [.ref qh, .ref qc, .int (iI n), .int (iI ho)])), (qh, .inl (gI g, 36, .inl (aI ((lowH h (y * 6 + x) v))))), (qc, .inl (gI g, 36, .inl (aI ((lowC h c (y * 6 + x) v)))))] _ := hP
      have hD : va_D A [(qy, .inr (3, [.ref qh, .ref qc, .int (iI n), .int (iI ho)])), (qh, .inl (gI g, 36, .inl (aI ((lowH h (y * 6 + x) v))))), (qc, .inl (gI g, 36, .inl (aI ((lowC h c (y * 6 + x) v)))))] := hD
      exact mend_v (S := Unit) (w' := (fun _ => [(qy, .inr (3, [.ref qh, .ref qc, .int (iI n), .int (iI ho)])), (qh, .inl (gI g, 36, .inl (aI ((lowH h (y * 6 + x) v))))), (qc, .inl (gI g, 36, .inl (aI ((lowC h c (y * 6 + x) v)))))])) (post := (fun _ => True)) hx hb hr hlk hS () hP hD (trivial) (Nat.le_of_ble_eq_true rfl) (Nat.le_of_ble_eq_true rfl) dX3_lowerTo_61
    · skip
      refine lv_aload_n hx hb dX3_lowerTo_25 rfl (lv_at hl 1 rfl) ?_
      refine va_get (D := g.1) (ci := 3) (v := .ref qh) (C := RX3) (T := TX3) (N := 4) hx hb hts in3 hown hE.1 hP 0 rfl rfl 0 (by decide) w0 (fun _ h9 => h9) rfl dX3_lowerTo_26 ?_
      refine lv_iload hx hb dX3_lowerTo_29 (lv_at hl 0 rfl) ?_
      refine lv_iload_n hx hb dX3_lowerTo_31 rfl (lv_at hl 4 rfl) ?_
      have hPc_4 := hP.sub (ws' := [(qh, .inl (gI g, 36, .inl (aI h)))]) [1] rfl
      have hDc_5 := hD.sub (ws' := [(qh, .inl (gI g, 36, .inl (aI h)))]) [1] (by decide) rfl
      have hFc_6 := va_free (wc := [(qh, .inl (gI g, 36, .inl (aI h)))]) hD hS hA [1] rfl
      refine mc_v (wr := [(qy, .inr (3, [.ref qh, .ref qc, .int (iI n), .int (iI ho)])), (qc, .inl (gI g, 36, .inl (aI c)))]) (cells1 := 0) (slots1 := 0) (va_runSN (As := [.ref qh, .int (iI (y * 6 + x)), .int (iI v)]) (rest := []) ⟨hx, hb, hml, hown, hts⟩ (c_X4_setAt_in l g qh 36 h (y * 6 + x) v (by omega) (by omega) (by omega) sZ.heap.size) ⟨va_cnB 3 hts gX3_lowerTo_X4_setAt_n35 rfl rfl rfl (hE.2.1.1 (RX3, 35, yX4_setAt, RX4) (by decide +kernel)) w1 (by decide +kernel) ⟨Nat.le_of_ble_eq_true rfl, Nat.le_of_ble_eq_true rfl⟩, w3, trivial⟩ (muS hE hS hPc_4 hDc_5 hFc_6) rfl rfl hl.1 rfl (lv_room (Nat.le_of_ble_eq_true rfl)) dX3_lowerTo_32 ⟨Nat.le_of_ble_eq_true rfl, Nat.le_of_ble_eq_true rfl⟩) hP hD hS hA [1] [0, 2] [0, 2, 1] rfl rfl (by decide) (by decide) (fun _ => [(qy, .inr (3, [.ref qh, .ref qc, .int (iI n), .int (iI ho)])), (qh, .inl (gI g, 36, .inl (aI (updI h (y * 6 + x) v)))), (qc, .inl (gI g, 36, .inl (aI c)))]) (fun _ => rfl) (by decide) (Nat.le_of_ble_eq_true rfl) (Nat.le_of_ble_eq_true rfl) (fun u9 H locs hu_7 hP hD hS => ?_)
      have hP : va_P g.1 vwCl [(qy, .inr (3, [.ref qh, .ref qc, .int (iI n), .int (iI ho)])), (qh, .inl (gI g, 36, .inl (aI (updI h (y * 6 + x) v)))), (qc, .inl (gI g, 36, .inl (aI c)))] H := hP
      have hD : va_D A [(qy, .inr (3, [.ref qh, .ref qc, .int (iI n), .int (iI ho)])), (qh, .inl (gI g, 36, .inl (aI (updI h (y * 6 + x) v)))), (qc, .inl (gI g, 36, .inl (aI c)))] := hD
      refine lv_aload_n hx hb dX3_lowerTo_35 rfl (lv_at hl 1 rfl) ?_
      refine va_get (D := g.1) (ci := 3) (v := .ref qc) (C := RX3) (T := TX3) (N := 4) hx hb hts in3 hown hE.1 hP 0 rfl rfl 1 (by decide) w4 (fun _ h9 => h9) rfl dX3_lowerTo_36 ?_
      refine lv_iload hx hb dX3_lowerTo_39 (lv_at hl 0 rfl) ?_
      refine lv_aload_n hx hb dX3_lowerTo_41 rfl (lv_at hl 1 rfl) ?_
      refine va_get (D := g.1) (ci := 3) (v := .ref qc) (C := RX3) (T := TX3) (N := 4) hx hb hts in3 hown hE.1 hP 0 rfl rfl 1 (by decide) w4 (fun _ h9 => h9) rfl dX3_lowerTo_42 ?_
      refine lv_iload hx hb dX3_lowerTo_45 (lv_at hl 0 rfl) ?_
      refine pc_i (va_runSN (As := [.ref qc, .int (iI (y * 6 + x))]) (rest := [.int (iI (y * 6 + x)), .ref qc]) ⟨hx, hb, hml, hown, hts⟩ (c_X4_valueAt_in l g qc 36 c (y * 6 + x) (by omega) (by omega) (by omega)) ⟨va_cnB 2 hts gX3_lowerTo_X4_valueAt_n31 rfl rfl rfl (hE.2.1.1 (RX3, 31, yX4_valueAt, RX4) (by decide +kernel)) w1 (by decide +kernel) ⟨Nat.le_of_ble_eq_true rfl, Nat.le_of_ble_eq_true rfl⟩, w2, trivial⟩ (ruS (RA.ofP hE hP 2 rfl)) rfl rfl hl.1 rfl (lv_room (Nat.le_of_ble_eq_true rfl)) dX3_lowerTo_47 ⟨Nat.le_of_ble_eq_true rfl, Nat.le_of_ble_eq_true rfl⟩) ?_
      refine lv_iconst (v := iI 1) hx hb dX3_lowerTo_50 rfl ?_
      refine lv_iconst (v := iI 2) hx hb dX3_lowerTo_51 rfl ?_
      refine lv_iload_n hx hb dX3_lowerTo_52 rfl (lv_at hl 4 rfl) ?_
      refine ln_imul hx hb (2 * v) (rfl) dX3_lowerTo_53 ?_
      refine ln_ishl hx hb (p4 v) (by have := shl4 (c := 1) (z := v) (by decide) (by omega); rw [Int.one_mul] at this; exact this) dX3_lowerTo_54 ?_
      refine lv_iconst (v := iI 1) hx hb dX3_lowerTo_55 rfl ?_
      refine ln_isub hx hb ((p4 v) - 1) (rfl) dX3_lowerTo_56 ?_
      refine ln_iand hx hb (c (y * 6 + x) % p4 v) (and4 hc8.1) dX3_lowerTo_57 ?_
      have hPc_8 := hP.sub (ws' := [(qc, .inl (gI g, 36, .inl (aI c)))]) [2] rfl
      have hDc_9 := hD.sub (ws' := [(qc, .inl (gI g, 36, .inl (aI c)))]) [2] (by decide) rfl
      have hFc_10 := va_free (wc := [(qc, .inl (gI g, 36, .inl (aI c)))]) hD hS hA [2] rfl
      refine mc_v (wr := [(qy, .inr (3, [.ref qh, .ref qc, .int (iI n), .int (iI ho)])), (qh, .inl (gI g, 36, .inl (aI (updI h (y * 6 + x) v))))]) (cells1 := 0) (slots1 := 0) (va_runSN (As := [.ref qc, .int (iI (y * 6 + x)), .int (iI (c (y * 6 + x) % p4 v))]) (rest := []) ⟨hx, hb, hml, hown, hts⟩ (c_X4_setAt_in l g qc 36 c (y * 6 + x) (c (y * 6 + x) % p4 v) (by omega) (by omega) (by omega) H.size) ⟨va_cnB 3 hts gX3_lowerTo_X4_setAt_n35 rfl rfl rfl (hE.2.1.1 (RX3, 35, yX4_setAt, RX4) (by decide +kernel)) w1 (by decide +kernel) ⟨Nat.le_of_ble_eq_true rfl, Nat.le_of_ble_eq_true rfl⟩, w3, trivial⟩ (muS hE hS hPc_8 hDc_9 hFc_10) rfl rfl hl.1 rfl (lv_room (Nat.le_of_ble_eq_true rfl)) dX3_lowerTo_58 ⟨Nat.le_of_ble_eq_true rfl, Nat.le_of_ble_eq_true rfl⟩) hP hD hS hA [2] [0, 1] [0, 1, 2] rfl rfl (by decide) (by decide) (fun _ => [(qy, .inr (3, [.ref qh, .ref qc, .int (iI n), .int (iI ho)])), (qh, .inl (gI g, 36, .inl (aI (updI h (y * 6 + x) v)))), (qc, .inl (gI g, 36, .inl (aI (updI c (y * 6 + x) (c (y * 6 + x) % p4 v)))))]) (fun _ => rfl) (by decide) (Nat.le_of_ble_eq_true rfl) (Nat.le_of_ble_eq_true rfl) (fun u9 H locs hu_11 hP hD hS => ?_)
      have hP : va_P g.1 vwCl [(qy, .inr (3, [.ref qh, .ref qc, .int (iI n), .int (iI ho)])), (qh, .inl (gI g, 36, .inl (aI (updI h (y * 6 + x) v)))), (qc, .inl (gI g, 36, .inl (aI (updI c (y * 6 + x) (c (y * 6 + x) % p4 v)))))] H := hP
      have hD : va_D A [(qy, .inr (3, [.ref qh, .ref qc, .int (iI n), .int (iI ho)])), (qh, .inl (gI g, 36, .inl (aI (updI h (y * 6 + x) v)))), (qc, .inl (gI g, 36, .inl (aI (updI c (y * 6 + x) (c (y * 6 + x) % p4 v)))))] := hD
      have hP := hP.recell 1 rfl ((lowH h (y * 6 + x) v)) (fun j _ _ => by unfold lowH; first | (rw [if_pos ⟨by omega, by omega⟩]; done) | (rw [if_neg (by omega)]))
      have hD := hD.set (p := 1) (e := .inl (gI g, 36, .inl (aI ((lowH h (y * 6 + x) v))))) rfl
      have hP := hP.recell 2 rfl ((lowC h c (y * 6 + x) v)) (fun j _ _ => by unfold lowC; first | (rw [if_pos ⟨by omega, by omega⟩]; done) | (rw [if_neg (by omega)]))
      have hD := hD.set (p := 2) (e := .inl (gI g, 36, .inl (aI ((lowC h c (y * 6 + x) v))))) rfl
      have hP : va_P g.1 vwCl [(qy, .inr (3, [.ref qh, .ref qc, .int (iI n), .int (iI ho)])), (qh, .inl (gI g, 36, .inl (aI ((lowH h (y * 6 + x) v))))), (qc, .inl (gI g, 36, .inl (aI ((lowC h c (y * 6 + x) v)))))] _ := hP
      have hD : va_D A [(qy, .inr (3, [.ref qh, .ref qc, .int (iI n), .int (iI ho)])), (qh, .inl (gI g, 36, .inl (aI ((lowH h (y * 6 + x) v))))), (qc, .inl (gI g, 36, .inl (aI ((lowC h c (y * 6 + x) v)))))] := hD
      exact mend_v (S := Unit) (w' := (fun _ => [(qy, .inr (3, [.ref qh, .ref qc, .int (iI n), .int (iI ho)])), (qh, .inl (gI g, 36, .inl (aI ((lowH h (y * 6 + x) v))))), (qc, .inl (gI g, 36, .inl (aI ((lowC h c (y * 6 + x) v)))))])) (post := (fun _ => True)) hx hb hr hlk hS () hP hD (trivial) (Nat.le_of_ble_eq_true rfl) (Nat.le_of_ble_eq_true rfl) dX3_lowerTo_61
set_option maxHeartbeats 800000 in
set_option maxRecDepth 100000 in
theorem c_X3_removeBlock (l : Launch) (g : GT) (qy : Nat) (qh : Nat) (qc : Nat) (n : Int) (ho : Int) (h : Int → Int) (c : Int → Int) (x : Int) (y : Int) (hY : YOk n ho h c) (h1 : 0 ≤ x) (h2 : x < n) (h3 : 0 ≤ y) (h4 : y < n) : MutV l yX3_removeBlock wsX3_removeBlock ({ frames := 2, cells := 0, slots := 0, locals := 46 }) 0 0 g [(qy, .inr (3, [.ref qh, .ref qc, .int (iI n), .int (iI ho)])), (qh, .inl (gI g, 36, .inl (aI h))), (qc, .inl (gI g, 36, .inl (aI c)))] [.ref qy, .int (iI x), .int (iI y)] (S := Unit) (fun _ => True) (fun _ => [(qy, .inr (3, [.ref qh, .ref qc, .int (iI n), .int (iI ho)])), (qh, .inl (gI g, 36, .inl (aI ((lowH h (y * 6 + x) (h (y * 6 + x) - 1)))))), (qc, .inl (gI g, 36, .inl (aI ((lowC h c (y * 6 + x) (h (y * 6 + x) - 1))))))]) := by
  refine mut_of (y := yX3_removeBlock) (ws := wsX3_removeBlock) (av := [.ref qy, .int (iI x), .int (iI y)]) (w := [(qy, .inr (3, [.ref qh, .ref qc, .int (iI n), .int (iI ho)])), (qh, .inl (gI g, 36, .inl (aI h))), (qc, .inl (gI g, 36, .inl (aI c)))]) (Qc := fun A => va_Qv (fun (u9 : Unit) => (fun _ => True) u9) (fun u9 t9 => MB g ((fun _ => [(qy, .inr (3, [.ref qh, .ref qc, .int (iI n), .int (iI ho)])), (qh, .inl (gI g, 36, .inl (aI ((lowH h (y * 6 + x) (h (y * 6 + x) - 1)))))), (qc, .inl (gI g, 36, .inl (aI ((lowC h c (y * 6 + x) (h (y * 6 + x) - 1))))))]) u9) A t9) A) (cc := cX3_removeBlock) (maxL := 3) (ret := none) (by decide) rfl (Nat.le_of_ble_eq_true rfl) ?_
  intro pZ eZ sZ mZ bZ meZ cZ A F hin hA hP hD hE hS ls hl
  obtain ⟨hx, hb, hr, hml, hts, hown, hlk⟩ := F
  skip
  have hown : sZ.vm.findClass RX3 = some mZ.cls := hown
  have hl : lv_has ls 3 [(0, .ref qy), (1, .int (iI x)), (2, .int (iI y))] := hl
  skip
  have hnn := hY.n
  have hho := hY.hr
  refine lv_aload_n hx hb dX3_removeBlock_0 rfl (lv_at hl 0 rfl) ?_
  refine lv_iload_n hx hb dX3_removeBlock_1 rfl (lv_at hl 1 rfl) ?_
  refine lv_iload_n hx hb dX3_removeBlock_2 rfl (lv_at hl 2 rfl) ?_
  refine lv_aload_n hx hb dX3_removeBlock_3 rfl (lv_at hl 0 rfl) ?_
  refine lv_iload_n hx hb dX3_removeBlock_4 rfl (lv_at hl 1 rfl) ?_
  refine lv_iload_n hx hb dX3_removeBlock_5 rfl (lv_at hl 2 rfl) ?_
  have hPc_1 := hP.sub (ws' := [(qy, .inr (3, [.ref qh, .ref qc, .int (iI n), .int (iI ho)])), (qh, .inl (gI g, 36, .inl (aI h))), (qc, .inl (gI g, 36, .inl (aI c)))]) [0, 1, 2] rfl
  refine pc_i (va_runV (As := [.int (iI x), .int (iI y)]) (rest := [.int (iI y), .int (iI x), .ref qy]) ⟨hx, hb, hml, hown, hts⟩ (c_X3_heightAt l g qy qh qc n ho h c x y hY h1 h2 h3 h4) (cwV 2 hts gX3_removeBlock_X3_heightAt rfl rfl rfl (by decide +kernel) ⟨Nat.le_of_ble_eq_true rfl, Nat.le_of_ble_eq_true rfl⟩) (puV hE hS hPc_1 rfl rfl) rfl rfl hl.1 rfl (lv_room (Nat.le_of_ble_eq_true rfl)) dX3_removeBlock_6 ⟨Nat.le_of_ble_eq_true rfl, Nat.le_of_ble_eq_true rfl⟩) ?_
  have r_2 : 0 ≤ h (y * 6 + x) ∧ h (y * 6 + x) ≤ 8 := YOk.h hY (y * 6 + x)
  refine lv_iconst (v := iI 1) hx hb dX3_removeBlock_9 rfl ?_
  refine ln_isub hx hb (h (y * 6 + x) - 1) (rfl) dX3_removeBlock_10 ?_
  have hPc_3 := hP.sub (ws' := [(qy, .inr (3, [.ref qh, .ref qc, .int (iI n), .int (iI ho)])), (qh, .inl (gI g, 36, .inl (aI h))), (qc, .inl (gI g, 36, .inl (aI c)))]) [0, 1, 2] rfl
  have hDc_4 := hD.sub (ws' := [(qy, .inr (3, [.ref qh, .ref qc, .int (iI n), .int (iI ho)])), (qh, .inl (gI g, 36, .inl (aI h))), (qc, .inl (gI g, 36, .inl (aI c)))]) [0, 1, 2] (by decide) rfl
  have hFc_5 := va_free (wc := [(qy, .inr (3, [.ref qh, .ref qc, .int (iI n), .int (iI ho)])), (qh, .inl (gI g, 36, .inl (aI h))), (qc, .inl (gI g, 36, .inl (aI c)))]) hD hS hA [0, 1, 2] rfl
  refine mc_v (wr := []) (cells1 := 0) (slots1 := 0) (va_runV (As := [.int (iI x), .int (iI y), .int (iI (h (y * 6 + x) - 1))]) (rest := []) ⟨hx, hb, hml, hown, hts⟩ (c_X3_lowerTo l g qy qh qc n ho h c x y (h (y * 6 + x) - 1) hY h1 h2 h3 h4 (by omega) sZ.heap.size) (cwV 3 hts gX3_removeBlock_X3_lowerTo rfl rfl rfl (by decide +kernel) ⟨Nat.le_of_ble_eq_true rfl, Nat.le_of_ble_eq_true rfl⟩) (muV hE hS hPc_3 hDc_4 hFc_5 rfl rfl) rfl rfl hl.1 rfl (lv_room (Nat.le_of_ble_eq_true rfl)) dX3_removeBlock_11 ⟨Nat.le_of_ble_eq_true rfl, Nat.le_of_ble_eq_true rfl⟩) hP hD hS hA [0, 1, 2] [] [0, 1, 2] rfl rfl (by decide) (by decide) (fun _ => [(qy, .inr (3, [.ref qh, .ref qc, .int (iI n), .int (iI ho)])), (qh, .inl (gI g, 36, .inl (aI ((lowH h (y * 6 + x) (h (y * 6 + x) - 1)))))), (qc, .inl (gI g, 36, .inl (aI ((lowC h c (y * 6 + x) (h (y * 6 + x) - 1))))))]) (fun _ => rfl) (by decide) (Nat.le_of_ble_eq_true rfl) (Nat.le_of_ble_eq_true rfl) (fun u9 H locs hu_6 hP hD hS => ?_)
  have hP : va_P g.1 vwCl [(qy, .inr (3, [.ref qh, .ref qc, .int (iI n), .int (iI ho)])), (qh, .inl (gI g, 36, .inl (aI ((lowH h (y * 6 + x) (h (y * 6 + x) - 1)))))), (qc, .inl (gI g, 36, .inl (aI ((lowC h c (y * 6 + x) (h (y * 6 + x) - 1))))))] H := hP
  have hD : va_D A [(qy, .inr (3, [.ref qh, .ref qc, .int (iI n), .int (iI ho)])), (qh, .inl (gI g, 36, .inl (aI ((lowH h (y * 6 + x) (h (y * 6 + x) - 1)))))), (qc, .inl (gI g, 36, .inl (aI ((lowC h c (y * 6 + x) (h (y * 6 + x) - 1))))))] := hD
  have hP : va_P g.1 vwCl [(qy, .inr (3, [.ref qh, .ref qc, .int (iI n), .int (iI ho)])), (qh, .inl (gI g, 36, .inl (aI ((lowH h (y * 6 + x) (h (y * 6 + x) - 1)))))), (qc, .inl (gI g, 36, .inl (aI ((lowC h c (y * 6 + x) (h (y * 6 + x) - 1))))))] _ := hP
  have hD : va_D A [(qy, .inr (3, [.ref qh, .ref qc, .int (iI n), .int (iI ho)])), (qh, .inl (gI g, 36, .inl (aI ((lowH h (y * 6 + x) (h (y * 6 + x) - 1)))))), (qc, .inl (gI g, 36, .inl (aI ((lowC h c (y * 6 + x) (h (y * 6 + x) - 1))))))] := hD
  exact mend_v (S := Unit) (w' := (fun _ => [(qy, .inr (3, [.ref qh, .ref qc, .int (iI n), .int (iI ho)])), (qh, .inl (gI g, 36, .inl (aI ((lowH h (y * 6 + x) (h (y * 6 + x) - 1)))))), (qc, .inl (gI g, 36, .inl (aI ((lowC h c (y * 6 + x) (h (y * 6 + x) - 1))))))])) (post := (fun _ => True)) hx hb hr hlk hS () hP hD (trivial) (Nat.le_of_ble_eq_true rfl) (Nat.le_of_ble_eq_true rfl) dX3_removeBlock_14
set_option maxHeartbeats 800000 in
set_option maxRecDepth 100000 in
theorem c_X3_shadowCount (l : Launch) (g : GT) (qy : Nat) (qh : Nat) (qc : Nat) (n : Int) (ho : Int) (h : Int → Int) (c : Int → Int) (t : Int) (hY : YOk n ho h c) (gt : 0 ≤ t ∧ t ≤ 7) : MetI l yX3_shadowCount wsX3_shadowCount ({ frames := 3, cells := 0, slots := 0, locals := 74 }) g [(qy, .inr (3, [.ref qh, .ref qc, .int (iI n), .int (iI ho)])), (qh, .inl (gI g, 36, .inl (aI h))), (qc, .inl (gI g, 36, .inl (aI c)))] [.ref qy, .int (iI t)] (shK n h t n) := by
  refine pure_of (cc := cX3_shadowCount) (maxL := 5) (ret := (some .int)) (by decide) rfl (Nat.le_of_ble_eq_true rfl) ?_
  intro pZ eZ sZ mZ bZ meZ cZ F hP hE hS ls hl
  obtain ⟨hx, hb, hr, hml, hts, hown, hlk⟩ := F
  have hown : sZ.vm.findClass RX3 = some mZ.cls := hown
  have hl : lv_has ls 5 [(0, .ref qy), (1, .int (iI t))] := hl
  have w0 := hts (.fieldLink RX3 18 "SlantYard$Yard" "size" "I") (by decide +kernel)
  have in3 : ∀ w ∈ u_ws RX3 TX3 4, w ∈ wsX3_shadowCount := by decide +kernel
  have hnn := hY.n
  have hho := hY.hr
  refine lv_iconst (v := iI 0) hx hb dX3_shadowCount_0 rfl ?_
  refine lv_istore_n (lv' := [(2, .int (iI 0)), (0, .ref qy), (1, .int (iI t))]) hx hb dX3_shadowCount_1 rfl hl (by decide) rfl (fun ls hl => ?_)
  refine lv_iconst (v := iI 0) hx hb dX3_shadowCount_2 rfl ?_
  refine lv_istore_n (lv' := [(3, .int (iI 0)), (2, .int (iI 0)), (0, .ref qy), (1, .int (iI t))]) hx hb dX3_shadowCount_3 rfl hl (by decide) rfl (fun ls hl => ?_)
  have L4 : ∀ (k_1 : Nat) (y : Int) (gk : 0 ≤ y) (gl : y ≤ n) (ls : Array Slot), lv_has ls 5 [(0, .ref qy), (1, .int (iI t)), (2, .int (iI (shK n h t y))), (3, .int (iI y))] → (n - y).toNat < k_1 → W pZ l eZ ({ frames := 3, cells := 0, slots := 0, locals := 74 } : Room) sZ mZ [.ref qy, .int (iI t)].toArray bZ meZ cZ sZ.heap [] 0 0 (MQ bZ (vp_Si (fun y9 => y9 = iI (shK n h t n))) [.ref qy, .int (iI t)].toArray sZ 0 0 (fun _ => False)) (F0 mZ 4 ls []) := by
    intro k_1
    induction k_1 with
    | zero => intro y gk gl ls hl hm_3; exact absurd hm_3 (Nat.not_lt_zero _)
    | succ k_1 ih_2 =>
      intro y gk gl ls hl hm_3
      have b_4 : 0 ≤ shK n h t y ∧ shK n h t y ≤ y * 6 := shK_rg t (by omega) gk
      refine lv_iload_n hx hb dX3_shadowCount_4 rfl (lv_at hl 3 rfl) ?_
      refine lv_aload_n hx hb dX3_shadowCount_5 rfl (lv_at hl 0 rfl) ?_
      refine va_get (D := g.1) (ci := 3) (v := .int (iI n)) (C := RX3) (T := TX3) (N := 4) hx hb hts in3 hown hE.1 hP 0 rfl rfl 2 (by decide) w0 (fun _ h9 => h9) rfl dX3_shadowCount_6 ?_
      refine ln_icmp_ge (tgt := 50) hx hb dX3_shadowCount_9 (by decide) ⟨by omega, by omega⟩ ⟨by omega, by omega⟩ (fun c_5 => ?_) (fun c_5 => ?_)
      · skip
        refine lv_iload_n hx hb dX3_shadowCount_50 rfl (lv_at hl 2 rfl) ?_
        exact pend_i hx hb hr hlk hS rfl (by rw [show y = n by omega]) dX3_shadowCount_51
      · skip
        refine lv_iconst (v := iI 0) hx hb dX3_shadowCount_12 rfl ?_
        refine lv_istore (lv' := [(4, .int (iI 0)), (0, .ref qy), (1, .int (iI t)), (2, .int (iI (shK n h t y))), (3, .int (iI y))]) hx hb dX3_shadowCount_13 hl (by decide) rfl (fun ls hl => ?_)
        have L15 : ∀ (k_6 : Nat) (x : Int) (gx : 0 ≤ x) (gm : x ≤ n) (ls : Array Slot), lv_has ls 5 [(0, .ref qy), (1, .int (iI t)), (2, .int (iI (shR n h t y (shK n h t y) x))), (3, .int (iI y)), (4, .int (iI x))] → (n - x).toNat < k_6 → W pZ l eZ ({ frames := 3, cells := 0, slots := 0, locals := 74 } : Room) sZ mZ [.ref qy, .int (iI t)].toArray bZ meZ cZ sZ.heap [] 0 0 (MQ bZ (vp_Si (fun y9 => y9 = iI (shK n h t n))) [.ref qy, .int (iI t)].toArray sZ 0 0 (fun _ => False)) (F0 mZ 15 ls []) := by
          intro k_6
          induction k_6 with
          | zero => intro x gx gm ls hl hm_8; exact absurd hm_8 (Nat.not_lt_zero _)
          | succ k_6 ih_7 =>
            intro x gx gm ls hl hm_8
            have b_9 : shK n h t y ≤ shR n h t y (shK n h t y) x ∧ shR n h t y (shK n h t y) x ≤ shK n h t y + x := shR_rg t y _ gx
            refine lv_iload hx hb dX3_shadowCount_15 (lv_at hl 4 rfl) ?_
            refine lv_aload_n hx hb dX3_shadowCount_17 rfl (lv_at hl 0 rfl) ?_
            refine va_get (D := g.1) (ci := 3) (v := .int (iI n)) (C := RX3) (T := TX3) (N := 4) hx hb hts in3 hown hE.1 hP 0 rfl rfl 2 (by decide) w0 (fun _ h9 => h9) rfl dX3_shadowCount_18 ?_
            refine ln_icmp_ge (tgt := 44) hx hb dX3_shadowCount_21 (by decide) ⟨by omega, by omega⟩ ⟨by omega, by omega⟩ (fun c_10 => ?_) (fun c_10 => ?_)
            · skip
              refine lv_iinc (v := iI (y + 1)) (lv' := [(3, .int (iI (y + 1))), (0, .ref qy), (1, .int (iI t)), (2, .int (iI (shR n h t y (shK n h t y) x))), (4, .int (iI x))]) hx hb dX3_shadowCount_44 hl (k := 3) rfl (iI_add _ _) (by decide) rfl (fun ls hl => ?_)
              refine lv_goto (tgt := 4) hx hb dX3_shadowCount_47 (by decide) ?_
              have hl := lv_re hl 3 rfl (.int (iI (shK n h t (y + 1)))) (congrArg (fun z => Value.int (iI z)) (show shR n h t y (shK n h t y) x = shK n h t (y + 1) from by rw [show x = n by omega]; exact shK_s gk))
              have hl : lv_has ls 5 [(3, .int (iI (y + 1))), (0, .ref qy), (1, .int (iI t)), (2, .int (iI (shK n h t (y + 1)))), (4, .int (iI x))] := hl
              exact ih_2 (y + 1) (by omega) (by omega) _ (lv_sub hl [1, 2, 3, 0] rfl) (by omega)
            · skip
              refine lv_aload_n hx hb dX3_shadowCount_24 rfl (lv_at hl 0 rfl) ?_
              refine lv_iload hx hb dX3_shadowCount_25 (lv_at hl 4 rfl) ?_
              refine lv_iload_n hx hb dX3_shadowCount_27 rfl (lv_at hl 3 rfl) ?_
              refine lv_iload_n hx hb dX3_shadowCount_28 rfl (lv_at hl 1 rfl) ?_
              have hPc_11 := hP.sub (ws' := [(qy, .inr (3, [.ref qh, .ref qc, .int (iI n), .int (iI ho)])), (qh, .inl (gI g, 36, .inl (aI h))), (qc, .inl (gI g, 36, .inl (aI c)))]) [0, 1, 2] rfl
              refine pc_i (va_runV (As := [.int (iI x), .int (iI y), .int (iI t)]) (rest := []) ⟨hx, hb, hml, hown, hts⟩ (c_X3_inShadow l g qy qh qc n ho h c x y t hY gx (by omega) gk (by omega) gt) (cwV 3 hts gX3_shadowCount_X3_inShadow rfl rfl rfl (by decide +kernel) ⟨Nat.le_of_ble_eq_true rfl, Nat.le_of_ble_eq_true rfl⟩) (puV hE hS hPc_11 rfl rfl) rfl rfl hl.1 rfl (lv_room (Nat.le_of_ble_eq_true rfl)) dX3_shadowCount_29 ⟨Nat.le_of_ble_eq_true rfl, Nat.le_of_ble_eq_true rfl⟩) ?_
              have r_12 := shadeI_01 n h t x y
              refine ln_if_eq (tgt := 38) hx hb dX3_shadowCount_32 (by decide) ⟨by omega, by omega⟩ (fun c_13 => ?_) (fun c_13 => ?_)
              · skip
                refine lv_iinc (v := iI (x + 1)) (lv' := [(4, .int (iI (x + 1))), (0, .ref qy), (1, .int (iI t)), (2, .int (iI (shR n h t y (shK n h t y) x))), (3, .int (iI y))]) hx hb dX3_shadowCount_38 hl (k := 4) rfl (iI_add _ _) (by decide) rfl (fun ls hl => ?_)
                refine lv_goto (tgt := 15) hx hb dX3_shadowCount_41 (by decide) ?_
                have hl := lv_re hl 3 rfl (.int (iI (shR n h t y (shK n h t y) (x + 1)))) (congrArg (fun z => Value.int (iI z)) (show shR n h t y (shK n h t y) x = shR n h t y (shK n h t y) (x + 1) from by rw [shR_s gx]; rcases shadeI_01 n h t x y with q | q <;> omega))
                have hl : lv_has ls 5 [(4, .int (iI (x + 1))), (0, .ref qy), (1, .int (iI t)), (2, .int (iI (shR n h t y (shK n h t y) (x + 1)))), (3, .int (iI y))] := hl
                exact ih_7 (x + 1) (by omega) (by omega) _ (lv_sub hl [1, 2, 3, 4, 0] rfl) (by omega)
              · skip
                refine lv_iinc (v := iI (shR n h t y (shK n h t y) x + 1)) (lv' := [(2, .int (iI (shR n h t y (shK n h t y) x + 1))), (0, .ref qy), (1, .int (iI t)), (3, .int (iI y)), (4, .int (iI x))]) hx hb dX3_shadowCount_35 hl (k := 2) rfl (iI_add _ _) (by decide) rfl (fun ls hl => ?_)
                refine lv_iinc (v := iI (x + 1)) (lv' := [(4, .int (iI (x + 1))), (2, .int (iI (shR n h t y (shK n h t y) x + 1))), (0, .ref qy), (1, .int (iI t)), (3, .int (iI y))]) hx hb dX3_shadowCount_38 hl (k := 4) rfl (iI_add _ _) (by decide) rfl (fun ls hl => ?_)
                refine lv_goto (tgt := 15) hx hb dX3_shadowCount_41 (by decide) ?_
                have hl := lv_re hl 1 rfl (.int (iI (shR n h t y (shK n h t y) (x + 1)))) (congrArg (fun z => Value.int (iI z)) (show shR n h t y (shK n h t y) x + 1 = shR n h t y (shK n h t y) (x + 1) from by rw [shR_s gx]; rcases shadeI_01 n h t x y with q | q <;> omega))
                have hl : lv_has ls 5 [(4, .int (iI (x + 1))), (2, .int (iI (shR n h t y (shK n h t y) (x + 1)))), (0, .ref qy), (1, .int (iI t)), (3, .int (iI y))] := hl
                exact ih_7 (x + 1) (by omega) (by omega) _ (lv_sub hl [2, 3, 1, 4, 0] rfl) (by omega)
        have hl := lv_re hl 3 rfl (.int (iI (shR n h t y (shK n h t y) 0))) (congrArg (fun z => Value.int (iI z)) (show shK n h t y = shR n h t y (shK n h t y) 0 from by first | rfl | omega))
        have hl : lv_has ls 5 [(4, .int (iI 0)), (0, .ref qy), (1, .int (iI t)), (2, .int (iI (shR n h t y (shK n h t y) 0))), (3, .int (iI y))] := hl
        exact L15 _ 0 (by omega) (by omega) _ (lv_sub hl [1, 2, 3, 4, 0] rfl) (Nat.lt_succ_self _)
  have hl := lv_re hl 1 rfl (.int (iI (shK n h t 0))) (congrArg (fun z => Value.int (iI z)) (show 0 = shK n h t 0 from by first | rfl | omega))
  have hl : lv_has ls 5 [(3, .int (iI 0)), (2, .int (iI (shK n h t 0))), (0, .ref qy), (1, .int (iI t))] := hl
  exact L4 _ 0 (by omega) (by omega) _ (lv_sub hl [2, 3, 1, 0] rfl) (Nat.lt_succ_self _)
set_option maxHeartbeats 800000 in
set_option maxRecDepth 100000 in
theorem c_X4_blockNumber (l : Launch) (g : GT) (x : Int) (y : Int) (z : Int) : MetI l yX4_blockNumber wsX4_blockNumber ({ frames := 0, cells := 0, slots := 0, locals := 0 }) g [] [.int (iI x), .int (iI y), .int (iI z)] (blkN x y z) := by
  refine pure_of (cc := cX4_blockNumber) (maxL := 3) (ret := (some .int)) (by decide) rfl (Nat.le_of_ble_eq_true rfl) ?_
  intro pZ eZ sZ mZ bZ meZ cZ F hP hE hS ls hl
  obtain ⟨hx, hb, hr, hml, hts, hown, hlk⟩ := F
  have hown : sZ.vm.findClass RX4 = some mZ.cls := hown
  have hl : lv_has ls 3 [(0, .int (iI x)), (1, .int (iI y)), (2, .int (iI z))] := hl
  refine lv_iload_n hx hb dX4_blockNumber_0 rfl (lv_at hl 2 rfl) ?_
  refine lv_bipush (v := iI 36) hx hb dX4_blockNumber_1 (by decide) ?_
  refine ln_imul hx hb (z * 36) (rfl) dX4_blockNumber_3 ?_
  refine lv_iload_n hx hb dX4_blockNumber_4 rfl (lv_at hl 1 rfl) ?_
  refine lv_bipush (v := iI 6) hx hb dX4_blockNumber_5 (by decide) ?_
  refine ln_imul hx hb (y * 6) (rfl) dX4_blockNumber_7 ?_
  refine ln_iadd hx hb (z * 36 + y * 6) (rfl) dX4_blockNumber_8 ?_
  refine lv_iload_n hx hb dX4_blockNumber_9 rfl (lv_at hl 0 rfl) ?_
  refine ln_iadd hx hb (z * 36 + y * 6 + x) (rfl) dX4_blockNumber_10 ?_
  exact pend_i hx hb hr hlk hS rfl (by unfold blkN; omega) dX4_blockNumber_11
set_option maxHeartbeats 800000 in
set_option maxRecDepth 100000 in
theorem c_X4_columnOf (l : Launch) (g : GT) (b : Int) (gb : 0 ≤ b ∧ b < 1000) : MetI l yX4_columnOf wsX4_columnOf ({ frames := 0, cells := 0, slots := 0, locals := 0 }) g [] [.int (iI b)] (b % 6) := by
  refine pure_of (cc := cX4_columnOf) (maxL := 1) (ret := (some .int)) (by decide) rfl (Nat.le_of_ble_eq_true rfl) ?_
  intro pZ eZ sZ mZ bZ meZ cZ F hP hE hS ls hl
  obtain ⟨hx, hb, hr, hml, hts, hown, hlk⟩ := F
  have hown : sZ.vm.findClass RX4 = some mZ.cls := hown
  have hl : lv_has ls 1 [(0, .int (iI b))] := hl
  refine lv_iload_n hx hb dX4_columnOf_0 rfl (lv_at hl 0 rfl) ?_
  refine lv_bipush (v := iI 6) hx hb dX4_columnOf_1 (by decide) ?_
  refine ln_irem hx hb (by omega) (by omega) (by decide) (by decide) (b % 6) (rfl) dX4_columnOf_3 ?_
  exact pend_i hx hb hr hlk hS rfl (by first | rfl | omega) dX4_columnOf_4
set_option maxHeartbeats 800000 in
set_option maxRecDepth 100000 in
theorem c_X4_rowOf (l : Launch) (g : GT) (b : Int) (gb : 0 ≤ b ∧ b < 1000) : MetI l yX4_rowOf wsX4_rowOf ({ frames := 0, cells := 0, slots := 0, locals := 0 }) g [] [.int (iI b)] (b / 6 % 6) := by
  refine pure_of (cc := cX4_rowOf) (maxL := 1) (ret := (some .int)) (by decide) rfl (Nat.le_of_ble_eq_true rfl) ?_
  intro pZ eZ sZ mZ bZ meZ cZ F hP hE hS ls hl
  obtain ⟨hx, hb, hr, hml, hts, hown, hlk⟩ := F
  have hown : sZ.vm.findClass RX4 = some mZ.cls := hown
  have hl : lv_has ls 1 [(0, .int (iI b))] := hl
  refine lv_iload_n hx hb dX4_rowOf_0 rfl (lv_at hl 0 rfl) ?_
  refine lv_bipush (v := iI 6) hx hb dX4_rowOf_1 (by decide) ?_
  refine ln_idiv hx hb (by omega) (by omega) (by decide) (by decide) (b / 6) (rfl) dX4_rowOf_3 ?_
  refine lv_bipush (v := iI 6) hx hb dX4_rowOf_4 (by decide) ?_
  refine ln_irem hx hb (by omega) (by omega) (by decide) (by decide) (b / 6 % 6) (rfl) dX4_rowOf_6 ?_
  exact pend_i hx hb hr hlk hS rfl (by first | rfl | omega) dX4_rowOf_7
set_option maxHeartbeats 800000 in
set_option maxRecDepth 100000 in
theorem c_X4_heightOf (l : Launch) (g : GT) (b : Int) (gb : 0 ≤ b ∧ b < 1000) : MetI l yX4_heightOf wsX4_heightOf ({ frames := 0, cells := 0, slots := 0, locals := 0 }) g [] [.int (iI b)] (b / 36) := by
  refine pure_of (cc := cX4_heightOf) (maxL := 1) (ret := (some .int)) (by decide) rfl (Nat.le_of_ble_eq_true rfl) ?_
  intro pZ eZ sZ mZ bZ meZ cZ F hP hE hS ls hl
  obtain ⟨hx, hb, hr, hml, hts, hown, hlk⟩ := F
  have hown : sZ.vm.findClass RX4 = some mZ.cls := hown
  have hl : lv_has ls 1 [(0, .int (iI b))] := hl
  refine lv_iload_n hx hb dX4_heightOf_0 rfl (lv_at hl 0 rfl) ?_
  refine lv_bipush (v := iI 36) hx hb dX4_heightOf_1 (by decide) ?_
  refine ln_idiv hx hb (by omega) (by omega) (by decide) (by decide) (b / 36) (rfl) dX4_heightOf_3 ?_
  exact pend_i hx hb hr hlk hS rfl (by first | rfl | omega) dX4_heightOf_4
set_option maxHeartbeats 800000 in
set_option maxRecDepth 100000 in
theorem c_X4_faceNumber (l : Launch) (g : GT) (b : Int) (f : Int) : MetI l yX4_faceNumber wsX4_faceNumber ({ frames := 0, cells := 0, slots := 0, locals := 0 }) g [] [.int (iI b), .int (iI f)] (b * 3 + f) := by
  refine pure_of (cc := cX4_faceNumber) (maxL := 2) (ret := (some .int)) (by decide) rfl (Nat.le_of_ble_eq_true rfl) ?_
  intro pZ eZ sZ mZ bZ meZ cZ F hP hE hS ls hl
  obtain ⟨hx, hb, hr, hml, hts, hown, hlk⟩ := F
  have hown : sZ.vm.findClass RX4 = some mZ.cls := hown
  have hl : lv_has ls 2 [(0, .int (iI b)), (1, .int (iI f))] := hl
  refine lv_iload_n hx hb dX4_faceNumber_0 rfl (lv_at hl 0 rfl) ?_
  refine lv_iconst (v := iI 3) hx hb dX4_faceNumber_1 rfl ?_
  refine ln_imul hx hb (b * 3) (rfl) dX4_faceNumber_2 ?_
  refine lv_iload_n hx hb dX4_faceNumber_3 rfl (lv_at hl 1 rfl) ?_
  refine ln_iadd hx hb (b * 3 + f) (rfl) dX4_faceNumber_4 ?_
  exact pend_i hx hb hr hlk hS rfl (by first | rfl | omega) dX4_faceNumber_5
set_option maxHeartbeats 800000 in
set_option maxRecDepth 100000 in
theorem c_X4_triangleNumber (l : Launch) (g : GT) (i : Int) (j : Int) (t : Int) : MetI l yX4_triangleNumber wsX4_triangleNumber ({ frames := 0, cells := 0, slots := 0, locals := 0 }) g [] [.int (iI i), .int (iI j), .int (iI t)] (triN i j t) := by
  refine pure_of (cc := cX4_triangleNumber) (maxL := 3) (ret := (some .int)) (by decide) rfl (Nat.le_of_ble_eq_true rfl) ?_
  intro pZ eZ sZ mZ bZ meZ cZ F hP hE hS ls hl
  obtain ⟨hx, hb, hr, hml, hts, hown, hlk⟩ := F
  have hown : sZ.vm.findClass RX4 = some mZ.cls := hown
  have hl : lv_has ls 3 [(0, .int (iI i)), (1, .int (iI j)), (2, .int (iI t))] := hl
  refine lv_iload_n hx hb dX4_triangleNumber_0 rfl (lv_at hl 0 rfl) ?_
  refine lv_bipush (v := iI (-9)) hx hb dX4_triangleNumber_1 (by decide) ?_
  refine ln_isub hx hb (i - -9) (rfl) dX4_triangleNumber_3 ?_
  refine lv_bipush (v := iI 16) hx hb dX4_triangleNumber_4 (by decide) ?_
  refine ln_imul hx hb ((i - -9) * 16) (rfl) dX4_triangleNumber_6 ?_
  refine lv_iload_n hx hb dX4_triangleNumber_7 rfl (lv_at hl 1 rfl) ?_
  refine ln_iadd hx hb ((i - -9) * 16 + j) (rfl) dX4_triangleNumber_8 ?_
  refine lv_bipush (v := iI (-9)) hx hb dX4_triangleNumber_9 (by decide) ?_
  refine ln_isub hx hb ((i - -9) * 16 + j - -9) (rfl) dX4_triangleNumber_11 ?_
  refine lv_iconst (v := iI 2) hx hb dX4_triangleNumber_12 rfl ?_
  refine ln_imul hx hb (((i - -9) * 16 + j - -9) * 2) (rfl) dX4_triangleNumber_13 ?_
  refine lv_iload_n hx hb dX4_triangleNumber_14 rfl (lv_at hl 2 rfl) ?_
  refine ln_iadd hx hb (((i - -9) * 16 + j - -9) * 2 + t) (rfl) dX4_triangleNumber_15 ?_
  exact pend_i hx hb hr hlk hS rfl (by unfold triN; omega) dX4_triangleNumber_16
set_option maxHeartbeats 800000 in
set_option maxRecDepth 100000 in
theorem c_X4_triangleOfBlock (l : Launch) (g : GT) (x : Int) (y : Int) (z : Int) (w : Int) (gw : 0 ≤ w ∧ w < 6) : MetI l yX4_triangleOfBlock wsX4_triangleOfBlock ({ frames := 1, cells := 0, slots := 0, locals := 22 }) g [] [.int (iI x), .int (iI y), .int (iI z), .int (iI w)] (triB x y z w) := by
  refine pure_of (cc := cX4_triangleOfBlock) (maxL := 6) (ret := (some .int)) (by decide) rfl (Nat.le_of_ble_eq_true rfl) ?_
  intro pZ eZ sZ mZ bZ meZ cZ F hP hE hS ls hl
  obtain ⟨hx, hb, hr, hml, hts, hown, hlk⟩ := F
  have hown : sZ.vm.findClass RX4 = some mZ.cls := hown
  have hl : lv_has ls 6 [(0, .int (iI x)), (1, .int (iI y)), (2, .int (iI z)), (3, .int (iI w))] := hl
  have w0 := hts (.fieldLink RX4 336 "SlantYard" "TRIANGLE_I" "[I") (by decide +kernel)
  have w1 := hts (.fieldLink RX4 344 "SlantYard" "TRIANGLE_J" "[I") (by decide +kernel)
  have w2 := hts (.fieldLink RX4 347 "SlantYard" "TRIANGLE_HALF" "[I") (by decide +kernel)
  refine lv_iload_n hx hb dX4_triangleOfBlock_0 rfl (lv_at hl 0 rfl) ?_
  refine lv_iload_n hx hb dX4_triangleOfBlock_1 rfl (lv_at hl 2 rfl) ?_
  refine ln_isub hx hb (x - z) (rfl) dX4_triangleOfBlock_2 ?_
  refine va_gets hx hb (hE.2.2.1 0 _ rfl).1 hS hown w0 (fun _ h9 => h9) dX4_triangleOfBlock_3 ?_
  refine lv_iload_n hx hb dX4_triangleOfBlock_6 rfl (lv_at hl 3 rfl) ?_
  refine pc_i (va_runS (As := [.ref (g.2.2 0), .int (iI w)]) (rest := [.int (iI (x - z))]) ⟨hx, hb, hml, hown, hts⟩ (c_X4_valueAt_in l g (g.2.2 0) 6 (atI [-1, -1, 0, 0, -1, 0]) w (by omega) (by omega) (by omega)) (va_cwS 2 hts gX4_triangleOfBlock_X4_valueAt rfl rfl rfl (by decide +kernel) ⟨Nat.le_of_ble_eq_true rfl, Nat.le_of_ble_eq_true rfl⟩) (ruS (RA.ofT ((hE.2.2.1 0 _ rfl).2.kept hS.2.1))) rfl rfl hl.1 rfl (lv_room (Nat.le_of_ble_eq_true rfl)) dX4_triangleOfBlock_7 ⟨Nat.le_of_ble_eq_true rfl, Nat.le_of_ble_eq_true rfl⟩) ?_
  refine ln_top (y := tI w) (rfl) ?_
  refine ln_iadd hx hb (x - z + (tI w)) (rfl) dX4_triangleOfBlock_10 ?_
  refine lv_istore (lv' := [(4, .int (iI (x - z + (tI w)))), (0, .int (iI x)), (1, .int (iI y)), (2, .int (iI z)), (3, .int (iI w))]) hx hb dX4_triangleOfBlock_11 hl (by decide) rfl (fun ls hl => ?_)
  refine lv_iload_n hx hb dX4_triangleOfBlock_13 rfl (lv_at hl 2 rfl) ?_
  refine lv_iload_n hx hb dX4_triangleOfBlock_14 rfl (lv_at hl 3 rfl) ?_
  refine ln_isub hx hb (y - z) (rfl) dX4_triangleOfBlock_15 ?_
  refine va_gets hx hb (hE.2.2.1 1 _ rfl).1 hS hown w1 (fun _ h9 => h9) dX4_triangleOfBlock_16 ?_
  refine lv_iload_n hx hb dX4_triangleOfBlock_19 rfl (lv_at hl 4 rfl) ?_
  refine pc_i (va_runS (As := [.ref (g.2.2 1), .int (iI w)]) (rest := [.int (iI (y - z))]) ⟨hx, hb, hml, hown, hts⟩ (c_X4_valueAt_in l g (g.2.2 1) 6 (atI [-1, -1, -1, 0, 0, 0]) w (by omega) (by omega) (by omega)) (va_cwS 2 hts gX4_triangleOfBlock_X4_valueAt rfl rfl rfl (by decide +kernel) ⟨Nat.le_of_ble_eq_true rfl, Nat.le_of_ble_eq_true rfl⟩) (ruS (RA.ofT ((hE.2.2.1 1 _ rfl).2.kept hS.2.1))) rfl rfl hl.1 rfl (lv_room (Nat.le_of_ble_eq_true rfl)) dX4_triangleOfBlock_20 ⟨Nat.le_of_ble_eq_true rfl, Nat.le_of_ble_eq_true rfl⟩) ?_
  refine ln_top (y := tJ w) (rfl) ?_
  refine ln_iadd hx hb (y - z + (tJ w)) (rfl) dX4_triangleOfBlock_23 ?_
  refine lv_istore (lv' := [(5, .int (iI (y - z + (tJ w)))), (4, .int (iI (x - z + (tI w)))), (0, .int (iI x)), (1, .int (iI y)), (2, .int (iI z)), (3, .int (iI w))]) hx hb dX4_triangleOfBlock_24 hl (by decide) rfl (fun ls hl => ?_)
  refine lv_iload hx hb dX4_triangleOfBlock_26 (lv_at hl 1 rfl) ?_
  refine lv_iload hx hb dX4_triangleOfBlock_28 (lv_at hl 0 rfl) ?_
  refine va_gets hx hb (hE.2.2.1 2 _ rfl).1 hS hown w2 (fun _ h9 => h9) dX4_triangleOfBlock_30 ?_
  refine lv_iload_n hx hb dX4_triangleOfBlock_33 rfl (lv_at hl 5 rfl) ?_
  refine pc_i (va_runS (As := [.ref (g.2.2 2), .int (iI w)]) (rest := [.int (iI (y - z + (tJ w))), .int (iI (x - z + (tI w)))]) ⟨hx, hb, hml, hown, hts⟩ (c_X4_valueAt_in l g (g.2.2 2) 6 (atI [0, 1, 1, 0, 0, 1]) w (by omega) (by omega) (by omega)) (va_cwS 2 hts gX4_triangleOfBlock_X4_valueAt rfl rfl rfl (by decide +kernel) ⟨Nat.le_of_ble_eq_true rfl, Nat.le_of_ble_eq_true rfl⟩) (ruS (RA.ofT ((hE.2.2.1 2 _ rfl).2.kept hS.2.1))) rfl rfl hl.1 rfl (lv_room (Nat.le_of_ble_eq_true rfl)) dX4_triangleOfBlock_34 ⟨Nat.le_of_ble_eq_true rfl, Nat.le_of_ble_eq_true rfl⟩) ?_
  refine ln_top (y := tH w) (rfl) ?_
  refine pc_i (va_runS (As := [.int (iI (x - z + (tI w))), .int (iI (y - z + (tJ w))), .int (iI (tH w))]) (rest := []) ⟨hx, hb, hml, hown, hts⟩ (c_X4_triangleNumber l g (x - z + (tI w)) (y - z + (tJ w)) (tH w)) (va_cwS 3 hts gX4_triangleOfBlock_X4_triangleNumber rfl rfl rfl (by decide +kernel) ⟨Nat.le_of_ble_eq_true rfl, Nat.le_of_ble_eq_true rfl⟩) (puS hE hS (va_P_nil g.1 _)) rfl rfl hl.1 rfl (lv_room (Nat.le_of_ble_eq_true rfl)) dX4_triangleOfBlock_37 ⟨Nat.le_of_ble_eq_true rfl, Nat.le_of_ble_eq_true rfl⟩) ?_
  exact pend_i hx hb hr hlk hS rfl (by rfl) dX4_triangleOfBlock_40

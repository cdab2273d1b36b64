set_option maxHeartbeats 800000 in
set_option maxRecDepth 100000 in
theorem c_X5_undo_ok (l : Launch) (g : GT) (qm : Nat) (th : Int) (mz : Nat) (ms : Nat) (hn : Int) (mp : Nat) (mb : Nat) (L : Int) (m1 : Nat) (m2 : Nat) (m3 : Nat) (mB : Nat) (mF : Nat) (mN : Nat) (mS : Nat) (sT : Int) (mW : Nat) (acc : Int64) (e : Int → Int) (f : Int → Int) (hh : 1 ≤ hn ∧ hn ≤ 6) : MutI l yX5_undo wsX5_undo ({ frames := 0, cells := 0, slots := 0, locals := 0 }) 0 0 g [(qm, .inr (5, [.int (iI th), .ref mz, .ref ms, .int (iI hn), .ref mp, .ref mb, .int (iI L), .ref m1, .ref m2, .ref m3, .ref mB, .ref mF, .ref mN, .ref mS, .int (iI sT), .ref mW, .long acc])), (mz, .inl (gI g, 326, .inl (aI e))), (ms, .inl (gI g, 1956, .inl (aI f)))] [.ref qm] (S := Unit) (fun _ => True) (fun _ => hn - 1) (fun _ => [(qm, .inr (5, [.int (iI 0), .ref mz, .ref ms, .int (iI (hn - 1)), .ref mp, .ref mb, .int (iI L), .ref m1, .ref m2, .ref m3, .ref mB, .ref mF, .ref mN, .ref mS, .int (iI sT), .ref mW, .long acc])), (mz, .inl (gI g, 326, .inl (aI ((fun j9 => f ((hn - 1) * 326 + j9)))))), (ms, .inl (gI g, 1956, .inl (aI f)))]) := by
  refine mut_of (y := yX5_undo) (ws := wsX5_undo) (av := [.ref qm]) (w := [(qm, .inr (5, [.int (iI th), .ref mz, .ref ms, .int (iI hn), .ref mp, .ref mb, .int (iI L), .ref m1, .ref m2, .ref m3, .ref mB, .ref mF, .ref mN, .ref mS, .int (iI sT), .ref mW, .long acc])), (mz, .inl (gI g, 326, .inl (aI e))), (ms, .inl (gI g, 1956, .inl (aI f)))]) (Qc := fun A => va_Qi (fun x9 (u9 : Unit) => x9 = iI ((fun _ => hn - 1) u9) ∧ (fun _ => True) u9) (fun u9 t9 => MB g ((fun _ => [(qm, .inr (5, [.int (iI 0), .ref mz, .ref ms, .int (iI (hn - 1)), .ref mp, .ref mb, .int (iI L), .ref m1, .ref m2, .ref m3, .ref mB, .ref mF, .ref mN, .ref mS, .int (iI sT), .ref mW, .long acc])), (mz, .inl (gI g, 326, .inl (aI ((fun j9 => f ((hn - 1) * 326 + j9)))))), (ms, .inl (gI g, 1956, .inl (aI f)))]) u9) A t9) A) (cc := cX5_undo) (maxL := 2) (ret := (some .int)) (by decide) rfl (Nat.le_of_ble_eq_true rfl) ?_
  intro pZ eZ sZ mZ bZ meZ cZ A F hin hA hP hD hE hS ls hl
  obtain ⟨hx, hb, hr, hml, hts, hown, hlk⟩ := F
  skip
  have hown : sZ.vm.findClass RX5 = some mZ.cls := hown
  have hl : lv_has ls 2 [(0, .ref qm)] := hl
  skip
  have w0 := hts (.fieldLink RX5 55 "SlantYardModel" "savedMany" "I") (by decide +kernel)
  have w1 := hts (.fieldLink RX5 47 "SlantYardModel" "thrown" "I") (by decide +kernel)
  have w2 := hts (.fieldLink RX5 7 "SlantYardModel" "z" "[I") (by decide +kernel)
  have w3 := hts (.fieldLink RX5 13 "SlantYardModel" "saved" "[I") (by decide +kernel)
  have in5 : ∀ w ∈ u_ws RX5 TX5 17, w ∈ wsX5_undo := by decide +kernel
  refine lv_aload_n hx hb dX5_undo_0 rfl (lv_at hl 0 rfl) ?_
  refine lv_aload_n hx hb dX5_undo_1 rfl (lv_at hl 0 rfl) ?_
  refine va_get (D := g.1) (ci := 5) (v := .int (iI hn)) (C := RX5) (T := TX5) (N := 17) hx hb hts in5 hown hE.1 hP 0 rfl rfl 3 (by decide) w0 (fun _ h9 => h9) rfl dX5_undo_2 ?_
  refine ln_if_ne (tgt := 12) hx hb dX5_undo_5 (by decide) ⟨by omega, by omega⟩ (fun c_1 => ?_) (fun c_1 => ?_)
  · skip
    refine lv_iconst (v := iI 0) hx hb dX5_undo_12 rfl ?_
    refine va_put (D := g.1) (ci := 5) (v := .int (iI 0)) (ty := .int) (C := RX5) (T := TX5) (N := 17) hx hb hts in5 tyX5 tyX5_ok nmX5 hown hE.1 hP hD hS 0 rfl rfl 0 (by decide) w1 (fun _ h9 => h9) rfl (by decide +kernel) rfl rfl (Nat.le_of_ble_eq_true rfl) dX5_undo_13 (fun H locs hP hD hS => ?_)
    have hP : va_P g.1 vwCl [(qm, .inr (5, [.int (iI 0), .ref mz, .ref ms, .int (iI hn), .ref mp, .ref mb, .int (iI L), .ref m1, .ref m2, .ref m3, .ref mB, .ref mF, .ref mN, .ref mS, .int (iI sT), .ref mW, .long acc])), (mz, .inl (gI g, 326, .inl (aI e))), (ms, .inl (gI g, 1956, .inl (aI f)))] H := hP
    have hD : va_D A [(qm, .inr (5, [.int (iI 0), .ref mz, .ref ms, .int (iI hn), .ref mp, .ref mb, .int (iI L), .ref m1, .ref m2, .ref m3, .ref mB, .ref mF, .ref mN, .ref mS, .int (iI sT), .ref mW, .long acc])), (mz, .inl (gI g, 326, .inl (aI e))), (ms, .inl (gI g, 1956, .inl (aI f)))] := hD
    refine lv_aload_n hx hb dX5_undo_16 rfl (lv_at hl 0 rfl) ?_
    refine va_get (D := g.1) (ci := 5) (v := .int (iI 0)) (C := RX5) (T := TX5) (N := 17) hx hb hts in5 hown hE.1 hP 0 rfl rfl 0 (by decide) w1 (fun _ h9 => h9) rfl dX5_undo_17 ?_
    refine ln_if_le (tgt := 25) hx hb dX5_undo_20 (by decide) (by decide) (fun c_2 => ?_) (fun c_2 => ?_)
    · skip
      refine lv_aload_n hx hb dX5_undo_25 rfl (lv_at hl 0 rfl) ?_
      refine lv_dup hx hb dX5_undo_26 rfl ?_
      refine va_get (D := g.1) (ci := 5) (v := .int (iI hn)) (C := RX5) (T := TX5) (N := 17) hx hb hts in5 hown hE.1 hP 0 rfl rfl 3 (by decide) w0 (fun _ h9 => h9) rfl dX5_undo_27 ?_
      refine lv_iconst (v := iI 1) hx hb dX5_undo_30 rfl ?_
      refine ln_isub hx hb (hn - 1) (rfl) dX5_undo_31 ?_
      refine va_put (D := g.1) (ci := 5) (v := .int (iI (hn - 1))) (ty := .int) (C := RX5) (T := TX5) (N := 17) hx hb hts in5 tyX5 tyX5_ok nmX5 hown hE.1 hP hD hS 0 rfl rfl 3 (by decide) w0 (fun _ h9 => h9) rfl (by decide +kernel) rfl rfl (Nat.le_of_ble_eq_true rfl) dX5_undo_32 (fun H locs hP hD hS => ?_)
      have hP : va_P g.1 vwCl [(qm, .inr (5, [.int (iI 0), .ref mz, .ref ms, .int (iI (hn - 1)), .ref mp, .ref mb, .int (iI L), .ref m1, .ref m2, .ref m3, .ref mB, .ref mF, .ref mN, .ref mS, .int (iI sT), .ref mW, .long acc])), (mz, .inl (gI g, 326, .inl (aI e))), (ms, .inl (gI g, 1956, .inl (aI f)))] H := hP
      have hD : va_D A [(qm, .inr (5, [.int (iI 0), .ref mz, .ref ms, .int (iI (hn - 1)), .ref mp, .ref mb, .int (iI L), .ref m1, .ref m2, .ref m3, .ref mB, .ref mF, .ref mN, .ref mS, .int (iI sT), .ref mW, .long acc])), (mz, .inl (gI g, 326, .inl (aI e))), (ms, .inl (gI g, 1956, .inl (aI f)))] := hD
      refine lv_iconst (v := iI 0) hx hb dX5_undo_35 rfl ?_
      refine lv_istore_n (lv' := [(1, .int (iI 0)), (0, .ref qm)]) hx hb dX5_undo_36 rfl hl (by decide) rfl (fun ls hl => ?_)
      have L37 : ∀ (k_3 : Nat) (k : Int) (s : Int → Int) (gk : 0 ≤ k) (gl : k ≤ 326) (ge : ∀ j, 0 ≤ j → j < k → s j = f ((hn - 1) * 326 + j)) (H : Heap) (locs : List Loc), va_P g.1 vwCl [(qm, .inr (5, [.int (iI 0), .ref mz, .ref ms, .int (iI (hn - 1)), .ref mp, .ref mb, .int (iI L), .ref m1, .ref m2, .ref m3, .ref mB, .ref mF, .ref mN, .ref mS, .int (iI sT), .ref mW, .long acc])), (mz, .inl (gI g, 326, .inl (aI s))), (ms, .inl (gI g, 1956, .inl (aI f)))] H → va_D A [(qm, .inr (5, [.int (iI 0), .ref mz, .ref ms, .int (iI (hn - 1)), .ref mp, .ref mb, .int (iI L), .ref m1, .ref m2, .ref m3, .ref mB, .ref mF, .ref mN, .ref mS, .int (iI sT), .ref mW, .long acc])), (mz, .inl (gI g, 326, .inl (aI s))), (ms, .inl (gI g, 1956, .inl (aI f)))] → va_S A sZ.heap H locs → ∀ (ls : Array Slot), lv_has ls 2 [(0, .ref qm), (1, .int (iI k))] → (326 - k).toNat < k_3 → W pZ l eZ ({ frames := 0, cells := 0, slots := 0, locals := 0 } : Room) sZ mZ [.ref qm].toArray bZ meZ cZ H locs 0 0 (MQ bZ (va_Qi (fun x9 (u9 : Unit) => x9 = iI ((fun _ => hn - 1) u9) ∧ (fun _ => True) u9) (fun u9 t9 => MB g ((fun _ => [(qm, .inr (5, [.int (iI 0), .ref mz, .ref ms, .int (iI (hn - 1)), .ref mp, .ref mb, .int (iI L), .ref m1, .ref m2, .ref m3, .ref mB, .ref mF, .ref mN, .ref mS, .int (iI sT), .ref mW, .long acc])), (mz, .inl (gI g, 326, .inl (aI ((fun j9 => f ((hn - 1) * 326 + j9)))))), (ms, .inl (gI g, 1956, .inl (aI f)))]) u9) A t9) A) [.ref qm].toArray sZ 0 0 A) (F0 mZ 37 ls []) := by
        intro k_3
        induction k_3 with
        | zero => intro k s gk gl ge H locs hP hD hS ls hl hm_5; exact absurd hm_5 (Nat.not_lt_zero _)
        | succ k_3 ih_4 =>
          intro k s gk gl ge H locs hP hD hS ls hl hm_5
          refine lv_iload_n hx hb dX5_undo_37 rfl (lv_at hl 1 rfl) ?_
          refine lv_sipush (v := iI 326) hx hb dX5_undo_38 (by decide) ?_
          refine ln_icmp_ge (tgt := 71) hx hb dX5_undo_41 (by decide) ⟨by omega, by omega⟩ (by decide) (fun c_6 => ?_) (fun c_6 => ?_)
          · skip
            refine lv_aload_n hx hb dX5_undo_71 rfl (lv_at hl 0 rfl) ?_
            refine va_get (D := g.1) (ci := 5) (v := .int (iI (hn - 1))) (C := RX5) (T := TX5) (N := 17) hx hb hts in5 hown hE.1 hP 0 rfl rfl 3 (by decide) w0 (fun _ h9 => h9) rfl dX5_undo_72 ?_
            have hP := hP.recell 1 rfl ((fun j9 => f ((hn - 1) * 326 + j9))) (fun j h0 h1 => ge j h0 (by omega))
            have hD := hD.set (p := 1) (e := .inl (gI g, 326, .inl (aI ((fun j9 => f ((hn - 1) * 326 + j9)))))) rfl
            have hP : va_P g.1 vwCl [(qm, .inr (5, [.int (iI 0), .ref mz, .ref ms, .int (iI (hn - 1)), .ref mp, .ref mb, .int (iI L), .ref m1, .ref m2, .ref m3, .ref mB, .ref mF, .ref mN, .ref mS, .int (iI sT), .ref mW, .long acc])), (mz, .inl (gI g, 326, .inl (aI ((fun j9 => f ((hn - 1) * 326 + j9)))))), (ms, .inl (gI g, 1956, .inl (aI f)))] _ := hP
            have hD : va_D A [(qm, .inr (5, [.int (iI 0), .ref mz, .ref ms, .int (iI (hn - 1)), .ref mp, .ref mb, .int (iI L), .ref m1, .ref m2, .ref m3, .ref mB, .ref mF, .ref mN, .ref mS, .int (iI sT), .ref mW, .long acc])), (mz, .inl (gI g, 326, .inl (aI ((fun j9 => f ((hn - 1) * 326 + j9)))))), (ms, .inl (gI g, 1956, .inl (aI f)))] := hD
            exact mend_i (S := Unit) (w' := (fun _ => [(qm, .inr (5, [.int (iI 0), .ref mz, .ref ms, .int (iI (hn - 1)), .ref mp, .ref mb, .int (iI L), .ref m1, .ref m2, .ref m3, .ref mB, .ref mF, .ref mN, .ref mS, .int (iI sT), .ref mW, .long acc])), (mz, .inl (gI g, 326, .inl (aI ((fun j9 => f ((hn - 1) * 326 + j9)))))), (ms, .inl (gI g, 1956, .inl (aI f)))])) (post := (fun _ => True)) (r := (fun _ => hn - 1)) hx hb hr hlk hS () hP hD (trivial) (by first | rfl | omega | (split <;> omega)) (Nat.le_of_ble_eq_true rfl) (Nat.le_of_ble_eq_true rfl) dX5_undo_75
          · skip
            refine lv_aload_n hx hb dX5_undo_44 rfl (lv_at hl 0 rfl) ?_
            refine va_get (D := g.1) (ci := 5) (v := .ref mz) (C := RX5) (T := TX5) (N := 17) hx hb hts in5 hown hE.1 hP 0 rfl rfl 1 (by decide) w2 (fun _ h9 => h9) rfl dX5_undo_45 ?_
            refine lv_iload_n hx hb dX5_undo_48 rfl (lv_at hl 1 rfl) ?_
            refine lv_aload_n hx hb dX5_undo_49 rfl (lv_at hl 0 rfl) ?_
            refine va_get (D := g.1) (ci := 5) (v := .ref ms) (C := RX5) (T := TX5) (N := 17) hx hb hts in5 hown hE.1 hP 0 rfl rfl 2 (by decide) w3 (fun _ h9 => h9) rfl dX5_undo_50 ?_
            refine lv_aload_n hx hb dX5_undo_53 rfl (lv_at hl 0 rfl) ?_
            refine va_get (D := g.1) (ci := 5) (v := .int (iI (hn - 1))) (C := RX5) (T := TX5) (N := 17) hx hb hts in5 hown hE.1 hP 0 rfl rfl 3 (by decide) w0 (fun _ h9 => h9) rfl dX5_undo_54 ?_
            refine lv_sipush (v := iI 326) hx hb dX5_undo_57 (by decide) ?_
            refine ln_imul hx hb ((hn - 1) * 326) (rfl) dX5_undo_60 ?_
            refine lv_iload_n hx hb dX5_undo_61 rfl (lv_at hl 1 rfl) ?_
            refine ln_iadd hx hb ((hn - 1) * 326 + k) (rfl) dX5_undo_62 ?_
            refine ln_iald hx hb hE hP 2 rfl (by omega) (by omega) (Nat.le_of_ble_eq_true rfl) (f ((hn - 1) * 326 + k)) (rfl) dX5_undo_63 ?_
            refine ln_iast hx hb hE hP hD hS 1 rfl (by omega) (by omega) (Nat.le_of_ble_eq_true rfl) (updI s k (f ((hn - 1) * 326 + k))) (fun _ _ _ => rfl) dX5_undo_64 (fun H locs hP hD hS => ?_)
            have hP : va_P g.1 vwCl [(qm, .inr (5, [.int (iI 0), .ref mz, .ref ms, .int (iI (hn - 1)), .ref mp, .ref mb, .int (iI L), .ref m1, .ref m2, .ref m3, .ref mB, .ref mF, .ref mN, .ref mS, .int (iI sT), .ref mW, .long acc])), (mz, .inl (gI g, 326, .inl (aI (updI s k (f ((hn - 1) * 326 + k)))))), (ms, .inl (gI g, 1956, .inl (aI f)))] H := hP
            have hD : va_D A [(qm, .inr (5, [.int (iI 0), .ref mz, .ref ms, .int (iI (hn - 1)), .ref mp, .ref mb, .int (iI L), .ref m1, .ref m2, .ref m3, .ref mB, .ref mF, .ref mN, .ref mS, .int (iI sT), .ref mW, .long acc])), (mz, .inl (gI g, 326, .inl (aI (updI s k (f ((hn - 1) * 326 + k)))))), (ms, .inl (gI g, 1956, .inl (aI f)))] := hD
            refine lv_iinc (v := iI (k + 1)) (lv' := [(1, .int (iI (k + 1))), (0, .ref qm)]) hx hb dX5_undo_65 hl (k := 1) rfl (iI_add _ _) (by decide) rfl (fun ls hl => ?_)
            refine lv_goto (tgt := 37) hx hb dX5_undo_68 (by decide) ?_
            have hl : lv_has ls 2 [(1, .int (iI (k + 1))), (0, .ref qm)] := hl
            have hP := hP.recell 1 rfl ((updI s k (f ((hn - 1) * 326 + k)))) (fun j h0 h1 => rfl)
            have hD := hD.set (p := 1) (e := .inl (gI g, 326, .inl (aI ((updI s k (f ((hn - 1) * 326 + k))))))) rfl
            exact ih_4 (k + 1) ((updI s k (f ((hn - 1) * 326 + k)))) (by omega) (by omega) (fun j a b => by unfold updI; split; (rename_i q9; rw [q9]); exact ge j a (by omega)) _ _ hP hD hS _ (lv_sub hl [1, 0] rfl) (by omega)
      have hl : lv_has ls 2 [(1, .int (iI 0)), (0, .ref qm)] := hl
      exact L37 _ 0 e (by omega) (by omega) (fun j a b => absurd b (by omega)) _ _ hP hD hS _ (lv_sub hl [1, 0] rfl) (Nat.lt_succ_self _)
    · exfalso; omega
  · exfalso; omega
set_option maxHeartbeats 800000 in
set_option maxRecDepth 100000 in
theorem c_X5_undo_x (l : Launch) (g : GT) (qm : Nat) (th : Int) (mz : Nat) (ms : Nat) (hn : Int) (mp : Nat) (mb : Nat) (L : Int) (m1 : Nat) (m2 : Nat) (m3 : Nat) (mB : Nat) (mF : Nat) (mN : Nat) (mS : Nat) (sT : Int) (mW : Nat) (acc : Int64) (hh : hn = 0) : MutI l yX5_undo wsX5_undo ({ frames := 0, cells := 0, slots := 0, locals := 0 }) 0 0 g [(qm, .inr (5, [.int (iI th), .ref mz, .ref ms, .int (iI hn), .ref mp, .ref mb, .int (iI L), .ref m1, .ref m2, .ref m3, .ref mB, .ref mF, .ref mN, .ref mS, .int (iI sT), .ref mW, .long acc]))] [.ref qm] (S := Unit) (fun _ => True) (fun _ => 0) (fun _ => [(qm, .inr (5, [.int (iI 1), .ref mz, .ref ms, .int (iI hn), .ref mp, .ref mb, .int (iI L), .ref m1, .ref m2, .ref m3, .ref mB, .ref mF, .ref mN, .ref mS, .int (iI sT), .ref mW, .long acc]))]) := by
  refine mut_of (y := yX5_undo) (ws := wsX5_undo) (av := [.ref qm]) (w := [(qm, .inr (5, [.int (iI th), .ref mz, .ref ms, .int (iI hn), .ref mp, .ref mb, .int (iI L), .ref m1, .ref m2, .ref m3, .ref mB, .ref mF, .ref mN, .ref mS, .int (iI sT), .ref mW, .long acc]))]) (Qc := fun A => va_Qi (fun x9 (u9 : Unit) => x9 = iI ((fun _ => 0) u9) ∧ (fun _ => True) u9) (fun u9 t9 => MB g ((fun _ => [(qm, .inr (5, [.int (iI 1), .ref mz, .ref ms, .int (iI hn), .ref mp, .ref mb, .int (iI L), .ref m1, .ref m2, .ref m3, .ref mB, .ref mF, .ref mN, .ref mS, .int (iI sT), .ref mW, .long acc]))]) u9) A t9) A) (cc := cX5_undo) (maxL := 2) (ret := (some .int)) (by decide) rfl (Nat.le_of_ble_eq_true rfl) ?_
  intro pZ eZ sZ mZ bZ meZ cZ A F hin hA hP hD hE hS ls hl
  obtain ⟨hx, hb, hr, hml, hts, hown, hlk⟩ := F
  skip
  have hown : sZ.vm.findClass RX5 = some mZ.cls := hown
  have hl : lv_has ls 2 [(0, .ref qm)] := hl
  skip
  have w0 := hts (.fieldLink RX5 55 "SlantYardModel" "savedMany" "I") (by decide +kernel)
  have w1 := hts (.fieldLink RX5 47 "SlantYardModel" "thrown" "I") (by decide +kernel)
  have in5 : ∀ w ∈ u_ws RX5 TX5 17, w ∈ wsX5_undo := by decide +kernel
  refine lv_aload_n hx hb dX5_undo_0 rfl (lv_at hl 0 rfl) ?_
  refine lv_aload_n hx hb dX5_undo_1 rfl (lv_at hl 0 rfl) ?_
  refine va_get (D := g.1) (ci := 5) (v := .int (iI hn)) (C := RX5) (T := TX5) (N := 17) hx hb hts in5 hown hE.1 hP 0 rfl rfl 3 (by decide) w0 (fun _ h9 => h9) rfl dX5_undo_2 ?_
  refine ln_if_ne (tgt := 12) hx hb dX5_undo_5 (by decide) ⟨by omega, by omega⟩ (fun c_1 => ?_) (fun c_1 => ?_)
  · exfalso; omega
  · skip
    refine lv_iconst (v := iI 1) hx hb dX5_undo_8 rfl ?_
    refine lv_goto (tgt := 13) hx hb dX5_undo_9 (by decide) ?_
    refine va_put (D := g.1) (ci := 5) (v := .int (iI 1)) (ty := .int) (C := RX5) (T := TX5) (N := 17) hx hb hts in5 tyX5 tyX5_ok nmX5 hown hE.1 hP hD hS 0 rfl rfl 0 (by decide) w1 (fun _ h9 => h9) rfl (by decide +kernel) rfl rfl (Nat.le_of_ble_eq_true rfl) dX5_undo_13 (fun H locs hP hD hS => ?_)
    have hP : va_P g.1 vwCl [(qm, .inr (5, [.int (iI 1), .ref mz, .ref ms, .int (iI hn), .ref mp, .ref mb, .int (iI L), .ref m1, .ref m2, .ref m3, .ref mB, .ref mF, .ref mN, .ref mS, .int (iI sT), .ref mW, .long acc]))] H := hP
    have hD : va_D A [(qm, .inr (5, [.int (iI 1), .ref mz, .ref ms, .int (iI hn), .ref mp, .ref mb, .int (iI L), .ref m1, .ref m2, .ref m3, .ref mB, .ref mF, .ref mN, .ref mS, .int (iI sT), .ref mW, .long acc]))] := hD
    refine lv_aload_n hx hb dX5_undo_16 rfl (lv_at hl 0 rfl) ?_
    refine va_get (D := g.1) (ci := 5) (v := .int (iI 1)) (C := RX5) (T := TX5) (N := 17) hx hb hts in5 hown hE.1 hP 0 rfl rfl 0 (by decide) w1 (fun _ h9 => h9) rfl dX5_undo_17 ?_
    refine ln_if_le (tgt := 25) hx hb dX5_undo_20 (by decide) (by decide) (fun c_2 => ?_) (fun c_2 => ?_)
    · exfalso; omega
    · skip
      refine lv_iconst (v := iI 0) hx hb dX5_undo_23 rfl ?_
      have hP : va_P g.1 vwCl [(qm, .inr (5, [.int (iI 1), .ref mz, .ref ms, .int (iI hn), .ref mp, .ref mb, .int (iI L), .ref m1, .ref m2, .ref m3, .ref mB, .ref mF, .ref mN, .ref mS, .int (iI sT), .ref mW, .long acc]))] _ := hP
      have hD : va_D A [(qm, .inr (5, [.int (iI 1), .ref mz, .ref ms, .int (iI hn), .ref mp, .ref mb, .int (iI L), .ref m1, .ref m2, .ref m3, .ref mB, .ref mF, .ref mN, .ref mS, .int (iI sT), .ref mW, .long acc]))] := hD
      exact mend_i (S := Unit) (w' := (fun _ => [(qm, .inr (5, [.int (iI 1), .ref mz, .ref ms, .int (iI hn), .ref mp, .ref mb, .int (iI L), .ref m1, .ref m2, .ref m3, .ref mB, .ref mF, .ref mN, .ref mS, .int (iI sT), .ref mW, .long acc]))])) (post := (fun _ => True)) (r := (fun _ => 0)) hx hb hr hlk hS () hP hD (trivial) (by first | rfl | omega | (split <;> omega)) (Nat.le_of_ble_eq_true rfl) (Nat.le_of_ble_eq_true rfl) dX5_undo_24
set_option maxHeartbeats 800000 in
set_option maxRecDepth 100000 in
theorem c_X5_turnIt (l : Launch) (g : GT) (qm : Nat) (th : Int) (mz : Nat) (ms : Nat) (hn : Int) (mp : Nat) (mb : Nat) (L : Int) (m1 : Nat) (m2 : Nat) (m3 : Nat) (mB : Nat) (mF : Nat) (mN : Nat) (mS : Nat) (sT : Int) (mW : Nat) (acc : Int64) (n : Int) (ho : Int) (h : Int → Int) (c : Int → Int) (sp : Int → Int) (hY : YOk n ho h c) : MutV l yX5_turnIt wsX5_turnIt ({ frames := 2, cells := 0, slots := 0, locals := 45 }) 0 0 g [(qm, .inr (5, [.int (iI th), .ref mz, .ref ms, .int (iI hn), .ref mp, .ref mb, .int (iI L), .ref m1, .ref m2, .ref m3, .ref mB, .ref mF, .ref mN, .ref mS, .int (iI sT), .ref mW, .long acc])), (mz, .inl (gI g, 326, .inl (aI (zF n ho h c)))), (mp, .inl (gI g, 326, .inl (aI sp)))] [.ref qm] (S := Unit) (fun _ => True) (fun _ => [(qm, .inr (5, [.int (iI th), .ref mz, .ref ms, .int (iI hn), .ref mp, .ref mb, .int (iI L), .ref m1, .ref m2, .ref m3, .ref mB, .ref mF, .ref mN, .ref mS, .int (iI sT), .ref mW, .long acc])), (mz, .inl (gI g, 326, .inl (aI ((zF n ho (turnF n h) (turnF n c)))))), (mp, .inl (gI g, 326, .inl (aI (zF n ho h c))))]) := by
  refine mut_of (y := yX5_turnIt) (ws := wsX5_turnIt) (av := [.ref qm]) (w := [(qm, .inr (5, [.int (iI th), .ref mz, .ref ms, .int (iI hn), .ref mp, .ref mb, .int (iI L), .ref m1, .ref m2, .ref m3, .ref mB, .ref mF, .ref mN, .ref mS, .int (iI sT), .ref mW, .long acc])), (mz, .inl (gI g, 326, .inl (aI (zF n ho h c)))), (mp, .inl (gI g, 326, .inl (aI sp)))]) (Qc := fun A => va_Qv (fun (u9 : Unit) => (fun _ => True) u9) (fun u9 t9 => MB g ((fun _ => [(qm, .inr (5, [.int (iI th), .ref mz, .ref ms, .int (iI hn), .ref mp, .ref mb, .int (iI L), .ref m1, .ref m2, .ref m3, .ref mB, .ref mF, .ref mN, .ref mS, .int (iI sT), .ref mW, .long acc])), (mz, .inl (gI g, 326, .inl (aI ((zF n ho (turnF n h) (turnF n c)))))), (mp, .inl (gI g, 326, .inl (aI (zF n ho h c))))]) u9) A t9) A) (cc := cX5_turnIt) (maxL := 7) (ret := none) (by decide) rfl (Nat.le_of_ble_eq_true rfl) ?_
  intro pZ eZ sZ mZ bZ meZ cZ A F hin hA hP hD hE hS ls hl
  obtain ⟨hx, hb, hr, hml, hts, hown, hlk⟩ := F
  skip
  have hown : sZ.vm.findClass RX5 = some mZ.cls := hown
  have hl : lv_has ls 7 [(0, .ref qm)] := hl
  skip
  have w0 := hts (.fieldLink RX5 7 "SlantYardModel" "z" "[I") (by decide +kernel)
  have w1 := hts (.fieldLink RX5 16 "SlantYardModel" "spare" "[I") (by decide +kernel)
  have in5 : ∀ w ∈ u_ws RX5 TX5 17, w ∈ wsX5_turnIt := by decide +kernel
  have hnn := hY.n
  have hho := hY.hr
  have hsq9 := sqn hnn
  refine lv_iconst (v := iI 0) hx hb dX5_turnIt_0 rfl ?_
  refine lv_istore_n (lv' := [(1, .int (iI 0)), (0, .ref qm)]) hx hb dX5_turnIt_1 rfl hl (by decide) rfl (fun ls hl => ?_)
  have L2 : ∀ (k_1 : Nat) (k : Int) (s : Int → Int) (gk : 0 ≤ k) (gl : k ≤ 326) (ge : ∀ j, 0 ≤ j → j < k → s j = zF n ho h c j) (H : Heap) (locs : List Loc), va_P g.1 vwCl [(qm, .inr (5, [.int (iI th), .ref mz, .ref ms, .int (iI hn), .ref mp, .ref mb, .int (iI L), .ref m1, .ref m2, .ref m3, .ref mB, .ref mF, .ref mN, .ref mS, .int (iI sT), .ref mW, .long acc])), (mz, .inl (gI g, 326, .inl (aI (zF n ho h c)))), (mp, .inl (gI g, 326, .inl (aI s)))] H → va_D A [(qm, .inr (5, [.int (iI th), .ref mz, .ref ms, .int (iI hn), .ref mp, .ref mb, .int (iI L), .ref m1, .ref m2, .ref m3, .ref mB, .ref mF, .ref mN, .ref mS, .int (iI sT), .ref mW, .long acc])), (mz, .inl (gI g, 326, .inl (aI (zF n ho h c)))), (mp, .inl (gI g, 326, .inl (aI s)))] → va_S A sZ.heap H locs → ∀ (ls : Array Slot), lv_has ls 7 [(0, .ref qm), (1, .int (iI k))] → (326 - k).toNat < k_1 → W pZ l eZ ({ frames := 2, cells := 0, slots := 0, locals := 45 } : Room) sZ mZ [.ref qm].toArray bZ meZ cZ H locs 0 0 (MQ bZ (va_Qv (fun (u9 : Unit) => (fun _ => True) u9) (fun u9 t9 => MB g ((fun _ => [(qm, .inr (5, [.int (iI th), .ref mz, .ref ms, .int (iI hn), .ref mp, .ref mb, .int (iI L), .ref m1, .ref m2, .ref m3, .ref mB, .ref mF, .ref mN, .ref mS, .int (iI sT), .ref mW, .long acc])), (mz, .inl (gI g, 326, .inl (aI ((zF n ho (turnF n h) (turnF n c)))))), (mp, .inl (gI g, 326, .inl (aI (zF n ho h c))))]) u9) A t9) A) [.ref qm].toArray sZ 0 0 A) (F0 mZ 2 ls []) := by
    intro k_1
    induction k_1 with
    | zero => intro k s gk gl ge H locs hP hD hS ls hl hm_3; exact absurd hm_3 (Nat.not_lt_zero _)
    | succ k_1 ih_2 =>
      intro k s gk gl ge H locs hP hD hS ls hl hm_3
      refine lv_iload_n hx hb dX5_turnIt_2 rfl (lv_at hl 1 rfl) ?_
      refine lv_sipush (v := iI 326) hx hb dX5_turnIt_3 (by decide) ?_
      refine ln_icmp_ge (tgt := 27) hx hb dX5_turnIt_6 (by decide) ⟨by omega, by omega⟩ (by decide) (fun c_4 => ?_) (fun c_4 => ?_)
      · skip
        have hP := hP.recell 2 rfl (zF n ho h c) (fun j h0 h1 => ge j h0 (by omega))
        have hD := hD.set (p := 2) (e := .inl (gI g, 326, .inl (aI (zF n ho h c)))) rfl
        have hP : va_P g.1 vwCl [(qm, .inr (5, [.int (iI th), .ref mz, .ref ms, .int (iI hn), .ref mp, .ref mb, .int (iI L), .ref m1, .ref m2, .ref m3, .ref mB, .ref mF, .ref mN, .ref mS, .int (iI sT), .ref mW, .long acc])), (mz, .inl (gI g, 326, .inl (aI (zF n ho h c)))), (mp, .inl (gI g, 326, .inl (aI (zF n ho h c))))] _ := hP
        have hD : va_D A [(qm, .inr (5, [.int (iI th), .ref mz, .ref ms, .int (iI hn), .ref mp, .ref mb, .int (iI L), .ref m1, .ref m2, .ref m3, .ref mB, .ref mF, .ref mN, .ref mS, .int (iI sT), .ref mW, .long acc])), (mz, .inl (gI g, 326, .inl (aI (zF n ho h c)))), (mp, .inl (gI g, 326, .inl (aI (zF n ho h c))))] := hD
        refine lv_aload_n hx hb dX5_turnIt_27 rfl (lv_at hl 0 rfl) ?_
        have hPc_5 := hP.sub (ws' := [(qm, .inr (5, [.int (iI th), .ref mz, .ref ms, .int (iI hn), .ref mp, .ref mb, .int (iI L), .ref m1, .ref m2, .ref m3, .ref mB, .ref mF, .ref mN, .ref mS, .int (iI sT), .ref mW, .long acc])), (mz, .inl (gI g, 326, .inl (aI (zF n ho h c))))]) [0, 1] rfl
        have hDc_6 := hD.sub (ws' := [(qm, .inr (5, [.int (iI th), .ref mz, .ref ms, .int (iI hn), .ref mp, .ref mb, .int (iI L), .ref m1, .ref m2, .ref m3, .ref mB, .ref mF, .ref mN, .ref mS, .int (iI sT), .ref mW, .long acc])), (mz, .inl (gI g, 326, .inl (aI (zF n ho h c))))]) [0, 1] (by decide) rfl
        have hFc_7 := va_free (wc := [(qm, .inr (5, [.int (iI th), .ref mz, .ref ms, .int (iI hn), .ref mp, .ref mb, .int (iI L), .ref m1, .ref m2, .ref m3, .ref mB, .ref mF, .ref mN, .ref mS, .int (iI sT), .ref mW, .long acc])), (mz, .inl (gI g, 326, .inl (aI (zF n ho h c))))]) hD hS hA [0, 1] rfl
        refine mc_v (wr := [(mp, .inl (gI g, 326, .inl (aI (zF n ho h c))))]) (cells1 := 0) (slots1 := 0) (va_runV (As := []) (rest := []) ⟨hx, hb, hml, hown, hts⟩ (c_X5_clear l g qm th mz ms hn mp mb L m1 m2 m3 mB mF mN mS sT mW acc n ho h c H.size) (cwV 0 hts gX5_turnIt_X5_clear rfl rfl rfl (by decide +kernel) ⟨Nat.le_of_ble_eq_true rfl, Nat.le_of_ble_eq_true rfl⟩) (muV hE hS hPc_5 hDc_6 hFc_7 rfl rfl) rfl rfl hl.1 rfl (lv_room (Nat.le_of_ble_eq_true rfl)) dX5_turnIt_28 ⟨Nat.le_of_ble_eq_true rfl, Nat.le_of_ble_eq_true rfl⟩) hP hD hS hA [0, 1] [2] [1, 2, 0] rfl rfl (by decide) (by decide) (fun _ => [(qm, .inr (5, [.int (iI th), .ref mz, .ref ms, .int (iI hn), .ref mp, .ref mb, .int (iI L), .ref m1, .ref m2, .ref m3, .ref mB, .ref mF, .ref mN, .ref mS, .int (iI sT), .ref mW, .long acc])), (mz, .inl (gI g, 326, .inl (aI ((zF n ho (fun _ => 0) (fun _ => 0)))))), (mp, .inl (gI g, 326, .inl (aI (zF n ho h c))))]) (fun _ => rfl) (by decide) (Nat.le_of_ble_eq_true rfl) (Nat.le_of_ble_eq_true rfl) (fun u9 H locs hu_8 hP hD hS => ?_)
        have hP : va_P g.1 vwCl [(qm, .inr (5, [.int (iI th), .ref mz, .ref ms, .int (iI hn), .ref mp, .ref mb, .int (iI L), .ref m1, .ref m2, .ref m3, .ref mB, .ref mF, .ref mN, .ref mS, .int (iI sT), .ref mW, .long acc])), (mz, .inl (gI g, 326, .inl (aI ((zF n ho (fun _ => 0) (fun _ => 0)))))), (mp, .inl (gI g, 326, .inl (aI (zF n ho h c))))] H := hP
        have hD : va_D A [(qm, .inr (5, [.int (iI th), .ref mz, .ref ms, .int (iI hn), .ref mp, .ref mb, .int (iI L), .ref m1, .ref m2, .ref m3, .ref mB, .ref mF, .ref mN, .ref mS, .int (iI sT), .ref mW, .long acc])), (mz, .inl (gI g, 326, .inl (aI ((zF n ho (fun _ => 0) (fun _ => 0)))))), (mp, .inl (gI g, 326, .inl (aI (zF n ho h c))))] := hD
        refine lv_aload_n hx hb dX5_turnIt_31 rfl (lv_at hl 0 rfl) ?_
        refine va_get (D := g.1) (ci := 5) (v := .ref mz) (C := RX5) (T := TX5) (N := 17) hx hb hts in5 hown hE.1 hP 0 rfl rfl 1 (by decide) w0 (fun _ h9 => h9) rfl dX5_turnIt_32 ?_
        refine lv_iconst (v := iI 0) hx hb dX5_turnIt_35 rfl ?_
        refine ln_iald hx hb hE hP 1 rfl (by decide) (by decide) (Nat.le_of_ble_eq_true rfl) n (rfl) dX5_turnIt_36 ?_
        refine lv_istore_n (lv' := [(1, .int (iI n)), (0, .ref qm)]) hx hb dX5_turnIt_37 rfl hl (by decide) rfl (fun ls hl => ?_)
        refine lv_iconst (v := iI 0) hx hb dX5_turnIt_38 rfl ?_
        refine lv_istore_n (lv' := [(2, .int (iI 0)), (1, .int (iI n)), (0, .ref qm)]) hx hb dX5_turnIt_39 rfl hl (by decide) rfl (fun ls hl => ?_)
        have L40 : ∀ (k_9 : Nat) (k : Int) (gk : 0 ≤ k) (gl : k ≤ n * n) (H : Heap) (locs : List Loc), va_P g.1 vwCl [(qm, .inr (5, [.int (iI th), .ref mz, .ref ms, .int (iI hn), .ref mp, .ref mb, .int (iI L), .ref m1, .ref m2, .ref m3, .ref mB, .ref mF, .ref mN, .ref mS, .int (iI sT), .ref mW, .long acc])), (mz, .inl (gI g, 326, .inl (aI ((zF n ho (turnK n h (k / n) (k % n)) (turnK n c (k / n) (k % n))))))), (mp, .inl (gI g, 326, .inl (aI (zF n ho h c))))] H → va_D A [(qm, .inr (5, [.int (iI th), .ref mz, .ref ms, .int (iI hn), .ref mp, .ref mb, .int (iI L), .ref m1, .ref m2, .ref m3, .ref mB, .ref mF, .ref mN, .ref mS, .int (iI sT), .ref mW, .long acc])), (mz, .inl (gI g, 326, .inl (aI ((zF n ho (turnK n h (k / n) (k % n)) (turnK n c (k / n) (k % n))))))), (mp, .inl (gI g, 326, .inl (aI (zF n ho h c))))] → va_S A sZ.heap H locs → ∀ (ls : Array Slot), lv_has ls 7 [(0, .ref qm), (1, .int (iI n)), (2, .int (iI k))] → (n * n - k).toNat < k_9 → W pZ l eZ ({ frames := 2, cells := 0, slots := 0, locals := 45 } : Room) sZ mZ [.ref qm].toArray bZ meZ cZ H locs 0 0 (MQ bZ (va_Qv (fun (u9 : Unit) => (fun _ => True) u9) (fun u9 t9 => MB g ((fun _ => [(qm, .inr (5, [.int (iI th), .ref mz, .ref ms, .int (iI hn), .ref mp, .ref mb, .int (iI L), .ref m1, .ref m2, .ref m3, .ref mB, .ref mF, .ref mN, .ref mS, .int (iI sT), .ref mW, .long acc])), (mz, .inl (gI g, 326, .inl (aI ((zF n ho (turnF n h) (turnF n c)))))), (mp, .inl (gI g, 326, .inl (aI (zF n ho h c))))]) u9) A t9) A) [.ref qm].toArray sZ 0 0 A) (F0 mZ 40 ls []) := by
          intro k_9
          induction k_9 with
          | zero => intro k gk gl H locs hP hD hS ls hl hm_11; exact absurd hm_11 (Nat.not_lt_zero _)
          | succ k_9 ih_10 =>
            intro k gk gl H locs hP hD hS ls hl hm_11
            refine lv_iload_n hx hb dX5_turnIt_40 rfl (lv_at hl 2 rfl) ?_
            refine lv_iload_n hx hb dX5_turnIt_41 rfl (lv_at hl 1 rfl) ?_
            refine lv_iload_n hx hb dX5_turnIt_42 rfl (lv_at hl 1 rfl) ?_
            refine ln_imul hx hb (n * n) (rfl) dX5_turnIt_43 ?_
            refine ln_icmp_ge (tgt := 123) hx hb dX5_turnIt_44 (by decide) ⟨by omega, by omega⟩ ⟨by omega, by omega⟩ (fun c_12 => ?_) (fun c_12 => ?_)
            · skip
              have hP := hP.recell 1 rfl ((zF n ho (turnF n h) (turnF n c))) (fun j _ _ => zF_cg (fun i => by rw [show k = n * n by omega, Int.mul_ediv_cancel _ (by omega : n ≠ 0), Int.mul_emod_left]; rfl) (fun i => by rw [show k = n * n by omega, Int.mul_ediv_cancel _ (by omega : n ≠ 0), Int.mul_emod_left]; rfl) j)
              have hD := hD.set (p := 1) (e := .inl (gI g, 326, .inl (aI ((zF n ho (turnF n h) (turnF n c)))))) rfl
              have hP : va_P g.1 vwCl [(qm, .inr (5, [.int (iI th), .ref mz, .ref ms, .int (iI hn), .ref mp, .ref mb, .int (iI L), .ref m1, .ref m2, .ref m3, .ref mB, .ref mF, .ref mN, .ref mS, .int (iI sT), .ref mW, .long acc])), (mz, .inl (gI g, 326, .inl (aI ((zF n ho (turnF n h) (turnF n c)))))), (mp, .inl (gI g, 326, .inl (aI (zF n ho h c))))] _ := hP
              have hD : va_D A [(qm, .inr (5, [.int (iI th), .ref mz, .ref ms, .int (iI hn), .ref mp, .ref mb, .int (iI L), .ref m1, .ref m2, .ref m3, .ref mB, .ref mF, .ref mN, .ref mS, .int (iI sT), .ref mW, .long acc])), (mz, .inl (gI g, 326, .inl (aI ((zF n ho (turnF n h) (turnF n c)))))), (mp, .inl (gI g, 326, .inl (aI (zF n ho h c))))] := hD
              exact mend_v (S := Unit) (w' := (fun _ => [(qm, .inr (5, [.int (iI th), .ref mz, .ref ms, .int (iI hn), .ref mp, .ref mb, .int (iI L), .ref m1, .ref m2, .ref m3, .ref mB, .ref mF, .ref mN, .ref mS, .int (iI sT), .ref mW, .long acc])), (mz, .inl (gI g, 326, .inl (aI ((zF n ho (turnF n h) (turnF n c)))))), (mp, .inl (gI g, 326, .inl (aI (zF n ho h c))))])) (post := (fun _ => True)) hx hb hr hlk hS () hP hD (trivial) (Nat.le_of_ble_eq_true rfl) (Nat.le_of_ble_eq_true rfl) dX5_turnIt_123
            · skip
              have hdv9 := divn hnn gk (by omega)
              have hhq9 := YOk.h hY (k / n * 6 + k % n)
              have htk9 := turnK_not (n := n) (h := h) (y := k / n) (x := k % n) hnn.2 hdv9.1.1 hdv9.1.2
              have htc9 := turnK_not (n := n) (h := c) (y := k / n) (x := k % n) hnn.2 hdv9.1.1 hdv9.1.2
              refine lv_bipush (v := iI 6) hx hb dX5_turnIt_47 (by decide) ?_
              refine lv_iload_n hx hb dX5_turnIt_49 rfl (lv_at hl 2 rfl) ?_
              refine lv_iload_n hx hb dX5_turnIt_50 rfl (lv_at hl 1 rfl) ?_
              refine ln_idiv hx hb (by omega) (by omega) (by omega) (by omega) (k / n) (rfl) dX5_turnIt_51 ?_
              refine ln_imul hx hb (6 * (k / n)) (rfl) dX5_turnIt_52 ?_
              refine lv_iload_n hx hb dX5_turnIt_53 rfl (lv_at hl 2 rfl) ?_
              refine lv_iload_n hx hb dX5_turnIt_54 rfl (lv_at hl 1 rfl) ?_
              refine ln_irem hx hb (by omega) (by omega) (by omega) (by omega) (k % n) (rfl) dX5_turnIt_55 ?_
              refine ln_iadd hx hb (6 * (k / n) + k % n) (rfl) dX5_turnIt_56 ?_
              refine lv_istore_n (lv' := [(3, .int (iI (6 * (k / n) + k % n))), (0, .ref qm), (1, .int (iI n)), (2, .int (iI k))]) hx hb dX5_turnIt_57 rfl hl (by decide) rfl (fun ls hl => ?_)
              refine lv_iload_n hx hb dX5_turnIt_58 rfl (lv_at hl 2 rfl) ?_
              refine lv_iconst (v := iI 1) hx hb dX5_turnIt_59 rfl ?_
              refine ln_isub hx hb (n - 1) (rfl) dX5_turnIt_60 ?_
              refine lv_iload_n hx hb dX5_turnIt_61 rfl (lv_at hl 3 rfl) ?_
              refine lv_iload_n hx hb dX5_turnIt_62 rfl (lv_at hl 2 rfl) ?_
              refine ln_idiv hx hb (by omega) (by omega) (by omega) (by omega) (k / n) (rfl) dX5_turnIt_63 ?_
              refine ln_isub hx hb (n - 1 - k / n) (rfl) dX5_turnIt_64 ?_
              refine lv_istore (lv' := [(4, .int (iI (n - 1 - k / n))), (3, .int (iI (6 * (k / n) + k % n))), (0, .ref qm), (1, .int (iI n)), (2, .int (iI k))]) hx hb dX5_turnIt_65 hl (by decide) rfl (fun ls hl => ?_)
              refine lv_iload_n hx hb dX5_turnIt_67 rfl (lv_at hl 4 rfl) ?_
              refine lv_iload_n hx hb dX5_turnIt_68 rfl (lv_at hl 3 rfl) ?_
              refine ln_irem hx hb (by omega) (by omega) (by omega) (by omega) (k % n) (rfl) dX5_turnIt_69 ?_
              refine lv_istore (lv' := [(5, .int (iI (k % n))), (4, .int (iI (n - 1 - k / n))), (3, .int (iI (6 * (k / n) + k % n))), (0, .ref qm), (1, .int (iI n)), (2, .int (iI k))]) hx hb dX5_turnIt_70 hl (by decide) rfl (fun ls hl => ?_)
              refine lv_iconst (v := iI 0) hx hb dX5_turnIt_72 rfl ?_
              refine lv_istore (lv' := [(6, .int (iI 0)), (5, .int (iI (k % n))), (4, .int (iI (n - 1 - k / n))), (3, .int (iI (6 * (k / n) + k % n))), (0, .ref qm), (1, .int (iI n)), (2, .int (iI k))]) hx hb dX5_turnIt_73 hl (by decide) rfl (fun ls hl => ?_)
              have L75 : ∀ (k_13 : Nat) (z : Int) (gz : 0 ≤ z) (gm : z ≤ h (k / n * 6 + k % n)) (H : Heap) (locs : List Loc), va_P g.1 vwCl [(qm, .inr (5, [.int (iI th), .ref mz, .ref ms, .int (iI hn), .ref mp, .ref mb, .int (iI L), .ref m1, .ref m2, .ref m3, .ref mB, .ref mF, .ref mN, .ref mS, .int (iI sT), .ref mW, .long acc])), (mz, .inl (gI g, 326, .inl (aI ((zF n ho (updI (turnK n h (k / n) (k % n)) (k % n * 6 + (n - 1 - k / n)) z) (updI (turnK n c (k / n) (k % n)) (k % n * 6 + (n - 1 - k / n)) (c (k / n * 6 + k % n) % p4 z))))))), (mp, .inl (gI g, 326, .inl (aI (zF n ho h c))))] H → va_D A [(qm, .inr (5, [.int (iI th), .ref mz, .ref ms, .int (iI hn), .ref mp, .ref mb, .int (iI L), .ref m1, .ref m2, .ref m3, .ref mB, .ref mF, .ref mN, .ref mS, .int (iI sT), .ref mW, .long acc])), (mz, .inl (gI g, 326, .inl (aI ((zF n ho (updI (turnK n h (k / n) (k % n)) (k % n * 6 + (n - 1 - k / n)) z) (updI (turnK n c (k / n) (k % n)) (k % n * 6 + (n - 1 - k / n)) (c (k / n * 6 + k % n) % p4 z))))))), (mp, .inl (gI g, 326, .inl (aI (zF n ho h c))))] → va_S A sZ.heap H locs → ∀ (ls : Array Slot), lv_has ls 7 [(0, .ref qm), (1, .int (iI n)), (2, .int (iI k)), (3, .int (iI (6 * (k / n) + k % n))), (4, .int (iI (n - 1 - k / n))), (5, .int (iI (k % n))), (6, .int (iI z))] → (h (k / n * 6 + k % n) - z).toNat < k_13 → W pZ l eZ ({ frames := 2, cells := 0, slots := 0, locals := 45 } : Room) sZ mZ [.ref qm].toArray bZ meZ cZ H locs 0 0 (MQ bZ (va_Qv (fun (u9 : Unit) => (fun _ => True) u9) (fun u9 t9 => MB g ((fun _ => [(qm, .inr (5, [.int (iI th), .ref mz, .ref ms, .int (iI hn), .ref mp, .ref mb, .int (iI L), .ref m1, .ref m2, .ref m3, .ref mB, .ref mF, .ref mN, .ref mS, .int (iI sT), .ref mW, .long acc])), (mz, .inl (gI g, 326, .inl (aI ((zF n ho (turnF n h) (turnF n c)))))), (mp, .inl (gI g, 326, .inl (aI (zF n ho h c))))]) u9) A t9) A) [.ref qm].toArray sZ 0 0 A) (F0 mZ 75 ls []) := by
                intro k_13
                induction k_13 with
                | zero => intro z gz gm H locs hP hD hS ls hl hm_15; exact absurd hm_15 (Nat.not_lt_zero _)
                | succ k_13 ih_14 =>
                  intro z gz gm H locs hP hD hS ls hl hm_15
                  have b_16 : YOk n ho (updI (turnK n h (k / n) (k % n)) (k % n * 6 + (n - 1 - k / n)) z) (updI (turnK n c (k / n) (k % n)) (k % n * 6 + (n - 1 - k / n)) (c (k / n * 6 + k % n) % p4 z)) := YOk.set (YOk.tuK hY _ _) ⟨by omega, by omega, by omega⟩ (by omega) (mod4 _ _)
                  refine lv_iload hx hb dX5_turnIt_75 (lv_at hl 6 rfl) ?_
                  refine lv_aload_n hx hb dX5_turnIt_77 rfl (lv_at hl 0 rfl) ?_
                  refine va_get (D := g.1) (ci := 5) (v := .ref mp) (C := RX5) (T := TX5) (N := 17) hx hb hts in5 hown hE.1 hP 0 rfl rfl 4 (by decide) w1 (fun _ h9 => h9) rfl dX5_turnIt_78 ?_
                  refine lv_iconst (v := iI 2) hx hb dX5_turnIt_81 rfl ?_
                  refine lv_iload_n hx hb dX5_turnIt_82 rfl (lv_at hl 3 rfl) ?_
                  refine ln_iadd hx hb (2 + (6 * (k / n) + k % n)) (rfl) dX5_turnIt_83 ?_
                  refine ln_iald hx hb hE hP 2 rfl (by omega) (by omega) (Nat.le_of_ble_eq_true rfl) (h (k / n * 6 + k % n)) (by rw [show 2 + (6 * (k / n) + k % n) = 2 + (k / n * 6 + k % n) by omega]; exact zF_q (by omega) (by omega)) dX5_turnIt_84 ?_
                  refine ln_icmp_ge (tgt := 117) hx hb dX5_turnIt_85 (by decide) ⟨by omega, by omega⟩ ⟨by omega, by omega⟩ (fun c_17 => ?_) (fun c_17 => ?_)
                  · skip
                    refine lv_iinc (v := iI (k + 1)) (lv' := [(2, .int (iI (k + 1))), (0, .ref qm), (1, .int (iI n)), (3, .int (iI (6 * (k / n) + k % n))), (4, .int (iI (n - 1 - k / n))), (5, .int (iI (k % n))), (6, .int (iI z))]) hx hb dX5_turnIt_117 hl (k := 2) rfl (iI_add _ _) (by decide) rfl (fun ls hl => ?_)
                    refine lv_goto (tgt := 40) hx hb dX5_turnIt_120 (by decide) ?_
                    have hl : lv_has ls 7 [(2, .int (iI (k + 1))), (0, .ref qm), (1, .int (iI n)), (3, .int (iI (6 * (k / n) + k % n))), (4, .int (iI (n - 1 - k / n))), (5, .int (iI (k % n))), (6, .int (iI z))] := hl
                    have hP := hP.recell 1 rfl ((zF n ho (turnK n h ((k + 1) / n) ((k + 1) % n)) (turnK n c ((k + 1) / n) ((k + 1) % n)))) (fun j _ _ => zF_cg (fun i => by rw [show z = h (k / n * 6 + k % n) by omega]; exact turnK_k hnn gk (by omega) i) (fun i => by have q9 := YOk.c hY (k / n * 6 + k % n); rw [show z = h (k / n * 6 + k % n) by omega, Int.emod_eq_of_lt q9.1 q9.2]; exact turnK_k hnn gk (by omega) i) j)
                    have hD := hD.set (p := 1) (e := .inl (gI g, 326, .inl (aI ((zF n ho (turnK n h ((k + 1) / n) ((k + 1) % n)) (turnK n c ((k + 1) / n) ((k + 1) % n))))))) rfl
                    exact ih_10 (k + 1) (by omega) (by omega) _ _ hP hD hS _ (lv_sub hl [1, 2, 0] rfl) (by omega)
                  · skip
                    refine lv_aload_n hx hb dX5_turnIt_88 rfl (lv_at hl 0 rfl) ?_
                    refine lv_iload hx hb dX5_turnIt_89 (lv_at hl 4 rfl) ?_
                    refine lv_iload hx hb dX5_turnIt_91 (lv_at hl 5 rfl) ?_
                    refine lv_aload_n hx hb dX5_turnIt_93 rfl (lv_at hl 0 rfl) ?_
                    refine va_get (D := g.1) (ci := 5) (v := .ref mp) (C := RX5) (T := TX5) (N := 17) hx hb hts in5 hown hE.1 hP 0 rfl rfl 4 (by decide) w1 (fun _ h9 => h9) rfl dX5_turnIt_94 ?_
                    refine lv_bipush (v := iI 38) hx hb dX5_turnIt_97 (by decide) ?_
                    refine lv_bipush (v := iI 8) hx hb dX5_turnIt_99 (by decide) ?_
                    refine lv_iload_n hx hb dX5_turnIt_101 rfl (lv_at hl 3 rfl) ?_
                    refine ln_imul hx hb (8 * (6 * (k / n) + k % n)) (rfl) dX5_turnIt_102 ?_
                    refine ln_iadd hx hb (38 + 8 * (6 * (k / n) + k % n)) (rfl) dX5_turnIt_103 ?_
                    refine lv_iload hx hb dX5_turnIt_104 (lv_at hl 6 rfl) ?_
                    refine ln_iadd hx hb (38 + 8 * (6 * (k / n) + k % n) + z) (rfl) dX5_turnIt_106 ?_
                    refine ln_iald hx hb hE hP 2 rfl (by omega) (by omega) (Nat.le_of_ble_eq_true rfl) (colZ (c (k / n * 6 + k % n)) z) (by rw [show 38 + 8 * (6 * (k / n) + k % n) + z = 38 + 8 * (6 * (k / n) + k % n) + z from rfl, zF_c (by omega) (by omega) (by omega) (by omega) (by omega) (by omega), if_pos (by omega)]) dX5_turnIt_107 ?_
                    have hcz9 := colZ_rg (c (k / n * 6 + k % n)) z
                    have hPc_18 := hP.sub (ws' := [(qm, .inr (5, [.int (iI th), .ref mz, .ref ms, .int (iI hn), .ref mp, .ref mb, .int (iI L), .ref m1, .ref m2, .ref m3, .ref mB, .ref mF, .ref mN, .ref mS, .int (iI sT), .ref mW, .long acc])), (mz, .inl (gI g, 326, .inl (aI ((zF n ho (updI (turnK n h (k / n) (k % n)) (k % n * 6 + (n - 1 - k / n)) z) (updI (turnK n c (k / n) (k % n)) (k % n * 6 + (n - 1 - k / n)) (c (k / n * 6 + k % n) % p4 z)))))))]) [0, 1] rfl
                    have hDc_19 := hD.sub (ws' := [(qm, .inr (5, [.int (iI th), .ref mz, .ref ms, .int (iI hn), .ref mp, .ref mb, .int (iI L), .ref m1, .ref m2, .ref m3, .ref mB, .ref mF, .ref mN, .ref mS, .int (iI sT), .ref mW, .long acc])), (mz, .inl (gI g, 326, .inl (aI ((zF n ho (updI (turnK n h (k / n) (k % n)) (k % n * 6 + (n - 1 - k / n)) z) (updI (turnK n c (k / n) (k % n)) (k % n * 6 + (n - 1 - k / n)) (c (k / n * 6 + k % n) % p4 z)))))))]) [0, 1] (by decide) rfl
                    have hFc_20 := va_free (wc := [(qm, .inr (5, [.int (iI th), .ref mz, .ref ms, .int (iI hn), .ref mp, .ref mb, .int (iI L), .ref m1, .ref m2, .ref m3, .ref mB, .ref mF, .ref mN, .ref mS, .int (iI sT), .ref mW, .long acc])), (mz, .inl (gI g, 326, .inl (aI ((zF n ho (updI (turnK n h (k / n) (k % n)) (k % n * 6 + (n - 1 - k / n)) z) (updI (turnK n c (k / n) (k % n)) (k % n * 6 + (n - 1 - k / n)) (c (k / n * 6 + k % n) % p4 z)))))))]) hD hS hA [0, 1] rfl
                    refine mc_v (wr := [(mp, .inl (gI g, 326, .inl (aI (zF n ho h c))))]) (cells1 := 0) (slots1 := 0) (va_runV (As := [.int (iI (n - 1 - k / n)), .int (iI (k % n)), .int (iI (colZ (c (k / n * 6 + k % n)) z))]) (rest := []) ⟨hx, hb, hml, hown, hts⟩ (c_X5_putOn l g qm th mz ms hn mp mb L m1 m2 m3 mB mF mN mS sT mW acc n ho ((updI (turnK n h (k / n) (k % n)) (k % n * 6 + (n - 1 - k / n)) z)) ((updI (turnK n c (k / n) (k % n)) (k % n * 6 + (n - 1 - k / n)) (c (k / n * 6 + k % n) % p4 z))) (n - 1 - k / n) (k % n) (colZ (c (k / n * 6 + k % n)) z) (by assumption) (by omega) (by omega) (by omega) (by omega) (by omega) (by rw [updI_s]; omega) H.size) (cwV 3 hts gX5_turnIt_X5_putOn rfl rfl rfl (by decide +kernel) ⟨Nat.le_of_ble_eq_true rfl, Nat.le_of_ble_eq_true rfl⟩) (muV hE hS hPc_18 hDc_19 hFc_20 rfl rfl) rfl rfl hl.1 rfl (lv_room (Nat.le_of_ble_eq_true rfl)) dX5_turnIt_108 ⟨Nat.le_of_ble_eq_true rfl, Nat.le_of_ble_eq_true rfl⟩) hP hD hS hA [0, 1] [2] [1, 2, 0] rfl rfl (by decide) (by decide) (fun _ => [(qm, .inr (5, [.int (iI th), .ref mz, .ref ms, .int (iI hn), .ref mp, .ref mb, .int (iI L), .ref m1, .ref m2, .ref m3, .ref mB, .ref mF, .ref mN, .ref mS, .int (iI sT), .ref mW, .long acc])), (mz, .inl (gI g, 326, .inl (aI ((zF n ho (updI ((updI (turnK n h (k / n) (k % n)) (k % n * 6 + (n - 1 - k / n)) z)) ((k % n) * 6 + (n - 1 - k / n)) (((updI (turnK n h (k / n) (k % n)) (k % n * 6 + (n - 1 - k / n)) z)) ((k % n) * 6 + (n - 1 - k / n)) + 1)) (updI ((updI (turnK n c (k / n) (k % n)) (k % n * 6 + (n - 1 - k / n)) (c (k / n * 6 + k % n) % p4 z))) ((k % n) * 6 + (n - 1 - k / n)) (((updI (turnK n c (k / n) (k % n)) (k % n * 6 + (n - 1 - k / n)) (c (k / n * 6 + k % n) % p4 z))) ((k % n) * 6 + (n - 1 - k / n)) + (colZ (c (k / n * 6 + k % n)) z) * p4 (((updI (turnK n h (k / n) (k % n)) (k % n * 6 + (n - 1 - k / n)) z)) ((k % n) * 6 + (n - 1 - k / n)))))))))), (mp, .inl (gI g, 326, .inl (aI (zF n ho h c))))]) (fun _ => rfl) (by decide) (Nat.le_of_ble_eq_true rfl) (Nat.le_of_ble_eq_true rfl) (fun u9 H locs hu_21 hP hD hS => ?_)
                    have hP : va_P g.1 vwCl [(qm, .inr (5, [.int (iI th), .ref mz, .ref ms, .int (iI hn), .ref mp, .ref mb, .int (iI L), .ref m1, .ref m2, .ref m3, .ref mB, .ref mF, .ref mN, .ref mS, .int (iI sT), .ref mW, .long acc])), (mz, .inl (gI g, 326, .inl (aI ((zF n ho (updI ((updI (turnK n h (k / n) (k % n)) (k % n * 6 + (n - 1 - k / n)) z)) ((k % n) * 6 + (n - 1 - k / n)) (((updI (turnK n h (k / n) (k % n)) (k % n * 6 + (n - 1 - k / n)) z)) ((k % n) * 6 + (n - 1 - k / n)) + 1)) (updI ((updI (turnK n c (k / n) (k % n)) (k % n * 6 + (n - 1 - k / n)) (c (k / n * 6 + k % n) % p4 z))) ((k % n) * 6 + (n - 1 - k / n)) (((updI (turnK n c (k / n) (k % n)) (k % n * 6 + (n - 1 - k / n)) (c (k / n * 6 + k % n) % p4 z))) ((k % n) * 6 + (n - 1 - k / n)) + (colZ (c (k / n * 6 + k % n)) z) * p4 (((updI (turnK n h (k / n) (k % n)) (k % n * 6 + (n - 1 - k / n)) z)) ((k % n) * 6 + (n - 1 - k / n)))))))))), (mp, .inl (gI g, 326, .inl (aI (zF n ho h c))))] H := hP
                    have hD : va_D A [(qm, .inr (5, [.int (iI th), .ref mz, .ref ms, .int (iI hn), .ref mp, .ref mb, .int (iI L), .ref m1, .ref m2, .ref m3, .ref mB, .ref mF, .ref mN, .ref mS, .int (iI sT), .ref mW, .long acc])), (mz, .inl (gI g, 326, .inl (aI ((zF n ho (updI ((updI (turnK n h (k / n) (k % n)) (k % n * 6 + (n - 1 - k / n)) z)) ((k % n) * 6 + (n - 1 - k / n)) (((updI (turnK n h (k / n) (k % n)) (k % n * 6 + (n - 1 - k / n)) z)) ((k % n) * 6 + (n - 1 - k / n)) + 1)) (updI ((updI (turnK n c (k / n) (k % n)) (k % n * 6 + (n - 1 - k / n)) (c (k / n * 6 + k % n) % p4 z))) ((k % n) * 6 + (n - 1 - k / n)) (((updI (turnK n c (k / n) (k % n)) (k % n * 6 + (n - 1 - k / n)) (c (k / n * 6 + k % n) % p4 z))) ((k % n) * 6 + (n - 1 - k / n)) + (colZ (c (k / n * 6 + k % n)) z) * p4 (((updI (turnK n h (k / n) (k % n)) (k % n * 6 + (n - 1 - k / n)) z)) ((k % n) * 6 + (n - 1 - k / n)))))))))), (mp, .inl (gI g, 326, .inl (aI (zF n ho h c))))] := hD
                    refine lv_iinc (v := iI (z + 1)) (lv' := [(6, .int (iI (z + 1))), (0, .ref qm), (1, .int (iI n)), (2, .int (iI k)), (3, .int (iI (6 * (k / n) + k % n))), (4, .int (iI (n - 1 - k / n))), (5, .int (iI (k % n)))]) hx hb dX5_turnIt_111 hl (k := 6) rfl (iI_add _ _) (by decide) rfl (fun ls hl => ?_)
                    refine lv_goto (tgt := 75) hx hb dX5_turnIt_114 (by decide) ?_
                    have hl : lv_has ls 7 [(6, .int (iI (z + 1))), (0, .ref qm), (1, .int (iI n)), (2, .int (iI k)), (3, .int (iI (6 * (k / n) + k % n))), (4, .int (iI (n - 1 - k / n))), (5, .int (iI (k % n)))] := hl
                    have hP := hP.recell 1 rfl ((zF n ho (updI (turnK n h (k / n) (k % n)) (k % n * 6 + (n - 1 - k / n)) (z + 1)) (updI (turnK n c (k / n) (k % n)) (k % n * 6 + (n - 1 - k / n)) (c (k / n * 6 + k % n) % p4 (z + 1))))) (fun j _ _ => zF_cg (fun i => by rw [updI_u, updI_s]) (fun i => by rw [updI_u, updI_s, updI_s, p4_split gz]) j)
                    have hD := hD.set (p := 1) (e := .inl (gI g, 326, .inl (aI ((zF n ho (updI (turnK n h (k / n) (k % n)) (k % n * 6 + (n - 1 - k / n)) (z + 1)) (updI (turnK n c (k / n) (k % n)) (k % n * 6 + (n - 1 - k / n)) (c (k / n * 6 + k % n) % p4 (z + 1)))))))) rfl
                    exact ih_14 (z + 1) (by omega) (by omega) _ _ hP hD hS _ (lv_sub hl [1, 2, 3, 4, 5, 6, 0] rfl) (by omega)
              have hl : lv_has ls 7 [(6, .int (iI 0)), (5, .int (iI (k % n))), (4, .int (iI (n - 1 - k / n))), (3, .int (iI (6 * (k / n) + k % n))), (0, .ref qm), (1, .int (iI n)), (2, .int (iI k))] := hl
              have hP := hP.recell 1 rfl ((zF n ho (updI (turnK n h (k / n) (k % n)) (k % n * 6 + (n - 1 - k / n)) 0) (updI (turnK n c (k / n) (k % n)) (k % n * 6 + (n - 1 - k / n)) (c (k / n * 6 + k % n) % p4 0)))) (fun j _ _ => zF_cg (fun i => by rw [← htk9]; exact (updI_id _ _ _).symm) (fun i => by rw [show c (k / n * 6 + k % n) % p4 0 = 0 by rw [p4_0]; omega, ← htc9]; exact (updI_id _ _ _).symm) j)
              have hD := hD.set (p := 1) (e := .inl (gI g, 326, .inl (aI ((zF n ho (updI (turnK n h (k / n) (k % n)) (k % n * 6 + (n - 1 - k / n)) 0) (updI (turnK n c (k / n) (k % n)) (k % n * 6 + (n - 1 - k / n)) (c (k / n * 6 + k % n) % p4 0))))))) rfl
              exact L75 _ 0 (by omega) (by omega) _ _ hP hD hS _ (lv_sub hl [4, 5, 6, 3, 2, 1, 0] rfl) (Nat.lt_succ_self _)
        have hl : lv_has ls 7 [(2, .int (iI 0)), (1, .int (iI n)), (0, .ref qm)] := hl
        have hP := hP.recell 1 rfl ((zF n ho (turnK n h (0 / n) (0 % n)) (turnK n c (0 / n) (0 % n)))) (fun j _ _ => zF_cg (fun i => by rw [Int.zero_ediv, Int.zero_emod, turnK_0 _ _ _ hnn.2]) (fun i => by rw [Int.zero_ediv, Int.zero_emod, turnK_0 _ _ _ hnn.2]) j)
        have hD := hD.set (p := 1) (e := .inl (gI g, 326, .inl (aI ((zF n ho (turnK n h (0 / n) (0 % n)) (turnK n c (0 / n) (0 % n))))))) rfl
        exact L40 _ 0 (by omega) (by omega) _ _ hP hD hS _ (lv_sub hl [2, 1, 0] rfl) (Nat.lt_succ_self _)
      · skip
        refine lv_aload_n hx hb dX5_turnIt_9 rfl (lv_at hl 0 rfl) ?_
        refine va_get (D := g.1) (ci := 5) (v := .ref mp) (C := RX5) (T := TX5) (N := 17) hx hb hts in5 hown hE.1 hP 0 rfl rfl 4 (by decide) w1 (fun _ h9 => h9) rfl dX5_turnIt_10 ?_
        refine lv_iload_n hx hb dX5_turnIt_13 rfl (lv_at hl 1 rfl) ?_
        refine lv_aload_n hx hb dX5_turnIt_14 rfl (lv_at hl 0 rfl) ?_
        refine va_get (D := g.1) (ci := 5) (v := .ref mz) (C := RX5) (T := TX5) (N := 17) hx hb hts in5 hown hE.1 hP 0 rfl rfl 1 (by decide) w0 (fun _ h9 => h9) rfl dX5_turnIt_15 ?_
        refine lv_iload_n hx hb dX5_turnIt_18 rfl (lv_at hl 1 rfl) ?_
        refine ln_iald hx hb hE hP 1 rfl (by omega) (by omega) (Nat.le_of_ble_eq_true rfl) ((zF n ho h c) k) (rfl) dX5_turnIt_19 ?_
        refine ln_iast hx hb hE hP hD hS 2 rfl (by omega) (by omega) (Nat.le_of_ble_eq_true rfl) (updI s k ((zF n ho h c) k)) (fun _ _ _ => rfl) dX5_turnIt_20 (fun H locs hP hD hS => ?_)
        have hP : va_P g.1 vwCl [(qm, .inr (5, [.int (iI th), .ref mz, .ref ms, .int (iI hn), .ref mp, .ref mb, .int (iI L), .ref m1, .ref m2, .ref m3, .ref mB, .ref mF, .ref mN, .ref mS, .int (iI sT), .ref mW, .long acc])), (mz, .inl (gI g, 326, .inl (aI (zF n ho h c)))), (mp, .inl (gI g, 326, .inl (aI (updI s k ((zF n ho h c) k)))))] H := hP
        have hD : va_D A [(qm, .inr (5, [.int (iI th), .ref mz, .ref ms, .int (iI hn), .ref mp, .ref mb, .int (iI L), .ref m1, .ref m2, .ref m3, .ref mB, .ref mF, .ref mN, .ref mS, .int (iI sT), .ref mW, .long acc])), (mz, .inl (gI g, 326, .inl (aI (zF n ho h c)))), (mp, .inl (gI g, 326, .inl (aI (updI s k ((zF n ho h c) k)))))] := hD
        refine lv_iinc (v := iI (k + 1)) (lv' := [(1, .int (iI (k + 1))), (0, .ref qm)]) hx hb dX5_turnIt_21 hl (k := 1) rfl (iI_add _ _) (by decide) rfl (fun ls hl => ?_)
        refine lv_goto (tgt := 2) hx hb dX5_turnIt_24 (by decide) ?_
        have hl : lv_has ls 7 [(1, .int (iI (k + 1))), (0, .ref qm)] := hl
        have hP := hP.recell 2 rfl ((updI s k (zF n ho h c k))) (fun j h0 h1 => rfl)
        have hD := hD.set (p := 2) (e := .inl (gI g, 326, .inl (aI ((updI s k (zF n ho h c k)))))) rfl
        exact ih_2 (k + 1) ((updI s k (zF n ho h c k))) (by omega) (by omega) (fun j a b => by unfold updI; split; (rename_i q9; rw [q9]); exact ge j a (by omega)) _ _ hP hD hS _ (lv_sub hl [1, 0] rfl) (by omega)
  have hl : lv_has ls 7 [(1, .int (iI 0)), (0, .ref qm)] := hl
  exact L2 _ 0 sp (by omega) (by omega) (fun j a b => absurd b (by omega)) _ _ hP hD hS _ (lv_sub hl [1, 0] rfl) (Nat.lt_succ_self _)

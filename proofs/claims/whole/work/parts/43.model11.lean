set_option maxHeartbeats 800000 in
set_option maxRecDepth 100000 in
theorem c_X5_undo_ok (l : Launch) (g : GT) (qm : Nat) (th : Int) (mz : Nat) (ms : Nat) (hn : Int) (mp : Nat) (mb : Nat) (L : Int) (m1 : Nat) (m2 : Nat) (m3 : Nat) (mB : Nat) (mF : Nat) (mN : Nat) (mS : Nat) (sT : Int) (mW : Nat) (acc : Int64) (e : Int → Int) (f : Int → Int) (hh : 1 ≤ hn ∧ hn ≤ 6) : MutI l yX5_undo wsX5_undo ({ frames := 0, cells := 0, slots := 0, locals := 0 }) 0 0 g [(qm, .inr (5, [.int (iI th), .ref mz, .ref ms, .int (iI hn), .ref mp, .ref mb, .int (iI L), .ref m1, .ref m2, .ref m3, .ref mB, .ref mF, .ref mN, .ref mS, .int (iI sT), .ref mW, .long acc])), (mz, .inl (gI g, 326, .inl (aI e))), (ms, .inl (gI g, 1956, .inl (aI f)))] [.ref qm] (S := Unit) (fun _ => True) (fun _ => hn - 1) (fun _ => [(qm, .inr (5, [.int (iI 0), .ref mz, .ref ms, .int (iI (hn - 1)), .ref mp, .ref mb, .int (iI L), .ref m1, .ref m2, .ref m3, .ref mB, .ref mF, .ref mN, .ref mS, .int (iI sT), .ref mW, .long acc])), (mz, .inl (gI g, 326, .inl (aI ((fun j9 => f ((hn - 1) * 326 + j9)))))), (ms, .inl (gI g, 1956, .inl (aI f)))]) := by
  refine mut_of (y := yX5_undo) (ws := wsX5_undo) (av := [.ref qm]) (w := [(qm, .inr (5, [.int (iI th), .ref mz, .ref ms, .int (iI hn), .ref mp, .ref mb, .int (iI L), .ref m1, .ref m2, .ref m3, .ref mB, .ref mF, .ref mN, .ref mS, .int (iI sT), .ref mW, .long acc])), (mz, .inl (gI g, 326, .inl (aI e))), (ms, .inl (gI g, 1956, .inl (aI f)))]) (Qc := fun A => va_Qi (fun x9 (u9 : Unit) => x9 = iI ((fun _ => hn - 1) u9) ∧ (fun _ => True) u9) (fun u9 t9 => MB g ((fun _ => [(qm, .inr (5, [.int (iI 0), .ref mz, .ref ms, .int (iI (hn - 1)), .ref mp, .ref mb, .int (iI L), .ref m1, .ref m2, .ref m3, .ref mB, .ref mF, .ref mN, .ref mS, .int (iI sT), .ref mW, .long acc])), (mz, .inl (gI g, 326, .inl (aI ((fun j9 => f ((hn - 1) * 326 + j9)))))), (ms, .inl (gI g, 1956, .inl (aI f)))]) u9) A t9) A) (cc := cX5_undo) (maxL := 2) (ret := (some .int)) (by decide) rfl (Nat.le_of_ble_eq_true rfl) ?_
  intro pZ eZ sZ mZ bZ meZ cZ A F hin hA hP hD hE hS ls hl
  obtain ⟨hx, hb, hr, hml, hts, hown, hlk⟩ := F
  skip
  have hown : sZ.vm.findClass RX5 = some mZ.cls := hown
  have hl : lv_has ls 2 [(0, .ref qm)] := hl
  skip
  have w0 := hts (.fieldLink RX5 55 "SlantYardModel" "savedMany" "I") (by decide +kernel)
  have w1 := hts (.fieldLink RX5 47 "SlantYardModel" "thrown" "I") (by decide +kernel)
  have w2 := hts (.fieldLink RX5 7 "SlantYardModel" "z" "[I") (by decide +kernel)
  have w3 := hts (.fieldLink RX5 13 "SlantYardModel" "saved" "[I") (by decide +kernel)
  have in5 : ∀ w ∈ u_ws RX5 TX5 17, w ∈ wsX5_undo := by decide +kernel
  refine lv_aload_n hx hb dX5_undo_0 rfl (lv_at hl 0 rfl) ?_
  refine lv_aload_n hx hb dX5_undo_1 rfl (lv_at hl 0 rfl) ?_
  refine va_get (D := g.1) (ci := 5) (v := .int (iI hn)) (C := RX5) (T := TX5) (N := 17) hx hb hts in5 hown hE.1 hP 0 rfl rfl 3 (by decide) w0 (fun _ h9 => h9) rfl dX5_undo_2 ?_
  refine ln_if_ne (tgt := 12) hx hb dX5_undo_5 (by decide) ⟨by omega, by omega⟩ (fun c_1 => ?_) (fun c_1 => ?_)
  · skip
    refine lv_iconst (v := iI 0) hx hb dX5_undo_12 rfl ?_
    refine va_put (D := g.1) (ci := 5) (v := .int (iI 0)) (ty := .int) (C := RX5) (T := TX5) (N := 17) hx hb hts in5 tyX5 tyX5_ok nmX5 hown hE.1 hP hD hS 0 rfl rfl 0 (by decide) w1 (fun _ h9 => h9) rfl (by decide +kernel) rfl rfl (Nat.le_of_ble_eq_true rfl) dX5_undo_13 (fun H locs hP hD hS => ?_)
    have hP : va_P g.1 vwCl [(qm, .inr (5, [.int (iI 0), .ref mz, .ref ms, .int (iI hn), .ref mp, .ref mb, .int (iI L), .ref m1, .ref m2, .ref m3, .ref mB, .ref mF, .ref mN, .ref mS, .int (iI sT), .ref mW, .long acc])), (mz, .inl (gI g, 326, .inl (aI e))), (ms, .inl (gI g, 1956, .inl (aI f)))] H := hP
    have hD : va_D A [(qm, .inr (5, [.int (iI 0), .ref mz, .ref ms, .int (iI hn), .ref mp, .ref mb, .int (iI L), .ref m1, .ref m2, .ref m3, .ref mB, .ref mF, .ref mN, .ref mS, .int (iI sT), .ref mW, .long acc])), (mz, .inl (gI g, 326, .inl (aI e))), (ms, .inl (gI g, 1956, .inl (aI f)))] := hD
    refine lv_aload_n hx hb dX5_undo_16 rfl (lv_at hl 0 rfl) ?_
    refine va_get (D := g.1) (ci := 5) (v := .int (iI 0)) (C := RX5) (T := TX5) (N := 17) hx hb hts in5 hown hE.1 hP 0 rfl rfl 0 (by decide) w1 (fun _ h9 => h9) rfl dX5_undo_17 ?_
    refine ln_if_le (tgt := 25) hx hb dX5_undo_20 (by decide) (by decide) (fun c_2 => ?_) (fun c_2 => ?_)
    · skip
      refine lv_aload_n hx hb dX5_undo_25 rfl (lv_at hl 0 rfl) ?_
      refine lv_dup hx hb dX5_undo_26 rfl ?_
      refine va_get (D := g.1) (ci := 5) (v := .int (iI hn)) (C := RX5) (T := TX5) (N := 17) hx hb hts in5 hown hE.1 hP 0 rfl rfl 3 (by decide) w0 (fun _ h9 => h9) rfl dX5_undo_27 ?_
      refine lv_iconst (v := iI 1) hx hb dX5_undo_30 rfl ?_
      refine ln_isub hx hb (hn - 1) (rfl) dX5_undo_31 ?_
      refine va_put (D := g.1) (ci := 5) (v := .int (iI (hn - 1))) (ty := .int) (C := RX5) (T := TX5) (N := 17) hx hb hts in5 tyX5 tyX5_ok nmX5 hown hE.1 hP hD hS 0 rfl rfl 3 (by decide) w0 (fun _ h9 => h9) rfl (by decide +kernel) rfl rfl (Nat.le_of_ble_eq_true rfl) dX5_undo_32 (fun H locs hP hD hS => ?_)
      have hP : va_P g.1 vwCl [(qm, .inr (5, [.int (iI 0), .ref mz, .ref ms, .int (iI (hn - 1)), .ref mp, .ref mb, .int (iI L), .ref m1, .ref m2, .ref m3, .ref mB, .ref mF, .ref mN, .ref mS, .int (iI sT), .ref mW, .long acc])), (mz, .inl (gI g, 326, .inl (aI e))), (ms, .inl (gI g, 1956, .inl (aI f)))] H := hP
      have hD : va_D A [(qm, .inr (5, [.int (iI 0), .ref mz, .ref ms, .int (iI (hn - 1)), .ref mp, .ref mb, .int (iI L), .ref m1, .ref m2, .ref m3, .ref mB, .ref mF, .ref mN, .ref mS, .int (iI sT), .ref mW, .long acc])), (mz, .inl (gI g, 326, .inl (aI e))), (ms, .inl (gI g, 1956, .inl (aI f)))] := hD
      refine lv_iconst (v := iI 0) hx hb dX5_undo_35 rfl ?_
      refine lv_istore_n (lv' := [(1, .int (iI 0)), (0, .ref qm)]) hx hb dX5_undo_36 rfl hl (by decide) rfl (fun ls hl => ?_)
      have L37 : ∀ (k_3 : Nat) (k : Int) (s : Int → Int) (gk : 0 ≤ k) (gl : k ≤ 326) (ge : ∀ j, 0 ≤ j → j < k → s j = f ((hn - 1) * 326 + j)) (H : Heap) (locs : List Loc), va_P g.1 vwCl [(qm, .inr (5, [.int (iI 0), .ref mz, .ref ms, .int (iI (hn - 1)), .ref mp, .ref mb, .int (iI L), .ref m1, .ref m2, .ref m3, .ref mB, .ref mF, .ref mN, .ref mS, .int (iI sT), .ref mW, .long acc])), (mz, .inl (gI g, 326, .inl (aI s))), (ms, .inl (gI g, 1956, .inl (aI f)))] H → va_D A [(qm, .inr (5, [.int (iI 0), .ref mz, .ref ms, .int (iI (hn - 1)), .ref mp, .ref mb, .int (iI L), .ref m1, .ref m2, .ref m3, .ref mB, .ref mF, .ref mN, .ref mS, .int (iI sT), .ref mW, .long acc])), (mz, .inl (gI g, 326, .inl (aI s))), (ms, .inl (gI g, 1956, .inl (aI f)))] → va_S A sZ.heap H locs → ∀ (ls : Array Slot), lv_has ls 2 [(0, .ref qm), (1, .int (iI k))] → (326 - k).toNat < k_3 → W pZ l eZ ({ frames := 0, cells := 0, slots := 0, locals := 0 } : Room) sZ mZ [.ref qm].toArray bZ meZ cZ H locs 0 0 (MQ bZ (va_Qi (fun x9 (u9 : Unit) => x9 = iI ((fun _ => hn - 1) u9) ∧ (fun _ => True) u9) (fun u9 t9 => MB g ((fun _ => [(qm, .inr (5, [.int (iI 0), .ref mz, .ref ms, .int (iI (hn - 1)), .ref mp, .ref mb, .int (iI L), .ref m1, .ref m2, .ref m3, .ref mB, .ref mF, .ref mN, .ref mS, .int (iI sT), .ref mW, .long acc])), (mz, .inl (gI g, 326, .inl (aI ((fun j9 => f ((hn - 1) * 326 + j9)))))), (ms, .inl (gI g, 1956, .inl (aI f)))]) u9) A t9) A) [.ref qm].toArray sZ 0 0 A) (F0 mZ 37 ls []) := by
        intro k_3
        induction k_3 with
        | zero => intro k s gk gl ge H locs hP hD hS ls hl hm_5; exact absurd hm_5 (Nat.not_lt_zero _)
        | succ k_3 ih_4 =>
          intro k s gk gl ge H locs hP hD hS ls hl hm_5
          refine lv_iload_n hx hb dX5_undo_37 rfl (lv_at hl 1 rfl) ?_
          refine lv_sipush (v := iI 326) hx hb dX5_undo_38 (by decide) ?_
          refine ln_icmp_ge (tgt := 71) hx hb dX5_undo_41 (by decide) ⟨by omega, by omega⟩ (by decide) (fun c_6 => ?_) (fun c_6 => ?_)
          · skip
            refine lv_aload_n hx hb dX5_undo_71 rfl (lv_at hl 0 rfl) ?_
            refine va_get (D := g.1) (ci := 5) (v := .int (iI (hn - 1))) (C := RX5) (T := TX5) (N := 17) hx hb hts in5 hown hE.1 hP 0 rfl rfl 3 (by decide) w0 (fun _ h9 => h9) rfl dX5_undo_72 ?_
            have hP := hP.recell 1 rfl ((fun j9 => f ((hn - 1) * 326 + j9))) (fun j h0 h1 => ge j h0 (by omega))
            have hD := hD.set (p := 1) (e := .inl (gI g, 326, .inl (aI ((fun j9 => f ((hn - 1) * 326 + j9)))))) rfl
            have hP : va_P g.1 vwCl [(qm, .inr (5, [.int (iI 0), .ref mz, .ref ms, .int (iI (hn - 1)), .ref mp, .ref mb, .int (iI L), .ref m1, .ref m2, .ref m3, .ref mB, .ref mF, .ref mN, .ref mS, .int (iI sT), .ref mW, .long acc])), (mz, .inl (gI g, 326, .inl (aI ((fun j9 => f ((hn - 1) * 326 + j9)))))), (ms, .inl (gI g, 1956, .inl (aI f)))] _ := hP
            have hD : va_D A [(qm, .inr (5, [.int (iI 0), .ref mz, .ref ms, .int (iI (hn - 1)), .ref mp, .ref mb, .int (iI L), .ref m1, .ref m2, .ref m3, .ref mB, .ref mF, .ref mN, .ref mS, .int (iI sT), .ref mW, .long acc])), (mz, .inl (gI g, 326, .inl (aI ((fun j9 => f ((hn - 1) * 326 + j9)))))), (ms, .inl (gI g, 1956, .inl (aI f)))] := hD
            exact mend_i (S := Unit) (w' := (fun _ => [(qm, .inr (5, [.int (iI 0), .ref mz, .ref ms, .int (iI (hn - 1)), .ref mp, .ref mb, .int (iI L), .ref m1, .ref m2, .ref m3, .ref mB, .ref mF, .ref mN, .ref mS, .int (iI sT), .ref mW, .long acc])), (mz, .inl (gI g, 326, .inl (aI ((fun j9 => f ((hn - 1) * 326 + j9)))))), (ms, .inl (gI g, 1956, .inl (aI f)))])) (post := (fun _ => True)) (r := (fun _ => hn - 1)) hx hb hr hlk hS () hP hD (trivial) (by first | rfl | omega | (split <;> omega)) (Nat.le_of_ble_eq_true rfl) (Nat.le_of_ble_eq_true rfl) dX5_undo_75
          · skip
            refine lv_aload_n hx hb dX5_undo_44 rfl (lv_at hl 0 rfl) ?_
            refine va_get (D := g.1) (ci := 5) (v := .ref mz) (C := RX5) (T := TX5) (N := 17) hx hb hts in5 hown hE.1 hP 0 rfl rfl 1 (by decide) w2 (fun _ h9 => h9) rfl dX5_undo_45 ?_
            refine lv_iload_n hx hb dX5_undo_48 rfl (lv_at hl 1 rfl) ?_
            refine lv_aload_n hx hb dX5_undo_49 rfl (lv_at hl 0 rfl) ?_
            refine va_get (D := g.1) (ci := 5) (v := .ref ms) (C := RX5) (T := TX5) (N := 17) hx hb hts in5 hown hE.1 hP 0 rfl rfl 2 (by decide) w3 (fun _ h9 => h9) rfl dX5_undo_50 ?_
            refine lv_aload_n hx hb dX5_undo_53 rfl (lv_at hl 0 rfl) ?_
            refine va_get (D := g.1) (ci := 5) (v := .int (iI (hn - 1))) (C := RX5) (T := TX5) (N := 17) hx hb hts in5 hown hE.1 hP 0 rfl rfl 3 (by decide) w0 (fun _ h9 => h9) rfl dX5_undo_54 ?_
            refine lv_sipush (v := iI 326) hx hb dX5_undo_57 (by decide) ?_
            refine ln_imul hx hb ((hn - 1) * 326) (rfl) dX5_undo_60 ?_
            refine lv_iload_n hx hb dX5_undo_61 rfl (lv_at hl 1 rfl) ?_
            refine ln_iadd hx hb ((hn - 1) * 326 + k) (rfl) dX5_undo_62 ?_
            refine ln_iald hx hb hE hP 2 rfl (by omega) (by omega) (Nat.le_of_ble_eq_true rfl) (f ((hn - 1) * 326 + k)) (rfl) dX5_undo_63 ?_
            refine ln_iast hx hb hE hP hD hS 1 rfl (by omega) (by omega) (Nat.le_of_ble_eq_true rfl) (updI s k (f ((hn - 1) * 326 + k))) (fun _ _ _ => rfl) dX5_undo_64 (fun H locs hP hD hS => ?_)
            have hP : va_P g.1 vwCl [(qm, .inr (5, [.int (iI 0), .ref mz, .ref ms, .int (iI (hn - 1)), .ref mp, .ref mb, .int (iI L), .ref m1, .ref m2, .ref m3, .ref mB, .ref mF, .ref mN, .ref mS, .int (iI sT), .ref mW, .long acc])), (mz, .inl (gI g, 326, .inl (aI (updI s k (f ((hn - 1) * 326 + k)))))), (ms, .inl (gI g, 1956, .inl (aI f)))] H := hP
            have hD : va_D A [(qm, .inr (5, [.int (iI 0), .ref mz, .ref ms, .int (iI (hn - 1)), .ref mp, .ref mb, .int (iI L), .ref m1, .ref m2, .ref m3, .ref mB, .ref mF, .ref mN, .ref mS, .int (iI sT), .ref mW, .long acc])), (mz, .inl (gI g, 326, .inl (aI (updI s k (f ((hn - 1) * 326 + k)))))), (ms, .inl (gI g, 1956, .inl (aI f)))] := hD
            refine lv_iinc (v := iI (k + 1)) (lv' := [(1, .int (iI (k + 1))), (0, .ref qm)]) hx hb dX5_undo_65 hl (k := 1) rfl (iI_add _ _) (by decide) rfl (fun ls hl => ?_)
            refine lv_goto (tgt := 37) hx hb dX5_undo_68 (by decide) ?_
            have hl : lv_has ls 2 [(1, .int (iI (k + 1))), (0, .ref qm)] := hl
            have hP := hP.recell 1 rfl ((updI s k (f ((hn - 1) * 326 + k)))) (fun j h0 h1 => rfl)
            have hD := hD.set (p := 1) (e := .inl (gI g, 326, .inl (aI ((updI s k (f ((hn - 1) * 326 + k))))))) rfl
            exact ih_4 (k + 1) ((updI s k (f ((hn - 1) * 326 + k)))) (by omega) (by omega) (fun j a b => by unfold updI; split; (rename_i q9; rw [q9]); exact ge j a (by omega)) _ _ hP hD hS _ (lv_sub hl [1, 0] rfl) (by omega)
      have hl : lv_has ls 2 [(1, .int (iI 0)), (0, .ref qm)] := hl
      exact L37 _ 0 e (by omega) (by omega) (fun j a b => absurd b (by omega)) _ _ hP hD hS _ (lv_sub hl [1, 0] rfl) (Nat.lt_succ_self _)
    · exfalso; omega
  · exfalso; omega
set_option maxHeartbeats 800000 in
set_option maxRecDepth 100000 in
theorem c_X5_undo_x (l : Launch) (g : GT) (qm : Nat) (th : Int) (mz : Nat) (ms : Nat) (hn : Int) (mp : Nat) (mb : Nat) (L : Int) (m1 : Nat) (m2 : Nat) (m3 : Nat) (mB : Nat) (mF : Nat) (mN : Nat) (mS : Nat) (sT : Int) (mW : Nat) (acc : Int64) (hh : hn = 0) : MutI l yX5_undo wsX5_undo ({ frames := 0, cells := 0, slots := 0, locals := 0 }) 0 0 g [(qm, .inr (5, [.int (iI th), .ref mz, .ref ms, .int (iI hn), .ref mp, .ref mb, .int (iI L), .ref m1, .ref m2, .ref m3, .ref mB, .ref mF, .ref mN, .ref mS, .int (iI sT), .ref mW, .long acc]))] [.ref qm] (S := Unit) (fun _ => True) (fun _ => 0) (fun _ => [(qm, .inr (5, [.int (iI 1), .ref mz, .ref ms, .int (iI hn), .ref mp, .ref mb, .int (iI L), .ref m1, .ref m2, .ref m3, .ref mB, .ref mF, .ref mN, .ref mS, .int (iI sT), .ref mW, .long acc]))]) := by
  refine mut_of (y := yX5_undo) (ws := wsX5_undo) (av := [.ref qm]) (w := [(qm, .inr (5, [.int (iI th), .ref mz, .ref ms, .int (iI hn), .ref mp, .ref mb, .int (iI L), .ref m1, .ref m2, .ref m3, .ref mB, .ref mF, .ref mN, .ref mS, .int (iI sT), .ref mW, .long acc]))]) (Qc := fun A => va_Qi (fun x9 (u9 : Unit) => x9 = iI ((fun _ => 0) u9) ∧ (fun _ => True) u9) (fun u9 t9 => MB g ((fun _ => [(qm, .inr (5, [.int (iI 1), .ref mz, .ref ms, .int (iI hn), .ref mp, .ref mb, .int (iI L), .ref m1, .ref m2, .ref m3, .ref mB, .ref mF, .ref mN, .ref mS, .int (iI sT), .ref mW, .long acc]))]) u9) A t9) A) (cc := cX5_undo) (maxL := 2) (ret := (some .int)) (by decide) rfl (Nat.le_of_ble_eq_true rfl) ?_
  intro pZ eZ sZ mZ bZ meZ cZ A F hin hA hP hD hE hS ls hl
  obtain ⟨hx, hb, hr, hml, hts, hown, hlk⟩ := F
  skip
  have hown : sZ.vm.findClass RX5 = some mZ.cls := hown
  have hl : lv_has ls 2 [(0, .ref qm)] := hl
  skip
  have w0 := hts (.fieldLink RX5 55 "SlantYardModel" "savedMany" "I") (by decide +kernel)
  have w1 := hts (.fieldLink RX5 47 "SlantYardModel" "thrown" "I") (by decide +kernel)
  have in5 : ∀ w ∈ u_ws RX5 TX5 17, w ∈ wsX5_undo := by decide +kernel
  refine lv_aload_n hx hb dX5_undo_0 rfl (lv_at hl 0 rfl) ?_
  refine lv_aload_n hx hb dX5_undo_1 rfl (lv_at hl 0 rfl) ?_
  refine va_get (D := g.1) (ci := 5) (v := .int (iI hn)) (C := RX5) (T := TX5) (N := 17) hx hb hts in5 hown hE.1 hP 0 rfl rfl 3 (by decide) w0 (fun _ h9 => h9) rfl dX5_undo_2 ?_
  refine ln_if_ne (tgt := 12) hx hb dX5_undo_5 (by decide) ⟨by omega, by omega⟩ (fun c_1 => ?_) (fun c_1 => ?_)
  · exfalso; omega
  · skip
    refine lv_iconst (v := iI 1) hx hb dX5_undo_8 rfl ?_
    refine lv_goto (tgt := 13) hx hb dX5_undo_9 (by decide) ?_
    refine va_put (D := g.1) (ci := 5) (v := .int (iI 1)) (ty := .int) (C := RX5) (T := TX5) (N := 17) hx hb hts in5 tyX5 tyX5_ok nmX5 hown hE.1 hP hD hS 0 rfl rfl 0 (by decide) w1 (fun _ h9 => h9) rfl (by decide +kernel) rfl rfl (Nat.le_of_ble_eq_true rfl) dX5_undo_13 (fun H locs hP hD hS => ?_)
    have hP : va_P g.1 vwCl [(qm, .inr (5, [.int (iI 1), .ref mz, .ref ms, .int (iI hn), .ref mp, .ref mb, .int (iI L), .ref m1, .ref m2, .ref m3, .ref mB, .ref mF, .ref mN, .ref mS, .int (iI sT), .ref mW, .long acc]))] H := hP
    have hD : va_D A [(qm, .inr (5, [.int (iI 1), .ref mz, .ref ms, .int (iI hn), .ref mp, .ref mb, .int (iI L), .ref m1, .ref m2, .ref m3, .ref mB, .ref mF, .ref mN, .ref mS, .int (iI sT), .ref mW, .long acc]))] := hD
    refine lv_aload_n hx hb dX5_undo_16 rfl (lv_at hl 0 rfl) ?_
    refine va_get (D := g.1) (ci := 5) (v := .int (iI 1)) (C := RX5) (T := TX5) (N := 17) hx hb hts in5 hown hE.1 hP 0 rfl rfl 0 (by decide) w1 (fun _ h9 => h9) rfl dX5_undo_17 ?_
    refine ln_if_le (tgt := 25) hx hb dX5_undo_20 (by decide) (by decide) (fun c_2 => ?_) (fun c_2 => ?_)
    · exfalso; omega
    · skip
      refine lv_iconst (v := iI 0) hx hb dX5_undo_23 rfl ?_
      have hP : va_P g.1 vwCl [(qm, .inr (5, [.int (iI 1), .ref mz, .ref ms, .int (iI hn), .ref mp, .ref mb, .int (iI L), .ref m1, .ref m2, .ref m3, .ref mB, .ref mF, .ref mN, .ref mS, .int (iI sT), .ref mW, .long acc]))] _ := hP
      have hD : va_D A [(qm, .inr (5, [.int (iI 1), .ref mz, .ref ms, .int (iI hn), .ref mp, .ref mb, .int (iI L), .ref m1, .ref m2, .ref m3, .ref mB, .ref mF, .ref mN, .ref mS, .int (iI sT), .ref mW, .long acc]))] := hD
      exact mend_i (S := Unit) (w' := (fun _ => [(qm, .inr (5, [.int (iI 1), .ref mz, .ref ms, .int (iI hn), .ref mp, .ref mb, .int (iI L), .ref m1, .ref m2, .ref m3, .ref mB, .ref mF, .ref mN, .ref mS, .int (iI sT), .ref mW, .long acc]))])) (post := (fun _ => True)) (r := (fun _ => 0)) hx hb hr hlk hS () hP hD (trivial) (by first | rfl | omega | (split <;> omega)) (Nat.le_of_ble_eq_true rfl) (Nat.le_of_ble_eq_true rfl) dX5_undo_24

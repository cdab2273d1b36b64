set_option maxHeartbeats 4000000 in
set_option maxRecDepth 100000 in
theorem c_L_cell (l : Launch) (g : GT) (i : Int) (hN : scN g < 2147483648) (h0 : 0 ≤ i) (h1 : i < 1000) : Met l yL_cell wsL_cell ({ frames := 0, cells := 0, slots := 0, locals := 0 }) (RU (g.2.2 6) (g.2.2 7) (scF g) [.ref (g.2.2 6), .int (iI i)]) (vp_Si (fun x => x = iI (cellF g i))) 0 0 (fun _ => False) := by
  refine Met.ofW (cc := cL_cell) (maxL := 2) (ret := some .int) (by decide) rfl ?_
  intro p e s m args below meth c s₁ B hml hv
  obtain ⟨rfl, cell, h2, h3, h4, h5, h6, h7⟩ := hv
  have hN : g.2.2 7 < 2147483648 := hN
  have hN9 : scN g = g.2.2 7 := rfl
  have hx := B.exec
  have hb := B.bytes
  have hr := B.returns
  have hlk := B.notSynchronized
  have hts : ∀ w ∈ wsL_cell, w.before _ s = true := atoms_spec (ws := wsL_cell) B.pre
  have hown : s.vm.findClass RL = some m.cls := findClass_of_methodNamed B.named
  have w0 := hts (.constant RL 7 (32452867)) (by decide +kernel)
  have w1 := hts (.constant RL 8 (15485863)) (by decide +kernel)
  have hS : va_S (fun _ => False) s.heap s.heap [] := va_S.rf
  have hl := lv_entry ([.ref (g.2.2 6), .int (iI i)]) (n := 2) (Nat.le_of_ble_eq_true rfl)
  rw [lg_entry_eq]
  generalize (lg_sl ([.ref (g.2.2 6), .int (iI i)]) ++ List.replicate (2 - (lg_sl ([.ref (g.2.2 6), .int (iI i)])).length) Slot.unset).toArray = ls at hl ⊢
  have hl : lv_has ls 2 [(0, .ref (g.2.2 6)), (1, .int (iI i))] := hl
  refine lv_iload_n hx hb dL_cell_0 rfl (lv_at hl 1 rfl) ?_
  refine lv_aload_n hx hb dL_cell_1 rfl (lv_at hl 0 rfl) ?_
  refine W.alen (n := Int32.ofNat (g.2.2 7)) hx hb h2 h3 h6 rfl rfl dL_cell_2 ?_
  refine W.eq (g2 := F0 m 3 ls [.int (Int32.ofNat (g.2.2 7)), .int (iI i)]) rfl ?_
  refine ln_topv (w := .int (iI ((g.2.2 7 : Nat) : Int))) (by rw [iI_nat]) ?_
  refine ln_icmp_ge (tgt := 12) hx hb dL_cell_3 (by decide) ⟨by omega, by omega⟩ ⟨by omega, by omega⟩ (fun c2 => ?_) (fun c2 => ?_)
  · refine lv_ldc (v := 32452867) hx hb hown w0 dL_cell_12 ?_
    refine ln_topv (w := .int (iI 32452867)) (congrArg Value.int (by decide)) ?_
    refine lv_iload_n hx hb dL_cell_14 rfl (lv_at hl 1 rfl) ?_
    refine ln_imul hx hb (32452867 * i) rfl dL_cell_15 ?_
    refine lv_ldc (v := 15485863) hx hb hown w1 dL_cell_16 ?_
    refine ln_topv (w := .int (iI 15485863)) (congrArg Value.int (by decide)) ?_
    refine ln_iadd hx hb (32452867 * i + 15485863) rfl dL_cell_18 ?_
    exact pend_i hx hb hr hlk hS rfl (by unfold cellF; rw [if_neg (by omega)]) dL_cell_19
  refine lv_aload_n hx hb dL_cell_6 rfl (lv_at hl 0 rfl) ?_
  refine lv_iload_n hx hb dL_cell_7 rfl (lv_at hl 1 rfl) ?_
  have hcl : (iI i).toNatClampNeg = i.toNat := iI_clamp (by omega) (by omega)
  have hlt : i.toNat < g.2.2 7 := by omega
  refine W.iald (v := .int (iI (scF g i))) hx hb h2 h3 h4 (by rintro (q9 | q9); exact absurd ((iI_lt (show Rg i from ⟨by omega, by omega⟩) (show Rg 0 from ⟨by decide, by decide⟩)).mp q9) (by omega); rw [hcl] at q9; omega) (by rw [hcl, h7 _ hlt, Int.toNat_of_nonneg (by omega)]) rfl rfl dL_cell_8 ?_
  refine W.eq (g2 := F0 m 9 ls [.int (iI (scF g i))]) rfl ?_
  refine lv_goto (tgt := 19) hx hb dL_cell_9 (by decide) ?_
  exact pend_i hx hb hr hlk hS rfl (by unfold cellF; rw [if_pos (by omega)]) dL_cell_19
set_option maxHeartbeats 800000 in
set_option maxRecDepth 100000 in
theorem c_L_low (l : Launch) (g : GT) (v : Int) (m : Int) (gm : 0 < m) (gn : m < 2147483648) : MetI l yL_low wsL_low ({ frames := 0, cells := 0, slots := 0, locals := 0 }) g [] [.int (iI v), .int (iI m)] (lowI v m) := by
  refine pure_of (cc := cL_low) (maxL := 2) (ret := (some .int)) (by decide) rfl (Nat.le_of_ble_eq_true rfl) ?_
  intro pZ eZ sZ mZ bZ meZ cZ F hP hE hS ls hl
  obtain ⟨hx, hb, hr, hml, hts, hown, hlk⟩ := F
  have hown : sZ.vm.findClass RL = some mZ.cls := hown
  have hl : lv_has ls 2 [(0, .int (iI v)), (1, .int (iI m))] := hl
  have w0 := hts (.constant RL 9 (2147483647)) (by decide +kernel)
  have hab := ab_rg v
  refine lv_iload_n hx hb dL_low_0 rfl (lv_at hl 0 rfl) ?_
  refine lv_ldc (v := 2147483647) hx hb hown w0 dL_low_1 ?_
  refine ln_topv (w := .int (iI 2147483647)) (congrArg Value.int (by decide)) ?_
  refine ln_iand hx hb (ab v) (iI_of _) dL_low_3 ?_
  refine lv_iload_n hx hb dL_low_4 rfl (lv_at hl 1 rfl) ?_
  refine ln_irem hx hb (by omega) (by omega) (by omega) (by omega) ((ab v) % m) (rfl) dL_low_5 ?_
  exact pend_i hx hb hr hlk hS rfl (by rfl) dL_low_6
set_option maxHeartbeats 800000 in
set_option maxRecDepth 100000 in
theorem c_L_is (l : Launch) (g : GT) (qa : Nat) (n : Int) (h : Int → Int) (x : Int) (y : Int) (z : Int) (hn : 2 ≤ n ∧ n ≤ 6) (hh : ∀ j, 0 ≤ h j ∧ h j ≤ 8) (gx : Rg x) (gy : Rg y) (gz : Rg z) : MetI l yL_is wsL_is ({ frames := 0, cells := 0, slots := 0, locals := 0 }) g [(qa, .inl (gI g, 36, .inl (aI h)))] [.ref qa, .int (iI n), .int (iI x), .int (iI y), .int (iI z)] (bI (cellP n h x y z)) := by
  refine pure_of (cc := cL_is) (maxL := 5) (ret := (some .boolean)) (by decide) rfl (Nat.le_of_ble_eq_true rfl) ?_
  intro pZ eZ sZ mZ bZ meZ cZ F hP hE hS ls hl
  obtain ⟨hx, hb, hr, hml, hts, hown, hlk⟩ := F
  have hown : sZ.vm.findClass RL = some mZ.cls := hown
  have hl : lv_has ls 5 [(0, .ref qa), (1, .int (iI n)), (2, .int (iI x)), (3, .int (iI y)), (4, .int (iI z))] := hl
  have hj9 := hh (y * 6 + x)
  refine lv_iload_n hx hb dL_is_0 rfl (lv_at hl 2 rfl) ?_
  refine ln_if_lt (tgt := 40) hx hb dL_is_1 (by decide) ⟨by omega, by omega⟩ (fun c_1 => ?_) (fun c_1 => ?_)
  · skip
    refine lv_iconst (v := iI 0) hx hb dL_is_40 rfl ?_
    exact pend_z hx hb hr hlk hS rfl (by first | exact Or.inl rfl | exact Or.inr rfl) (by first | (exact (bI_t ⟨⟨⟨by omega, by omega⟩, by omega, by omega⟩, by omega, by omega⟩).symm) | (exact (bI_f (fun q9 => by obtain ⟨⟨⟨_, _⟩, _, _⟩, _, _⟩ := q9; omega)).symm)) dL_is_41
  · skip
    refine lv_iload_n hx hb dL_is_4 rfl (lv_at hl 3 rfl) ?_
    refine ln_if_lt (tgt := 40) hx hb dL_is_5 (by decide) ⟨by omega, by omega⟩ (fun c_2 => ?_) (fun c_2 => ?_)
    · skip
      refine lv_iconst (v := iI 0) hx hb dL_is_40 rfl ?_
      exact pend_z hx hb hr hlk hS rfl (by first | exact Or.inl rfl | exact Or.inr rfl) (by first | (exact (bI_t ⟨⟨⟨by omega, by omega⟩, by omega, by omega⟩, by omega, by omega⟩).symm) | (exact (bI_f (fun q9 => by obtain ⟨⟨⟨_, _⟩, _, _⟩, _, _⟩ := q9; omega)).symm)) dL_is_41
    · skip
      refine lv_iload hx hb dL_is_8 (lv_at hl 4 rfl) ?_
      refine ln_if_lt (tgt := 40) hx hb dL_is_10 (by decide) ⟨by omega, by omega⟩ (fun c_3 => ?_) (fun c_3 => ?_)
      · skip
        refine lv_iconst (v := iI 0) hx hb dL_is_40 rfl ?_
        exact pend_z hx hb hr hlk hS rfl (by first | exact Or.inl rfl | exact Or.inr rfl) (by first | (exact (bI_t ⟨⟨⟨by omega, by omega⟩, by omega, by omega⟩, by omega, by omega⟩).symm) | (exact (bI_f (fun q9 => by obtain ⟨⟨⟨_, _⟩, _, _⟩, _, _⟩ := q9; omega)).symm)) dL_is_41
      · skip
        refine lv_iload_n hx hb dL_is_13 rfl (lv_at hl 2 rfl) ?_
        refine lv_iload_n hx hb dL_is_14 rfl (lv_at hl 1 rfl) ?_
        refine ln_icmp_ge (tgt := 40) hx hb dL_is_15 (by decide) ⟨by omega, by omega⟩ ⟨by omega, by omega⟩ (fun c_4 => ?_) (fun c_4 => ?_)
        · skip
          refine lv_iconst (v := iI 0) hx hb dL_is_40 rfl ?_
          exact pend_z hx hb hr hlk hS rfl (by first | exact Or.inl rfl | exact Or.inr rfl) (by first | (exact (bI_t ⟨⟨⟨by omega, by omega⟩, by omega, by omega⟩, by omega, by omega⟩).symm) | (exact (bI_f (fun q9 => by obtain ⟨⟨⟨_, _⟩, _, _⟩, _, _⟩ := q9; omega)).symm)) dL_is_41
        · skip
          refine lv_iload_n hx hb dL_is_18 rfl (lv_at hl 3 rfl) ?_
          refine lv_iload_n hx hb dL_is_19 rfl (lv_at hl 1 rfl) ?_
          refine ln_icmp_ge (tgt := 40) hx hb dL_is_20 (by decide) ⟨by omega, by omega⟩ ⟨by omega, by omega⟩ (fun c_5 => ?_) (fun c_5 => ?_)
          · skip
            refine lv_iconst (v := iI 0) hx hb dL_is_40 rfl ?_
            exact pend_z hx hb hr hlk hS rfl (by first | exact Or.inl rfl | exact Or.inr rfl) (by first | (exact (bI_t ⟨⟨⟨by omega, by omega⟩, by omega, by omega⟩, by omega, by omega⟩).symm) | (exact (bI_f (fun q9 => by obtain ⟨⟨⟨_, _⟩, _, _⟩, _, _⟩ := q9; omega)).symm)) dL_is_41
          · skip
            refine lv_aload_n hx hb dL_is_23 rfl (lv_at hl 0 rfl) ?_
            refine lv_bipush (v := iI 6) hx hb dL_is_24 (by decide) ?_
            refine lv_iload_n hx hb dL_is_26 rfl (lv_at hl 3 rfl) ?_
            refine ln_imul hx hb (6 * y) (rfl) dL_is_27 ?_
            refine lv_iload_n hx hb dL_is_28 rfl (lv_at hl 2 rfl) ?_
            refine ln_iadd hx hb (6 * y + x) (rfl) dL_is_29 ?_
            refine ln_iald hx hb hE hP 0 rfl (by omega) (by omega) (Nat.le_of_ble_eq_true rfl) (h (y * 6 + x)) (by rw [Int.mul_comm]) dL_is_30 ?_
            refine lv_iload hx hb dL_is_31 (lv_at hl 4 rfl) ?_
            refine ln_icmp_le (tgt := 40) hx hb dL_is_33 (by decide) ⟨by omega, by omega⟩ ⟨by omega, by omega⟩ (fun c_6 => ?_) (fun c_6 => ?_)
            · skip
              refine lv_iconst (v := iI 0) hx hb dL_is_40 rfl ?_
              exact pend_z hx hb hr hlk hS rfl (by first | exact Or.inl rfl | exact Or.inr rfl) (by first | (exact (bI_t ⟨⟨⟨by omega, by omega⟩, by omega, by omega⟩, by omega, by omega⟩).symm) | (exact (bI_f (fun q9 => by obtain ⟨⟨⟨_, _⟩, _, _⟩, _, _⟩ := q9; omega)).symm)) dL_is_41
            · skip
              refine lv_iconst (v := iI 1) hx hb dL_is_36 rfl ?_
              refine lv_goto (tgt := 41) hx hb dL_is_37 (by decide) ?_
              exact pend_z hx hb hr hlk hS rfl (by first | exact Or.inl rfl | exact Or.inr rfl) (by first | (exact (bI_t ⟨⟨⟨by omega, by omega⟩, by omega, by omega⟩, by omega, by omega⟩).symm) | (exact (bI_f (fun q9 => by obtain ⟨⟨⟨_, _⟩, _, _⟩, _, _⟩ := q9; omega)).symm)) dL_is_41
set_option maxHeartbeats 800000 in
set_option maxRecDepth 100000 in
theorem c_L_nearest (l : Launch) (g : GT) (qa : Nat) (n : Int) (h : Int → Int) (p : Int) (q : Int) (hn : 2 ≤ n ∧ n ≤ 6) (hh : ∀ j, 0 ≤ h j ∧ h j ≤ 8) (gp : -20 ≤ p ∧ p ≤ 20) (gq : -20 ≤ q ∧ q ≤ 20) : MetI l yL_nearest wsL_nearest ({ frames := 1, cells := 0, slots := 0, locals := 24 }) g [(qa, .inl (gI g, 36, .inl (aI h)))] [.ref qa, .int (iI n), .int (iI p), .int (iI q)] (nearK n h p q 8) := by
  refine pure_of (cc := cL_nearest) (maxL := 6) (ret := (some .int)) (by decide) rfl (Nat.le_of_ble_eq_true rfl) ?_
  intro pZ eZ sZ mZ bZ meZ cZ F hP hE hS ls hl
  obtain ⟨hx, hb, hr, hml, hts, hown, hlk⟩ := F
  have hown : sZ.vm.findClass RL = some mZ.cls := hown
  have hl : lv_has ls 6 [(0, .ref qa), (1, .int (iI n)), (2, .int (iI p)), (3, .int (iI q))] := hl
  refine lv_iconst (v := iI (-1)) hx hb dL_nearest_0 rfl ?_
  refine lv_istore (lv' := [(4, .int (iI (-1))), (0, .ref qa), (1, .int (iI n)), (2, .int (iI p)), (3, .int (iI q))]) hx hb dL_nearest_1 hl (by decide) rfl (fun ls hl => ?_)
  refine lv_iconst (v := iI 0) hx hb dL_nearest_3 rfl ?_
  refine lv_istore (lv' := [(5, .int (iI 0)), (4, .int (iI (-1))), (0, .ref qa), (1, .int (iI n)), (2, .int (iI p)), (3, .int (iI q))]) hx hb dL_nearest_4 hl (by decide) rfl (fun ls hl => ?_)
  have L6 : ∀ (k_1 : Nat) (z : Int) (gz : 0 ≤ z) (gl : z ≤ 8) (ls : Array Slot), lv_has ls 6 [(0, .ref qa), (1, .int (iI n)), (2, .int (iI p)), (3, .int (iI q)), (4, .int (iI (nearK n h p q z))), (5, .int (iI z))] → (8 - z).toNat < k_1 → W pZ l eZ ({ frames := 1, cells := 0, slots := 0, locals := 24 } : Room) sZ mZ [.ref qa, .int (iI n), .int (iI p), .int (iI q)].toArray bZ meZ cZ sZ.heap [] 0 0 (MQ bZ (vp_Si (fun y9 => y9 = iI (nearK n h p q 8))) [.ref qa, .int (iI n), .int (iI p), .int (iI q)].toArray sZ 0 0 (fun _ => False)) (F0 mZ 6 ls []) := by
    intro k_1
    induction k_1 with
    | zero => intro z gz gl ls hl hm_3; exact absurd hm_3 (Nat.not_lt_zero _)
    | succ k_1 ih_2 =>
      intro z gz gl ls hl hm_3
      have b_4 : -1 ≤ nearK n h p q z ∧ nearK n h p q z ≤ 7 := nearK_rg n h p q gz gl
      refine lv_iload hx hb dL_nearest_6 (lv_at hl 5 rfl) ?_
      refine lv_bipush (v := iI 8) hx hb dL_nearest_8 (by decide) ?_
      refine ln_icmp_ge (tgt := 46) hx hb dL_nearest_10 (by decide) ⟨by omega, by omega⟩ (by decide) (fun c_5 => ?_) (fun c_5 => ?_)
      · skip
        refine lv_iload hx hb dL_nearest_46 (lv_at hl 4 rfl) ?_
        exact pend_i hx hb hr hlk hS rfl (by rw [show z = 8 by omega]) dL_nearest_48
      · skip
        refine lv_aload_n hx hb dL_nearest_13 rfl (lv_at hl 0 rfl) ?_
        refine lv_iload_n hx hb dL_nearest_14 rfl (lv_at hl 1 rfl) ?_
        refine lv_iload_n hx hb dL_nearest_15 rfl (lv_at hl 2 rfl) ?_
        refine lv_iload hx hb dL_nearest_16 (lv_at hl 5 rfl) ?_
        refine ln_iadd hx hb (p + z) (rfl) dL_nearest_18 ?_
        refine lv_iload_n hx hb dL_nearest_19 rfl (lv_at hl 3 rfl) ?_
        refine lv_iload hx hb dL_nearest_20 (lv_at hl 5 rfl) ?_
        refine ln_iadd hx hb (q + z) (rfl) dL_nearest_22 ?_
        refine lv_iload hx hb dL_nearest_23 (lv_at hl 5 rfl) ?_
        have hPc_6 := hP.sub (ws' := [(qa, .inl (gI g, 36, .inl (aI h)))]) [0] rfl
        refine pc_i (va_runS (As := [.ref qa, .int (iI n), .int (iI (p + z)), .int (iI (q + z)), .int (iI z)]) (rest := []) ⟨hx, hb, hml, hown, hts⟩ (c_L_is l g qa n h (p + z) (q + z) z hn hh (by omega) (by omega) (by omega)) (va_cwS 5 hts gL_nearest_L_is rfl rfl rfl (by decide +kernel) ⟨Nat.le_of_ble_eq_true rfl, Nat.le_of_ble_eq_true rfl⟩) (puS hE hS hPc_6) rfl rfl hl.1 rfl (lv_room (Nat.le_of_ble_eq_true rfl)) dL_nearest_25 ⟨Nat.le_of_ble_eq_true rfl, Nat.le_of_ble_eq_true rfl⟩) ?_
        refine lb_if_eq (tgt := 36) hx hb dL_nearest_28 (by decide) (fun c_7 => ?_) (fun c_7 => ?_)
        · skip
          refine lv_iload hx hb dL_nearest_36 (lv_at hl 4 rfl) ?_
          refine lv_istore (lv' := [(4, .int (iI (nearK n h p q z))), (0, .ref qa), (1, .int (iI n)), (2, .int (iI p)), (3, .int (iI q)), (5, .int (iI z))]) hx hb dL_nearest_38 hl (by decide) rfl (fun ls hl => ?_)
          refine lv_iinc (v := iI (z + 1)) (lv' := [(5, .int (iI (z + 1))), (4, .int (iI (nearK n h p q z))), (0, .ref qa), (1, .int (iI n)), (2, .int (iI p)), (3, .int (iI q))]) hx hb dL_nearest_40 hl (k := 5) rfl (iI_add _ _) (by decide) rfl (fun ls hl => ?_)
          refine lv_goto (tgt := 6) hx hb dL_nearest_43 (by decide) ?_
          have hl := lv_re hl 1 rfl (.int (iI (nearK n h p q (z + 1)))) (congrArg (fun z => Value.int (iI z)) (show nearK n h p q z = nearK n h p q (z + 1) from by rw [nearK_s gz]; first | (rw [if_pos (by assumption)]) | (rw [if_neg (by assumption)])))
          have hl : lv_has ls 6 [(5, .int (iI (z + 1))), (4, .int (iI (nearK n h p q (z + 1)))), (0, .ref qa), (1, .int (iI n)), (2, .int (iI p)), (3, .int (iI q))] := hl
          exact ih_2 (z + 1) (by omega) (by omega) _ (lv_sub hl [2, 3, 4, 5, 1, 0] rfl) (by omega)
        · skip
          refine lv_iload hx hb dL_nearest_31 (lv_at hl 5 rfl) ?_
          refine lv_goto (tgt := 38) hx hb dL_nearest_33 (by decide) ?_
          refine lv_istore (lv' := [(4, .int (iI z)), (0, .ref qa), (1, .int (iI n)), (2, .int (iI p)), (3, .int (iI q)), (5, .int (iI z))]) hx hb dL_nearest_38 hl (by decide) rfl (fun ls hl => ?_)
          refine lv_iinc (v := iI (z + 1)) (lv' := [(5, .int (iI (z + 1))), (4, .int (iI z)), (0, .ref qa), (1, .int (iI n)), (2, .int (iI p)), (3, .int (iI q))]) hx hb dL_nearest_40 hl (k := 5) rfl (iI_add _ _) (by decide) rfl (fun ls hl => ?_)
          refine lv_goto (tgt := 6) hx hb dL_nearest_43 (by decide) ?_
          have hl := lv_re hl 1 rfl (.int (iI (nearK n h p q (z + 1)))) (congrArg (fun z => Value.int (iI z)) (show z = nearK n h p q (z + 1) from by rw [nearK_s gz]; first | (rw [if_pos (by assumption)]) | (rw [if_neg (by assumption)])))
          have hl : lv_has ls 6 [(5, .int (iI (z + 1))), (4, .int (iI (nearK n h p q (z + 1)))), (0, .ref qa), (1, .int (iI n)), (2, .int (iI p)), (3, .int (iI q))] := hl
          exact ih_2 (z + 1) (by omega) (by omega) _ (lv_sub hl [2, 3, 4, 5, 1, 0] rfl) (by omega)
  have hl := lv_re hl 1 rfl (.int (iI (nearK n h p q 0))) (congrArg (fun z => Value.int (iI z)) (show -1 = nearK n h p q 0 from by first | rfl | omega))
  have hl : lv_has ls 6 [(5, .int (iI 0)), (4, .int (iI (nearK n h p q 0))), (0, .ref qa), (1, .int (iI n)), (2, .int (iI p)), (3, .int (iI q))] := hl
  exact L6 _ 0 (by omega) (by omega) _ (lv_sub hl [2, 3, 4, 5, 1, 0] rfl) (Nat.lt_succ_self _)
set_option maxHeartbeats 4000000 in
set_option maxRecDepth 100000 in
theorem c_L_seen (l : Launch) (g : GT) (qa : Nat) (qc : Nat) (n : Int) (h : Int → Int) (i : Int) (j : Int) (t : Int) (C : Int → Int) (hn : 2 ≤ n ∧ n ≤ 6) (hh : ∀ j, 0 ≤ h j ∧ h j ≤ 8) (gi : -9 ≤ i ∧ i ≤ 6) (gj : -9 ≤ j ∧ j ≤ 6) (gt : 0 ≤ t ∧ t ≤ 1) : MutI l yL_seen wsL_seen ({ frames := 2, cells := 0, slots := 0, locals := 49 }) 0 0 g [(qa, .inl (gI g, 36, .inl (aI h))), (qc, .inl (gI g, 3, .inl (aI C)))] [.ref qa, .int (iI n), .int (iI i), .int (iI j), .int (iI t), .ref qc] (S := (Int → Int)) (fun (C2 : Int → Int) => 0 ≤ fcK n h i j t 3 → C2 0 = pF i t (fcK n h i j t 3) + zF9 n h i j t (fcK n h i j t 3) ∧ C2 1 = qF j t (fcK n h i j t 3) + zF9 n h i j t (fcK n h i j t 3) ∧ C2 2 = zF9 n h i j t (fcK n h i j t 3)) (fun (C2 : Int → Int) => fcK n h i j t 3) (fun (C2 : Int → Int) => [(qa, .inl (gI g, 36, .inl (aI h))), (qc, .inl (gI g, 3, .inl (aI C2)))]) := by
  refine mut_of (y := yL_seen) (ws := wsL_seen) (av := [.ref qa, .int (iI n), .int (iI i), .int (iI j), .int (iI t), .ref qc]) (w := [(qa, .inl (gI g, 36, .inl (aI h))), (qc, .inl (gI g, 3, .inl (aI C)))]) (Qc := fun A => va_Qi (fun x9 (u9 : (Int → Int)) => x9 = iI ((fun (C2 : Int → Int) => fcK n h i j t 3) u9) ∧ (fun (C2 : Int → Int) => 0 ≤ fcK n h i j t 3 → C2 0 = pF i t (fcK n h i j t 3) + zF9 n h i j t (fcK n h i j t 3) ∧ C2 1 = qF j t (fcK n h i j t 3) + zF9 n h i j t (fcK n h i j t 3) ∧ C2 2 = zF9 n h i j t (fcK n h i j t 3)) u9) (fun u9 t9 => MB g ((fun (C2 : Int → Int) => [(qa, .inl (gI g, 36, .inl (aI h))), (qc, .inl (gI g, 3, .inl (aI C2)))]) u9) A t9) A) (cc := cL_seen) (maxL := 13) (ret := (some .int)) (by decide) rfl (Nat.le_of_ble_eq_true rfl) ?_
  intro pZ eZ sZ mZ bZ meZ cZ A F hin hA hP hD hE hS ls hl
  obtain ⟨hx, hb, hr, hml, hts, hown, hlk⟩ := F
  skip
  have hown : sZ.vm.findClass RL = some mZ.cls := hown
  have hl : lv_has ls 13 [(0, .ref qa), (1, .int (iI n)), (2, .int (iI i)), (3, .int (iI j)), (4, .int (iI t)), (5, .ref qc)] := hl
  skip
  refine lv_iconst (v := iI (-1)) hx hb dL_seen_0 rfl ?_
  refine lv_istore (lv' := [(6, .int (iI (-1))), (0, .ref qa), (1, .int (iI n)), (2, .int (iI i)), (3, .int (iI j)), (4, .int (iI t)), (5, .ref qc)]) hx hb dL_seen_1 hl (by decide) rfl (fun ls hl => ?_)
  refine lv_iconst (v := iI (-1)) hx hb dL_seen_3 rfl ?_
  refine lv_istore (lv' := [(7, .int (iI (-1))), (6, .int (iI (-1))), (0, .ref qa), (1, .int (iI n)), (2, .int (iI i)), (3, .int (iI j)), (4, .int (iI t)), (5, .ref qc)]) hx hb dL_seen_4 hl (by decide) rfl (fun ls hl => ?_)
  refine lv_iconst (v := iI 0) hx hb dL_seen_6 rfl ?_
  refine lv_istore (lv' := [(8, .int (iI 0)), (7, .int (iI (-1))), (6, .int (iI (-1))), (0, .ref qa), (1, .int (iI n)), (2, .int (iI i)), (3, .int (iI j)), (4, .int (iI t)), (5, .ref qc)]) hx hb dL_seen_7 hl (by decide) rfl (fun ls hl => ?_)
  have L9 : ∀ (k_1 : Nat) (f : Int) (C8 : Int → Int) (gf : 0 ≤ f) (gl : f ≤ 3) (gc : 0 ≤ fcK n h i j t f → C8 0 = pF i t (fcK n h i j t f) + zF9 n h i j t (fcK n h i j t f) ∧ C8 1 = qF j t (fcK n h i j t f) + zF9 n h i j t (fcK n h i j t f) ∧ C8 2 = zF9 n h i j t (fcK n h i j t f)) (H : Heap) (locs : List Loc), va_P g.1 vwCl [(qa, .inl (gI g, 36, .inl (aI h))), (qc, .inl (gI g, 3, .inl (aI C8)))] H → va_D A [(qa, .inl (gI g, 36, .inl (aI h))), (qc, .inl (gI g, 3, .inl (aI C8)))] → va_S A sZ.heap H locs → ∀ (ls : Array Slot), lv_has ls 13 [(0, .ref qa), (1, .int (iI n)), (2, .int (iI i)), (3, .int (iI j)), (4, .int (iI t)), (5, .ref qc), (6, .int (iI (fcK n h i j t f))), (7, .int (iI (bstK n h i j t f))), (8, .int (iI f))] → (3 - f).toNat < k_1 → W pZ l eZ ({ frames := 2, cells := 0, slots := 0, locals := 49 } : Room) sZ mZ [.ref qa, .int (iI n), .int (iI i), .int (iI j), .int (iI t), .ref qc].toArray bZ meZ cZ H locs 0 0 (MQ bZ (va_Qi (fun x9 (u9 : (Int → Int)) => x9 = iI ((fun (C2 : Int → Int) => fcK n h i j t 3) u9) ∧ (fun (C2 : Int → Int) => 0 ≤ fcK n h i j t 3 → C2 0 = pF i t (fcK n h i j t 3) + zF9 n h i j t (fcK n h i j t 3) ∧ C2 1 = qF j t (fcK n h i j t 3) + zF9 n h i j t (fcK n h i j t 3) ∧ C2 2 = zF9 n h i j t (fcK n h i j t 3)) u9) (fun u9 t9 => MB g ((fun (C2 : Int → Int) => [(qa, .inl (gI g, 36, .inl (aI h))), (qc, .inl (gI g, 3, .inl (aI C2)))]) u9) A t9) A) [.ref qa, .int (iI n), .int (iI i), .int (iI j), .int (iI t), .ref qc].toArray sZ 0 0 A) (F0 mZ 9 ls []) := by
    intro k_1
    induction k_1 with
    | zero => intro f C8 gf gl gc H locs hP hD hS ls hl hm_3; exact absurd hm_3 (Nat.not_lt_zero _)
    | succ k_1 ih_2 =>
      intro f C8 gf gl gc H locs hP hD hS ls hl hm_3
      have b_4 : (-1 ≤ fcK n h i j t f ∧ fcK n h i j t f < f) ∧ -1 ≤ bstK n h i j t f ∧ bstK n h i j t f ≤ 35 := fc_rg n h gi gj gf
      refine lv_iload hx hb dL_seen_9 (lv_at hl 8 rfl) ?_
      refine lv_iconst (v := iI 3) hx hb dL_seen_11 rfl ?_
      refine ln_icmp_ge (tgt := 143) hx hb dL_seen_12 (by decide) ⟨by omega, by omega⟩ (by decide) (fun c_5 => ?_) (fun c_5 => ?_)
      · skip
        refine lv_iload hx hb dL_seen_143 (lv_at hl 6 rfl) ?_
        have hP : va_P g.1 vwCl [(qa, .inl (gI g, 36, .inl (aI h))), (qc, .inl (gI g, 3, .inl (aI C8)))] _ := hP
        have hD : va_D A [(qa, .inl (gI g, 36, .inl (aI h))), (qc, .inl (gI g, 3, .inl (aI C8)))] := hD
        exact mend_i (S := (Int → Int)) (w' := (fun (C2 : Int → Int) => [(qa, .inl (gI g, 36, .inl (aI h))), (qc, .inl (gI g, 3, .inl (aI C2)))])) (post := (fun (C2 : Int → Int) => 0 ≤ fcK n h i j t 3 → C2 0 = pF i t (fcK n h i j t 3) + zF9 n h i j t (fcK n h i j t 3) ∧ C2 1 = qF j t (fcK n h i j t 3) + zF9 n h i j t (fcK n h i j t 3) ∧ C2 2 = zF9 n h i j t (fcK n h i j t 3))) (r := (fun (C2 : Int → Int) => fcK n h i j t 3)) hx hb hr hlk hS (C8) hP hD (by (have e9 : (3 : Int) = f := by omega); rw [e9]; exact gc) (by (have e9 : f = 3 := by omega); rw [e9]) (Nat.le_of_ble_eq_true rfl) (Nat.le_of_ble_eq_true rfl) dL_seen_145
      · skip
        have J40_6 : ∀ (H : Heap) (locs : List Loc), va_P g.1 vwCl [(qa, .inl (gI g, 36, .inl (aI h))), (qc, .inl (gI g, 3, .inl (aI C8)))] H → va_D A [(qa, .inl (gI g, 36, .inl (aI h))), (qc, .inl (gI g, 3, .inl (aI C8)))] → va_S A sZ.heap H locs → ∀ (ls : Array Slot), lv_has ls 13 [(0, .ref qa), (1, .int (iI n)), (2, .int (iI i)), (3, .int (iI j)), (4, .int (iI t)), (5, .ref qc), (6, .int (iI (fcK n h i j t f))), (7, .int (iI (bstK n h i j t f))), (8, .int (iI f)), (9, .int (iI (pF i t f)))] → W pZ l eZ ({ frames := 2, cells := 0, slots := 0, locals := 49 } : Room) sZ mZ [.ref qa, .int (iI n), .int (iI i), .int (iI j), .int (iI t), .ref qc].toArray bZ meZ cZ H locs 0 0 (MQ bZ (va_Qi (fun x9 (u9 : (Int → Int)) => x9 = iI ((fun (C2 : Int → Int) => fcK n h i j t 3) u9) ∧ (fun (C2 : Int → Int) => 0 ≤ fcK n h i j t 3 → C2 0 = pF i t (fcK n h i j t 3) + zF9 n h i j t (fcK n h i j t 3) ∧ C2 1 = qF j t (fcK n h i j t 3) + zF9 n h i j t (fcK n h i j t 3) ∧ C2 2 = zF9 n h i j t (fcK n h i j t 3)) u9) (fun u9 t9 => MB g ((fun (C2 : Int → Int) => [(qa, .inl (gI g, 36, .inl (aI h))), (qc, .inl (gI g, 3, .inl (aI C2)))]) u9) A t9) A) [.ref qa, .int (iI n), .int (iI i), .int (iI j), .int (iI t), .ref qc].toArray sZ 0 0 A) (F0 mZ 40 ls []) := by
          intro H locs hP hD hS ls hl
          have J66_7 : ∀ (H : Heap) (locs : List Loc), va_P g.1 vwCl [(qa, .inl (gI g, 36, .inl (aI h))), (qc, .inl (gI g, 3, .inl (aI C8)))] H → va_D A [(qa, .inl (gI g, 36, .inl (aI h))), (qc, .inl (gI g, 3, .inl (aI C8)))] → va_S A sZ.heap H locs → ∀ (ls : Array Slot), lv_has ls 13 [(0, .ref qa), (1, .int (iI n)), (2, .int (iI i)), (3, .int (iI j)), (4, .int (iI t)), (5, .ref qc), (6, .int (iI (fcK n h i j t f))), (7, .int (iI (bstK n h i j t f))), (8, .int (iI f)), (9, .int (iI (pF i t f))), (10, .int (iI (qF j t f)))] → W pZ l eZ ({ frames := 2, cells := 0, slots := 0, locals := 49 } : Room) sZ mZ [.ref qa, .int (iI n), .int (iI i), .int (iI j), .int (iI t), .ref qc].toArray bZ meZ cZ H locs 0 0 (MQ bZ (va_Qi (fun x9 (u9 : (Int → Int)) => x9 = iI ((fun (C2 : Int → Int) => fcK n h i j t 3) u9) ∧ (fun (C2 : Int → Int) => 0 ≤ fcK n h i j t 3 → C2 0 = pF i t (fcK n h i j t 3) + zF9 n h i j t (fcK n h i j t 3) ∧ C2 1 = qF j t (fcK n h i j t 3) + zF9 n h i j t (fcK n h i j t 3) ∧ C2 2 = zF9 n h i j t (fcK n h i j t 3)) u9) (fun u9 t9 => MB g ((fun (C2 : Int → Int) => [(qa, .inl (gI g, 36, .inl (aI h))), (qc, .inl (gI g, 3, .inl (aI C2)))]) u9) A t9) A) [.ref qa, .int (iI n), .int (iI i), .int (iI j), .int (iI t), .ref qc].toArray sZ 0 0 A) (F0 mZ 66 ls []) := by
            intro H locs hP hD hS ls hl
            have b_8 : (-9 ≤ pF i t f ∧ pF i t f ≤ 7) ∧ -9 ≤ qF j t f ∧ qF j t f ≤ 7 := pq_rg gi gj
            refine lv_aload_n hx hb dL_seen_66 rfl (lv_at hl 0 rfl) ?_
            refine lv_iload_n hx hb dL_seen_67 rfl (lv_at hl 1 rfl) ?_
            refine lv_iload hx hb dL_seen_68 (lv_at hl 9 rfl) ?_
            refine lv_iload hx hb dL_seen_70 (lv_at hl 10 rfl) ?_
            have hPc_9 := hP.sub (ws' := [(qa, .inl (gI g, 36, .inl (aI h)))]) [0] rfl
            refine pc_i (va_runS (As := [.ref qa, .int (iI n), .int (iI (pF i t f)), .int (iI (qF j t f))]) (rest := []) ⟨hx, hb, hml, hown, hts⟩ (c_L_nearest l g qa n h (pF i t f) (qF j t f) hn hh (by omega) (by omega)) (va_cwS 4 hts gL_seen_L_nearest rfl rfl rfl (by decide +kernel) ⟨Nat.le_of_ble_eq_true rfl, Nat.le_of_ble_eq_true rfl⟩) (puS hE hS hPc_9) rfl rfl hl.1 rfl (lv_room (Nat.le_of_ble_eq_true rfl)) dL_seen_72 ⟨Nat.le_of_ble_eq_true rfl, Nat.le_of_ble_eq_true rfl⟩) ?_
            refine ln_top (y := zF9 n h i j t f) (rfl) ?_
            have r_10 : -1 ≤ nearK n h (pF i t f) (qF j t f) 8 ∧ nearK n h (pF i t f) (qF j t f) 8 ≤ 7 := nearK_rg n h (pF i t f) (qF j t f) (by decide) (by decide)
            have r_11 : -1 ≤ zF9 n h i j t f ∧ zF9 n h i j t f ≤ 7 := nearK_rg n h _ _ (by decide) (by decide)
            refine lv_istore (lv' := [(11, .int (iI (zF9 n h i j t f))), (0, .ref qa), (1, .int (iI n)), (2, .int (iI i)), (3, .int (iI j)), (4, .int (iI t)), (5, .ref qc), (6, .int (iI (fcK n h i j t f))), (7, .int (iI (bstK n h i j t f))), (8, .int (iI f)), (9, .int (iI (pF i t f))), (10, .int (iI (qF j t f)))]) hx hb dL_seen_75 hl (by decide) rfl (fun ls hl => ?_)
            have J98_12 : ∀ (H : Heap) (locs : List Loc), va_P g.1 vwCl [(qa, .inl (gI g, 36, .inl (aI h))), (qc, .inl (gI g, 3, .inl (aI C8)))] H → va_D A [(qa, .inl (gI g, 36, .inl (aI h))), (qc, .inl (gI g, 3, .inl (aI C8)))] → va_S A sZ.heap H locs → ∀ (ls : Array Slot), lv_has ls 13 [(0, .ref qa), (1, .int (iI n)), (2, .int (iI i)), (3, .int (iI j)), (4, .int (iI t)), (5, .ref qc), (6, .int (iI (fcK n h i j t f))), (7, .int (iI (bstK n h i j t f))), (8, .int (iI f)), (9, .int (iI (pF i t f))), (10, .int (iI (qF j t f))), (11, .int (iI (zF9 n h i j t f))), (12, .int (iI (nf n h i j t f)))] → W pZ l eZ ({ frames := 2, cells := 0, slots := 0, locals := 49 } : Room) sZ mZ [.ref qa, .int (iI n), .int (iI i), .int (iI j), .int (iI t), .ref qc].toArray bZ meZ cZ H locs 0 0 (MQ bZ (va_Qi (fun x9 (u9 : (Int → Int)) => x9 = iI ((fun (C2 : Int → Int) => fcK n h i j t 3) u9) ∧ (fun (C2 : Int → Int) => 0 ≤ fcK n h i j t 3 → C2 0 = pF i t (fcK n h i j t 3) + zF9 n h i j t (fcK n h i j t 3) ∧ C2 1 = qF j t (fcK n h i j t 3) + zF9 n h i j t (fcK n h i j t 3) ∧ C2 2 = zF9 n h i j t (fcK n h i j t 3)) u9) (fun u9 t9 => MB g ((fun (C2 : Int → Int) => [(qa, .inl (gI g, 36, .inl (aI h))), (qc, .inl (gI g, 3, .inl (aI C2)))]) u9) A t9) A) [.ref qa, .int (iI n), .int (iI i), .int (iI j), .int (iI t), .ref qc].toArray sZ 0 0 A) (F0 mZ 98 ls []) := by
              intro H locs hP hD hS ls hl
              have b_13 : -1 ≤ nf n h i j t f ∧ nf n h i j t f ≤ 35 := nf_rg gi gj
              refine lv_iload hx hb dL_seen_98 (lv_at hl 12 rfl) ?_
              refine lv_iload hx hb dL_seen_100 (lv_at hl 7 rfl) ?_
              refine ln_icmp_le (tgt := 137) hx hb dL_seen_102 (by decide) ⟨by omega, by omega⟩ ⟨by omega, by omega⟩ (fun c_14 => ?_) (fun c_14 => ?_)
              · skip
                refine lv_iinc (v := iI (f + 1)) (lv' := [(8, .int (iI (f + 1))), (0, .ref qa), (1, .int (iI n)), (2, .int (iI i)), (3, .int (iI j)), (4, .int (iI t)), (5, .ref qc), (6, .int (iI (fcK n h i j t f))), (7, .int (iI (bstK n h i j t f))), (9, .int (iI (pF i t f))), (10, .int (iI (qF j t f))), (11, .int (iI (zF9 n h i j t f))), (12, .int (iI (nf n h i j t f)))]) hx hb dL_seen_137 hl (k := 8) rfl (iI_add _ _) (by decide) rfl (fun ls hl => ?_)
                refine lv_goto (tgt := 9) hx hb dL_seen_140 (by decide) ?_
                have hl := lv_re hl 7 rfl (.int (iI (fcK n h i j t (f + 1)))) (congrArg (fun z => Value.int (iI z)) (show fcK n h i j t f = fcK n h i j t (f + 1) from by rw [fcK_s gf]; first | (exfalso; omega) | (rw [if_pos (by omega)]) | (rw [if_neg (by omega)])))
                have hl := lv_re hl 8 rfl (.int (iI (bstK n h i j t (f + 1)))) (congrArg (fun z => Value.int (iI z)) (show bstK n h i j t f = bstK n h i j t (f + 1) from by rw [bstK_s gf]; first | (exfalso; omega) | (rw [if_pos (by omega)]) | (rw [if_neg (by omega)])))
                have hl : lv_has ls 13 [(8, .int (iI (f + 1))), (0, .ref qa), (1, .int (iI n)), (2, .int (iI i)), (3, .int (iI j)), (4, .int (iI t)), (5, .ref qc), (6, .int (iI (fcK n h i j t (f + 1)))), (7, .int (iI (bstK n h i j t (f + 1)))), (9, .int (iI (pF i t f))), (10, .int (iI (qF j t f))), (11, .int (iI (zF9 n h i j t f))), (12, .int (iI (nf n h i j t f)))] := hl
                exact ih_2 (f + 1) C8 (by omega) (by omega) (by rw [fcK_s gf]; first | (rw [if_pos (by omega)]; exact fun _ => ⟨rfl, rfl, rfl⟩) | (rw [if_neg (by omega)]; exact gc)) _ _ hP hD hS _ (lv_sub hl [1, 2, 3, 4, 5, 6, 7, 8, 0] rfl) (by omega)
              · skip
                refine lv_iload hx hb dL_seen_105 (lv_at hl 12 rfl) ?_
                refine lv_istore (lv' := [(7, .int (iI (nf n h i j t f))), (0, .ref qa), (1, .int (iI n)), (2, .int (iI i)), (3, .int (iI j)), (4, .int (iI t)), (5, .ref qc), (6, .int (iI (fcK n h i j t f))), (8, .int (iI f)), (9, .int (iI (pF i t f))), (10, .int (iI (qF j t f))), (11, .int (iI (zF9 n h i j t f))), (12, .int (iI (nf n h i j t f)))]) hx hb dL_seen_107 hl (by decide) rfl (fun ls hl => ?_)
                refine lv_iload hx hb dL_seen_109 (lv_at hl 8 rfl) ?_
                refine lv_istore (lv' := [(6, .int (iI f)), (7, .int (iI (nf n h i j t f))), (0, .ref qa), (1, .int (iI n)), (2, .int (iI i)), (3, .int (iI j)), (4, .int (iI t)), (5, .ref qc), (8, .int (iI f)), (9, .int (iI (pF i t f))), (10, .int (iI (qF j t f))), (11, .int (iI (zF9 n h i j t f))), (12, .int (iI (nf n h i j t f)))]) hx hb dL_seen_111 hl (by decide) rfl (fun ls hl => ?_)
                refine lv_aload hx hb dL_seen_113 (lv_at hl 7 rfl) ?_
                refine lv_iconst (v := iI 0) hx hb dL_seen_115 rfl ?_
                refine lv_iload hx hb dL_seen_116 (lv_at hl 9 rfl) ?_
                refine lv_iload hx hb dL_seen_118 (lv_at hl 11 rfl) ?_
                refine ln_iadd hx hb ((pF i t f) + (zF9 n h i j t f)) (rfl) dL_seen_120 ?_
                refine ln_iast hx hb hE hP hD hS 1 rfl (by decide) (by decide) (Nat.le_of_ble_eq_true rfl) (updI C8 0 ((pF i t f) + (zF9 n h i j t f))) (fun _ _ _ => rfl) dL_seen_121 (fun H locs hP hD hS => ?_)
                have hP : va_P g.1 vwCl [(qa, .inl (gI g, 36, .inl (aI h))), (qc, .inl (gI g, 3, .inl (aI (updI C8 0 ((pF i t f) + (zF9 n h i j t f))))))] H := hP
                have hD : va_D A [(qa, .inl (gI g, 36, .inl (aI h))), (qc, .inl (gI g, 3, .inl (aI (updI C8 0 ((pF i t f) + (zF9 n h i j t f))))))] := hD
                refine lv_aload hx hb dL_seen_122 (lv_at hl 7 rfl) ?_
                refine lv_iconst (v := iI 1) hx hb dL_seen_124 rfl ?_
                refine lv_iload hx hb dL_seen_125 (lv_at hl 10 rfl) ?_
                refine lv_iload hx hb dL_seen_127 (lv_at hl 11 rfl) ?_
                refine ln_iadd hx hb ((qF j t f) + (zF9 n h i j t f)) (rfl) dL_seen_129 ?_
                refine ln_iast hx hb hE hP hD hS 1 rfl (by decide) (by decide) (Nat.le_of_ble_eq_true rfl) (updI (updI C8 0 ((pF i t f) + (zF9 n h i j t f))) 1 ((qF j t f) + (zF9 n h i j t f))) (fun _ _ _ => rfl) dL_seen_130 (fun H locs hP hD hS => ?_)
                have hP : va_P g.1 vwCl [(qa, .inl (gI g, 36, .inl (aI h))), (qc, .inl (gI g, 3, .inl (aI (updI (updI C8 0 ((pF i t f) + (zF9 n h i j t f))) 1 ((qF j t f) + (zF9 n h i j t f))))))] H := hP
                have hD : va_D A [(qa, .inl (gI g, 36, .inl (aI h))), (qc, .inl (gI g, 3, .inl (aI (updI (updI C8 0 ((pF i t f) + (zF9 n h i j t f))) 1 ((qF j t f) + (zF9 n h i j t f))))))] := hD
                refine lv_aload hx hb dL_seen_131 (lv_at hl 7 rfl) ?_
                refine lv_iconst (v := iI 2) hx hb dL_seen_133 rfl ?_
                refine lv_iload hx hb dL_seen_134 (lv_at hl 11 rfl) ?_
                refine ln_iast hx hb hE hP hD hS 1 rfl (by decide) (by decide) (Nat.le_of_ble_eq_true rfl) (updI (updI (updI C8 0 ((pF i t f) + (zF9 n h i j t f))) 1 ((qF j t f) + (zF9 n h i j t f))) 2 (zF9 n h i j t f)) (fun _ _ _ => rfl) dL_seen_136 (fun H locs hP hD hS => ?_)
                have hP : va_P g.1 vwCl [(qa, .inl (gI g, 36, .inl (aI h))), (qc, .inl (gI g, 3, .inl (aI (updI (updI (updI C8 0 ((pF i t f) + (zF9 n h i j t f))) 1 ((qF j t f) + (zF9 n h i j t f))) 2 (zF9 n h i j t f)))))] H := hP
                have hD : va_D A [(qa, .inl (gI g, 36, .inl (aI h))), (qc, .inl (gI g, 3, .inl (aI (updI (updI (updI C8 0 ((pF i t f) + (zF9 n h i j t f))) 1 ((qF j t f) + (zF9 n h i j t f))) 2 (zF9 n h i j t f)))))] := hD
                refine lv_iinc (v := iI (f + 1)) (lv' := [(8, .int (iI (f + 1))), (6, .int (iI f)), (7, .int (iI (nf n h i j t f))), (0, .ref qa), (1, .int (iI n)), (2, .int (iI i)), (3, .int (iI j)), (4, .int (iI t)), (5, .ref qc), (9, .int (iI (pF i t f))), (10, .int (iI (qF j t f))), (11, .int (iI (zF9 n h i j t f))), (12, .int (iI (nf n h i j t f)))]) hx hb dL_seen_137 hl (k := 8) rfl (iI_add _ _) (by decide) rfl (fun ls hl => ?_)
                refine lv_goto (tgt := 9) hx hb dL_seen_140 (by decide) ?_
                have hl := lv_re hl 1 rfl (.int (iI (fcK n h i j t (f + 1)))) (congrArg (fun z => Value.int (iI z)) (show f = fcK n h i j t (f + 1) from by rw [fcK_s gf]; first | (exfalso; omega) | (rw [if_pos (by omega)]) | (rw [if_neg (by omega)])))
                have hl := lv_re hl 2 rfl (.int (iI (bstK n h i j t (f + 1)))) (congrArg (fun z => Value.int (iI z)) (show nf n h i j t f = bstK n h i j t (f + 1) from by rw [bstK_s gf]; first | (exfalso; omega) | (rw [if_pos (by omega)]) | (rw [if_neg (by omega)])))
                have hl : lv_has ls 13 [(8, .int (iI (f + 1))), (6, .int (iI (fcK n h i j t (f + 1)))), (7, .int (iI (bstK n h i j t (f + 1)))), (0, .ref qa), (1, .int (iI n)), (2, .int (iI i)), (3, .int (iI j)), (4, .int (iI t)), (5, .ref qc), (9, .int (iI (pF i t f))), (10, .int (iI (qF j t f))), (11, .int (iI (zF9 n h i j t f))), (12, .int (iI (nf n h i j t f)))] := hl
                have hP := hP.recell 1 rfl ((updI (updI (updI C8 0 ((pF i t f) + (zF9 n h i j t f))) 1 ((qF j t f) + (zF9 n h i j t f))) 2 (zF9 n h i j t f))) (fun j h0 h1 => rfl)
                have hD := hD.set (p := 1) (e := .inl (gI g, 3, .inl (aI ((updI (updI (updI C8 0 ((pF i t f) + (zF9 n h i j t f))) 1 ((qF j t f) + (zF9 n h i j t f))) 2 (zF9 n h i j t f)))))) rfl
                exact ih_2 (f + 1) ((updI (updI (updI C8 0 ((pF i t f) + (zF9 n h i j t f))) 1 ((qF j t f) + (zF9 n h i j t f))) 2 (zF9 n h i j t f))) (by omega) (by omega) (by rw [fcK_s gf]; first | (rw [if_pos (by omega)]; exact fun _ => ⟨rfl, rfl, rfl⟩) | (rw [if_neg (by omega)]; exact gc)) _ _ hP hD hS _ (lv_sub hl [3, 4, 5, 6, 7, 8, 1, 2, 0] rfl) (by omega)
            refine lv_iload hx hb dL_seen_77 (lv_at hl 0 rfl) ?_
            refine ln_if_ge (tgt := 86) hx hb dL_seen_79 (by decide) ⟨by omega, by omega⟩ (fun c_15 => ?_) (fun c_15 => ?_)
            · skip
              refine lv_iload hx hb dL_seen_86 (lv_at hl 10 rfl) ?_
              refine lv_iload hx hb dL_seen_88 (lv_at hl 11 rfl) ?_
              refine ln_iadd hx hb ((pF i t f) + (qF j t f)) (rfl) dL_seen_90 ?_
              refine lv_iconst (v := iI 3) hx hb dL_seen_91 rfl ?_
              refine lv_iload hx hb dL_seen_92 (lv_at hl 0 rfl) ?_
              refine ln_imul hx hb (3 * (zF9 n h i j t f)) (rfl) dL_seen_94 ?_
              refine ln_iadd hx hb ((pF i t f) + (qF j t f) + 3 * (zF9 n h i j t f)) (rfl) dL_seen_95 ?_
              refine lv_istore (lv' := [(12, .int (iI ((pF i t f) + (qF j t f) + 3 * (zF9 n h i j t f)))), (11, .int (iI (zF9 n h i j t f))), (0, .ref qa), (1, .int (iI n)), (2, .int (iI i)), (3, .int (iI j)), (4, .int (iI t)), (5, .ref qc), (6, .int (iI (fcK n h i j t f))), (7, .int (iI (bstK n h i j t f))), (8, .int (iI f)), (9, .int (iI (pF i t f))), (10, .int (iI (qF j t f)))]) hx hb dL_seen_96 hl (by decide) rfl (fun ls hl => ?_)
              have hl := lv_re hl 0 rfl (.int (iI (nf n h i j t f))) (congrArg (fun z => Value.int (iI z)) (show (pF i t f) + (qF j t f) + 3 * (zF9 n h i j t f) = nf n h i j t f from by unfold nf; first | (exfalso; omega) | (rw [if_pos (by omega)]) | (rw [if_neg (by omega)])))
              have hl : lv_has ls 13 [(12, .int (iI (nf n h i j t f))), (11, .int (iI (zF9 n h i j t f))), (0, .ref qa), (1, .int (iI n)), (2, .int (iI i)), (3, .int (iI j)), (4, .int (iI t)), (5, .ref qc), (6, .int (iI (fcK n h i j t f))), (7, .int (iI (bstK n h i j t f))), (8, .int (iI f)), (9, .int (iI (pF i t f))), (10, .int (iI (qF j t f)))] := hl
              exact J98_12 _ _ hP hD hS _ (lv_sub hl [2, 3, 4, 5, 6, 7, 8, 9, 10, 11, 12, 1, 0] rfl) 
            · skip
              refine lv_iconst (v := iI (-1)) hx hb dL_seen_82 rfl ?_
              refine lv_goto (tgt := 96) hx hb dL_seen_83 (by decide) ?_
              refine lv_istore (lv' := [(12, .int (iI (-1))), (11, .int (iI (zF9 n h i j t f))), (0, .ref qa), (1, .int (iI n)), (2, .int (iI i)), (3, .int (iI j)), (4, .int (iI t)), (5, .ref qc), (6, .int (iI (fcK n h i j t f))), (7, .int (iI (bstK n h i j t f))), (8, .int (iI f)), (9, .int (iI (pF i t f))), (10, .int (iI (qF j t f)))]) hx hb dL_seen_96 hl (by decide) rfl (fun ls hl => ?_)
              have hl := lv_re hl 0 rfl (.int (iI (nf n h i j t f))) (congrArg (fun z => Value.int (iI z)) (show -1 = nf n h i j t f from by unfold nf; first | (exfalso; omega) | (rw [if_pos (by omega)]) | (rw [if_neg (by omega)])))
              have hl : lv_has ls 13 [(12, .int (iI (nf n h i j t f))), (11, .int (iI (zF9 n h i j t f))), (0, .ref qa), (1, .int (iI n)), (2, .int (iI i)), (3, .int (iI j)), (4, .int (iI t)), (5, .ref qc), (6, .int (iI (fcK n h i j t f))), (7, .int (iI (bstK n h i j t f))), (8, .int (iI f)), (9, .int (iI (pF i t f))), (10, .int (iI (qF j t f)))] := hl
              exact J98_12 _ _ hP hD hS _ (lv_sub hl [2, 3, 4, 5, 6, 7, 8, 9, 10, 11, 12, 1, 0] rfl) 
          refine lv_iload hx hb dL_seen_40 (lv_at hl 8 rfl) ?_
          refine ln_if_eq (tgt := 57) hx hb dL_seen_42 (by decide) ⟨by omega, by omega⟩ (fun c_16 => ?_) (fun c_16 => ?_)
          · skip
            refine lv_iload_n hx hb dL_seen_57 rfl (lv_at hl 3 rfl) ?_
            refine lv_iconst (v := iI 1) hx hb dL_seen_58 rfl ?_
            refine ln_iadd hx hb (j + 1) (rfl) dL_seen_59 ?_
            refine lv_goto (tgt := 64) hx hb dL_seen_60 (by decide) ?_
            refine lv_istore (lv' := [(10, .int (iI (j + 1))), (0, .ref qa), (1, .int (iI n)), (2, .int (iI i)), (3, .int (iI j)), (4, .int (iI t)), (5, .ref qc), (6, .int (iI (fcK n h i j t f))), (7, .int (iI (bstK n h i j t f))), (8, .int (iI f)), (9, .int (iI (pF i t f)))]) hx hb dL_seen_64 hl (by decide) rfl (fun ls hl => ?_)
            have hl := lv_re hl 0 rfl (.int (iI (qF j t f))) (congrArg (fun z => Value.int (iI z)) (show j + 1 = qF j t f from by unfold qF; first | (exfalso; omega) | (rw [if_pos (by omega)]) | (rw [if_neg (by omega)])))
            have hl : lv_has ls 13 [(10, .int (iI (qF j t f))), (0, .ref qa), (1, .int (iI n)), (2, .int (iI i)), (3, .int (iI j)), (4, .int (iI t)), (5, .ref qc), (6, .int (iI (fcK n h i j t f))), (7, .int (iI (bstK n h i j t f))), (8, .int (iI f)), (9, .int (iI (pF i t f)))] := hl
            exact J66_7 _ _ hP hD hS _ (lv_sub hl [1, 2, 3, 4, 5, 6, 7, 8, 9, 10, 0] rfl) 
          · skip
            refine lv_iload hx hb dL_seen_45 (lv_at hl 8 rfl) ?_
            refine lv_iconst (v := iI 1) hx hb dL_seen_47 rfl ?_
            refine ln_icmp_ne (tgt := 63) hx hb dL_seen_48 (by decide) ⟨by omega, by omega⟩ (by decide) (fun c_17 => ?_) (fun c_17 => ?_)
            · skip
              refine lv_iload_n hx hb dL_seen_63 rfl (lv_at hl 3 rfl) ?_
              refine lv_istore (lv' := [(10, .int (iI j)), (0, .ref qa), (1, .int (iI n)), (2, .int (iI i)), (3, .int (iI j)), (4, .int (iI t)), (5, .ref qc), (6, .int (iI (fcK n h i j t f))), (7, .int (iI (bstK n h i j t f))), (8, .int (iI f)), (9, .int (iI (pF i t f)))]) hx hb dL_seen_64 hl (by decide) rfl (fun ls hl => ?_)
              have hl := lv_re hl 0 rfl (.int (iI (qF j t f))) (congrArg (fun z => Value.int (iI z)) (show j = qF j t f from by unfold qF; first | (exfalso; omega) | (rw [if_pos (by omega)]) | (rw [if_neg (by omega)])))
              have hl : lv_has ls 13 [(10, .int (iI (qF j t f))), (0, .ref qa), (1, .int (iI n)), (2, .int (iI i)), (3, .int (iI j)), (4, .int (iI t)), (5, .ref qc), (6, .int (iI (fcK n h i j t f))), (7, .int (iI (bstK n h i j t f))), (8, .int (iI f)), (9, .int (iI (pF i t f)))] := hl
              exact J66_7 _ _ hP hD hS _ (lv_sub hl [1, 2, 3, 4, 5, 6, 7, 8, 9, 10, 0] rfl) 
            · skip
              refine lv_iload hx hb dL_seen_51 (lv_at hl 4 rfl) ?_
              refine lv_iconst (v := iI 1) hx hb dL_seen_53 rfl ?_
              refine ln_icmp_ne (tgt := 63) hx hb dL_seen_54 (by decide) ⟨by omega, by omega⟩ (by decide) (fun c_18 => ?_) (fun c_18 => ?_)
              · skip
                refine lv_iload_n hx hb dL_seen_63 rfl (lv_at hl 3 rfl) ?_
                refine lv_istore (lv' := [(10, .int (iI j)), (0, .ref qa), (1, .int (iI n)), (2, .int (iI i)), (3, .int (iI j)), (4, .int (iI t)), (5, .ref qc), (6, .int (iI (fcK n h i j t f))), (7, .int (iI (bstK n h i j t f))), (8, .int (iI f)), (9, .int (iI (pF i t f)))]) hx hb dL_seen_64 hl (by decide) rfl (fun ls hl => ?_)
                have hl := lv_re hl 0 rfl (.int (iI (qF j t f))) (congrArg (fun z => Value.int (iI z)) (show j = qF j t f from by unfold qF; first | (exfalso; omega) | (rw [if_pos (by omega)]) | (rw [if_neg (by omega)])))
                have hl : lv_has ls 13 [(10, .int (iI (qF j t f))), (0, .ref qa), (1, .int (iI n)), (2, .int (iI i)), (3, .int (iI j)), (4, .int (iI t)), (5, .ref qc), (6, .int (iI (fcK n h i j t f))), (7, .int (iI (bstK n h i j t f))), (8, .int (iI f)), (9, .int (iI (pF i t f)))] := hl
                exact J66_7 _ _ hP hD hS _ (lv_sub hl [1, 2, 3, 4, 5, 6, 7, 8, 9, 10, 0] rfl) 
              · skip
                refine lv_iload_n hx hb dL_seen_57 rfl (lv_at hl 3 rfl) ?_
                refine lv_iconst (v := iI 1) hx hb dL_seen_58 rfl ?_
                refine ln_iadd hx hb (j + 1) (rfl) dL_seen_59 ?_
                refine lv_goto (tgt := 64) hx hb dL_seen_60 (by decide) ?_
                refine lv_istore (lv' := [(10, .int (iI (j + 1))), (0, .ref qa), (1, .int (iI n)), (2, .int (iI i)), (3, .int (iI j)), (4, .int (iI t)), (5, .ref qc), (6, .int (iI (fcK n h i j t f))), (7, .int (iI (bstK n h i j t f))), (8, .int (iI f)), (9, .int (iI (pF i t f)))]) hx hb dL_seen_64 hl (by decide) rfl (fun ls hl => ?_)
                have hl := lv_re hl 0 rfl (.int (iI (qF j t f))) (congrArg (fun z => Value.int (iI z)) (show j + 1 = qF j t f from by unfold qF; first | (exfalso; omega) | (rw [if_pos (by omega)]) | (rw [if_neg (by omega)])))
                have hl : lv_has ls 13 [(10, .int (iI (qF j t f))), (0, .ref qa), (1, .int (iI n)), (2, .int (iI i)), (3, .int (iI j)), (4, .int (iI t)), (5, .ref qc), (6, .int (iI (fcK n h i j t f))), (7, .int (iI (bstK n h i j t f))), (8, .int (iI f)), (9, .int (iI (pF i t f)))] := hl
                exact J66_7 _ _ hP hD hS _ (lv_sub hl [1, 2, 3, 4, 5, 6, 7, 8, 9, 10, 0] rfl) 
        refine lv_iload hx hb dL_seen_15 (lv_at hl 8 rfl) ?_
        refine ln_if_eq (tgt := 31) hx hb dL_seen_17 (by decide) ⟨by omega, by omega⟩ (fun c_19 => ?_) (fun c_19 => ?_)
        · skip
          refine lv_iload_n hx hb dL_seen_31 rfl (lv_at hl 2 rfl) ?_
          refine lv_iconst (v := iI 1) hx hb dL_seen_32 rfl ?_
          refine ln_iadd hx hb (i + 1) (rfl) dL_seen_33 ?_
          refine lv_goto (tgt := 38) hx hb dL_seen_34 (by decide) ?_
          refine lv_istore (lv' := [(9, .int (iI (i + 1))), (0, .ref qa), (1, .int (iI n)), (2, .int (iI i)), (3, .int (iI j)), (4, .int (iI t)), (5, .ref qc), (6, .int (iI (fcK n h i j t f))), (7, .int (iI (bstK n h i j t f))), (8, .int (iI f))]) hx hb dL_seen_38 hl (by decide) rfl (fun ls hl => ?_)
          have hl := lv_re hl 0 rfl (.int (iI (pF i t f))) (congrArg (fun z => Value.int (iI z)) (show i + 1 = pF i t f from by unfold pF; first | (exfalso; omega) | (rw [if_pos (by omega)]) | (rw [if_neg (by omega)])))
          have hl : lv_has ls 13 [(9, .int (iI (pF i t f))), (0, .ref qa), (1, .int (iI n)), (2, .int (iI i)), (3, .int (iI j)), (4, .int (iI t)), (5, .ref qc), (6, .int (iI (fcK n h i j t f))), (7, .int (iI (bstK n h i j t f))), (8, .int (iI f))] := hl
          exact J40_6 _ _ hP hD hS _ (lv_sub hl [1, 2, 3, 4, 5, 6, 7, 8, 9, 0] rfl) 
        · skip
          refine lv_iload hx hb dL_seen_20 (lv_at hl 8 rfl) ?_
          refine lv_iconst (v := iI 2) hx hb dL_seen_22 rfl ?_
          refine ln_icmp_ne (tgt := 37) hx hb dL_seen_23 (by decide) ⟨by omega, by omega⟩ (by decide) (fun c_20 => ?_) (fun c_20 => ?_)
          · skip
            refine lv_iload_n hx hb dL_seen_37 rfl (lv_at hl 2 rfl) ?_
            refine lv_istore (lv' := [(9, .int (iI i)), (0, .ref qa), (1, .int (iI n)), (2, .int (iI i)), (3, .int (iI j)), (4, .int (iI t)), (5, .ref qc), (6, .int (iI (fcK n h i j t f))), (7, .int (iI (bstK n h i j t f))), (8, .int (iI f))]) hx hb dL_seen_38 hl (by decide) rfl (fun ls hl => ?_)
            have hl := lv_re hl 0 rfl (.int (iI (pF i t f))) (congrArg (fun z => Value.int (iI z)) (show i = pF i t f from by unfold pF; first | (exfalso; omega) | (rw [if_pos (by omega)]) | (rw [if_neg (by omega)])))
            have hl : lv_has ls 13 [(9, .int (iI (pF i t f))), (0, .ref qa), (1, .int (iI n)), (2, .int (iI i)), (3, .int (iI j)), (4, .int (iI t)), (5, .ref qc), (6, .int (iI (fcK n h i j t f))), (7, .int (iI (bstK n h i j t f))), (8, .int (iI f))] := hl
            exact J40_6 _ _ hP hD hS _ (lv_sub hl [1, 2, 3, 4, 5, 6, 7, 8, 9, 0] rfl) 
          · skip
            refine lv_iload hx hb dL_seen_26 (lv_at hl 4 rfl) ?_
            refine ln_if_ne (tgt := 37) hx hb dL_seen_28 (by decide) ⟨by omega, by omega⟩ (fun c_21 => ?_) (fun c_21 => ?_)
            · skip
              refine lv_iload_n hx hb dL_seen_37 rfl (lv_at hl 2 rfl) ?_
              refine lv_istore (lv' := [(9, .int (iI i)), (0, .ref qa), (1, .int (iI n)), (2, .int (iI i)), (3, .int (iI j)), (4, .int (iI t)), (5, .ref qc), (6, .int (iI (fcK n h i j t f))), (7, .int (iI (bstK n h i j t f))), (8, .int (iI f))]) hx hb dL_seen_38 hl (by decide) rfl (fun ls hl => ?_)
              have hl := lv_re hl 0 rfl (.int (iI (pF i t f))) (congrArg (fun z => Value.int (iI z)) (show i = pF i t f from by unfold pF; first | (exfalso; omega) | (rw [if_pos (by omega)]) | (rw [if_neg (by omega)])))
              have hl : lv_has ls 13 [(9, .int (iI (pF i t f))), (0, .ref qa), (1, .int (iI n)), (2, .int (iI i)), (3, .int (iI j)), (4, .int (iI t)), (5, .ref qc), (6, .int (iI (fcK n h i j t f))), (7, .int (iI (bstK n h i j t f))), (8, .int (iI f))] := hl
              exact J40_6 _ _ hP hD hS _ (lv_sub hl [1, 2, 3, 4, 5, 6, 7, 8, 9, 0] rfl) 
            · skip
              refine lv_iload_n hx hb dL_seen_31 rfl (lv_at hl 2 rfl) ?_
              refine lv_iconst (v := iI 1) hx hb dL_seen_32 rfl ?_
              refine ln_iadd hx hb (i + 1) (rfl) dL_seen_33 ?_
              refine lv_goto (tgt := 38) hx hb dL_seen_34 (by decide) ?_
              refine lv_istore (lv' := [(9, .int (iI (i + 1))), (0, .ref qa), (1, .int (iI n)), (2, .int (iI i)), (3, .int (iI j)), (4, .int (iI t)), (5, .ref qc), (6, .int (iI (fcK n h i j t f))), (7, .int (iI (bstK n h i j t f))), (8, .int (iI f))]) hx hb dL_seen_38 hl (by decide) rfl (fun ls hl => ?_)
              have hl := lv_re hl 0 rfl (.int (iI (pF i t f))) (congrArg (fun z => Value.int (iI z)) (show i + 1 = pF i t f from by unfold pF; first | (exfalso; omega) | (rw [if_pos (by omega)]) | (rw [if_neg (by omega)])))
              have hl : lv_has ls 13 [(9, .int (iI (pF i t f))), (0, .ref qa), (1, .int (iI n)), (2, .int (iI i)), (3, .int (iI j)), (4, .int (iI t)), (5, .ref qc), (6, .int (iI (fcK n h i j t f))), (7, .int (iI (bstK n h i j t f))), (8, .int (iI f))] := hl
              exact J40_6 _ _ hP hD hS _ (lv_sub hl [1, 2, 3, 4, 5, 6, 7, 8, 9, 0] rfl) 
  have hl := lv_re hl 2 rfl (.int (iI (fcK n h i j t 0))) (congrArg (fun z => Value.int (iI z)) (show -1 = fcK n h i j t 0 from by first | rfl | omega))
  have hl := lv_re hl 1 rfl (.int (iI (bstK n h i j t 0))) (congrArg (fun z => Value.int (iI z)) (show -1 = bstK n h i j t 0 from by first | rfl | omega))
  have hl : lv_has ls 13 [(8, .int (iI 0)), (7, .int (iI (bstK n h i j t 0))), (6, .int (iI (fcK n h i j t 0))), (0, .ref qa), (1, .int (iI n)), (2, .int (iI i)), (3, .int (iI j)), (4, .int (iI t)), (5, .ref qc)] := hl
  exact L9 _ 0 C (by omega) (by omega) (fun q9 => absurd q9 (by show ¬ (0 : Int) ≤ -1; decide)) _ _ hP hD hS _ (lv_sub hl [3, 4, 5, 6, 7, 8, 2, 1, 0] rfl) (Nat.lt_succ_self _)
set_option maxHeartbeats 800000 in
set_option maxRecDepth 100000 in
theorem c_L_high (l : Launch) (g : GT) (qx : Nat) (qv : Nat) (qi : Nat) (qb : Nat) (ty : Nat) (py : Nat) (tv : Nat) (dr : Int) (qy : Nat) (qs : Nat) (qn : Nat) (qf : Nat) (S9 : Int → Int) (E9 : Int → Int) (F9 : Int → Int) (vb : Int) (vg : Int) (vt : Int) (qh : Nat) (qc : Nat) (n : Int) (ho : Int) (h : Int → Int) (c : Int → Int) (x : Int) (y : Int) (hY : YOk n ho h c) (hV : VOk dr n h S9 E9 F9 vb vg vt) (gdr : dr = 0 ∨ dr = 1) (h1 : 0 ≤ x) (h2 : x < n) (h3 : 0 ≤ y) (h4 : y < n) : MutI l yL_high wsL_high ({ frames := 6, cells := 0, slots := 0, locals := 140 }) 0 0 g [(qx, .inr (4, [.ref qy, .ref qv, .ref qi, .ref qb, .ref ty, .ref py, .ref tv, .int (iI dr)])), (qv, .inr (2, [.ref qs, .ref qn, .ref qf, .int (iI vb), .int (iI vg), .int (iI vt)])), (qs, .inl (gI g, 512, .inl (aI S9))), (qn, .inl (gI g, 512, .inl (aI E9))), (qf, .inl (gI g, 864, .inl (aI F9))), (qy, .inr (3, [.ref qh, .ref qc, .int (iI n), .int (iI ho)])), (qh, .inl (gI g, 36, .inl (aI h))), (qc, .inl (gI g, 36, .inl (aI c)))] [.ref qx, .int (iI n), .int (iI x), .int (iI y)] (S := Int × (Int → Int) × (Int → Int) × (Int → Int) × Int × Int × Int) (fun (u9 : Int × (Int → Int) × (Int → Int) × (Int → Int) × Int × Int × Int) => match u9 with | (r2, S2, E2, F2, b2, g2, t2) => VOk r2 n h S2 E2 F2 b2 g2 t2 ∧ (r2 = 0 ∨ r2 = 1)) (fun (u9 : Int × (Int → Int) × (Int → Int) × (Int → Int) × Int × Int × Int) => match u9 with | (r2, S2, E2, F2, b2, g2, t2) => h (y * 6 + x)) (fun (u9 : Int × (Int → Int) × (Int → Int) × (Int → Int) × Int × Int × Int) => match u9 with | (r2, S2, E2, F2, b2, g2, t2) => [(qx, .inr (4, [.ref qy, .ref qv, .ref qi, .ref qb, .ref ty, .ref py, .ref tv, .int (iI r2)])), (qv, .inr (2, [.ref qs, .ref qn, .ref qf, .int (iI b2), .int (iI g2), .int (iI t2)])), (qs, .inl (gI g, 512, .inl (aI S2))), (qn, .inl (gI g, 512, .inl (aI E2))), (qf, .inl (gI g, 864, .inl (aI F2))), (qy, .inr (3, [.ref qh, .ref qc, .int (iI n), .int (iI ho)])), (qh, .inl (gI g, 36, .inl (aI h))), (qc, .inl (gI g, 36, .inl (aI c)))]) := by
  refine mut_of (y := yL_high) (ws := wsL_high) (av := [.ref qx, .int (iI n), .int (iI x), .int (iI y)]) (w := [(qx, .inr (4, [.ref qy, .ref qv, .ref qi, .ref qb, .ref ty, .ref py, .ref tv, .int (iI dr)])), (qv, .inr (2, [.ref qs, .ref qn, .ref qf, .int (iI vb), .int (iI vg), .int (iI vt)])), (qs, .inl (gI g, 512, .inl (aI S9))), (qn, .inl (gI g, 512, .inl (aI E9))), (qf, .inl (gI g, 864, .inl (aI F9))), (qy, .inr (3, [.ref qh, .ref qc, .int (iI n), .int (iI ho)])), (qh, .inl (gI g, 36, .inl (aI h))), (qc, .inl (gI g, 36, .inl (aI c)))]) (Qc := fun A => va_Qi (fun x9 (u9 : Int × (Int → Int) × (Int → Int) × (Int → Int) × Int × Int × Int) => x9 = iI ((fun (u9 : Int × (Int → Int) × (Int → Int) × (Int → Int) × Int × Int × Int) => match u9 with | (r2, S2, E2, F2, b2, g2, t2) => h (y * 6 + x)) u9) ∧ (fun (u9 : Int × (Int → Int) × (Int → Int) × (Int → Int) × Int × Int × Int) => match u9 with | (r2, S2, E2, F2, b2, g2, t2) => VOk r2 n h S2 E2 F2 b2 g2 t2 ∧ (r2 = 0 ∨ r2 = 1)) u9) (fun u9 t9 => MB g ((fun (u9 : Int × (Int → Int) × (Int → Int) × (Int → Int) × Int × Int × Int) => match u9 with | (r2, S2, E2, F2, b2, g2, t2) => [(qx, .inr (4, [.ref qy, .ref qv, .ref qi, .ref qb, .ref ty, .ref py, .ref tv, .int (iI r2)])), (qv, .inr (2, [.ref qs, .ref qn, .ref qf, .int (iI b2), .int (iI g2), .int (iI t2)])), (qs, .inl (gI g, 512, .inl (aI S2))), (qn, .inl (gI g, 512, .inl (aI E2))), (qf, .inl (gI g, 864, .inl (aI F2))), (qy, .inr (3, [.ref qh, .ref qc, .int (iI n), .int (iI ho)])), (qh, .inl (gI g, 36, .inl (aI h))), (qc, .inl (gI g, 36, .inl (aI c)))]) u9) A t9) A) (cc := cL_high) (maxL := 4) (ret := (some .int)) (by decide) rfl (Nat.le_of_ble_eq_true rfl) ?_
  intro pZ eZ sZ mZ bZ meZ cZ A F hin hA hP hD hE hS ls hl
  obtain ⟨hx, hb, hr, hml, hts, hown, hlk⟩ := F
  skip
  have hown : sZ.vm.findClass RL = some mZ.cls := hown
  have hl : lv_has ls 4 [(0, .ref qx), (1, .int (iI n)), (2, .int (iI x)), (3, .int (iI y))] := hl
  skip
  have hnn := hY.n
  have hho := hY.hr
  have hM9 : MOk (picM n h) := picM_ok hY
  have hI9 : MIn n h (picM n h) := picM_in hY
  refine lv_iload_n hx hb dL_high_0 rfl (lv_at hl 2 rfl) ?_
  refine ln_if_lt (tgt := 18) hx hb dL_high_1 (by decide) ⟨by omega, by omega⟩ (fun c_1 => ?_) (fun c_1 => ?_)
  · exfalso; omega
  · skip
    refine lv_iload_n hx hb dL_high_4 rfl (lv_at hl 3 rfl) ?_
    refine ln_if_lt (tgt := 18) hx hb dL_high_5 (by decide) ⟨by omega, by omega⟩ (fun c_2 => ?_) (fun c_2 => ?_)
    · exfalso; omega
    · skip
      refine lv_iload_n hx hb dL_high_8 rfl (lv_at hl 2 rfl) ?_
      refine lv_iload_n hx hb dL_high_9 rfl (lv_at hl 1 rfl) ?_
      refine ln_icmp_ge (tgt := 18) hx hb dL_high_10 (by decide) ⟨by omega, by omega⟩ ⟨by omega, by omega⟩ (fun c_3 => ?_) (fun c_3 => ?_)
      · exfalso; omega
      · skip
        refine lv_iload_n hx hb dL_high_13 rfl (lv_at hl 3 rfl) ?_
        refine lv_iload_n hx hb dL_high_14 rfl (lv_at hl 1 rfl) ?_
        refine ln_icmp_lt (tgt := 22) hx hb dL_high_15 (by decide) ⟨by omega, by omega⟩ ⟨by omega, by omega⟩ (fun c_4 => ?_) (fun c_4 => ?_)
        · skip
          refine lv_aload_n hx hb dL_high_22 rfl (lv_at hl 0 rfl) ?_
          refine lv_iload_n hx hb dL_high_23 rfl (lv_at hl 2 rfl) ?_
          refine lv_iload_n hx hb dL_high_24 rfl (lv_at hl 3 rfl) ?_
          refine lv_iconst (v := iI 0) hx hb dL_high_25 rfl ?_
          have hPc_5 := hP.sub (ws' := [(qx, .inr (4, [.ref qy, .ref qv, .ref qi, .ref qb, .ref ty, .ref py, .ref tv, .int (iI dr)])), (qv, .inr (2, [.ref qs, .ref qn, .ref qf, .int (iI vb), .int (iI vg), .int (iI vt)])), (qs, .inl (gI g, 512, .inl (aI S9))), (qn, .inl (gI g, 512, .inl (aI E9))), (qf, .inl (gI g, 864, .inl (aI F9))), (qy, .inr (3, [.ref qh, .ref qc, .int (iI n), .int (iI ho)])), (qh, .inl (gI g, 36, .inl (aI h))), (qc, .inl (gI g, 36, .inl (aI c)))]) [0, 1, 2, 3, 4, 5, 6, 7] rfl
          have hDc_6 := hD.sub (ws' := [(qx, .inr (4, [.ref qy, .ref qv, .ref qi, .ref qb, .ref ty, .ref py, .ref tv, .int (iI dr)])), (qv, .inr (2, [.ref qs, .ref qn, .ref qf, .int (iI vb), .int (iI vg), .int (iI vt)])), (qs, .inl (gI g, 512, .inl (aI S9))), (qn, .inl (gI g, 512, .inl (aI E9))), (qf, .inl (gI g, 864, .inl (aI F9))), (qy, .inr (3, [.ref qh, .ref qc, .int (iI n), .int (iI ho)])), (qh, .inl (gI g, 36, .inl (aI h))), (qc, .inl (gI g, 36, .inl (aI c)))]) [0, 1, 2, 3, 4, 5, 6, 7] (by decide) rfl
          have hFc_7 := va_free (wc := [(qx, .inr (4, [.ref qy, .ref qv, .ref qi, .ref qb, .ref ty, .ref py, .ref tv, .int (iI dr)])), (qv, .inr (2, [.ref qs, .ref qn, .ref qf, .int (iI vb), .int (iI vg), .int (iI vt)])), (qs, .inl (gI g, 512, .inl (aI S9))), (qn, .inl (gI g, 512, .inl (aI E9))), (qf, .inl (gI g, 864, .inl (aI F9))), (qy, .inr (3, [.ref qh, .ref qc, .int (iI n), .int (iI ho)])), (qh, .inl (gI g, 36, .inl (aI h))), (qc, .inl (gI g, 36, .inl (aI c)))]) hD hS hA [0, 1, 2, 3, 4, 5, 6, 7] rfl
          refine mc_i (wr := []) (cells1 := 0) (slots1 := 0) (va_runV (As := [.int (iI x), .int (iI y), .int (iI 0)]) (rest := []) ⟨hx, hb, hml, hown, hts⟩ (c_X4_stack_ok l g qx qv qi qb ty py tv dr qy qs qn qf S9 E9 F9 vb vg vt qh qc n ho h c x y 0 hY hV gdr h1 h2 h3 h4 (by omega) sZ.heap.size) (cwV 3 hts gL_high_X4_stack rfl rfl rfl (by decide +kernel) ⟨Nat.le_of_ble_eq_true rfl, Nat.le_of_ble_eq_true rfl⟩) (muV hE hS hPc_5 hDc_6 hFc_7 rfl rfl) rfl rfl hl.1 rfl (lv_room (Nat.le_of_ble_eq_true rfl)) dL_high_26 ⟨Nat.le_of_ble_eq_true rfl, Nat.le_of_ble_eq_true rfl⟩) hP hD hS hA [0, 1, 2, 3, 4, 5, 6, 7] [] [0, 1, 2, 3, 4, 5, 6, 7] rfl rfl (by decide) (by decide) (fun (u9 : Int × (Int → Int) × (Int → Int) × (Int → Int) × Int × Int × Int) => match u9 with | (u_8, u_9, u_10, u_11, u_12, u_13, u_14) => [(qx, .inr (4, [.ref qy, .ref qv, .ref qi, .ref qb, .ref ty, .ref py, .ref tv, .int (iI u_8)])), (qv, .inr (2, [.ref qs, .ref qn, .ref qf, .int (iI u_12), .int (iI u_13), .int (iI u_14)])), (qs, .inl (gI g, 512, .inl (aI u_9))), (qn, .inl (gI g, 512, .inl (aI u_10))), (qf, .inl (gI g, 864, .inl (aI u_11))), (qy, .inr (3, [.ref qh, .ref qc, .int (iI n), .int (iI ho)])), (qh, .inl (gI g, 36, .inl (aI h))), (qc, .inl (gI g, 36, .inl (aI c)))]) (fun _ => rfl) (by decide) (Nat.le_of_ble_eq_true rfl) (Nat.le_of_ble_eq_true rfl) (fun u9 H locs hu_15 hP hD hS => ?_)
          obtain ⟨u_8, u_9, u_10, u_11, u_12, u_13, u_14⟩ := u9
          obtain ⟨hq_16, hq_17⟩ := hu_15
          have hq_16 : VOk u_8 n h u_9 u_10 u_11 u_12 u_13 u_14 := hq_16
          have hq_17 : (u_8 = 0 ∨ u_8 = 1) := hq_17
          have hP : va_P g.1 vwCl [(qx, .inr (4, [.ref qy, .ref qv, .ref qi, .ref qb, .ref ty, .ref py, .ref tv, .int (iI u_8)])), (qv, .inr (2, [.ref qs, .ref qn, .ref qf, .int (iI u_12), .int (iI u_13), .int (iI u_14)])), (qs, .inl (gI g, 512, .inl (aI u_9))), (qn, .inl (gI g, 512, .inl (aI u_10))), (qf, .inl (gI g, 864, .inl (aI u_11))), (qy, .inr (3, [.ref qh, .ref qc, .int (iI n), .int (iI ho)])), (qh, .inl (gI g, 36, .inl (aI h))), (qc, .inl (gI g, 36, .inl (aI c)))] H := hP
          have hD : va_D A [(qx, .inr (4, [.ref qy, .ref qv, .ref qi, .ref qb, .ref ty, .ref py, .ref tv, .int (iI u_8)])), (qv, .inr (2, [.ref qs, .ref qn, .ref qf, .int (iI u_12), .int (iI u_13), .int (iI u_14)])), (qs, .inl (gI g, 512, .inl (aI u_9))), (qn, .inl (gI g, 512, .inl (aI u_10))), (qf, .inl (gI g, 864, .inl (aI u_11))), (qy, .inr (3, [.ref qh, .ref qc, .int (iI n), .int (iI ho)])), (qh, .inl (gI g, 36, .inl (aI h))), (qc, .inl (gI g, 36, .inl (aI c)))] := hD
          refine ln_top (y := h (y * 6 + x)) (if_pos rfl) ?_
          have hP : va_P g.1 vwCl [(qx, .inr (4, [.ref qy, .ref qv, .ref qi, .ref qb, .ref ty, .ref py, .ref tv, .int (iI u_8)])), (qv, .inr (2, [.ref qs, .ref qn, .ref qf, .int (iI u_12), .int (iI u_13), .int (iI u_14)])), (qs, .inl (gI g, 512, .inl (aI u_9))), (qn, .inl (gI g, 512, .inl (aI u_10))), (qf, .inl (gI g, 864, .inl (aI u_11))), (qy, .inr (3, [.ref qh, .ref qc, .int (iI n), .int (iI ho)])), (qh, .inl (gI g, 36, .inl (aI h))), (qc, .inl (gI g, 36, .inl (aI c)))] _ := hP
          have hD : va_D A [(qx, .inr (4, [.ref qy, .ref qv, .ref qi, .ref qb, .ref ty, .ref py, .ref tv, .int (iI u_8)])), (qv, .inr (2, [.ref qs, .ref qn, .ref qf, .int (iI u_12), .int (iI u_13), .int (iI u_14)])), (qs, .inl (gI g, 512, .inl (aI u_9))), (qn, .inl (gI g, 512, .inl (aI u_10))), (qf, .inl (gI g, 864, .inl (aI u_11))), (qy, .inr (3, [.ref qh, .ref qc, .int (iI n), .int (iI ho)])), (qh, .inl (gI g, 36, .inl (aI h))), (qc, .inl (gI g, 36, .inl (aI c)))] := hD
          exact mend_i (S := Int × (Int → Int) × (Int → Int) × (Int → Int) × Int × Int × Int) (w' := (fun (u9 : Int × (Int → Int) × (Int → Int) × (Int → Int) × Int × Int × Int) => match u9 with | (r2, S2, E2, F2, b2, g2, t2) => [(qx, .inr (4, [.ref qy, .ref qv, .ref qi, .ref qb, .ref ty, .ref py, .ref tv, .int (iI r2)])), (qv, .inr (2, [.ref qs, .ref qn, .ref qf, .int (iI b2), .int (iI g2), .int (iI t2)])), (qs, .inl (gI g, 512, .inl (aI S2))), (qn, .inl (gI g, 512, .inl (aI E2))), (qf, .inl (gI g, 864, .inl (aI F2))), (qy, .inr (3, [.ref qh, .ref qc, .int (iI n), .int (iI ho)])), (qh, .inl (gI g, 36, .inl (aI h))), (qc, .inl (gI g, 36, .inl (aI c)))])) (post := (fun (u9 : Int × (Int → Int) × (Int → Int) × (Int → Int) × Int × Int × Int) => match u9 with | (r2, S2, E2, F2, b2, g2, t2) => VOk r2 n h S2 E2 F2 b2 g2 t2 ∧ (r2 = 0 ∨ r2 = 1))) (r := (fun (u9 : Int × (Int → Int) × (Int → Int) × (Int → Int) × Int × Int × Int) => match u9 with | (r2, S2, E2, F2, b2, g2, t2) => h (y * 6 + x))) hx hb hr hlk hS (u_8, u_9, u_10, u_11, u_12, u_13, u_14) hP hD (⟨by first | exact hV | exact VOk.pic _ _ _ | assumption, by first | exact gdr | exact Or.inr rfl | assumption⟩) (by rfl) (Nat.le_of_ble_eq_true rfl) (Nat.le_of_ble_eq_true rfl) dL_high_29
        · exfalso; omega
set_option maxHeartbeats 800000 in
set_option maxRecDepth 100000 in
theorem c_L_lay (l : Launch) (g : GT) (qx : Nat) (qv : Nat) (qi : Nat) (qb : Nat) (ty : Nat) (py : Nat) (tv : Nat) (dr : Int) (qy : Nat) (qs : Nat) (qn : Nat) (qf : Nat) (S9 : Int → Int) (E9 : Int → Int) (F9 : Int → Int) (vb : Int) (vg : Int) (vt : Int) (qh : Nat) (qc : Nat) (n : Int) (ho : Int) (h : Int → Int) (c : Int → Int) (qa : Nat) (f : Int → Int) (hY : YOk n ho h c) (hV : VOk dr n h S9 E9 F9 vb vg vt) (gdr : dr = 0 ∨ dr = 1) (hf : ∀ j, ¬ sqIn n j → f j = 0) : MutV l yL_lay wsL_lay ({ frames := 6, cells := 0, slots := 0, locals := 140 }) 0 0 g [(qx, .inr (4, [.ref qy, .ref qv, .ref qi, .ref qb, .ref ty, .ref py, .ref tv, .int (iI dr)])), (qv, .inr (2, [.ref qs, .ref qn, .ref qf, .int (iI vb), .int (iI vg), .int (iI vt)])), (qs, .inl (gI g, 512, .inl (aI S9))), (qn, .inl (gI g, 512, .inl (aI E9))), (qf, .inl (gI g, 864, .inl (aI F9))), (qy, .inr (3, [.ref qh, .ref qc, .int (iI n), .int (iI ho)])), (qh, .inl (gI g, 36, .inl (aI h))), (qc, .inl (gI g, 36, .inl (aI c))), (qa, .inl (gI g, 36, .inl (aI f)))] [.ref qx, .ref qa, .int (iI n)] (S := Int × (Int → Int) × (Int → Int) × (Int → Int) × Int × Int × Int) (fun (u9 : Int × (Int → Int) × (Int → Int) × (Int → Int) × Int × Int × Int) => match u9 with | (r2, S2, E2, F2, b2, g2, t2) => VOk r2 n h S2 E2 F2 b2 g2 t2 ∧ (r2 = 0 ∨ r2 = 1)) (fun (u9 : Int × (Int → Int) × (Int → Int) × (Int → Int) × Int × Int × Int) => match u9 with | (r2, S2, E2, F2, b2, g2, t2) => [(qx, .inr (4, [.ref qy, .ref qv, .ref qi, .ref qb, .ref ty, .ref py, .ref tv, .int (iI r2)])), (qv, .inr (2, [.ref qs, .ref qn, .ref qf, .int (iI b2), .int (iI g2), .int (iI t2)])), (qs, .inl (gI g, 512, .inl (aI S2))), (qn, .inl (gI g, 512, .inl (aI E2))), (qf, .inl (gI g, 864, .inl (aI F2))), (qy, .inr (3, [.ref qh, .ref qc, .int (iI n), .int (iI ho)])), (qh, .inl (gI g, 36, .inl (aI h))), (qc, .inl (gI g, 36, .inl (aI c))), (qa, .inl (gI g, 36, .inl (aI h)))]) := by
  refine mut_of (y := yL_lay) (ws := wsL_lay) (av := [.ref qx, .ref qa, .int (iI n)]) (w := [(qx, .inr (4, [.ref qy, .ref qv, .ref qi, .ref qb, .ref ty, .ref py, .ref tv, .int (iI dr)])), (qv, .inr (2, [.ref qs, .ref qn, .ref qf, .int (iI vb), .int (iI vg), .int (iI vt)])), (qs, .inl (gI g, 512, .inl (aI S9))), (qn, .inl (gI g, 512, .inl (aI E9))), (qf, .inl (gI g, 864, .inl (aI F9))), (qy, .inr (3, [.ref qh, .ref qc, .int (iI n), .int (iI ho)])), (qh, .inl (gI g, 36, .inl (aI h))), (qc, .inl (gI g, 36, .inl (aI c))), (qa, .inl (gI g, 36, .inl (aI f)))]) (Qc := fun A => va_Qv (fun (u9 : Int × (Int → Int) × (Int → Int) × (Int → Int) × Int × Int × Int) => (fun (u9 : Int × (Int → Int) × (Int → Int) × (Int → Int) × Int × Int × Int) => match u9 with | (r2, S2, E2, F2, b2, g2, t2) => VOk r2 n h S2 E2 F2 b2 g2 t2 ∧ (r2 = 0 ∨ r2 = 1)) u9) (fun u9 t9 => MB g ((fun (u9 : Int × (Int → Int) × (Int → Int) × (Int → Int) × Int × Int × Int) => match u9 with | (r2, S2, E2, F2, b2, g2, t2) => [(qx, .inr (4, [.ref qy, .ref qv, .ref qi, .ref qb, .ref ty, .ref py, .ref tv, .int (iI r2)])), (qv, .inr (2, [.ref qs, .ref qn, .ref qf, .int (iI b2), .int (iI g2), .int (iI t2)])), (qs, .inl (gI g, 512, .inl (aI S2))), (qn, .inl (gI g, 512, .inl (aI E2))), (qf, .inl (gI g, 864, .inl (aI F2))), (qy, .inr (3, [.ref qh, .ref qc, .int (iI n), .int (iI ho)])), (qh, .inl (gI g, 36, .inl (aI h))), (qc, .inl (gI g, 36, .inl (aI c))), (qa, .inl (gI g, 36, .inl (aI h)))]) u9) A t9) A) (cc := cL_lay) (maxL := 5) (ret := none) (by decide) rfl (Nat.le_of_ble_eq_true rfl) ?_
  intro pZ eZ sZ mZ bZ meZ cZ A F hin hA hP hD hE hS ls hl
  obtain ⟨hx, hb, hr, hml, hts, hown, hlk⟩ := F
  skip
  have hown : sZ.vm.findClass RL = some mZ.cls := hown
  have hl : lv_has ls 5 [(0, .ref qx), (1, .ref qa), (2, .int (iI n))] := hl
  skip
  have hnn := hY.n
  have hho := hY.hr
  have hM9 : MOk (picM n h) := picM_ok hY
  have hI9 : MIn n h (picM n h) := picM_in hY
  refine lv_iconst (v := iI 0) hx hb dL_lay_0 rfl ?_
  refine lv_istore_n (lv' := [(3, .int (iI 0)), (0, .ref qx), (1, .ref qa), (2, .int (iI n))]) hx hb dL_lay_1 rfl hl (by decide) rfl (fun ls hl => ?_)
  have L2 : ∀ (k_1 : Nat) (y : Int) (r8 : Int) (S8 : Int → Int) (E8 : Int → Int) (F8 : Int → Int) (b8 : Int) (G8 : Int) (t8 : Int) (gy : 0 ≤ y) (gl : y ≤ n) (hV8 : VOk r8 n h S8 E8 F8 b8 G8 t8) (hr8 : r8 = 0 ∨ r8 = 1) (H : Heap) (locs : List Loc), va_P g.1 vwCl [(qx, .inr (4, [.ref qy, .ref qv, .ref qi, .ref qb, .ref ty, .ref py, .ref tv, .int (iI r8)])), (qv, .inr (2, [.ref qs, .ref qn, .ref qf, .int (iI b8), .int (iI G8), .int (iI t8)])), (qs, .inl (gI g, 512, .inl (aI S8))), (qn, .inl (gI g, 512, .inl (aI E8))), (qf, .inl (gI g, 864, .inl (aI F8))), (qy, .inr (3, [.ref qh, .ref qc, .int (iI n), .int (iI ho)])), (qh, .inl (gI g, 36, .inl (aI h))), (qc, .inl (gI g, 36, .inl (aI c))), (qa, .inl (gI g, 36, .inl (aI (layK n h f y 0))))] H → va_D A [(qx, .inr (4, [.ref qy, .ref qv, .ref qi, .ref qb, .ref ty, .ref py, .ref tv, .int (iI r8)])), (qv, .inr (2, [.ref qs, .ref qn, .ref qf, .int (iI b8), .int (iI G8), .int (iI t8)])), (qs, .inl (gI g, 512, .inl (aI S8))), (qn, .inl (gI g, 512, .inl (aI E8))), (qf, .inl (gI g, 864, .inl (aI F8))), (qy, .inr (3, [.ref qh, .ref qc, .int (iI n), .int (iI ho)])), (qh, .inl (gI g, 36, .inl (aI h))), (qc, .inl (gI g, 36, .inl (aI c))), (qa, .inl (gI g, 36, .inl (aI (layK n h f y 0))))] → va_S A sZ.heap H locs → ∀ (ls : Array Slot), lv_has ls 5 [(0, .ref qx), (1, .ref qa), (2, .int (iI n)), (3, .int (iI y))] → (n - y).toNat < k_1 → W pZ l eZ ({ frames := 6, cells := 0, slots := 0, locals := 140 } : Room) sZ mZ [.ref qx, .ref qa, .int (iI n)].toArray bZ meZ cZ H locs 0 0 (MQ bZ (va_Qv (fun (u9 : Int × (Int → Int) × (Int → Int) × (Int → Int) × Int × Int × Int) => (fun (u9 : Int × (Int → Int) × (Int → Int) × (Int → Int) × Int × Int × Int) => match u9 with | (r2, S2, E2, F2, b2, g2, t2) => VOk r2 n h S2 E2 F2 b2 g2 t2 ∧ (r2 = 0 ∨ r2 = 1)) u9) (fun u9 t9 => MB g ((fun (u9 : Int × (Int → Int) × (Int → Int) × (Int → Int) × Int × Int × Int) => match u9 with | (r2, S2, E2, F2, b2, g2, t2) => [(qx, .inr (4, [.ref qy, .ref qv, .ref qi, .ref qb, .ref ty, .ref py, .ref tv, .int (iI r2)])), (qv, .inr (2, [.ref qs, .ref qn, .ref qf, .int (iI b2), .int (iI g2), .int (iI t2)])), (qs, .inl (gI g, 512, .inl (aI S2))), (qn, .inl (gI g, 512, .inl (aI E2))), (qf, .inl (gI g, 864, .inl (aI F2))), (qy, .inr (3, [.ref qh, .ref qc, .int (iI n), .int (iI ho)])), (qh, .inl (gI g, 36, .inl (aI h))), (qc, .inl (gI g, 36, .inl (aI c))), (qa, .inl (gI g, 36, .inl (aI h)))]) u9) A t9) A) [.ref qx, .ref qa, .int (iI n)].toArray sZ 0 0 A) (F0 mZ 2 ls []) := by
    intro k_1
    induction k_1 with
    | zero => intro y r8 S8 E8 F8 b8 G8 t8 gy gl hV8 hr8 H locs hP hD hS ls hl hm_3; exact absurd hm_3 (Nat.not_lt_zero _)
    | succ k_1 ih_2 =>
      intro y r8 S8 E8 F8 b8 G8 t8 gy gl hV8 hr8 H locs hP hD hS ls hl hm_3
      refine lv_iload_n hx hb dL_lay_2 rfl (lv_at hl 3 rfl) ?_
      refine lv_iload_n hx hb dL_lay_3 rfl (lv_at hl 2 rfl) ?_
      refine ln_icmp_ge (tgt := 45) hx hb dL_lay_4 (by decide) ⟨by omega, by omega⟩ ⟨by omega, by omega⟩ (fun c_4 => ?_) (fun c_4 => ?_)
      · skip
        have hP := hP.recell 8 rfl h (fun j _ _ => by rw [show y = n by omega]; exact layK_n hY hf j)
        have hD := hD.set (p := 8) (e := .inl (gI g, 36, .inl (aI h))) rfl
        have hP : va_P g.1 vwCl [(qx, .inr (4, [.ref qy, .ref qv, .ref qi, .ref qb, .ref ty, .ref py, .ref tv, .int (iI r8)])), (qv, .inr (2, [.ref qs, .ref qn, .ref qf, .int (iI b8), .int (iI G8), .int (iI t8)])), (qs, .inl (gI g, 512, .inl (aI S8))), (qn, .inl (gI g, 512, .inl (aI E8))), (qf, .inl (gI g, 864, .inl (aI F8))), (qy, .inr (3, [.ref qh, .ref qc, .int (iI n), .int (iI ho)])), (qh, .inl (gI g, 36, .inl (aI h))), (qc, .inl (gI g, 36, .inl (aI c))), (qa, .inl (gI g, 36, .inl (aI h)))] _ := hP
        have hD : va_D A [(qx, .inr (4, [.ref qy, .ref qv, .ref qi, .ref qb, .ref ty, .ref py, .ref tv, .int (iI r8)])), (qv, .inr (2, [.ref qs, .ref qn, .ref qf, .int (iI b8), .int (iI G8), .int (iI t8)])), (qs, .inl (gI g, 512, .inl (aI S8))), (qn, .inl (gI g, 512, .inl (aI E8))), (qf, .inl (gI g, 864, .inl (aI F8))), (qy, .inr (3, [.ref qh, .ref qc, .int (iI n), .int (iI ho)])), (qh, .inl (gI g, 36, .inl (aI h))), (qc, .inl (gI g, 36, .inl (aI c))), (qa, .inl (gI g, 36, .inl (aI h)))] := hD
        exact mend_v (S := Int × (Int → Int) × (Int → Int) × (Int → Int) × Int × Int × Int) (w' := (fun (u9 : Int × (Int → Int) × (Int → Int) × (Int → Int) × Int × Int × Int) => match u9 with | (r2, S2, E2, F2, b2, g2, t2) => [(qx, .inr (4, [.ref qy, .ref qv, .ref qi, .ref qb, .ref ty, .ref py, .ref tv, .int (iI r2)])), (qv, .inr (2, [.ref qs, .ref qn, .ref qf, .int (iI b2), .int (iI g2), .int (iI t2)])), (qs, .inl (gI g, 512, .inl (aI S2))), (qn, .inl (gI g, 512, .inl (aI E2))), (qf, .inl (gI g, 864, .inl (aI F2))), (qy, .inr (3, [.ref qh, .ref qc, .int (iI n), .int (iI ho)])), (qh, .inl (gI g, 36, .inl (aI h))), (qc, .inl (gI g, 36, .inl (aI c))), (qa, .inl (gI g, 36, .inl (aI h)))])) (post := (fun (u9 : Int × (Int → Int) × (Int → Int) × (Int → Int) × Int × Int × Int) => match u9 with | (r2, S2, E2, F2, b2, g2, t2) => VOk r2 n h S2 E2 F2 b2 g2 t2 ∧ (r2 = 0 ∨ r2 = 1))) hx hb hr hlk hS (r8, S8, E8, F8, b8, G8, t8) hP hD (⟨by first | exact hV | exact VOk.pic _ _ _ | assumption, by first | exact gdr | exact Or.inr rfl | assumption⟩) (Nat.le_of_ble_eq_true rfl) (Nat.le_of_ble_eq_true rfl) dL_lay_45
      · skip
        refine lv_iconst (v := iI 0) hx hb dL_lay_7 rfl ?_
        refine lv_istore (lv' := [(4, .int (iI 0)), (0, .ref qx), (1, .ref qa), (2, .int (iI n)), (3, .int (iI y))]) hx hb dL_lay_8 hl (by decide) rfl (fun ls hl => ?_)
        have L10 : ∀ (k_5 : Nat) (x : Int) (r7 : Int) (S7 : Int → Int) (E7 : Int → Int) (F7 : Int → Int) (b7 : Int) (G7 : Int) (t7 : Int) (gx : 0 ≤ x) (gm : x ≤ n) (hV7 : VOk r7 n h S7 E7 F7 b7 G7 t7) (hr7 : r7 = 0 ∨ r7 = 1) (H : Heap) (locs : List Loc), va_P g.1 vwCl [(qx, .inr (4, [.ref qy, .ref qv, .ref qi, .ref qb, .ref ty, .ref py, .ref tv, .int (iI r7)])), (qv, .inr (2, [.ref qs, .ref qn, .ref qf, .int (iI b7), .int (iI G7), .int (iI t7)])), (qs, .inl (gI g, 512, .inl (aI S7))), (qn, .inl (gI g, 512, .inl (aI E7))), (qf, .inl (gI g, 864, .inl (aI F7))), (qy, .inr (3, [.ref qh, .ref qc, .int (iI n), .int (iI ho)])), (qh, .inl (gI g, 36, .inl (aI h))), (qc, .inl (gI g, 36, .inl (aI c))), (qa, .inl (gI g, 36, .inl (aI (layK n h f y x))))] H → va_D A [(qx, .inr (4, [.ref qy, .ref qv, .ref qi, .ref qb, .ref ty, .ref py, .ref tv, .int (iI r7)])), (qv, .inr (2, [.ref qs, .ref qn, .ref qf, .int (iI b7), .int (iI G7), .int (iI t7)])), (qs, .inl (gI g, 512, .inl (aI S7))), (qn, .inl (gI g, 512, .inl (aI E7))), (qf, .inl (gI g, 864, .inl (aI F7))), (qy, .inr (3, [.ref qh, .ref qc, .int (iI n), .int (iI ho)])), (qh, .inl (gI g, 36, .inl (aI h))), (qc, .inl (gI g, 36, .inl (aI c))), (qa, .inl (gI g, 36, .inl (aI (layK n h f y x))))] → va_S A sZ.heap H locs → ∀ (ls : Array Slot), lv_has ls 5 [(0, .ref qx), (1, .ref qa), (2, .int (iI n)), (3, .int (iI y)), (4, .int (iI x))] → (n - x).toNat < k_5 → W pZ l eZ ({ frames := 6, cells := 0, slots := 0, locals := 140 } : Room) sZ mZ [.ref qx, .ref qa, .int (iI n)].toArray bZ meZ cZ H locs 0 0 (MQ bZ (va_Qv (fun (u9 : Int × (Int → Int) × (Int → Int) × (Int → Int) × Int × Int × Int) => (fun (u9 : Int × (Int → Int) × (Int → Int) × (Int → Int) × Int × Int × Int) => match u9 with | (r2, S2, E2, F2, b2, g2, t2) => VOk r2 n h S2 E2 F2 b2 g2 t2 ∧ (r2 = 0 ∨ r2 = 1)) u9) (fun u9 t9 => MB g ((fun (u9 : Int × (Int → Int) × (Int → Int) × (Int → Int) × Int × Int × Int) => match u9 with | (r2, S2, E2, F2, b2, g2, t2) => [(qx, .inr (4, [.ref qy, .ref qv, .ref qi, .ref qb, .ref ty, .ref py, .ref tv, .int (iI r2)])), (qv, .inr (2, [.ref qs, .ref qn, .ref qf, .int (iI b2), .int (iI g2), .int (iI t2)])), (qs, .inl (gI g, 512, .inl (aI S2))), (qn, .inl (gI g, 512, .inl (aI E2))), (qf, .inl (gI g, 864, .inl (aI F2))), (qy, .inr (3, [.ref qh, .ref qc, .int (iI n), .int (iI ho)])), (qh, .inl (gI g, 36, .inl (aI h))), (qc, .inl (gI g, 36, .inl (aI c))), (qa, .inl (gI g, 36, .inl (aI h)))]) u9) A t9) A) [.ref qx, .ref qa, .int (iI n)].toArray sZ 0 0 A) (F0 mZ 10 ls []) := by
          intro k_5
          induction k_5 with
          | zero => intro x r7 S7 E7 F7 b7 G7 t7 gx gm hV7 hr7 H locs hP hD hS ls hl hm_7; exact absurd hm_7 (Nat.not_lt_zero _)
          | succ k_5 ih_6 =>
            intro x r7 S7 E7 F7 b7 G7 t7 gx gm hV7 hr7 H locs hP hD hS ls hl hm_7
            refine lv_iload hx hb dL_lay_10 (lv_at hl 4 rfl) ?_
            refine lv_iload_n hx hb dL_lay_12 rfl (lv_at hl 2 rfl) ?_
            refine ln_icmp_ge (tgt := 39) hx hb dL_lay_13 (by decide) ⟨by omega, by omega⟩ ⟨by omega, by omega⟩ (fun c_8 => ?_) (fun c_8 => ?_)
            · skip
              refine lv_iinc (v := iI (y + 1)) (lv' := [(3, .int (iI (y + 1))), (0, .ref qx), (1, .ref qa), (2, .int (iI n)), (4, .int (iI x))]) hx hb dL_lay_39 hl (k := 3) rfl (iI_add _ _) (by decide) rfl (fun ls hl => ?_)
              refine lv_goto (tgt := 2) hx hb dL_lay_42 (by decide) ?_
              have hl : lv_has ls 5 [(3, .int (iI (y + 1))), (0, .ref qx), (1, .ref qa), (2, .int (iI n)), (4, .int (iI x))] := hl
              have hP := hP.recell 8 rfl (layK n h f (y + 1) 0) (fun j _ _ => by rw [show x = n by omega]; exact layK_row j)
              have hD := hD.set (p := 8) (e := .inl (gI g, 36, .inl (aI (layK n h f (y + 1) 0)))) rfl
              exact ih_2 (y + 1) r7 S7 E7 F7 b7 G7 t7 (by omega) (by omega) hV7 hr7 _ _ hP hD hS _ (lv_sub hl [1, 2, 3, 0] rfl) (by omega)
            · skip
              refine lv_aload_n hx hb dL_lay_16 rfl (lv_at hl 1 rfl) ?_
              refine lv_bipush (v := iI 6) hx hb dL_lay_17 (by decide) ?_
              refine lv_iload_n hx hb dL_lay_19 rfl (lv_at hl 3 rfl) ?_
              refine ln_imul hx hb (6 * y) (rfl) dL_lay_20 ?_
              refine lv_iload hx hb dL_lay_21 (lv_at hl 4 rfl) ?_
              refine ln_iadd hx hb (6 * y + x) (rfl) dL_lay_23 ?_
              refine lv_aload_n hx hb dL_lay_24 rfl (lv_at hl 0 rfl) ?_
              refine lv_iload hx hb dL_lay_25 (lv_at hl 4 rfl) ?_
              refine lv_iload_n hx hb dL_lay_27 rfl (lv_at hl 3 rfl) ?_
              refine lv_iconst (v := iI 0) hx hb dL_lay_28 rfl ?_
              have hPc_9 := hP.sub (ws' := [(qx, .inr (4, [.ref qy, .ref qv, .ref qi, .ref qb, .ref ty, .ref py, .ref tv, .int (iI r7)])), (qv, .inr (2, [.ref qs, .ref qn, .ref qf, .int (iI b7), .int (iI G7), .int (iI t7)])), (qs, .inl (gI g, 512, .inl (aI S7))), (qn, .inl (gI g, 512, .inl (aI E7))), (qf, .inl (gI g, 864, .inl (aI F7))), (qy, .inr (3, [.ref qh, .ref qc, .int (iI n), .int (iI ho)])), (qh, .inl (gI g, 36, .inl (aI h))), (qc, .inl (gI g, 36, .inl (aI c)))]) [0, 1, 2, 3, 4, 5, 6, 7] rfl
              have hDc_10 := hD.sub (ws' := [(qx, .inr (4, [.ref qy, .ref qv, .ref qi, .ref qb, .ref ty, .ref py, .ref tv, .int (iI r7)])), (qv, .inr (2, [.ref qs, .ref qn, .ref qf, .int (iI b7), .int (iI G7), .int (iI t7)])), (qs, .inl (gI g, 512, .inl (aI S7))), (qn, .inl (gI g, 512, .inl (aI E7))), (qf, .inl (gI g, 864, .inl (aI F7))), (qy, .inr (3, [.ref qh, .ref qc, .int (iI n), .int (iI ho)])), (qh, .inl (gI g, 36, .inl (aI h))), (qc, .inl (gI g, 36, .inl (aI c)))]) [0, 1, 2, 3, 4, 5, 6, 7] (by decide) rfl
              have hFc_11 := va_free (wc := [(qx, .inr (4, [.ref qy, .ref qv, .ref qi, .ref qb, .ref ty, .ref py, .ref tv, .int (iI r7)])), (qv, .inr (2, [.ref qs, .ref qn, .ref qf, .int (iI b7), .int (iI G7), .int (iI t7)])), (qs, .inl (gI g, 512, .inl (aI S7))), (qn, .inl (gI g, 512, .inl (aI E7))), (qf, .inl (gI g, 864, .inl (aI F7))), (qy, .inr (3, [.ref qh, .ref qc, .int (iI n), .int (iI ho)])), (qh, .inl (gI g, 36, .inl (aI h))), (qc, .inl (gI g, 36, .inl (aI c)))]) hD hS hA [0, 1, 2, 3, 4, 5, 6, 7] rfl
              refine mc_i (wr := [(qa, .inl (gI g, 36, .inl (aI (layK n h f y x))))]) (cells1 := 0) (slots1 := 0) (va_runV (As := [.int (iI x), .int (iI y), .int (iI 0)]) (rest := [.int (iI (6 * y + x)), .ref qa]) ⟨hx, hb, hml, hown, hts⟩ (c_X4_stack_ok l g qx qv qi qb ty py tv r7 qy qs qn qf S7 E7 F7 b7 G7 t7 qh qc n ho h c x y 0 hY hV7 hr7 gx (by omega) gy (by omega) (by omega) H.size) (cwV 3 hts gL_lay_X4_stack rfl rfl rfl (by decide +kernel) ⟨Nat.le_of_ble_eq_true rfl, Nat.le_of_ble_eq_true rfl⟩) (muV hE hS hPc_9 hDc_10 hFc_11 rfl rfl) rfl rfl hl.1 rfl (lv_room (Nat.le_of_ble_eq_true rfl)) dL_lay_29 ⟨Nat.le_of_ble_eq_true rfl, Nat.le_of_ble_eq_true rfl⟩) hP hD hS hA [0, 1, 2, 3, 4, 5, 6, 7] [8] [1, 2, 3, 4, 5, 6, 7, 8, 0] rfl rfl (by decide) (by decide) (fun (u9 : Int × (Int → Int) × (Int → Int) × (Int → Int) × Int × Int × Int) => match u9 with | (u_12, u_13, u_14, u_15, u_16, u_17, u_18) => [(qx, .inr (4, [.ref qy, .ref qv, .ref qi, .ref qb, .ref ty, .ref py, .ref tv, .int (iI u_12)])), (qv, .inr (2, [.ref qs, .ref qn, .ref qf, .int (iI u_16), .int (iI u_17), .int (iI u_18)])), (qs, .inl (gI g, 512, .inl (aI u_13))), (qn, .inl (gI g, 512, .inl (aI u_14))), (qf, .inl (gI g, 864, .inl (aI u_15))), (qy, .inr (3, [.ref qh, .ref qc, .int (iI n), .int (iI ho)])), (qh, .inl (gI g, 36, .inl (aI h))), (qc, .inl (gI g, 36, .inl (aI c))), (qa, .inl (gI g, 36, .inl (aI (layK n h f y x))))]) (fun _ => rfl) (by decide) (Nat.le_of_ble_eq_true rfl) (Nat.le_of_ble_eq_true rfl) (fun u9 H locs hu_19 hP hD hS => ?_)
              obtain ⟨u_12, u_13, u_14, u_15, u_16, u_17, u_18⟩ := u9
              obtain ⟨hq_20, hq_21⟩ := hu_19
              have hq_20 : VOk u_12 n h u_13 u_14 u_15 u_16 u_17 u_18 := hq_20
              have hq_21 : (u_12 = 0 ∨ u_12 = 1) := hq_21
              have hP : va_P g.1 vwCl [(qx, .inr (4, [.ref qy, .ref qv, .ref qi, .ref qb, .ref ty, .ref py, .ref tv, .int (iI u_12)])), (qv, .inr (2, [.ref qs, .ref qn, .ref qf, .int (iI u_16), .int (iI u_17), .int (iI u_18)])), (qs, .inl (gI g, 512, .inl (aI u_13))), (qn, .inl (gI g, 512, .inl (aI u_14))), (qf, .inl (gI g, 864, .inl (aI u_15))), (qy, .inr (3, [.ref qh, .ref qc, .int (iI n), .int (iI ho)])), (qh, .inl (gI g, 36, .inl (aI h))), (qc, .inl (gI g, 36, .inl (aI c))), (qa, .inl (gI g, 36, .inl (aI (layK n h f y x))))] H := hP
              have hD : va_D A [(qx, .inr (4, [.ref qy, .ref qv, .ref qi, .ref qb, .ref ty, .ref py, .ref tv, .int (iI u_12)])), (qv, .inr (2, [.ref qs, .ref qn, .ref qf, .int (iI u_16), .int (iI u_17), .int (iI u_18)])), (qs, .inl (gI g, 512, .inl (aI u_13))), (qn, .inl (gI g, 512, .inl (aI u_14))), (qf, .inl (gI g, 864, .inl (aI u_15))), (qy, .inr (3, [.ref qh, .ref qc, .int (iI n), .int (iI ho)])), (qh, .inl (gI g, 36, .inl (aI h))), (qc, .inl (gI g, 36, .inl (aI c))), (qa, .inl (gI g, 36, .inl (aI (layK n h f y x))))] := hD
              refine ln_top (y := h (y * 6 + x)) (if_pos rfl) ?_
              refine ln_iast hx hb hE hP hD hS 8 rfl (by omega) (by omega) (Nat.le_of_ble_eq_true rfl) ((layK n h f y (x + 1))) (fun j _ _ => layK_s hnn.2 gx (by omega) gy (by omega) j) dL_lay_32 (fun H locs hP hD hS => ?_)
              have hP : va_P g.1 vwCl [(qx, .inr (4, [.ref qy, .ref qv, .ref qi, .ref qb, .ref ty, .ref py, .ref tv, .int (iI u_12)])), (qv, .inr (2, [.ref qs, .ref qn, .ref qf, .int (iI u_16), .int (iI u_17), .int (iI u_18)])), (qs, .inl (gI g, 512, .inl (aI u_13))), (qn, .inl (gI g, 512, .inl (aI u_14))), (qf, .inl (gI g, 864, .inl (aI u_15))), (qy, .inr (3, [.ref qh, .ref qc, .int (iI n), .int (iI ho)])), (qh, .inl (gI g, 36, .inl (aI h))), (qc, .inl (gI g, 36, .inl (aI c))), (qa, .inl (gI g, 36, .inl (aI ((layK n h f y (x + 1))))))] H := hP
              have hD : va_D A [(qx, .inr (4, [.ref qy, .ref qv, .ref qi, .ref qb, .ref ty, .ref py, .ref tv, .int (iI u_12)])), (qv, .inr (2, [.ref qs, .ref qn, .ref qf, .int (iI u_16), .int (iI u_17), .int (iI u_18)])), (qs, .inl (gI g, 512, .inl (aI u_13))), (qn, .inl (gI g, 512, .inl (aI u_14))), (qf, .inl (gI g, 864, .inl (aI u_15))), (qy, .inr (3, [.ref qh, .ref qc, .int (iI n), .int (iI ho)])), (qh, .inl (gI g, 36, .inl (aI h))), (qc, .inl (gI g, 36, .inl (aI c))), (qa, .inl (gI g, 36, .inl (aI ((layK n h f y (x + 1))))))] := hD
              refine lv_iinc (v := iI (x + 1)) (lv' := [(4, .int (iI (x + 1))), (0, .ref qx), (1, .ref qa), (2, .int (iI n)), (3, .int (iI y))]) hx hb dL_lay_33 hl (k := 4) rfl (iI_add _ _) (by decide) rfl (fun ls hl => ?_)
              refine lv_goto (tgt := 10) hx hb dL_lay_36 (by decide) ?_
              have hl : lv_has ls 5 [(4, .int (iI (x + 1))), (0, .ref qx), (1, .ref qa), (2, .int (iI n)), (3, .int (iI y))] := hl
              exact ih_6 (x + 1) u_12 u_13 u_14 u_15 u_16 u_17 u_18 (by omega) (by omega) hq_20 (by omega) _ _ hP hD hS _ (lv_sub hl [1, 2, 3, 4, 0] rfl) (by omega)
        have hl : lv_has ls 5 [(4, .int (iI 0)), (0, .ref qx), (1, .ref qa), (2, .int (iI n)), (3, .int (iI y))] := hl
        exact L10 _ 0 r8 S8 E8 F8 b8 G8 t8 (by omega) (by omega) hV8 hr8 _ _ hP hD hS _ (lv_sub hl [1, 2, 3, 4, 0] rfl) (Nat.lt_succ_self _)
  have hl : lv_has ls 5 [(3, .int (iI 0)), (0, .ref qx), (1, .ref qa), (2, .int (iI n))] := hl
  have hP := hP.recell 8 rfl (layK n h f 0 0) (fun j _ _ => (layK_0 n h f j).symm)
  have hD := hD.set (p := 8) (e := .inl (gI g, 36, .inl (aI (layK n h f 0 0)))) rfl
  exact L2 _ 0 dr S9 E9 F9 vb vg vt (by omega) (by omega) hV gdr _ _ hP hD hS _ (lv_sub hl [1, 2, 3, 0] rfl) (Nat.lt_succ_self _)

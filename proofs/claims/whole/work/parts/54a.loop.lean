theorem and31 (x : Int32) : ∃ v : Int, 0 ≤ v ∧ v ≤ 31 ∧ x &&& iI 31 = iI v := by
  have e : (iI 31).toBitVec.toNat = 31 := by decide
  have h : (x &&& iI 31).toBitVec.toNat ≤ 31 := by
    rw [Int32.toBitVec_and, BitVec.toNat_and, e]
    exact Nat.and_le_right
  refine ⟨((x &&& iI 31).toBitVec.toNat : Int), by omega, by omega, ?_⟩
  rw [← iI_nat, ← Int32.toBitVec_inj]
  show _ = BitVec.ofNat 32 _
  simp
set_option maxHeartbeats 8000000 in
set_option maxRecDepth 100000 in
theorem law_loop {pZ : Program} {l : Launch} {eZ : Env} {sZ : State} {mZ : MethodId} {bZ : List Frame} {meZ : Method} {cZ : Code} {bS LS : Nat} {xs : Nat → Int32} {g : GT} {A : Nat → Prop} {Q : State → Prop} (qx : Nat) (qv : Nat) (qi : Nat) (qb : Nat) (ty : Nat) (py : Nat) (tv : Nat) (qy : Nat) (qh : Nat) (qc : Nat) (qs : Nat) (qn : Nat) (qf : Nat) (qz : Nat) (sa : Nat → Nat) (sh : Nat → Nat) (sc : Nat → Nat) (qk : Nat) (th : Nat) (tc : Nat) (ph : Nat) (pc : Nat) (ts : Nat) (te : Nat) (tf : Nat) (qm : Nat) (mz : Nat) (ms : Nat) (mp : Nat) (mb : Nat) (m1 : Nat) (m2 : Nat) (m3 : Nat) (mB : Nat) (mF : Nat) (mN : Nat) (mS : Nat) (mW : Nat) (qo : Nat) (C0 : lw_At pZ sZ mZ meZ cZ bS LS xs) (hA : ∀ q : Nat, sZ.heap.size ≤ q → A q) (hbA : ¬ A bS) (hE : EN g A sZ sZ.heap) (hst : l.stackTraces = false) (hLS : LS ≤ 2560) (fin : ∀ (H : Heap) (locs : List Loc) (ls : Array Slot), va_S A sZ.heap H locs → W pZ l eZ room_1 sZ mZ #[Value.ref bS] bZ meZ cZ H locs 601024 7293034 Q (F0 mZ 1575 ls [.int 1])) : ∀ (k t : Nat), t + k = 514 → t ≤ 512 → ∀ (i : Int), i = 5 * (t : Int) → ∀ (dr : Int) (n : Int) (ho : Int) (h : Int → Int) (c : Int → Int) (S9 : Int → Int) (E9 : Int → Int) (F9 : Int → Int) (vb : Int) (vg : Int) (vt : Int) (hf : Int) (hn : Int) (HN : Int → Int) (HO : Int → Int) (HH : Int → Int → Int) (HC : Int → Int → Int) (b : Int → Int) (L : Int) (tn : Int) (tO : Int) (tH : Int → Int) (tC : Int → Int) (pn : Int) (po : Int) (pH : Int → Int) (pC : Int → Int) (sT : Int → Int) (eT : Int → Int) (fT : Int → Int) (bT : Int) (gT : Int) (lT : Int) (rt : Int) (ms9 : Int) (ac9 : Int64) (f : Int → Int) (fP : Int → Int) (fB : Int → Int) (fG : Int → Int) (fN : Int → Int) (fS : Int → Int) (fW : Int → Int) (o : Int64), LInv dr n ho h c S9 E9 F9 vb vg vt hf hn HN HO HH HC b L f → ∀ (H : Heap) (locs : List Loc), va_P g.1 vwCl (LWld g qx qv qi qb ty py tv qy qh qc qs qn qf qz sa sh sc qk th tc ph pc ts te tf qm mz ms mp mb m1 m2 m3 mB mF mN mS mW qo dr n ho h c S9 E9 F9 vb vg vt hf hn HN HO HH HC b L tn tO tH tC pn po pH pC sT eT fT bT gT lT rt ms9 ac9 f fP fB fG fN fS fW o) H → va_D A (LWld g qx qv qi qb ty py tv qy qh qc qs qn qf qz sa sh sc qk th tc ph pc ts te tf qm mz ms mp mb m1 m2 m3 mB mF mN mS mW qo dr n ho h c S9 E9 F9 vb vg vt hf hn HN HO HH HC b L tn tO tH tC pn po pH pC sT eT fT bT gT lT rt ms9 ac9 f fP fB fG fN fS fW o) → va_S A sZ.heap H locs → ∀ ls : Array Slot, lv_has ls 9 [(0, .ref bS), (1, .ref qx), (2, .ref qm), (3, .ref qo), (4, .int (iI i))] → W pZ l eZ room_1 sZ mZ #[Value.ref bS] bZ meZ cZ H locs (54 + t) (10173 + 6 * t) Q (F0 mZ 23 ls []) := by
  intro k
  induction k with
  | zero => intro t ht ht2; omega
  | succ k ih =>
    intro t ht ht2 i hit dr n ho h c S9 E9 F9 vb vg vt hf hn HN HO HH HC b L tn tO tH tC pn po pH pC sT eT fT bT gT lT rt ms9 ac9 f fP fB fG fN fS fW o hI H locs hP hD hS ls hl
    obtain ⟨hx, hb, hr, hml, hown, hts, hX, hbl, hlk, hgv⟩ := id C0
    obtain ⟨hY, hQ, hV, gdr, hB, hSV⟩ := id hI
    have hnn := hY.n
    have hi : 0 ≤ i := by omega
    refine lv_iload hx hb dL_law_23 (lv_at hl 4 rfl) ?_
    refine lv_aload_n hx hb dL_law_25 rfl (lv_at hl 0 rfl) ?_
    refine va_slen hx hb hX hbl hbA hS dL_law_26 ?_
    refine ln_topv (w := .int (iI (LS : Int))) (congrArg Value.int (iI_nat LS)) ?_
    refine lv_iconst (v := iI 5) hx hb dL_law_27 rfl ?_
    refine ln_isub hx hb ((LS : Int) - 5) rfl dL_law_28 ?_
    refine ln_icmp_gt (tgt := 1574) hx hb dL_law_29 (by decide) ⟨by omega, by omega⟩ ⟨by omega, by omega⟩ (fun c1 => ?_) (fun c1 => ?_)
    · refine W.widen (k := 601024) (n := 7293034) (by omega) (by omega) ?_
      refine lv_iconst (v := 1) hx hb dL_law_1574 rfl ?_
      exact fin H locs ls hS
    have hi5 : i + 5 ≤ (LS : Int) := by omega
    have hc : (54 + t) + 1 ≤ room_1.cells := by show _ ≤ 601024; omega
    have hs : (10173 + 6 * t) + 6 ≤ room_1.slots := by show _ ≤ 7293034; omega
    obtain ⟨a1, r1, e1⟩ := iI_ex (xs (iI (i + 1)).toNatClampNeg)
    obtain ⟨a2, r2, e2⟩ := iI_ex (xs (iI (i + 2)).toNatClampNeg)
    obtain ⟨a3, r3, e3⟩ := iI_ex (xs (iI (i + 3)).toNatClampNeg)
    obtain ⟨a4, r4, e4⟩ := iI_ex (xs (iI (i + 4)).toNatClampNeg)
    have cont : LC pZ l eZ sZ mZ bZ meZ cZ bS g A Q (54 + t) (10173 + 6 * t) i qx qv qi qb ty py tv qy qh qc qs qn qf qz sa sh sc qk th tc ph pc ts te tf qm mz ms mp mb m1 m2 m3 mB mF mN mS mW qo := by
      intro dr_z n_z ho_z h_z c_z S9_z E9_z F9_z vb_z vg_z vt_z hf_z hn_z HN_z HO_z HH_z HC_z b_z L_z tn_z tO_z tH_z tC_z pn_z po_z pH_z pC_z sT_z eT_z fT_z bT_z gT_z lT_z rt_z ms9_z ac9_z f_z fP_z fB_z fG_z fN_z fS_z fW_z o_z hI9 H locs hP hD hS ls hl
      refine lv_iinc (v := iI (i + 5)) (lv' := [(4, .int (iI (i + 5))), (0, .ref bS), (1, .ref qx), (2, .ref qm), (3, .ref qo)]) hx hb dL_law_1568 hl (k := 4) rfl (iI_add _ _) (by decide) rfl (fun ls hl => ?_)
      refine lv_goto (tgt := 23) hx hb dL_law_1571 (by decide) ?_
      exact ih (t + 1) (by omega) (by omega) (i + 5) (by omega) dr_z n_z ho_z h_z c_z S9_z E9_z F9_z vb_z vg_z vt_z hf_z hn_z HN_z HO_z HH_z HC_z b_z L_z tn_z tO_z tH_z tC_z pn_z po_z pH_z pC_z sT_z eT_z fT_z bT_z gT_z lT_z rt_z ms9_z ac9_z f_z fP_z fB_z fG_z fN_z fS_z fW_z o_z hI9 H locs hP hD hS ls (lv_sub hl [1, 2, 3, 4, 0] rfl)
    refine lv_aload_n hx hb dL_law_32 rfl (lv_at hl 0 rfl) ?_
    refine lv_iload hx hb dL_law_33 (lv_at hl 4 rfl) ?_
    refine va_sld hx hb hX hbl hbA hS (iI_in (by omega) (by omega) (by omega)) dL_law_35 ?_
    refine lv_bipush (v := iI 31) hx hb dL_law_36 (by decide) ?_
    obtain ⟨v, hv0, hv1, ev⟩ := and31 (xs (iI i).toNatClampNeg)
    refine lv_iand hx hb dL_law_38 ?_
    refine ln_topv (w := .int (iI v)) (congrArg Value.int ev) ?_
    rcases (show (v = 0 ∨ v = 1 ∨ v = 2 ∨ v = 3 ∨ v = 4 ∨ v = 5 ∨ v = 6 ∨ v = 7 ∨ v = 8 ∨ v = 9 ∨ v = 10 ∨ v = 11 ∨ v = 12 ∨ v = 13 ∨ v = 14 ∨ v = 15 ∨ v = 16 ∨ v = 17 ∨ v = 18 ∨ v = 19 ∨ v = 20 ∨ v = 21 ∨ v = 22 ∨ v = 23 ∨ v = 24 ∨ v = 25) ∨ 26 ≤ v by omega) with (c2 | c2 | c2 | c2 | c2 | c2 | c2 | c2 | c2 | c2 | c2 | c2 | c2 | c2 | c2 | c2 | c2 | c2 | c2 | c2 | c2 | c2 | c2 | c2 | c2 | c2) | c2
    · refine ln_tableIn (tgt := 156) hx hb ⟨by omega, by omega⟩ dL_law_39 (by omega) (by omega) (off := 117) (by rw [c2]; rfl) (by decide) ?_
      by_cases q : 2 ≤ a1 ∧ a1 ≤ 6
      · skip
        exact law_begin_ok qx qv qi qb ty py tv qy qh qc qs qn qf qz sa sh sc qk th tc ph pc ts te tf qm mz ms mp mb m1 m2 m3 mB mF mN mS mW qo dr n ho h c S9 E9 F9 vb vg vt hf hn HN HO HH HC b L tn tO tH tC pn po pH pC sT eT fT bT gT lT rt ms9 ac9 f fP fB fG fN fS fW o C0 hA hbA hE hst hc hs hI hi hi5 hLS a1 a2 a3 a4 r1 r2 r3 r4 e1 e2 e3 e4 q hP hD hS hl cont
      · skip
        exact law_begin_x1 qx qv qi qb ty py tv qy qh qc qs qn qf qz sa sh sc qk th tc ph pc ts te tf qm mz ms mp mb m1 m2 m3 mB mF mN mS mW qo dr n ho h c S9 E9 F9 vb vg vt hf hn HN HO HH HC b L tn tO tH tC pn po pH pC sT eT fT bT gT lT rt ms9 ac9 f fP fB fG fN fS fW o C0 hA hbA hE hst hc hs hI hi hi5 hLS a1 a2 a3 a4 r1 r2 r3 r4 e1 e2 e3 e4 (by omega) hP hD hS hl cont
    · refine ln_tableIn (tgt := 212) hx hb ⟨by omega, by omega⟩ dL_law_39 (by omega) (by omega) (off := 173) (by rw [c2]; rfl) (by decide) ?_
      by_cases s1 : okS n a1 a2
      · skip
        by_cases q : 0 ≤ a3 ∧ a3 ≤ 3
        · skip
          by_cases q2 : h (a2 * 6 + a1) < 8
          · skip
            exact law_put_ok qx qv qi qb ty py tv qy qh qc qs qn qf qz sa sh sc qk th tc ph pc ts te tf qm mz ms mp mb m1 m2 m3 mB mF mN mS mW qo dr n ho h c S9 E9 F9 vb vg vt hf hn HN HO HH HC b L tn tO tH tC pn po pH pC sT eT fT bT gT lT rt ms9 ac9 f fP fB fG fN fS fW o C0 hA hbA hE hst hc hs hI hi hi5 hLS a1 a2 a3 a4 r1 r2 r3 r4 e1 e2 e3 e4 s1.1.1 s1.1.2 s1.2.1 s1.2.2 q q2 hP hD hS hl cont
          · skip
            exact law_put_x3 qx qv qi qb ty py tv qy qh qc qs qn qf qz sa sh sc qk th tc ph pc ts te tf qm mz ms mp mb m1 m2 m3 mB mF mN mS mW qo dr n ho h c S9 E9 F9 vb vg vt hf hn HN HO HH HC b L tn tO tH tC pn po pH pC sT eT fT bT gT lT rt ms9 ac9 f fP fB fG fN fS fW o C0 hA hbA hE hst hc hs hI hi hi5 hLS a1 a2 a3 a4 r1 r2 r3 r4 e1 e2 e3 e4 s1.1.1 s1.1.2 s1.2.1 s1.2.2 q (by have := hY.h (a2 * 6 + a1); omega) hP hD hS hl cont
        · skip
          exact law_put_x2 qx qv qi qb ty py tv qy qh qc qs qn qf qz sa sh sc qk th tc ph pc ts te tf qm mz ms mp mb m1 m2 m3 mB mF mN mS mW qo dr n ho h c S9 E9 F9 vb vg vt hf hn HN HO HH HC b L tn tO tH tC pn po pH pC sT eT fT bT gT lT rt ms9 ac9 f fP fB fG fN fS fW o C0 hA hbA hE hst hc hs hI hi hi5 hLS a1 a2 a3 a4 r1 r2 r3 r4 e1 e2 e3 e4 s1.1.1 s1.1.2 s1.2.1 s1.2.2 (by omega) hP hD hS hl cont
      · skip
        exact law_put_x1 qx qv qi qb ty py tv qy qh qc qs qn qf qz sa sh sc qk th tc ph pc ts te tf qm mz ms mp mb m1 m2 m3 mB mF mN mS mW qo dr n ho h c S9 E9 F9 vb vg vt hf hn HN HO HH HC b L tn tO tH tC pn po pH pC sT eT fT bT gT lT rt ms9 ac9 f fP fB fG fN fS fW o C0 hA hbA hE hst hc hs hI hi hi5 hLS a1 a2 a3 a4 r1 r2 r3 r4 e1 e2 e3 e4 s1 hP hD hS hl cont
    · refine ln_tableIn (tgt := 292) hx hb ⟨by omega, by omega⟩ dL_law_39 (by omega) (by omega) (off := 253) (by rw [c2]; rfl) (by decide) ?_
      by_cases s1 : okS n a1 a2
      · skip
        by_cases q : h (a2 * 6 + a1) = 0
        · skip
          exact law_take_x2 qx qv qi qb ty py tv qy qh qc qs qn qf qz sa sh sc qk th tc ph pc ts te tf qm mz ms mp mb m1 m2 m3 mB mF mN mS mW qo dr n ho h c S9 E9 F9 vb vg vt hf hn HN HO HH HC b L tn tO tH tC pn po pH pC sT eT fT bT gT lT rt ms9 ac9 f fP fB fG fN fS fW o C0 hA hbA hE hst hc hs hI hi hi5 hLS a1 a2 a3 a4 r1 r2 r3 r4 e1 e2 e3 e4 s1.1.1 s1.1.2 s1.2.1 s1.2.2 q hP hD hS hl cont
        · skip
          exact law_take_ok qx qv qi qb ty py tv qy qh qc qs qn qf qz sa sh sc qk th tc ph pc ts te tf qm mz ms mp mb m1 m2 m3 mB mF mN mS mW qo dr n ho h c S9 E9 F9 vb vg vt hf hn HN HO HH HC b L tn tO tH tC pn po pH pC sT eT fT bT gT lT rt ms9 ac9 f fP fB fG fN fS fW o C0 hA hbA hE hst hc hs hI hi hi5 hLS a1 a2 a3 a4 r1 r2 r3 r4 e1 e2 e3 e4 s1.1.1 s1.1.2 s1.2.1 s1.2.2 q hP hD hS hl cont
      · skip
        exact law_take_x1 qx qv qi qb ty py tv qy qh qc qs qn qf qz sa sh sc qk th tc ph pc ts te tf qm mz ms mp mb m1 m2 m3 mB mF mN mS mW qo dr n ho h c S9 E9 F9 vb vg vt hf hn HN HO HH HC b L tn tO tH tC pn po pH pC sT eT fT bT gT lT rt ms9 ac9 f fP fB fG fN fS fW o C0 hA hbA hE hst hc hs hI hi hi5 hLS a1 a2 a3 a4 r1 r2 r3 r4 e1 e2 e3 e4 s1 hP hD hS hl cont
    · refine ln_tableIn (tgt := 360) hx hb ⟨by omega, by omega⟩ dL_law_39 (by omega) (by omega) (off := 321) (by rw [c2]; rfl) (by decide) ?_
      by_cases s1 : okS n a1 a2
      · skip
        by_cases s2 : okS n a3 a4
        · skip
          by_cases q : a1 = a3 ∧ a2 = a4
          · skip
            exact law_carry_x3 qx qv qi qb ty py tv qy qh qc qs qn qf qz sa sh sc qk th tc ph pc ts te tf qm mz ms mp mb m1 m2 m3 mB mF mN mS mW qo dr n ho h c S9 E9 F9 vb vg vt hf hn HN HO HH HC b L tn tO tH tC pn po pH pC sT eT fT bT gT lT rt ms9 ac9 f fP fB fG fN fS fW o C0 hA hbA hE hst hc hs hI hi hi5 hLS a1 a2 a3 a4 r1 r2 r3 r4 e1 e2 e3 e4 s1.1.1 s1.1.2 s1.2.1 s1.2.2 s2.1.1 s2.1.2 s2.2.1 s2.2.2 q hP hD hS hl cont
          · skip
            by_cases q2 : h (a2 * 6 + a1) + h (a4 * 6 + a3) ≤ 8
            · skip
              exact law_carry_ok qx qv qi qb ty py tv qy qh qc qs qn qf qz sa sh sc qk th tc ph pc ts te tf qm mz ms mp mb m1 m2 m3 mB mF mN mS mW qo dr n ho h c S9 E9 F9 vb vg vt hf hn HN HO HH HC b L tn tO tH tC pn po pH pC sT eT fT bT gT lT rt ms9 ac9 f fP fB fG fN fS fW o C0 hA hbA hE hst hc hs hI hi hi5 hLS a1 a2 a3 a4 r1 r2 r3 r4 e1 e2 e3 e4 s1.1.1 s1.1.2 s1.2.1 s1.2.2 s2.1.1 s2.1.2 s2.2.1 s2.2.2 q q2 hP hD hS hl cont
            · skip
              exact law_carry_x4 qx qv qi qb ty py tv qy qh qc qs qn qf qz sa sh sc qk th tc ph pc ts te tf qm mz ms mp mb m1 m2 m3 mB mF mN mS mW qo dr n ho h c S9 E9 F9 vb vg vt hf hn HN HO HH HC b L tn tO tH tC pn po pH pC sT eT fT bT gT lT rt ms9 ac9 f fP fB fG fN fS fW o C0 hA hbA hE hst hc hs hI hi hi5 hLS a1 a2 a3 a4 r1 r2 r3 r4 e1 e2 e3 e4 s1.1.1 s1.1.2 s1.2.1 s1.2.2 s2.1.1 s2.1.2 s2.2.1 s2.2.2 q (by omega) hP hD hS hl cont
        · skip
          exact law_carry_x2 qx qv qi qb ty py tv qy qh qc qs qn qf qz sa sh sc qk th tc ph pc ts te tf qm mz ms mp mb m1 m2 m3 mB mF mN mS mW qo dr n ho h c S9 E9 F9 vb vg vt hf hn HN HO HH HC b L tn tO tH tC pn po pH pC sT eT fT bT gT lT rt ms9 ac9 f fP fB fG fN fS fW o C0 hA hbA hE hst hc hs hI hi hi5 hLS a1 a2 a3 a4 r1 r2 r3 r4 e1 e2 e3 e4 s1.1.1 s1.1.2 s1.2.1 s1.2.2 s2 hP hD hS hl cont
      · skip
        exact law_carry_x1 qx qv qi qb ty py tv qy qh qc qs qn qf qz sa sh sc qk th tc ph pc ts te tf qm mz ms mp mb m1 m2 m3 mB mF mN mS mW qo dr n ho h c S9 E9 F9 vb vg vt hf hn HN HO HH HC b L tn tO tH tC pn po pH pC sT eT fT bT gT lT rt ms9 ac9 f fP fB fG fN fS fW o C0 hA hbA hE hst hc hs hI hi hi5 hLS a1 a2 a3 a4 r1 r2 r3 r4 e1 e2 e3 e4 s1 hP hD hS hl cont
    · refine ln_tableIn (tgt := 452) hx hb ⟨by omega, by omega⟩ dL_law_39 (by omega) (by omega) (off := 413) (by rw [c2]; rfl) (by decide) ?_
      by_cases s1 : okS n a1 a2
      · skip
        by_cases q : 0 ≤ a3 ∧ a3 ≤ 3
        · skip
          by_cases q2 : h (a2 * 6 + a1) = 0
          · skip
            exact law_paint_x3 qx qv qi qb ty py tv qy qh qc qs qn qf qz sa sh sc qk th tc ph pc ts te tf qm mz ms mp mb m1 m2 m3 mB mF mN mS mW qo dr n ho h c S9 E9 F9 vb vg vt hf hn HN HO HH HC b L tn tO tH tC pn po pH pC sT eT fT bT gT lT rt ms9 ac9 f fP fB fG fN fS fW o C0 hA hbA hE hst hc hs hI hi hi5 hLS a1 a2 a3 a4 r1 r2 r3 r4 e1 e2 e3 e4 s1.1.1 s1.1.2 s1.2.1 s1.2.2 q q2 hP hD hS hl cont
          · skip
            exact law_paint_ok qx qv qi qb ty py tv qy qh qc qs qn qf qz sa sh sc qk th tc ph pc ts te tf qm mz ms mp mb m1 m2 m3 mB mF mN mS mW qo dr n ho h c S9 E9 F9 vb vg vt hf hn HN HO HH HC b L tn tO tH tC pn po pH pC sT eT fT bT gT lT rt ms9 ac9 f fP fB fG fN fS fW o C0 hA hbA hE hst hc hs hI hi hi5 hLS a1 a2 a3 a4 r1 r2 r3 r4 e1 e2 e3 e4 s1.1.1 s1.1.2 s1.2.1 s1.2.2 q q2 hP hD hS hl cont
        · skip
          exact law_paint_x2 qx qv qi qb ty py tv qy qh qc qs qn qf qz sa sh sc qk th tc ph pc ts te tf qm mz ms mp mb m1 m2 m3 mB mF mN mS mW qo dr n ho h c S9 E9 F9 vb vg vt hf hn HN HO HH HC b L tn tO tH tC pn po pH pC sT eT fT bT gT lT rt ms9 ac9 f fP fB fG fN fS fW o C0 hA hbA hE hst hc hs hI hi hi5 hLS a1 a2 a3 a4 r1 r2 r3 r4 e1 e2 e3 e4 s1.1.1 s1.1.2 s1.2.1 s1.2.2 (by omega) hP hD hS hl cont
      · skip
        exact law_paint_x1 qx qv qi qb ty py tv qy qh qc qs qn qf qz sa sh sc qk th tc ph pc ts te tf qm mz ms mp mb m1 m2 m3 mB mF mN mS mW qo dr n ho h c S9 E9 F9 vb vg vt hf hn HN HO HH HC b L tn tO tH tC pn po pH pC sT eT fT bT gT lT rt ms9 ac9 f fP fB fG fN fS fW o C0 hA hbA hE hst hc hs hI hi hi5 hLS a1 a2 a3 a4 r1 r2 r3 r4 e1 e2 e3 e4 s1 hP hD hS hl cont
    · refine ln_tableIn (tgt := 532) hx hb ⟨by omega, by omega⟩ dL_law_39 (by omega) (by omega) (off := 493) (by rw [c2]; rfl) (by decide) ?_
      exact law_turn qx qv qi qb ty py tv qy qh qc qs qn qf qz sa sh sc qk th tc ph pc ts te tf qm mz ms mp mb m1 m2 m3 mB mF mN mS mW qo dr n ho h c S9 E9 F9 vb vg vt hf hn HN HO HH HC b L tn tO tH tC pn po pH pC sT eT fT bT gT lT rt ms9 ac9 f fP fB fG fN fS fW o C0 hA hbA hE hst hc hs hI hi hi5 hLS a1 a2 a3 a4 r1 r2 r3 r4 e1 e2 e3 e4 hP hD hS hl cont
    · refine ln_tableIn (tgt := 545) hx hb ⟨by omega, by omega⟩ dL_law_39 (by omega) (by omega) (off := 506) (by rw [c2]; rfl) (by decide) ?_
      by_cases q : 0 ≤ a1 ∧ a1 ≤ 8
      · skip
        exact law_cutOff_ok qx qv qi qb ty py tv qy qh qc qs qn qf qz sa sh sc qk th tc ph pc ts te tf qm mz ms mp mb m1 m2 m3 mB mF mN mS mW qo dr n ho h c S9 E9 F9 vb vg vt hf hn HN HO HH HC b L tn tO tH tC pn po pH pC sT eT fT bT gT lT rt ms9 ac9 f fP fB fG fN fS fW o C0 hA hbA hE hst hc hs hI hi hi5 hLS a1 a2 a3 a4 r1 r2 r3 r4 e1 e2 e3 e4 q hP hD hS hl cont
      · skip
        exact law_cutOff_x1 qx qv qi qb ty py tv qy qh qc qs qn qf qz sa sh sc qk th tc ph pc ts te tf qm mz ms mp mb m1 m2 m3 mB mF mN mS mW qo dr n ho h c S9 E9 F9 vb vg vt hf hn HN HO HH HC b L tn tO tH tC pn po pH pC sT eT fT bT gT lT rt ms9 ac9 f fP fB fG fN fS fW o C0 hA hbA hE hst hc hs hI hi hi5 hLS a1 a2 a3 a4 r1 r2 r3 r4 e1 e2 e3 e4 (by omega) hP hD hS hl cont
    · refine ln_tableIn (tgt := 601) hx hb ⟨by omega, by omega⟩ dL_law_39 (by omega) (by omega) (off := 562) (by rw [c2]; rfl) (by decide) ?_
      by_cases q : 0 ≤ a1 ∧ a1 ≤ 7
      · skip
        exact law_hour_ok qx qv qi qb ty py tv qy qh qc qs qn qf qz sa sh sc qk th tc ph pc ts te tf qm mz ms mp mb m1 m2 m3 mB mF mN mS mW qo dr n ho h c S9 E9 F9 vb vg vt hf hn HN HO HH HC b L tn tO tH tC pn po pH pC sT eT fT bT gT lT rt ms9 ac9 f fP fB fG fN fS fW o C0 hA hbA hE hst hc hs hI hi hi5 hLS a1 a2 a3 a4 r1 r2 r3 r4 e1 e2 e3 e4 q hP hD hS hl cont
      · skip
        exact law_hour_x1 qx qv qi qb ty py tv qy qh qc qs qn qf qz sa sh sc qk th tc ph pc ts te tf qm mz ms mp mb m1 m2 m3 mB mF mN mS mW qo dr n ho h c S9 E9 F9 vb vg vt hf hn HN HO HH HC b L tn tO tH tC pn po pH pC sT eT fT bT gT lT rt ms9 ac9 f fP fB fG fN fS fW o C0 hA hbA hE hst hc hs hI hi hi5 hLS a1 a2 a3 a4 r1 r2 r3 r4 e1 e2 e3 e4 (by omega) hP hD hS hl cont
    · refine ln_tableIn (tgt := 657) hx hb ⟨by omega, by omega⟩ dL_law_39 (by omega) (by omega) (off := 618) (by rw [c2]; rfl) (by decide) ?_
      by_cases q : 33 ≤ a1 ∧ a1 ≤ 126
      · skip
        by_cases q2 : L < 60
        · skip
          exact law_append_ok qx qv qi qb ty py tv qy qh qc qs qn qf qz sa sh sc qk th tc ph pc ts te tf qm mz ms mp mb m1 m2 m3 mB mF mN mS mW qo dr n ho h c S9 E9 F9 vb vg vt hf hn HN HO HH HC b L tn tO tH tC pn po pH pC sT eT fT bT gT lT rt ms9 ac9 f fP fB fG fN fS fW o C0 hA hbA hE hst hc hs hI hi hi5 hLS a1 a2 a3 a4 r1 r2 r3 r4 e1 e2 e3 e4 q q2 hP hD hS hl cont
        · skip
          exact law_append_x2 qx qv qi qb ty py tv qy qh qc qs qn qf qz sa sh sc qk th tc ph pc ts te tf qm mz ms mp mb m1 m2 m3 mB mF mN mS mW qo dr n ho h c S9 E9 F9 vb vg vt hf hn HN HO HH HC b L tn tO tH tC pn po pH pC sT eT fT bT gT lT rt ms9 ac9 f fP fB fG fN fS fW o C0 hA hbA hE hst hc hs hI hi hi5 hLS a1 a2 a3 a4 r1 r2 r3 r4 e1 e2 e3 e4 q (by have := hB.1; omega) hP hD hS hl cont
      · skip
        exact law_append_x1 qx qv qi qb ty py tv qy qh qc qs qn qf qz sa sh sc qk th tc ph pc ts te tf qm mz ms mp mb m1 m2 m3 mB mF mN mS mW qo dr n ho h c S9 E9 F9 vb vg vt hf hn HN HO HH HC b L tn tO tH tC pn po pH pC sT eT fT bT gT lT rt ms9 ac9 f fP fB fG fN fS fW o C0 hA hbA hE hst hc hs hI hi hi5 hLS a1 a2 a3 a4 r1 r2 r3 r4 e1 e2 e3 e4 (by omega) hP hD hS hl cont
    · refine ln_tableIn (tgt := 713) hx hb ⟨by omega, by omega⟩ dL_law_39 (by omega) (by omega) (off := 674) (by rw [c2]; rfl) (by decide) ?_
      exact law_clearBuffer qx qv qi qb ty py tv qy qh qc qs qn qf qz sa sh sc qk th tc ph pc ts te tf qm mz ms mp mb m1 m2 m3 mB mF mN mS mW qo dr n ho h c S9 E9 F9 vb vg vt hf hn HN HO HH HC b L tn tO tH tC pn po pH pC sT eT fT bT gT lT rt ms9 ac9 f fP fB fG fN fS fW o C0 hA hbA hE hst hc hs hI hi hi5 hLS a1 a2 a3 a4 r1 r2 r3 r4 e1 e2 e3 e4 hP hD hS hl cont
    · refine ln_tableIn (tgt := 726) hx hb ⟨by omega, by omega⟩ dL_law_39 (by omega) (by omega) (off := 687) (by rw [c2]; rfl) (by decide) ?_
      exact law_firstError qx qv qi qb ty py tv qy qh qc qs qn qf qz sa sh sc qk th tc ph pc ts te tf qm mz ms mp mb m1 m2 m3 mB mF mN mS mW qo dr n ho h c S9 E9 F9 vb vg vt hf hn HN HO HH HC b L tn tO tH tC pn po pH pC sT eT fT bT gT lT rt ms9 ac9 f fP fB fG fN fS fW o C0 hA hbA hE hst hc hs hI hi hi5 hLS a1 a2 a3 a4 r1 r2 r3 r4 e1 e2 e3 e4 hP hD hS hl cont
    · refine ln_tableIn (tgt := 739) hx hb ⟨by omega, by omega⟩ dL_law_39 (by omega) (by omega) (off := 700) (by rw [c2]; rfl) (by decide) ?_
      by_cases q : dfaK b L = 4 ∨ dfaK b L = 6
      · skip
        exact law_build_ok qx qv qi qb ty py tv qy qh qc qs qn qf qz sa sh sc qk th tc ph pc ts te tf qm mz ms mp mb m1 m2 m3 mB mF mN mS mW qo dr n ho h c S9 E9 F9 vb vg vt hf hn HN HO HH HC b L tn tO tH tC pn po pH pC sT eT fT bT gT lT rt ms9 ac9 f fP fB fG fN fS fW o C0 hA hbA hE hst hc hs hI hi hi5 hLS a1 a2 a3 a4 r1 r2 r3 r4 e1 e2 e3 e4 q hP hD hS hl cont
      · skip
        exact law_build_x1 qx qv qi qb ty py tv qy qh qc qs qn qf qz sa sh sc qk th tc ph pc ts te tf qm mz ms mp mb m1 m2 m3 mB mF mN mS mW qo dr n ho h c S9 E9 F9 vb vg vt hf hn HN HO HH HC b L tn tO tH tC pn po pH pC sT eT fT bT gT lT rt ms9 ac9 f fP fB fG fN fS fW o C0 hA hbA hE hst hc hs hI hi hi5 hLS a1 a2 a3 a4 r1 r2 r3 r4 e1 e2 e3 e4 q hP hD hS hl cont
    · refine ln_tableIn (tgt := 783) hx hb ⟨by omega, by omega⟩ dL_law_39 (by omega) (by omega) (off := 744) (by rw [c2]; rfl) (by decide) ?_
      by_cases q : 0 < hn
      · skip
        exact law_undo_ok qx qv qi qb ty py tv qy qh qc qs qn qf qz sa sh sc qk th tc ph pc ts te tf qm mz ms mp mb m1 m2 m3 mB mF mN mS mW qo dr n ho h c S9 E9 F9 vb vg vt hf hn HN HO HH HC b L tn tO tH tC pn po pH pC sT eT fT bT gT lT rt ms9 ac9 f fP fB fG fN fS fW o C0 hA hbA hE hst hc hs hI hi hi5 hLS a1 a2 a3 a4 r1 r2 r3 r4 e1 e2 e3 e4 q hP hD hS hl cont
      · skip
        exact law_undo_x1 qx qv qi qb ty py tv qy qh qc qs qn qf qz sa sh sc qk th tc ph pc ts te tf qm mz ms mp mb m1 m2 m3 mB mF mN mS mW qo dr n ho h c S9 E9 F9 vb vg vt hf hn HN HO HH HC b L tn tO tH tC pn po pH pC sT eT fT bT gT lT rt ms9 ac9 f fP fB fG fN fS fW o C0 hA hbA hE hst hc hs hI hi hi5 hLS a1 a2 a3 a4 r1 r2 r3 r4 e1 e2 e3 e4 (by omega) hP hD hS hl cont
    · refine ln_tableIn (tgt := 827) hx hb ⟨by omega, by omega⟩ dL_law_39 (by omega) (by omega) (off := 788) (by rw [c2]; rfl) (by decide) ?_
      by_cases s1 : okS n a1 a2
      · skip
        by_cases q : 0 ≤ a3 ∧ a3 ≤ 3
        · skip
          exact law_stack_ok qx qv qi qb ty py tv qy qh qc qs qn qf qz sa sh sc qk th tc ph pc ts te tf qm mz ms mp mb m1 m2 m3 mB mF mN mS mW qo dr n ho h c S9 E9 F9 vb vg vt hf hn HN HO HH HC b L tn tO tH tC pn po pH pC sT eT fT bT gT lT rt ms9 ac9 f fP fB fG fN fS fW o C0 hA hbA hE hst hc hs hI hi hi5 hLS a1 a2 a3 a4 r1 r2 r3 r4 e1 e2 e3 e4 s1.1.1 s1.1.2 s1.2.1 s1.2.2 q hP hD hS hl cont
        · skip
          exact law_stack_x2 qx qv qi qb ty py tv qy qh qc qs qn qf qz sa sh sc qk th tc ph pc ts te tf qm mz ms mp mb m1 m2 m3 mB mF mN mS mW qo dr n ho h c S9 E9 F9 vb vg vt hf hn HN HO HH HC b L tn tO tH tC pn po pH pC sT eT fT bT gT lT rt ms9 ac9 f fP fB fG fN fS fW o C0 hA hbA hE hst hc hs hI hi hi5 hLS a1 a2 a3 a4 r1 r2 r3 r4 e1 e2 e3 e4 s1.1.1 s1.1.2 s1.2.1 s1.2.2 (by omega) hP hD hS hl cont
      · skip
        exact law_stack_x1 qx qv qi qb ty py tv qy qh qc qs qn qf qz sa sh sc qk th tc ph pc ts te tf qm mz ms mp mb m1 m2 m3 mB mF mN mS mW qo dr n ho h c S9 E9 F9 vb vg vt hf hn HN HO HH HC b L tn tO tH tC pn po pH pC sT eT fT bT gT lT rt ms9 ac9 f fP fB fG fN fS fW o C0 hA hbA hE hst hc hs hI hi hi5 hLS a1 a2 a3 a4 r1 r2 r3 r4 e1 e2 e3 e4 s1 hP hD hS hl cont
    · refine ln_tableIn (tgt := 907) hx hb ⟨by omega, by omega⟩ dL_law_39 (by omega) (by omega) (off := 868) (by rw [c2]; rfl) (by decide) ?_
      by_cases s1 : okS n a1 a2
      · skip
        by_cases q : 0 ≤ a3 ∧ a3 ≤ 7
        · skip
          by_cases q2 : 0 ≤ a4 ∧ a4 ≤ 4
          · skip
            exact law_block_ok qx qv qi qb ty py tv qy qh qc qs qn qf qz sa sh sc qk th tc ph pc ts te tf qm mz ms mp mb m1 m2 m3 mB mF mN mS mW qo dr n ho h c S9 E9 F9 vb vg vt hf hn HN HO HH HC b L tn tO tH tC pn po pH pC sT eT fT bT gT lT rt ms9 ac9 f fP fB fG fN fS fW o C0 hA hbA hE hst hc hs hI hi hi5 hLS a1 a2 a3 a4 r1 r2 r3 r4 e1 e2 e3 e4 s1.1.1 s1.1.2 s1.2.1 s1.2.2 q q2 hP hD hS hl cont
          · skip
            exact law_block_x3 qx qv qi qb ty py tv qy qh qc qs qn qf qz sa sh sc qk th tc ph pc ts te tf qm mz ms mp mb m1 m2 m3 mB mF mN mS mW qo dr n ho h c S9 E9 F9 vb vg vt hf hn HN HO HH HC b L tn tO tH tC pn po pH pC sT eT fT bT gT lT rt ms9 ac9 f fP fB fG fN fS fW o C0 hA hbA hE hst hc hs hI hi hi5 hLS a1 a2 a3 a4 r1 r2 r3 r4 e1 e2 e3 e4 s1.1.1 s1.1.2 s1.2.1 s1.2.2 q (by omega) hP hD hS hl cont
        · skip
          exact law_block_x2 qx qv qi qb ty py tv qy qh qc qs qn qf qz sa sh sc qk th tc ph pc ts te tf qm mz ms mp mb m1 m2 m3 mB mF mN mS mW qo dr n ho h c S9 E9 F9 vb vg vt hf hn HN HO HH HC b L tn tO tH tC pn po pH pC sT eT fT bT gT lT rt ms9 ac9 f fP fB fG fN fS fW o C0 hA hbA hE hst hc hs hI hi hi5 hLS a1 a2 a3 a4 r1 r2 r3 r4 e1 e2 e3 e4 s1.1.1 s1.1.2 s1.2.1 s1.2.2 (by omega) hP hD hS hl cont
      · skip
        exact law_block_x1 qx qv qi qb ty py tv qy qh qc qs qn qf qz sa sh sc qk th tc ph pc ts te tf qm mz ms mp mb m1 m2 m3 mB mF mN mS mW qo dr n ho h c S9 E9 F9 vb vg vt hf hn HN HO HH HC b L tn tO tH tC pn po pH pC sT eT fT bT gT lT rt ms9 ac9 f fP fB fG fN fS fW o C0 hA hbA hE hst hc hs hI hi hi5 hLS a1 a2 a3 a4 r1 r2 r3 r4 e1 e2 e3 e4 s1 hP hD hS hl cont
    · refine ln_tableIn (tgt := 999) hx hb ⟨by omega, by omega⟩ dL_law_39 (by omega) (by omega) (off := 960) (by rw [c2]; rfl) (by decide) ?_
      by_cases q : -9 ≤ a1 ∧ a1 ≤ 6
      · skip
        by_cases q2 : -9 ≤ a2 ∧ a2 ≤ 6
        · skip
          by_cases q3 : 0 ≤ a3 ∧ a3 ≤ 1
          · skip
            by_cases q4 : 0 ≤ a4 ∧ a4 ≤ 4
            · skip
              exact law_picture_ok qx qv qi qb ty py tv qy qh qc qs qn qf qz sa sh sc qk th tc ph pc ts te tf qm mz ms mp mb m1 m2 m3 mB mF mN mS mW qo dr n ho h c S9 E9 F9 vb vg vt hf hn HN HO HH HC b L tn tO tH tC pn po pH pC sT eT fT bT gT lT rt ms9 ac9 f fP fB fG fN fS fW o C0 hA hbA hE hst hc hs hI hi hi5 hLS a1 a2 a3 a4 r1 r2 r3 r4 e1 e2 e3 e4 q q2 q3 q4 hP hD hS hl cont
            · skip
              exact law_picture_x4 qx qv qi qb ty py tv qy qh qc qs qn qf qz sa sh sc qk th tc ph pc ts te tf qm mz ms mp mb m1 m2 m3 mB mF mN mS mW qo dr n ho h c S9 E9 F9 vb vg vt hf hn HN HO HH HC b L tn tO tH tC pn po pH pC sT eT fT bT gT lT rt ms9 ac9 f fP fB fG fN fS fW o C0 hA hbA hE hst hc hs hI hi hi5 hLS a1 a2 a3 a4 r1 r2 r3 r4 e1 e2 e3 e4 q q2 q3 (by omega) hP hD hS hl cont
          · skip
            exact law_picture_x3 qx qv qi qb ty py tv qy qh qc qs qn qf qz sa sh sc qk th tc ph pc ts te tf qm mz ms mp mb m1 m2 m3 mB mF mN mS mW qo dr n ho h c S9 E9 F9 vb vg vt hf hn HN HO HH HC b L tn tO tH tC pn po pH pC sT eT fT bT gT lT rt ms9 ac9 f fP fB fG fN fS fW o C0 hA hbA hE hst hc hs hI hi hi5 hLS a1 a2 a3 a4 r1 r2 r3 r4 e1 e2 e3 e4 q q2 (by omega) hP hD hS hl cont
        · skip
          exact law_picture_x2 qx qv qi qb ty py tv qy qh qc qs qn qf qz sa sh sc qk th tc ph pc ts te tf qm mz ms mp mb m1 m2 m3 mB mF mN mS mW qo dr n ho h c S9 E9 F9 vb vg vt hf hn HN HO HH HC b L tn tO tH tC pn po pH pC sT eT fT bT gT lT rt ms9 ac9 f fP fB fG fN fS fW o C0 hA hbA hE hst hc hs hI hi hi5 hLS a1 a2 a3 a4 r1 r2 r3 r4 e1 e2 e3 e4 q (by omega) hP hD hS hl cont
      · skip
        exact law_picture_x1 qx qv qi qb ty py tv qy qh qc qs qn qf qz sa sh sc qk th tc ph pc ts te tf qm mz ms mp mb m1 m2 m3 mB mF mN mS mW qo dr n ho h c S9 E9 F9 vb vg vt hf hn HN HO HH HC b L tn tO tH tC pn po pH pC sT eT fT bT gT lT rt ms9 ac9 f fP fB fG fN fS fW o C0 hA hbA hE hst hc hs hI hi hi5 hLS a1 a2 a3 a4 r1 r2 r3 r4 e1 e2 e3 e4 (by omega) hP hD hS hl cont
    · refine ln_tableIn (tgt := 1091) hx hb ⟨by omega, by omega⟩ dL_law_39 (by omega) (by omega) (off := 1052) (by rw [c2]; rfl) (by decide) ?_
      by_cases q : 0 ≤ a2 ∧ a2 < n
      · skip
        by_cases q2 : a1 = 0 ∨ a1 = 1
        · skip
          by_cases q3 : 0 ≤ a3 ∧ a3 ≤ 2
          · skip
            exact law_elevation_ok qx qv qi qb ty py tv qy qh qc qs qn qf qz sa sh sc qk th tc ph pc ts te tf qm mz ms mp mb m1 m2 m3 mB mF mN mS mW qo dr n ho h c S9 E9 F9 vb vg vt hf hn HN HO HH HC b L tn tO tH tC pn po pH pC sT eT fT bT gT lT rt ms9 ac9 f fP fB fG fN fS fW o C0 hA hbA hE hst hc hs hI hi hi5 hLS a1 a2 a3 a4 r1 r2 r3 r4 e1 e2 e3 e4 q2 q.1 q.2 q3 hP hD hS hl cont
          · skip
            exact law_elevation_x3 qx qv qi qb ty py tv qy qh qc qs qn qf qz sa sh sc qk th tc ph pc ts te tf qm mz ms mp mb m1 m2 m3 mB mF mN mS mW qo dr n ho h c S9 E9 F9 vb vg vt hf hn HN HO HH HC b L tn tO tH tC pn po pH pC sT eT fT bT gT lT rt ms9 ac9 f fP fB fG fN fS fW o C0 hA hbA hE hst hc hs hI hi hi5 hLS a1 a2 a3 a4 r1 r2 r3 r4 e1 e2 e3 e4 q2 q.1 q.2 (by omega) hP hD hS hl cont
        · skip
          exact law_elevation_x2 qx qv qi qb ty py tv qy qh qc qs qn qf qz sa sh sc qk th tc ph pc ts te tf qm mz ms mp mb m1 m2 m3 mB mF mN mS mW qo dr n ho h c S9 E9 F9 vb vg vt hf hn HN HO HH HC b L tn tO tH tC pn po pH pC sT eT fT bT gT lT rt ms9 ac9 f fP fB fG fN fS fW o C0 hA hbA hE hst hc hs hI hi hi5 hLS a1 a2 a3 a4 r1 r2 r3 r4 e1 e2 e3 e4 q.1 q.2 (by omega) hP hD hS hl cont
      · skip
        exact law_elevation_x1 qx qv qi qb ty py tv qy qh qc qs qn qf qz sa sh sc qk th tc ph pc ts te tf qm mz ms mp mb m1 m2 m3 mB mF mN mS mW qo dr n ho h c S9 E9 F9 vb vg vt hf hn HN HO HH HC b L tn tO tH tC pn po pH pC sT eT fT bT gT lT rt ms9 ac9 f fP fB fG fN fS fW o C0 hA hbA hE hst hc hs hI hi hi5 hLS a1 a2 a3 a4 r1 r2 r3 r4 e1 e2 e3 e4 (by omega) hP hD hS hl cont
    · refine ln_tableIn (tgt := 1171) hx hb ⟨by omega, by omega⟩ dL_law_39 (by omega) (by omega) (off := 1132) (by rw [c2]; rfl) (by decide) ?_
      by_cases q : 0 ≤ a2 ∧ a2 < n
      · skip
        by_cases q2 : 0 ≤ a1 ∧ a1 ≤ 7
        · skip
          exact law_cut_ok qx qv qi qb ty py tv qy qh qc qs qn qf qz sa sh sc qk th tc ph pc ts te tf qm mz ms mp mb m1 m2 m3 mB mF mN mS mW qo dr n ho h c S9 E9 F9 vb vg vt hf hn HN HO HH HC b L tn tO tH tC pn po pH pC sT eT fT bT gT lT rt ms9 ac9 f fP fB fG fN fS fW o C0 hA hbA hE hst hc hs hI hi hi5 hLS a1 a2 a3 a4 r1 r2 r3 r4 e1 e2 e3 e4 q.1 q.2 q2 hP hD hS hl cont
        · skip
          exact law_cut_x2 qx qv qi qb ty py tv qy qh qc qs qn qf qz sa sh sc qk th tc ph pc ts te tf qm mz ms mp mb m1 m2 m3 mB mF mN mS mW qo dr n ho h c S9 E9 F9 vb vg vt hf hn HN HO HH HC b L tn tO tH tC pn po pH pC sT eT fT bT gT lT rt ms9 ac9 f fP fB fG fN fS fW o C0 hA hbA hE hst hc hs hI hi hi5 hLS a1 a2 a3 a4 r1 r2 r3 r4 e1 e2 e3 e4 q.1 q.2 (by omega) hP hD hS hl cont
      · skip
        exact law_cut_x1 qx qv qi qb ty py tv qy qh qc qs qn qf qz sa sh sc qk th tc ph pc ts te tf qm mz ms mp mb m1 m2 m3 mB mF mN mS mW qo dr n ho h c S9 E9 F9 vb vg vt hf hn HN HO HH HC b L tn tO tH tC pn po pH pC sT eT fT bT gT lT rt ms9 ac9 f fP fB fG fN fS fW o C0 hA hbA hE hst hc hs hI hi hi5 hLS a1 a2 a3 a4 r1 r2 r3 r4 e1 e2 e3 e4 (by omega) hP hD hS hl cont
    · refine ln_tableIn (tgt := 1239) hx hb ⟨by omega, by omega⟩ dL_law_39 (by omega) (by omega) (off := 1200) (by rw [c2]; rfl) (by decide) ?_
      by_cases q : 0 ≤ a1 ∧ a1 ≤ 12
      · skip
        exact law_count_ok qx qv qi qb ty py tv qy qh qc qs qn qf qz sa sh sc qk th tc ph pc ts te tf qm mz ms mp mb m1 m2 m3 mB mF mN mS mW qo dr n ho h c S9 E9 F9 vb vg vt hf hn HN HO HH HC b L tn tO tH tC pn po pH pC sT eT fT bT gT lT rt ms9 ac9 f fP fB fG fN fS fW o C0 hA hbA hE hst hc hs hI hi hi5 hLS a1 a2 a3 a4 r1 r2 r3 r4 e1 e2 e3 e4 q hP hD hS hl cont
      · skip
        exact law_count_x1 qx qv qi qb ty py tv qy qh qc qs qn qf qz sa sh sc qk th tc ph pc ts te tf qm mz ms mp mb m1 m2 m3 mB mF mN mS mW qo dr n ho h c S9 E9 F9 vb vg vt hf hn HN HO HH HC b L tn tO tH tC pn po pH pC sT eT fT bT gT lT rt ms9 ac9 f fP fB fG fN fS fW o C0 hA hbA hE hst hc hs hI hi hi5 hLS a1 a2 a3 a4 r1 r2 r3 r4 e1 e2 e3 e4 (by omega) hP hD hS hl cont
    · refine ln_tableIn (tgt := 1295) hx hb ⟨by omega, by omega⟩ dL_law_39 (by omega) (by omega) (off := 1256) (by rw [c2]; rfl) (by decide) ?_
      by_cases s1 : okS n a1 a2
      · skip
        by_cases q : 0 ≤ a3 ∧ a3 ≤ 2
        · skip
          exact law_ifPut_ok qx qv qi qb ty py tv qy qh qc qs qn qf qz sa sh sc qk th tc ph pc ts te tf qm mz ms mp mb m1 m2 m3 mB mF mN mS mW qo dr n ho h c S9 E9 F9 vb vg vt hf hn HN HO HH HC b L tn tO tH tC pn po pH pC sT eT fT bT gT lT rt ms9 ac9 f fP fB fG fN fS fW o C0 hA hbA hE hst hc hs hI hi hi5 hLS a1 a2 a3 a4 r1 r2 r3 r4 e1 e2 e3 e4 s1.1.1 s1.1.2 s1.2.1 s1.2.2 q hP hD hS hl cont
        · skip
          exact law_ifPut_x2 qx qv qi qb ty py tv qy qh qc qs qn qf qz sa sh sc qk th tc ph pc ts te tf qm mz ms mp mb m1 m2 m3 mB mF mN mS mW qo dr n ho h c S9 E9 F9 vb vg vt hf hn HN HO HH HC b L tn tO tH tC pn po pH pC sT eT fT bT gT lT rt ms9 ac9 f fP fB fG fN fS fW o C0 hA hbA hE hst hc hs hI hi hi5 hLS a1 a2 a3 a4 r1 r2 r3 r4 e1 e2 e3 e4 s1.1.1 s1.1.2 s1.2.1 s1.2.2 (by omega) hP hD hS hl cont
      · skip
        exact law_ifPut_x1 qx qv qi qb ty py tv qy qh qc qs qn qf qz sa sh sc qk th tc ph pc ts te tf qm mz ms mp mb m1 m2 m3 mB mF mN mS mW qo dr n ho h c S9 E9 F9 vb vg vt hf hn HN HO HH HC b L tn tO tH tC pn po pH pC sT eT fT bT gT lT rt ms9 ac9 f fP fB fG fN fS fW o C0 hA hbA hE hst hc hs hI hi hi5 hLS a1 a2 a3 a4 r1 r2 r3 r4 e1 e2 e3 e4 s1 hP hD hS hl cont
    · refine ln_tableIn (tgt := 1375) hx hb ⟨by omega, by omega⟩ dL_law_39 (by omega) (by omega) (off := 1336) (by rw [c2]; rfl) (by decide) ?_
      by_cases q : 0 ≤ a1 ∧ a1 ≤ 7
      · skip
        exact law_ifHour_ok qx qv qi qb ty py tv qy qh qc qs qn qf qz sa sh sc qk th tc ph pc ts te tf qm mz ms mp mb m1 m2 m3 mB mF mN mS mW qo dr n ho h c S9 E9 F9 vb vg vt hf hn HN HO HH HC b L tn tO tH tC pn po pH pC sT eT fT bT gT lT rt ms9 ac9 f fP fB fG fN fS fW o C0 hA hbA hE hst hc hs hI hi hi5 hLS a1 a2 a3 a4 r1 r2 r3 r4 e1 e2 e3 e4 q hP hD hS hl cont
      · skip
        exact law_ifHour_x1 qx qv qi qb ty py tv qy qh qc qs qn qf qz sa sh sc qk th tc ph pc ts te tf qm mz ms mp mb m1 m2 m3 mB mF mN mS mW qo dr n ho h c S9 E9 F9 vb vg vt hf hn HN HO HH HC b L tn tO tH tC pn po pH pC sT eT fT bT gT lT rt ms9 ac9 f fP fB fG fN fS fW o C0 hA hbA hE hst hc hs hI hi hi5 hLS a1 a2 a3 a4 r1 r2 r3 r4 e1 e2 e3 e4 (by omega) hP hD hS hl cont
    · refine ln_tableIn (tgt := 1431) hx hb ⟨by omega, by omega⟩ dL_law_39 (by omega) (by omega) (off := 1392) (by rw [c2]; rfl) (by decide) ?_
      exact law_brightest qx qv qi qb ty py tv qy qh qc qs qn qf qz sa sh sc qk th tc ph pc ts te tf qm mz ms mp mb m1 m2 m3 mB mF mN mS mW qo dr n ho h c S9 E9 F9 vb vg vt hf hn HN HO HH HC b L tn tO tH tC pn po pH pC sT eT fT bT gT lT rt ms9 ac9 f fP fB fG fN fS fW o C0 hA hbA hE hst hc hs hI hi hi5 hLS a1 a2 a3 a4 r1 r2 r3 r4 e1 e2 e3 e4 hP hD hS hl cont
    · refine ln_tableIn (tgt := 1444) hx hb ⟨by omega, by omega⟩ dL_law_39 (by omega) (by omega) (off := 1405) (by rw [c2]; rfl) (by decide) ?_
      by_cases q : 0 ≤ a1 ∧ a1 ≤ 1
      · skip
        exact law_same_ok qx qv qi qb ty py tv qy qh qc qs qn qf qz sa sh sc qk th tc ph pc ts te tf qm mz ms mp mb m1 m2 m3 mB mF mN mS mW qo dr n ho h c S9 E9 F9 vb vg vt hf hn HN HO HH HC b L tn tO tH tC pn po pH pC sT eT fT bT gT lT rt ms9 ac9 f fP fB fG fN fS fW o C0 hA hbA hE hst hc hs hI hi hi5 hLS a1 a2 a3 a4 r1 r2 r3 r4 e1 e2 e3 e4 q hP hD hS hl cont
      · skip
        exact law_same_x1 qx qv qi qb ty py tv qy qh qc qs qn qf qz sa sh sc qk th tc ph pc ts te tf qm mz ms mp mb m1 m2 m3 mB mF mN mS mW qo dr n ho h c S9 E9 F9 vb vg vt hf hn HN HO HH HC b L tn tO tH tC pn po pH pC sT eT fT bT gT lT rt ms9 ac9 f fP fB fG fN fS fW o C0 hA hbA hE hst hc hs hI hi hi5 hLS a1 a2 a3 a4 r1 r2 r3 r4 e1 e2 e3 e4 (by omega) hP hD hS hl cont
    · refine ln_tableIn (tgt := 1500) hx hb ⟨by omega, by omega⟩ dL_law_39 (by omega) (by omega) (off := 1461) (by rw [c2]; rfl) (by decide) ?_
      exact law_bestTurn qx qv qi qb ty py tv qy qh qc qs qn qf qz sa sh sc qk th tc ph pc ts te tf qm mz ms mp mb m1 m2 m3 mB mF mN mS mW qo dr n ho h c S9 E9 F9 vb vg vt hf hn HN HO HH HC b L tn tO tH tC pn po pH pC sT eT fT bT gT lT rt ms9 ac9 f fP fB fG fN fS fW o C0 hA hbA hE hst hc hs hI hi hi5 hLS a1 a2 a3 a4 r1 r2 r3 r4 e1 e2 e3 e4 hP hD hS hl cont
    · refine ln_tableIn (tgt := 1513) hx hb ⟨by omega, by omega⟩ dL_law_39 (by omega) (by omega) (off := 1474) (by rw [c2]; rfl) (by decide) ?_
      exact law_seenShare qx qv qi qb ty py tv qy qh qc qs qn qf qz sa sh sc qk th tc ph pc ts te tf qm mz ms mp mb m1 m2 m3 mB mF mN mS mW qo dr n ho h c S9 E9 F9 vb vg vt hf hn HN HO HH HC b L tn tO tH tC pn po pH pC sT eT fT bT gT lT rt ms9 ac9 f fP fB fG fN fS fW o C0 hA hbA hE hst hc hs hI hi hi5 hLS a1 a2 a3 a4 r1 r2 r3 r4 e1 e2 e3 e4 hP hD hS hl cont
    · refine ln_tableIn (tgt := 1554) hx hb ⟨by omega, by omega⟩ dL_law_39 (by omega) (by omega) (off := 1515) (by rw [c2]; rfl) (by decide) ?_
      exact law_digest qx qv qi qb ty py tv qy qh qc qs qn qf qz sa sh sc qk th tc ph pc ts te tf qm mz ms mp mb m1 m2 m3 mB mF mN mS mW qo dr n ho h c S9 E9 F9 vb vg vt hf hn HN HO HH HC b L tn tO tH tC pn po pH pC sT eT fT bT gT lT rt ms9 ac9 f fP fB fG fN fS fW o C0 hA hbA hE hst hc hs hI hi hi5 hLS a1 a2 a3 a4 r1 r2 r3 r4 e1 e2 e3 e4 hP hD hS hl cont
    · refine ln_tableOut (tgt := 1568) hx hb ⟨by omega, by omega⟩ dL_law_39 (Or.inr (by omega)) (by decide) ?_
      refine W.widen (k := (54 + t) + 1) (n := (10173 + 6 * t) + 6) (by omega) (by omega) ?_
      exact cont dr n ho h c S9 E9 F9 vb vg vt hf hn HN HO HH HC b L tn tO tH tC pn po pH pC sT eT fT bT gT lT rt ms9 ac9 f fP fB fG fN fS fW o hI H locs hP hD hS ls hl

/-! ===== one more block: the triangles that it takes ===== -/
abbrev takP (M : Int → Int) (x y z w : Int) : Prop := nearF M (triB x y z w) < x + y + z
def takK (M : Int → Int) (x y z o k : Int) : Int := itI (fun w s => s + bI (takP M x y z w ∧ (o = 0 ∨ M (triB x y z w) ≠ 0))) 0 k
theorem takK_s {M : Int → Int} {x y z o k : Int} (h : 0 ≤ k) : takK M x y z o (k + 1) = takK M x y z o k + bI (takP M x y z k ∧ (o = 0 ∨ M (triB x y z k) ≠ 0)) := itI_s _ _ h
theorem takK_rg (M : Int → Int) (x y z o : Int) {k : Int} (h : 0 ≤ k) : 0 ≤ takK M x y z o k ∧ takK M x y z o k ≤ k := by
  have := itI_lin (F := fun w s => s + bI (takP M x y z w ∧ (o = 0 ∨ M (triB x y z w) ≠ 0))) (a := 0) (c := 1) (fun k x2 _ => by have := bI_rg (takP M x y z k ∧ (o = 0 ∨ M (triB x y z k) ≠ 0)); omega) h
  unfold takK; omega
def lostF (M : Int → Int) (x y z w : Int) : Int := if takP M x y z w then faceF M (triB x y z w) else -1
theorem lostF_rg {M : Int → Int} (H : MOk M) (x y z w : Int) : -1 ≤ lostF M x y z w ∧ lostF M x y z w < 864 := by
  have := (MOk.rg H (triB x y z w)).2.1
  unfold lostF; split <;> omega
def zapK (M : Int → Int) (x y z k : Int) : Int → Int := itI (fun w N => if takP M x y z w then updI N (triB x y z w) 0 else N) M k
theorem zapK_s {M : Int → Int} {x y z k : Int} (h : 0 ≤ k) : zapK M x y z (k + 1) = if takP M x y z k then updI (zapK M x y z k) (triB x y z k) 0 else zapK M x y z k := itI_s _ _ h
theorem tri_w {x y z w w2 : Int} (h : okB x y z w) (h2 : okB x y z w2) (e : triB x y z w = triB x y z w2) : w = w2 := by
  obtain ⟨e1, e2, e3⟩ := tri_inj h h2 e
  have a := h.2.2.2
  have b := h2.2.2.2
  have f1 : tI w = tI w2 := by omega
  have f2 : tJ w = tJ w2 := by omega
  clear e e1 e2 h h2
  rcases (show w = 0 ∨ w = 1 ∨ w = 2 ∨ w = 3 ∨ w = 4 ∨ w = 5 by omega) with q | q | q | q | q | q <;> subst q <;>
  rcases (show w2 = 0 ∨ w2 = 1 ∨ w2 = 2 ∨ w2 = 3 ∨ w2 = 4 ∨ w2 = 5 by omega) with r | r | r | r | r | r <;> subst r <;>
  first | rfl | exact absurd f1 (by decide) | exact absurd f2 (by decide) | exact absurd e3 (by decide)
abbrev okX (x y z : Int) : Prop := (0 ≤ x ∧ x ≤ 5) ∧ (0 ≤ y ∧ y ≤ 5) ∧ 0 ≤ z ∧ z ≤ 7
theorem okX.b {x y z w : Int} (h : okX x y z) (hw : 0 ≤ w ∧ w < 6) : okB x y z w := ⟨h.1, h.2.1, h.2.2, hw⟩
theorem zapK_at {M : Int → Int} {x y z : Int} (hx : okX x y z) {k : Int} (h0 : 0 ≤ k) (h6 : k ≤ 6) : ∀ w, k ≤ w → w < 6 → zapK M x y z k (triB x y z w) = M (triB x y z w) := by
  refine itI_ind (F := fun w N => if takP M x y z w then updI N (triB x y z w) 0 else N) (a := M) (fun k N => ∀ w, k ≤ w → w < 6 → N (triB x y z w) = M (triB x y z w)) (fun _ _ _ => rfl) h0 (fun k N a b hN w hw hw6 => ?_)
  by_cases q : takP M x y z k
  · rw [if_pos q]
    unfold updI
    rw [if_neg (fun e => by have := tri_w (hx.b ⟨by omega, hw6⟩) (hx.b ⟨a, by omega⟩) e; omega)]
    exact hN w (by omega) hw6
  · rw [if_neg q]; exact hN w (by omega) hw6
theorem zapK_ok {M : Int → Int} (H : MOk M) {x y z k : Int} (h0 : 0 ≤ k) : MOk (zapK M x y z k) :=
  itI_ind (F := fun w N => if takP M x y z w then updI N (triB x y z w) 0 else N) (a := M) (fun _ N => MOk N) H h0 (fun k N _ _ hN => by
    by_cases q : takP M x y z k
    · rw [if_pos q]
      intro t
      unfold updI
      split
      · exact Or.inl rfl
      · exact hN t
    · rw [if_neg q]; exact hN)
theorem cntL_upd {L : Int → Int} {t v b k : Int} (h0 : 0 ≤ t) (h1 : t < k) : cntL (updI L t v) b k = cntL L b k - bI (L t = b) + bI (v = b) := by
  have h := sum_one (f := fun j => bI (updI L t v j = b)) (g := fun j => bI (L j = b)) (N := k) (by omega) h0 h1 (fun j _ _ ne => by
    show bI _ = bI _
    unfold updI
    simp only [if_neg ne])
  unfold cntL
  rw [h]
  show _ + (bI (updI L t v t = b) - bI (L t = b)) = _
  have e : updI L t v t = v := if_pos rfl
  rw [show bI (updI L t v t = b) = bI (v = b) by simp only [e]]
  omega
theorem cntL_cg {L L2 : Int → Int} {b k : Int} (h : ∀ j, 0 ≤ j → j < k → L j = L2 j) : cntL L b k = cntL L2 b k := sum_same (fun j a c => by show bI _ = bI _; rw [h j a c])
theorem distL_cg {L L2 : Int → Int} {N k : Int} (h : ∀ j, 0 ≤ j → j < k → L j = L2 j) : distL L N k = distL L2 N k := sum_same (fun b _ _ => by show bI _ = bI _; rw [cntL_cg h])
theorem distL_del {L : Int → Int} {t N k : Int} (hN : 0 ≤ N) (h0 : 0 ≤ t) (h1 : t < k) (g0 : 0 ≤ L t) (g1 : L t < N) : distL (updI L t (-1)) N k = distL L N k - bI (cntL (updI L t (-1)) (L t) k = 0) := by
  have h := sum_one (f := fun b => bI (0 < cntL (updI L t (-1)) b k)) (g := fun b => bI (0 < cntL L b k)) hN g0 g1 (fun j a _ ne => by
    show bI _ = bI _
    rw [cntL_upd h0 h1, bI_f (P := L t = j) (fun q => ne q.symm), bI_f (P := (-1:Int) = j) (by omega)]
    simp)
  have e : cntL (updI L t (-1)) (L t) k = cntL L (L t) k - 1 := by rw [cntL_upd h0 h1, bI_t rfl, bI_f (P := (-1:Int) = L t) (by omega)]; omega
  have c := cntL_rg (updI L t (-1)) (L t) (k := k) (by omega)
  unfold distL
  rw [h]
  show _ + (bI (0 < cntL (updI L t (-1)) (L t) k) - bI (0 < cntL L (L t) k)) = _
  rw [bI_t (P := 0 < cntL L (L t) k) (by omega)]
  by_cases q : cntL (updI L t (-1)) (L t) k = 0
  · rw [bI_f (P := 0 < _) (by omega), bI_t q]; omega
  · rw [bI_t (P := 0 < _) (by omega), bI_f q]; omega
theorem distL_add {L : Int → Int} {t v N k : Int} (hN : 0 ≤ N) (h0 : 0 ≤ t) (h1 : t < k) (g0 : 0 ≤ v) (g1 : v < N) (hl : L t = -1) : distL (updI L t v) N k = distL L N k + bI (cntL L v k = 0) := by
  have h := sum_one (f := fun b => bI (0 < cntL (updI L t v) b k)) (g := fun b => bI (0 < cntL L b k)) hN g0 g1 (fun j a _ ne => by
    show bI _ = bI _
    rw [cntL_upd h0 h1, bI_f (P := L t = j) (by omega), bI_f (P := v = j) (fun q => ne q.symm)]
    simp)
  have e : cntL (updI L t v) v k = cntL L v k + 1 := by rw [cntL_upd h0 h1, bI_f (P := L t = v) (by omega), bI_t rfl]; omega
  have c := cntL_rg L v (k := k) (by omega)
  unfold distL
  rw [h]
  show _ + (bI (0 < cntL (updI L t v) v k) - bI (0 < cntL L v k)) = _
  rw [bI_t (P := 0 < cntL (updI L t v) v k) (by omega)]
  by_cases q : cntL L v k = 0
  · rw [bI_f (P := 0 < _) (by omega), bI_t q]; omega
  · rw [bI_t (P := 0 < _) (by omega), bI_f q]; omega
theorem faceF_zap (N : Int → Int) (t j : Int) : faceF (updI N t 0) j = updI (faceF N) t (-1) j := by
  unfold faceF updI
  by_cases e : j = t
  · rw [if_pos e, if_pos e]; rfl
  · rw [if_neg e, if_neg e]
theorem blkF_zap (N : Int → Int) (t j : Int) : blkF (updI N t 0) j = updI (blkF N) t (-1) j := by
  unfold blkF updI
  by_cases e : j = t
  · rw [if_pos e, if_pos e]; rfl
  · rw [if_neg e, if_neg e]
theorem lost_z {M : Int → Int} {x y z k : Int} (hx : okX x y z) (h0 : 0 ≤ k) (h6 : k < 6) (ht : takP M x y z k) : lostF M x y z k = faceF (zapK M x y z k) (triB x y z k) := by
  unfold lostF
  rw [if_pos ht]
  unfold faceF
  rw [zapK_at hx h0 (by omega) k (by omega) h6]
/-- what a face loses at a step -/
theorem ofF_zap {M : Int → Int} {x y z k : Int} (hx : okX x y z) (h0 : 0 ≤ k) (h6 : k < 6) {f : Int} (hf : 0 ≤ f) : ofF (zapK M x y z (k + 1)) 512 f = ofF (zapK M x y z k) 512 f - bI (lostF M x y z k = f) := by
  have tr := triB_rg hx.1 hx.2.1 hx.2.2 (w := k) ⟨h0, h6⟩
  unfold ofF
  rw [zapK_s h0]
  by_cases q : takP M x y z k
  · rw [if_pos q, cntL_cg (fun j _ _ => faceF_zap _ _ j), cntL_upd tr.1 tr.2, ← lost_z hx h0 h6 q, bI_f (P := (-1:Int) = f) (by omega)]
    omega
  · rw [if_neg q, bI_f (P := lostF M x y z k = f) (by unfold lostF; rw [if_neg q]; omega)]
    omega
def chF (f : Int → Int) (N i d : Int) : Int → Int := if 0 ≤ i ∧ i < N then updI f i (f i + d) else f
theorem chF_zap {M : Int → Int} (H : MOk M) {x y z k : Int} (hx : okX x y z) (h0 : 0 ≤ k) (h6 : k < 6) {f : Int} (hf : 0 ≤ f) : chF (ofF (zapK M x y z k) 512) 864 (lostF M x y z k) (-1) f = ofF (zapK M x y z (k + 1)) 512 f := by
  rw [ofF_zap hx h0 h6 hf]
  have r := lostF_rg H x y z k
  unfold chF
  by_cases q : 0 ≤ lostF M x y z k ∧ lostF M x y z k < 864
  · rw [if_pos q]
    unfold updI
    by_cases e : f = lostF M x y z k
    · rw [if_pos e, bI_t e.symm, e]; omega
    · rw [if_neg e, bI_f (fun h => e h.symm)]; omega
  · rw [if_neg q, bI_f (by omega)]; omega
def lostK (M : Int → Int) (x y z f k : Int) : Int := itI (fun w s => s + bI (lostF M x y z w = f)) 0 k
theorem lostK_s {M : Int → Int} {x y z f k : Int} (h : 0 ≤ k) : lostK M x y z f (k + 1) = lostK M x y z f k + bI (lostF M x y z k = f) := itI_s _ _ h
def addL (F M : Int → Int) (x y z k : Int) : Int → Int := fun f => F f + lostK M x y z f k
theorem addL_s {F M : Int → Int} (H : MOk M) {x y z k : Int} (h0 : 0 ≤ k) {f : Int} (hf : 0 ≤ f) : chF (addL F M x y z k) 864 (lostF M x y z k) 1 f = addL F M x y z (k + 1) f := by
  have r := lostF_rg H x y z k
  unfold chF
  by_cases q : 0 ≤ lostF M x y z k ∧ lostF M x y z k < 864
  · rw [if_pos q]
    unfold updI addL
    rw [lostK_s h0]
    by_cases e : f = lostF M x y z k
    · rw [if_pos e, bI_t e.symm, e]; omega
    · rw [if_neg e, bI_f (fun h => e h.symm)]; omega
  · rw [if_neg q]
    unfold addL
    rw [lostK_s h0, bI_f (by omega)]; omega
theorem lostK_z {M : Int → Int} {x y z : Int} (hx : okX x y z) {k : Int} (h0 : 0 ≤ k) (h6 : k ≤ 6) {f : Int} (hf : 0 ≤ f) : ofF (zapK M x y z k) 512 f + lostK M x y z f k = ofF M 512 f := by
  have key : ∀ m : Nat, (m : Int) ≤ 6 → ofF (zapK M x y z m) 512 f + lostK M x y z f m = ofF M 512 f := by
    intro m
    induction m with
    | zero => intro _; show ofF M 512 f + 0 = _; omega
    | succ m ih =>
      intro hm
      have e : ((m + 1 : Nat) : Int) = (m : Int) + 1 := by omega
      rw [e, ofF_zap hx (by omega) (by omega) hf, lostK_s (by omega)]
      have := ih (by omega)
      omega
  obtain ⟨m, rfl⟩ := Int.eq_ofNat_of_zero_le h0
  exact key m h6
/-- how many blocks are no longer seen behind a step -/
theorem dist_zap {M : Int → Int} (H : MOk M) {x y z k : Int} (hx : okX x y z) (h0 : 0 ≤ k) (h6 : k < 6) : distL (blkF (zapK M x y z (k + 1))) 288 512 = distL (blkF (zapK M x y z k)) 288 512 - bI (lostF M x y z k ≠ -1 ∧ cntL (blkF (zapK M x y z (k + 1))) (lostF M x y z k / 3) 512 = 0) := by
  have tr := triB_rg hx.1 hx.2.1 hx.2.2 (w := k) ⟨h0, h6⟩
  have hz := zapK_at (M := M) hx h0 (by omega) k (by omega) h6
  have hok := zapK_ok H (x := x) (y := y) (z := z) h0
  by_cases q : takP M x y z k
  · have hl := lost_z hx h0 h6 q
    rw [zapK_s h0, if_pos q]
    by_cases e : zapK M x y z k (triB x y z k) = 0
    · have e1 : lostF M x y z k = -1 := by rw [hl]; unfold faceF; rw [if_pos e]
      rw [bI_f (by rw [e1]; exact fun w => w.1 rfl), distL_cg (fun j _ _ => blkF_zap _ _ j)]
      have e2 : ∀ j, updI (blkF (zapK M x y z k)) (triB x y z k) (-1) j = blkF (zapK M x y z k) j := fun j => by
        unfold updI
        by_cases r : j = triB x y z k
        · rw [if_pos r, r]; unfold blkF; rw [if_pos e]
        · rw [if_neg r]
      rw [distL_cg (fun j _ _ => e2 j)]
      omega
    · have rg := MOk.rg hok (triB x y z k)
      have e1 : blkF (zapK M x y z k) (triB x y z k) = lostF M x y z k / 3 := by rw [blk_face _ e, hl]
      have e3 : 0 ≤ lostF M x y z k := by
        have := lostF_rg H x y z k
        have h9 : lostF M x y z k ≠ -1 := by rw [hl]; exact fun w => e ((face_none hok _).mp w)
        omega
      rw [distL_cg (fun j _ _ => blkF_zap _ _ j), distL_del (by decide) tr.1 tr.2 (by rw [e1]; omega) (by omega)]
      rw [e1]
      rw [show cntL (blkF (updI (zapK M x y z k) (triB x y z k) 0)) (lostF M x y z k / 3) 512 = cntL (updI (blkF (zapK M x y z k)) (triB x y z k) (-1)) (lostF M x y z k / 3) 512 from cntL_cg (fun j _ _ => blkF_zap _ _ j)]
      rw [bI_c (show (lostF M x y z k ≠ -1 ∧ cntL (updI (blkF (zapK M x y z k)) (triB x y z k) (-1)) (lostF M x y z k / 3) 512 = 0) ↔ cntL (updI (blkF (zapK M x y z k)) (triB x y z k) (-1)) (lostF M x y z k / 3) 512 = 0 from ⟨fun w => w.2, fun w => ⟨by omega, w⟩⟩)]
  · rw [zapK_s h0, if_neg q, bI_f (by unfold lostF; rw [if_neg q]; exact fun w => w.1 rfl)]
    omega
/-- what another block brings, at a step: 1 if it is seen, less the blocks that are no longer seen -/
def moreK (M : Int → Int) (x y z k : Int) : Int := bI (0 < takK M x y z 0 6) + distL (blkF (zapK M x y z k)) 288 512 - distL (blkF M) 288 512
theorem moreK_0 (M : Int → Int) (x y z : Int) : moreK M x y z 0 = bI (0 < takK M x y z 0 6) := by
  unfold moreK
  show _ + distL (blkF M) 288 512 - _ = _
  omega
theorem moreK_s {M : Int → Int} (H : MOk M) {x y z k : Int} (hx : okX x y z) (h0 : 0 ≤ k) (h6 : k < 6) : moreK M x y z (k + 1) = moreK M x y z k - bI (lostF M x y z k ≠ -1 ∧ cntL (blkF (zapK M x y z (k + 1))) (lostF M x y z k / 3) 512 = 0) := by
  unfold moreK
  rw [dist_zap H hx h0 h6]
  omega
theorem moreK_rg (M : Int → Int) (x y z k : Int) : -288 ≤ moreK M x y z k ∧ moreK M x y z k ≤ 289 := by
  have a := bI_rg (0 < takK M x y z 0 6)
  have b := distL_rg (L := blkF (zapK M x y z k)) (N := 288) (k := 512) (by decide)
  have c := distL_rg (L := blkF M) (N := 288) (k := 512) (by decide)
  unfold moreK; omega

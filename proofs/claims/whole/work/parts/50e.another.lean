/-! ===== a picture with another block ===== -/
section AB
theorem fold_le {F : Int → (Int → Int) → Int → Int} {M : Int → Int} {t v : Int} {P : Int → Prop} {k : Int} (hk : 0 ≤ k) (hs : ∀ i N, 0 ≤ i → (F i N t ≤ v ↔ N t ≤ v ∧ P i)) : itI F M k t ≤ v ↔ M t ≤ v ∧ ∀ i, 0 ≤ i → i < k → P i := by
  refine sm_ind (P := fun k => itI F M k t ≤ v ↔ M t ≤ v ∧ ∀ i, 0 ≤ i → i < k → P i) ⟨fun q => ⟨q, fun _ a b => absurd b (by omega)⟩, fun q => q.1⟩ hk (fun i a _ ih => ?_)
  show itI F M (i + 1) t ≤ v ↔ M t ≤ v ∧ ∀ j, 0 ≤ j → j < i + 1 → P j
  rw [itI_s F M a, hs i _ a, ih]
  constructor
  · rintro ⟨⟨p, q⟩, r⟩
    refine ⟨p, fun j u w => ?_⟩
    rcases (show j = i ∨ j < i by omega) with e | e
    · rw [e]; exact r
    · exact q j u e
  · rintro ⟨p, q⟩
    exact ⟨⟨p, fun j u w => q j u (by omega)⟩, q i a (by omega)⟩
theorem drawW_le {M : Int → Int} {x y z w t v : Int} : drawW x y z w M t ≤ v ↔ M t ≤ v ∧ (triB x y z w = t → codeB x y z w ≤ v) := by
  unfold drawW updI
  by_cases e : t = triB x y z w
  · rw [if_pos e, e]
    unfold maxI
    constructor
    · intro q; split at q
      · exact ⟨by omega, fun _ => by omega⟩
      · exact ⟨by omega, fun _ => by omega⟩
    · intro q
      have := q.1
      have := q.2 rfl
      split <;> omega
  · rw [if_neg e]
    exact ⟨fun q => ⟨q, fun r => absurd r.symm e⟩, fun q => q.1⟩
theorem drawBK_le {M : Int → Int} {x y z t v : Int} {k : Int} (hk : 0 ≤ k) : drawBK x y z M k t ≤ v ↔ M t ≤ v ∧ ∀ w, 0 ≤ w → w < k → triB x y z w = t → codeB x y z w ≤ v :=
  fold_le (F := fun w N => drawW x y z w N) hk (fun i N _ => drawW_le)
theorem drawZK_le {M : Int → Int} {x y t v : Int} {k : Int} (hk : 0 ≤ k) : drawZK x y M k t ≤ v ↔ M t ≤ v ∧ ∀ z, 0 ≤ z → z < k → ∀ w, 0 ≤ w → w < 6 → triB x y z w = t → codeB x y z w ≤ v :=
  fold_le (F := fun z N => drawBK x y z N 6) hk (fun i N _ => drawBK_le (by decide))
theorem drawXK_le {h M : Int → Int} (H : ∀ j, 0 ≤ h j) {y t v : Int} {k : Int} (hk : 0 ≤ k) : drawXK h y M k t ≤ v ↔ M t ≤ v ∧ ∀ x, 0 ≤ x → x < k → ∀ z, 0 ≤ z → z < h (y * 6 + x) → ∀ w, 0 ≤ w → w < 6 → triB x y z w = t → codeB x y z w ≤ v :=
  fold_le (F := fun x N => drawZK x y N (h (y * 6 + x))) hk (fun i N _ => drawZK_le (H _))
theorem pic_le {n ho : Int} {h c : Int → Int} (H : YOk n ho h c) {t v : Int} : picM n h t ≤ v ↔ 0 ≤ v ∧ ∀ y, 0 ≤ y → y < n → ∀ x, 0 ≤ x → x < n → ∀ z, 0 ≤ z → z < h (y * 6 + x) → ∀ w, 0 ≤ w → w < 6 → triB x y z w = t → codeB x y z w ≤ v :=
  fold_le (F := fun y N => drawXK h y N n) (M := fun _ => 0) (by have := H.n; omega) (fun i N _ => drawXK_le (fun j => (H.h j).1) (by have := H.n; omega))
theorem pic_add {n ho : Int} {h c c2 : Int → Int} (H : YOk n ho h c) {x y : Int} (hx0 : 0 ≤ x) (hx1 : x < n) (hy0 : 0 ≤ y) (hy1 : y < n) (H2 : YOk n ho (updI h (y * 6 + x) (h (y * 6 + x) + 1)) c2) : picM n (updI h (y * 6 + x) (h (y * 6 + x) + 1)) = drawBK x y (h (y * 6 + x)) (picM n h) 6 := by
  have hn := H.n
  have hh := H.h (y * 6 + x)
  funext t
  refine Int.le_antisymm ?_ ?_
  · obtain ⟨p, r⟩ := (drawBK_le (x := x) (y := y) (z := h (y * 6 + x)) (M := picM n h) (t := t) (k := 6) (by decide)).mp (Int.le_refl _)
    obtain ⟨p0, p1⟩ := (pic_le H).mp p
    refine (pic_le H2).mpr ⟨p0, fun y1 a b x1 a1 b1 z1 a2 b2 w a3 b3 e => ?_⟩
    by_cases q : y1 * 6 + x1 = y * 6 + x
    · obtain ⟨rfl, rfl⟩ : y1 = y ∧ x1 = x := by omega
      rw [updI_s] at b2
      rcases (show z1 = h (y1 * 6 + x1) ∨ z1 < h (y1 * 6 + x1) by omega) with u | u
      · subst u; exact r w a3 b3 e
      · exact p1 y1 a b x1 a1 b1 z1 a2 u w a3 b3 e
    · rw [updI_n q] at b2
      exact p1 y1 a b x1 a1 b1 z1 a2 b2 w a3 b3 e
  · obtain ⟨p0, p1⟩ := (pic_le H2 (t := t)).mp (Int.le_refl _)
    refine (drawBK_le (by decide)).mpr ⟨(pic_le H).mpr ⟨p0, fun y1 a b x1 a1 b1 z1 a2 b2 w a3 b3 e => p1 y1 a b x1 a1 b1 z1 a2 ?_ w a3 b3 e⟩, fun w a3 b3 e => p1 y hy0 hy1 x hx0 hx1 (h (y * 6 + x)) hh.1 ?_ w a3 b3 e⟩
    · by_cases q : y1 * 6 + x1 = y * 6 + x
      · rw [q, updI_s]; rw [q] at b2; omega
      · rw [updI_n q]; exact b2
    · rw [updI_s]; omega
theorem drawBK_at {M : Int → Int} {x y z : Int} (hx : okX x y z) {k : Int} (h0 : 0 ≤ k) (h6 : k ≤ 6) : ∀ w, k ≤ w → w < 6 → drawBK x y z M k (triB x y z w) = M (triB x y z w) := by
  refine itI_ind (F := fun w N => drawW x y z w N) (a := M) (fun k N => ∀ w, k ≤ w → w < 6 → N (triB x y z w) = M (triB x y z w)) (fun _ _ _ => rfl) h0 (fun k N a b hN w hw hw6 => ?_)
  show drawW x y z k N (triB x y z w) = _
  unfold drawW
  rw [updI_n (fun e => by have := tri_w (hx.b ⟨by omega, hw6⟩) (hx.b ⟨a, by omega⟩) e; omega)]
  exact hN w (by omega) hw6
theorem blk_draw {M : Int → Int} (H : MOk M) {x y z : Int} (hx : okX x y z) {k : Int} (h0 : 0 ≤ k) (h6 : k < 6) (ht : takP M x y z k) (j : Int) : blkF (drawBK x y z M (k + 1)) j = updI (blkF (drawBK x y z M k)) (triB x y z k) (blkN x y z) j := by
  have e : drawBK x y z M k (triB x y z k) = M (triB x y z k) := drawBK_at hx h0 (by omega) k (Int.le_refl _) h6
  have hN : MOk (drawBK x y z M k) := drawBK_ok H hx.1 hx.2.1 hx.2.2 h0 (by omega)
  have hb := hx.b (w := k) ⟨h0, h6⟩
  have ht2 : nearF (drawBK x y z M k) (triB x y z k) < x + y + z := by
    have q : nearF M (triB x y z k) < x + y + z := ht
    unfold nearF at q ⊢
    rw [e]; exact q
  rw [drawBK_s h0]
  have a := codeB_f hb
  unfold blkF
  rw [draw_at hN hb ht2]
  unfold updI
  by_cases q : j = triB x y z k
  · rw [if_pos q, if_pos q, if_neg a.1, a.2.2]
    omega
  · rw [if_neg q, if_neg q]
theorem draw_not {M : Int → Int} (H : MOk M) {x y z : Int} (hx : okX x y z) {k : Int} (h0 : 0 ≤ k) (h6 : k < 6) (ht : ¬ takP M x y z k) : drawBK x y z M (k + 1) = drawBK x y z M k := by
  have e : drawBK x y z M k (triB x y z k) = M (triB x y z k) := drawBK_at hx h0 (by omega) k (Int.le_refl _) h6
  have hN : MOk (drawBK x y z M k) := drawBK_ok H hx.1 hx.2.1 hx.2.2 h0 (by omega)
  rw [drawBK_s h0]
  refine drawW_no hN (hx.b ⟨h0, h6⟩) (fun q => ht ?_)
  show nearF M (triB x y z k) < x + y + z
  unfold nearF at q ⊢
  rw [e] at q; exact q
theorem blk_at {M N : Int → Int} {t : Int} (e : N t = M t) : blkF N t = blkF M t := by unfold blkF; rw [e]
theorem cnt_draw {M : Int → Int} (H : MOk M) {x y z : Int} (hx : okX x y z) {b : Int} (hb : 0 ≤ b) {k : Int} (h0 : 0 ≤ k) (h6 : k ≤ 6) : cntL (blkF (drawBK x y z M k)) b 512 = cntL (blkF (zapK M x y z k)) b 512 + if b = blkN x y z then takK M x y z 0 k else 0 := by
  refine sm_ind (P := fun k => cntL (blkF (drawBK x y z M k)) b 512 = cntL (blkF (zapK M x y z k)) b 512 + if b = blkN x y z then takK M x y z 0 k else 0) ?_ h0 (fun i a a6 ih => ?_)
  · show cntL (blkF M) b 512 = cntL (blkF M) b 512 + if b = blkN x y z then 0 else 0
    split <;> omega
  · have i6 : i < 6 := by omega
    have ih : cntL (blkF (drawBK x y z M i)) b 512 = cntL (blkF (zapK M x y z i)) b 512 + if b = blkN x y z then takK M x y z 0 i else 0 := ih
    have T := triB_rg hx.1 hx.2.1 hx.2.2 (w := i) ⟨a, i6⟩
    rw [takK_s a]
    by_cases q : takP M x y z i
    · rw [cntL_cg (L := blkF (drawBK x y z M (i + 1))) (fun j _ _ => blk_draw H hx a i6 q j), cntL_upd T.1 T.2, zapK_s a, if_pos q, cntL_cg (L := blkF (updI (zapK M x y z i) (triB x y z i) 0)) (fun j _ _ => blkF_zap _ _ j), cntL_upd T.1 T.2, ih]
      rw [blk_at (drawBK_at (M := M) hx a (by omega) i (Int.le_refl _) i6), blk_at (zapK_at (M := M) hx a (by omega) i (Int.le_refl _) i6), bI_f (P := (-1 : Int) = b) (by omega), bI_t (P := takP M x y z i ∧ _) ⟨q, Or.inl rfl⟩]
      by_cases r : b = blkN x y z
      · rw [if_pos r, if_pos r, bI_t r.symm]; omega
      · rw [if_neg r, if_neg r, bI_f (P := blkN x y z = b) (fun s => r s.symm)]; omega
    · rw [draw_not H hx a i6 q, zapK_s a, if_neg q, ih, bI_f (P := takP M x y z i ∧ _) (fun r => q r.1), Int.add_zero]
theorem cnt_none {L : Int → Int} {b k : Int} (hk : 0 ≤ k) (h : ∀ t, L t ≠ b) : cntL L b k = 0 := by
  have r := cntL_rg L b hk
  rcases (show cntL L b k = 0 ∨ 0 < cntL L b k by omega) with q | q
  · exact q
  · obtain ⟨t, _, _, e⟩ := cnt_ex hk q
    exact absurd e (h t)
theorem zap_or {M : Int → Int} {x y z : Int} {k : Int} (h0 : 0 ≤ k) (t : Int) : zapK M x y z k t = M t ∨ zapK M x y z k t = 0 := by
  refine itI_ind (F := fun w N => if takP M x y z w then updI N (triB x y z w) 0 else N) (a := M) (fun _ N => N t = M t ∨ N t = 0) (Or.inl rfl) h0 (fun k N a b hN => ?_)
  by_cases q : takP M x y z k
  · rw [if_pos q]
    unfold updI
    split
    · exact Or.inr rfl
    · exact hN
  · rw [if_neg q]; exact hN
theorem blk_new {n : Int} {h M : Int → Int} (H : MIn n h M) {x y : Int} (hx : okX x y (h (y * 6 + x))) (t : Int) : blkF M t ≠ blkN x y (h (y * 6 + x)) := by
  have B := blkN_rg hx.1 hx.2.1 hx.2.2
  by_cases q : M t = 0
  · unfold blkF; rw [if_pos q]; omega
  · have b := MIn.blk H q
    intro e
    rw [e] at b
    have c := blkN_xyz (z := h (y * 6 + x)) hx.1 hx.2.1
    rw [c.1, c.2.1, c.2.2] at b
    omega
theorem seen_add {n : Int} {h M : Int → Int} (H : MIn n h M) {x y : Int} (hx : okX x y (h (y * 6 + x))) : distL (blkF (drawBK x y (h (y * 6 + x)) M 6)) 288 512 - distL (blkF M) 288 512 = moreK M x y (h (y * 6 + x)) 6 := by
  have B := blkN_rg hx.1 hx.2.1 hx.2.2
  have e := sum_one (f := fun b => bI (0 < cntL (blkF (drawBK x y (h (y * 6 + x)) M 6)) b 512)) (g := fun b => bI (0 < cntL (blkF (zapK M x y (h (y * 6 + x)) 6)) b 512)) (N := 288) (by decide) B.1 B.2 (fun j a b ne => by
    show bI _ = bI _
    rw [cnt_draw H.ok hx a (by decide) (by decide), if_neg ne, Int.add_zero])
  have z0 : cntL (blkF (zapK M x y (h (y * 6 + x)) 6)) (blkN x y (h (y * 6 + x))) 512 = 0 := cnt_none (by decide) (fun t => by
    rcases zap_or (M := M) (x := x) (y := y) (z := h (y * 6 + x)) (k := 6) (by decide) t with q | q
    · rw [blk_at q]; exact blk_new H hx t
    · unfold blkF; rw [if_pos q]; omega)
  have e : distL (blkF (drawBK x y (h (y * 6 + x)) M 6)) 288 512 = distL (blkF (zapK M x y (h (y * 6 + x)) 6)) 288 512 + (bI (0 < cntL (blkF (drawBK x y (h (y * 6 + x)) M 6)) (blkN x y (h (y * 6 + x))) 512) - bI (0 < cntL (blkF (zapK M x y (h (y * 6 + x)) 6)) (blkN x y (h (y * 6 + x))) 512)) := e
  rw [cnt_draw H.ok hx B.1 (by decide) (by decide), if_pos rfl, z0, Int.zero_add, bI_f (P := (0 : Int) < 0) (by omega)] at e
  unfold moreK
  omega
theorem over_add {n : Int} {h M : Int → Int} (H : MIn n h M) {x y : Int} (hx : okX x y (h (y * 6 + x))) : sm (fun t => bI (M t ≠ 0 ∧ blkF (drawBK x y (h (y * 6 + x)) M 6) t = blkN x y (h (y * 6 + x)))) 512 = takK M x y (h (y * 6 + x)) 1 6 := by
  have B := blkN_rg hx.1 hx.2.1 hx.2.2
  refine sm_ind (P := fun k => k ≤ 6 → sm (fun t => bI (M t ≠ 0 ∧ blkF (drawBK x y (h (y * 6 + x)) M k) t = blkN x y (h (y * 6 + x)))) 512 = takK M x y (h (y * 6 + x)) 1 k) (fun _ => ?_) (by decide : (0 : Int) ≤ 6) (fun i a i6 ih _ => ?_) (by decide)
  · exact sm_none (by decide) (fun t _ _ => bI_f (fun q => blk_new H hx t q.2))
  · have ih := ih (by omega)
    have T := triB_rg hx.1 hx.2.1 hx.2.2 (w := i) ⟨a, i6⟩
    rw [takK_s a]
    by_cases q : takP M x y (h (y * 6 + x)) i
    · have e := sum_one (f := fun t => bI (M t ≠ 0 ∧ blkF (drawBK x y (h (y * 6 + x)) M (i + 1)) t = blkN x y (h (y * 6 + x)))) (g := fun t => bI (M t ≠ 0 ∧ blkF (drawBK x y (h (y * 6 + x)) M i) t = blkN x y (h (y * 6 + x)))) (N := 512) (by decide) T.1 T.2 (fun j _ _ ne => by
        show bI _ = bI _
        rw [blk_draw H.ok hx a i6 q, updI_n ne])
      have e1 : blkF (drawBK x y (h (y * 6 + x)) M (i + 1)) (triB x y (h (y * 6 + x)) i) = blkN x y (h (y * 6 + x)) := by rw [blk_draw H.ok hx a i6 q, updI_s]
      have e2 : blkF (drawBK x y (h (y * 6 + x)) M i) (triB x y (h (y * 6 + x)) i) ≠ blkN x y (h (y * 6 + x)) := by
        rw [blk_at (drawBK_at (M := M) hx a (by omega) i (Int.le_refl _) i6)]; exact blk_new H hx _
      refine e.trans ?_
      show sm _ 512 + (bI _ - bI _) = _
      rw [ih, bI_f (P := M (triB x y (h (y * 6 + x)) i) ≠ 0 ∧ blkF (drawBK x y (h (y * 6 + x)) M i) (triB x y (h (y * 6 + x)) i) = blkN x y (h (y * 6 + x))) (fun r => e2 r.2)]
      rw [bI_c (P := M (triB x y (h (y * 6 + x)) i) ≠ 0 ∧ blkF (drawBK x y (h (y * 6 + x)) M (i + 1)) (triB x y (h (y * 6 + x)) i) = blkN x y (h (y * 6 + x))) (Q := takP M x y (h (y * 6 + x)) i ∧ ((1 : Int) = 0 ∨ M (triB x y (h (y * 6 + x)) i) ≠ 0)) ⟨fun r => ⟨q, Or.inr r.1⟩, fun r => ⟨r.2.resolve_left (by decide), e1⟩⟩]
      omega
    · rw [draw_not H.ok hx a i6 q, ih, bI_f (P := takP M x y (h (y * 6 + x)) i ∧ _) (fun r => q r.1), Int.add_zero]
theorem mb_eq {M : Int → Int} (H : MOk M) {x y z : Int} (hx : okX x y z) (t : Int) : mbF M t = 8 * (6 * y + x) + z ↔ blkF M t = blkN x y z := by
  have r := MOk.rg H t
  have e := mb_none H t
  have hx1 := hx.1
  have hx2 := hx.2.1
  have hx3 := hx.2.2
  by_cases q : M t = 0
  · have b : blkF M t = -1 := if_pos q
    rw [e.mpr q, b]
    unfold blkN
    omega
  · have m : mbF M t = 8 * (blkF M t % 36) + blkF M t / 36 := if_neg q
    have p : 0 ≤ blkF M t := by
      have := blk_face t q
      have r2 : faceF M t ≠ -1 := fun w => q ((face_none H t).mp w)
      omega
    rw [m]
    unfold blkN
    omega
/-- a fold of folds -/
theorem fold_prod {α : Type} {F : Int → α → α} {a : α} {m k : Int} (hm : 0 ≤ m) (hk : 0 ≤ k) : itI F a (m * k) = itI (fun i x => itI (fun j x => F (i * k + j) x) x k) a m := by
  have ap : ∀ (b c : Int), 0 ≤ b → 0 ≤ c → itI F a (b + c) = itI (fun j x => F (b + j) x) (itI F a b) c := by
    intro b c hb hc
    refine sm_ind (P := fun c => itI F a (b + c) = itI (fun j x => F (b + j) x) (itI F a b) c) (by show itI F a (b + 0) = itI F a b; rw [Int.add_zero]) hc (fun i u _ ih => ?_)
    show itI F a (b + (i + 1)) = itI (fun j x => F (b + j) x) (itI F a b) (i + 1)
    rw [itI_s _ _ u, ← Int.add_assoc, itI_s _ _ (by omega), ih]
  refine sm_ind (P := fun m => itI F a (m * k) = itI (fun i x => itI (fun j x => F (i * k + j) x) x k) a m) (by show itI F a (0 * k) = a; rw [Int.zero_mul]; rfl) hm (fun i u _ ih => ?_)
  show itI F a ((i + 1) * k) = itI (fun i x => itI (fun j x => F (i * k + j) x) x k) a (i + 1)
  rw [itI_s _ _ u, ← ih, Int.add_mul, Int.one_mul]
  exact ap _ _ (Int.mul_nonneg u hk) hk
end AB
/-- putting a block of colour 0 and taking it again -/
theorem pt_h {n ho : Int} {h c : Int → Int} (H : YOk n ho h c) {q : Int} (h8 : h q < 8) (j : Int) : lowH (updI h q (h q + 1)) q (updI h q (h q + 1) q - 1) j = h j := by
  have hh := H.h q
  rw [updI_s, show h q + 1 - 1 = h q by omega]
  unfold lowH
  rw [updI_s, if_pos ⟨hh.1, by omega⟩, updI_u]
  exact updI_id h q j
theorem pt_c {n ho : Int} {h c : Int → Int} (H : YOk n ho h c) {q : Int} (h8 : h q < 8) (j : Int) : lowC (updI h q (h q + 1)) (updI c q (c q + 0 * p4 (h q))) q (updI h q (h q + 1) q - 1) j = c j := by
  have hh := H.h q
  have hc := H.c q
  rw [updI_s, show h q + 1 - 1 = h q by omega]
  unfold lowC
  rw [updI_s, if_pos ⟨hh.1, by omega⟩, updI_u, updI_s, Int.zero_mul, Int.add_zero, Int.emod_eq_of_lt hc.1 hc.2]
  exact updI_id c q j

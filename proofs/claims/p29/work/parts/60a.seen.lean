/-! ===== the picture, by the law's own look along the slant ===== -/
abbrev cellP (n : Int) (h : Int → Int) (x y z : Int) : Prop := okS n x y ∧ 0 ≤ z ∧ z < h (y * 6 + x)
/-- the greatest z below k at which a block of the line stands, or -1 -/
def nearK (n : Int) (h : Int → Int) (p q k : Int) : Int := itI (fun z m => if cellP n h (p + z) (q + z) z then z else m) (-1) k
theorem nearK_s {n : Int} {h : Int → Int} {p q k : Int} (h0 : 0 ≤ k) : nearK n h p q (k + 1) = if cellP n h (p + k) (q + k) k then k else nearK n h p q k := itI_s _ _ h0
theorem nearK_spec (n : Int) (h : Int → Int) (p q : Int) {k : Int} (h0 : 0 ≤ k) : (nearK n h p q k = -1 ∨ ((0 ≤ nearK n h p q k ∧ nearK n h p q k < k) ∧ cellP n h (p + nearK n h p q k) (q + nearK n h p q k) (nearK n h p q k))) ∧ ∀ z, nearK n h p q k < z → z < k → ¬ cellP n h (p + z) (q + z) z := by
  refine itI_ind (F := fun z m => if cellP n h (p + z) (q + z) z then z else m) (a := (-1 : Int)) (fun k m => (m = -1 ∨ ((0 ≤ m ∧ m < k) ∧ cellP n h (p + m) (q + m) m)) ∧ ∀ z, m < z → z < k → ¬ cellP n h (p + z) (q + z) z) ⟨Or.inl rfl, fun z a b => by omega⟩ h0 (fun k m a b hm => ?_)
  by_cases c : cellP n h (p + k) (q + k) k
  · rw [if_pos c]
    exact ⟨Or.inr ⟨⟨a, by omega⟩, c⟩, fun z u v => by omega⟩
  · rw [if_neg c]
    refine ⟨hm.1.imp id (fun w => ⟨⟨w.1.1, by omega⟩, w.2⟩), fun z u v => ?_⟩
    by_cases e : z = k
    · rw [e]; exact c
    · exact hm.2 z u (by omega)
theorem nearK_rg (n : Int) (h : Int → Int) (p q : Int) {k : Int} (h0 : 0 ≤ k) (h8 : k ≤ 8) : -1 ≤ nearK n h p q k ∧ nearK n h p q k ≤ 7 := by
  have := (nearK_spec n h p q h0).1
  omega
def pF (i t f : Int) : Int := if f = 0 ∨ (f = 2 ∧ t = 0) then i + 1 else i
def qF (j t f : Int) : Int := if f = 0 ∨ (f = 1 ∧ t = 1) then j + 1 else j
def zF9 (n : Int) (h : Int → Int) (i j t f : Int) : Int := nearK n h (pF i t f) (qF j t f) 8
def nf (n : Int) (h : Int → Int) (i j t f : Int) : Int := if zF9 n h i j t f < 0 then -1 else pF i t f + qF j t f + 3 * zF9 n h i j t f
def bstK (n : Int) (h : Int → Int) (i j t k : Int) : Int := itI (fun f m => if m < nf n h i j t f then nf n h i j t f else m) (-1) k
theorem bstK_s {n : Int} {h : Int → Int} {i j t k : Int} (h0 : 0 ≤ k) : bstK n h i j t (k + 1) = if bstK n h i j t k < nf n h i j t k then nf n h i j t k else bstK n h i j t k := itI_s _ _ h0
def fcK (n : Int) (h : Int → Int) (i j t k : Int) : Int := itI (fun f m => if bstK n h i j t f < nf n h i j t f then f else m) (-1) k
theorem fcK_s {n : Int} {h : Int → Int} {i j t k : Int} (h0 : 0 ≤ k) : fcK n h i j t (k + 1) = if bstK n h i j t k < nf n h i j t k then k else fcK n h i j t k := itI_s _ _ h0
theorem pq_rg {i j t f : Int} (hi : -9 ≤ i ∧ i ≤ 6) (hj : -9 ≤ j ∧ j ≤ 6) : (-9 ≤ pF i t f ∧ pF i t f ≤ 7) ∧ -9 ≤ qF j t f ∧ qF j t f ≤ 7 := by
  unfold pF qF
  split <;> split <;> omega
theorem nf_rg {n : Int} {h : Int → Int} {i j t f : Int} (hi : -9 ≤ i ∧ i ≤ 6) (hj : -9 ≤ j ∧ j ≤ 6) : -1 ≤ nf n h i j t f ∧ nf n h i j t f ≤ 35 := by
  have a := pq_rg (t := t) (f := f) hi hj
  have b := nearK_spec n h (pF i t f) (qF j t f) (k := 8) (by decide)
  unfold nf zF9
  generalize nearK n h (pF i t f) (qF j t f) 8 = z at b
  split
  · omega
  · obtain ⟨b1 | ⟨b1, ⟨⟨b2, b3⟩, b4, b5⟩, b6⟩, -⟩ := b
    · omega
    · omega
theorem bf_inv (n : Int) (h : Int → Int) {i j t : Int} (hi : -9 ≤ i ∧ i ≤ 6) (hj : -9 ≤ j ∧ j ≤ 6) {k : Int} (h0 : 0 ≤ k) : ((fcK n h i j t k = -1 ∧ bstK n h i j t k = -1) ∨ ((0 ≤ fcK n h i j t k ∧ fcK n h i j t k < k) ∧ bstK n h i j t k = nf n h i j t (fcK n h i j t k) ∧ 0 ≤ bstK n h i j t k)) ∧ ∀ f, 0 ≤ f → f < k → nf n h i j t f ≤ bstK n h i j t k := by
  obtain ⟨m, rfl⟩ := Int.eq_ofNat_of_zero_le h0
  induction m with
  | zero => exact ⟨Or.inl ⟨rfl, rfl⟩, fun f a b => by omega⟩
  | succ m ih =>
    have e : ((m + 1 : Nat) : Int) = (m : Int) + 1 := by omega
    have i1 := ih (by omega)
    have r := nf_rg (n := n) (h := h) (t := t) (f := m) hi hj
    rw [e, fcK_s (by omega), bstK_s (by omega)]
    by_cases c : bstK n h i j t m < nf n h i j t m
    · rw [if_pos c, if_pos c]
      refine ⟨Or.inr ⟨⟨by omega, by omega⟩, rfl, by omega⟩, fun f a b => ?_⟩
      by_cases e2 : f = m
      · rw [e2]; exact Int.le_refl _
      · have := i1.2 f a (by omega)
        omega
    · rw [if_neg c, if_neg c]
      refine ⟨i1.1.imp id (fun w => ⟨⟨w.1.1, by omega⟩, w.2⟩), fun f a b => ?_⟩
      by_cases e2 : f = m
      · rw [e2]; omega
      · exact i1.2 f a (by omega)
theorem fc_rg (n : Int) (h : Int → Int) {i j t : Int} (hi : -9 ≤ i ∧ i ≤ 6) (hj : -9 ≤ j ∧ j ≤ 6) {k : Int} (h0 : 0 ≤ k) : (-1 ≤ fcK n h i j t k ∧ fcK n h i j t k < k) ∧ -1 ≤ bstK n h i j t k ∧ bstK n h i j t k ≤ 35 := by
  have a := bf_inv n h (t := t) hi hj h0
  have r := nf_rg (n := n) (h := h) (t := t) (f := fcK n h i j t k) hi hj
  omega
/-! drawing only ever brings nearer blocks -/
theorem mono_it {F : Int → (Int → Int) → (Int → Int)} {t : Int} (hF : ∀ k M, M t ≤ F k M t) {a : Int → Int} {k m : Int} (h0 : 0 ≤ k) (hk : k ≤ m) : itI F a k t ≤ itI F a m t := by
  obtain ⟨d, rfl⟩ := Int.le.dest hk
  induction d with
  | zero => rw [show k + ((0 : Nat) : Int) = k by omega]; exact Int.le_refl _
  | succ d ih =>
    rw [show k + ((d + 1 : Nat) : Int) = (k + d) + 1 by omega, itI_s _ _ (by omega)]
    have := ih (by omega)
    have := hF (k + d) (itI F a (k + d))
    omega
theorem drawW_ge (x y z w : Int) (M : Int → Int) (t : Int) : M t ≤ drawW x y z w M t := by
  unfold drawW updI
  by_cases e : t = triB x y z w
  · rw [if_pos e, e]; unfold maxI; split <;> omega
  · rw [if_neg e]; exact Int.le_refl _
theorem drawBK_ge (x y z : Int) (M : Int → Int) (t : Int) {k : Int} (h0 : 0 ≤ k) : M t ≤ drawBK x y z M k t := mono_it (F := fun w N => drawW x y z w N) (a := M) (k := 0) (fun k N => drawW_ge x y z k N t) (Int.le_refl 0) h0
theorem drawZK_ge (x y : Int) (M : Int → Int) (t : Int) {k : Int} (h0 : 0 ≤ k) : M t ≤ drawZK x y M k t := mono_it (F := fun z N => drawBK x y z N 6) (a := M) (k := 0) (fun k N => drawBK_ge x y k N t (by decide)) (Int.le_refl 0) h0
theorem drawXK_ge {h : Int → Int} (hh : ∀ j, 0 ≤ h j) (y : Int) (M : Int → Int) (t : Int) {k : Int} (h0 : 0 ≤ k) : M t ≤ drawXK h y M k t := mono_it (F := fun x N => drawZK x y N (h (y * 6 + x))) (a := M) (k := 0) (fun k N => drawZK_ge k y N t (hh _)) (Int.le_refl 0) h0
theorem draw_w (x y z : Int) (M : Int → Int) {w : Int} (h0 : 0 ≤ w) (h6 : w < 6) : codeB x y z w ≤ drawBK x y z M 6 (triB x y z w) := by
  have a := mono_it (F := fun w N => drawW x y z w N) (a := M) (k := w + 1) (m := 6) (t := triB x y z w) (fun k N => drawW_ge x y z k N _) (by omega) (by omega)
  have b : codeB x y z w ≤ drawBK x y z M (w + 1) (triB x y z w) := by
    rw [drawBK_s h0]
    unfold drawW updI
    rw [if_pos rfl]; unfold maxI; split <;> omega
  exact Int.le_trans b a
theorem draw_z (x y : Int) (M : Int → Int) {z w k : Int} (hz : 0 ≤ z) (hk : z < k) (h0 : 0 ≤ w) (h6 : w < 6) : codeB x y z w ≤ drawZK x y M k (triB x y z w) := by
  have a := mono_it (F := fun z N => drawBK x y z N 6) (a := M) (k := z + 1) (m := k) (t := triB x y z w) (fun k N => drawBK_ge x y k N _ (by decide)) (by omega) (by omega)
  have b : codeB x y z w ≤ drawZK x y M (z + 1) (triB x y z w) := by
    rw [drawZK_s hz]
    exact draw_w x y z _ h0 h6
  exact Int.le_trans b a
theorem draw_x {h : Int → Int} (hh : ∀ j, 0 ≤ h j) (y : Int) (M : Int → Int) {x z w k : Int} (hx : 0 ≤ x) (hk : x < k) (hz : 0 ≤ z) (hzh : z < h (y * 6 + x)) (h0 : 0 ≤ w) (h6 : w < 6) : codeB x y z w ≤ drawXK h y M k (triB x y z w) := by
  have a := mono_it (F := fun x N => drawZK x y N (h (y * 6 + x))) (a := M) (k := x + 1) (m := k) (t := triB x y z w) (fun k N => drawZK_ge k y N _ (hh _)) (by omega) (by omega)
  have b : codeB x y z w ≤ drawXK h y M (x + 1) (triB x y z w) := by
    rw [drawXK_s hx]
    exact draw_z x y _ hz hzh h0 h6
  exact Int.le_trans b a
/-- no block that stands is nearer than the one that is seen -/
theorem pic_ge {n ho : Int} {h c : Int → Int} (H : YOk n ho h c) {x y z w : Int} (hc : cellP n h x y z) (h0 : 0 ≤ w) (h6 : w < 6) : codeB x y z w ≤ picM n h (triB x y z w) := by
  obtain ⟨⟨⟨x0, x1⟩, y0, y1⟩, z0, z1⟩ := hc
  have hn := H.n
  have a := mono_it (F := fun y N => drawXK h y N n) (a := fun _ => 0) (k := y + 1) (m := n) (t := triB x y z w) (fun k N => drawXK_ge (fun j => (H.h j).1) k N _ (by omega)) (by omega) (by omega)
  have b : codeB x y z w ≤ drawYK n h (y + 1) (triB x y z w) := by
    rw [drawYK_s y0]
    exact draw_x (fun j => (H.h j).1) y _ x0 x1 z0 z1 h0 h6
  exact Int.le_trans b a
/-- which of a block's triangles, by its face and half -/
def wF (t f : Int) : Int := if f = 0 then t else if f = 1 then (if t = 1 then 2 else 3) else 4 + t
theorem tri_of {i j t f z : Int} (hf : 0 ≤ f ∧ f < 3) (ht : 0 ≤ t ∧ t ≤ 1) : triB (pF i t f + z) (qF j t f + z) z (wF t f) = triN i j t ∧ (0 ≤ wF t f ∧ wF t f < 6) ∧ wF t f / 2 = f := by
  rcases (show f = 0 ∨ f = 1 ∨ f = 2 by omega) with q | q | q <;> subst q <;> rcases (show t = 0 ∨ t = 1 by omega) with r | r <;> subst r <;> simp [triB, triN, pF, qF, wF, tI, tJ, tH, atI] <;> omega
theorem tri_back {i j t x y z w : Int} (hi : -9 ≤ i ∧ i ≤ 6) (hj : -9 ≤ j ∧ j ≤ 6) (ht : 0 ≤ t ∧ t ≤ 1) (h : okB x y z w) (e : triB x y z w = triN i j t) : x = pF i t (w / 2) + z ∧ y = qF j t (w / 2) + z ∧ w = wF t (w / 2) := by
  obtain ⟨hx, hy, hz, hw⟩ := h
  rcases (show w = 0 ∨ w = 1 ∨ w = 2 ∨ w = 3 ∨ w = 4 ∨ w = 5 by omega) with q | q | q | q | q | q <;> subst q <;> rcases (show t = 0 ∨ t = 1 by omega) with r | r <;> subst r <;> simp [triB, triN, pF, qF, wF, tI, tJ, tH, atI] at e ⊢ <;> omega
/-- what is seen in a triangle is what the look along the slant finds -/
theorem seen_pic {n ho : Int} {h c : Int → Int} (H : YOk n ho h c) {i j t : Int} (hi : -9 ≤ i ∧ i ≤ 6) (hj : -9 ≤ j ∧ j ≤ 6) (ht : 0 ≤ t ∧ t ≤ 1) :
    (fcK n h i j t 3 = -1 ∧ picM n h (triN i j t) = 0) ∨ ((0 ≤ fcK n h i j t 3 ∧ fcK n h i j t 3 < 3) ∧ (0 ≤ zF9 n h i j t (fcK n h i j t 3) ∧ zF9 n h i j t (fcK n h i j t 3) ≤ 7) ∧ cellP n h (pF i t (fcK n h i j t 3) + zF9 n h i j t (fcK n h i j t 3)) (qF j t (fcK n h i j t 3) + zF9 n h i j t (fcK n h i j t 3)) (zF9 n h i j t (fcK n h i j t 3)) ∧ picM n h (triN i j t) = codeB (pF i t (fcK n h i j t 3) + zF9 n h i j t (fcK n h i j t 3)) (qF j t (fcK n h i j t 3) + zF9 n h i j t (fcK n h i j t 3)) (zF9 n h i j t (fcK n h i j t 3)) (wF t (fcK n h i j t 3))) := by
  have hn := H.n
  -- a face that the look finds
  have key : ∀ f, 0 ≤ f → f < 3 → 0 ≤ nf n h i j t f → (0 ≤ zF9 n h i j t f ∧ zF9 n h i j t f ≤ 7) ∧ cellP n h (pF i t f + zF9 n h i j t f) (qF j t f + zF9 n h i j t f) (zF9 n h i j t f) ∧ nf n h i j t f = (pF i t f + zF9 n h i j t f) + (qF j t f + zF9 n h i j t f) + zF9 n h i j t f ∧ codeB (pF i t f + zF9 n h i j t f) (qF j t f + zF9 n h i j t f) (zF9 n h i j t f) (wF t f) ≤ picM n h (triN i j t) := by
    intro f f0 f3 hf
    have a := nearK_spec n h (pF i t f) (qF j t f) (k := 8) (by decide)
    have b := tri_of (i := i) (j := j) (t := t) (f := f) (z := zF9 n h i j t f) ⟨f0, f3⟩ ht
    have e : nf n h i j t f = if zF9 n h i j t f < 0 then -1 else pF i t f + qF j t f + 3 * zF9 n h i j t f := rfl
    have e2 : nearK n h (pF i t f) (qF j t f) 8 = zF9 n h i j t f := rfl
    rw [e2] at a
    by_cases c : zF9 n h i j t f < 0
    · rw [if_pos c] at e; omega
    · rw [if_neg c] at e
      rcases a.1 with a1 | ⟨a1, a2⟩
      · omega
      · refine ⟨⟨by omega, by omega⟩, a2, by omega, ?_⟩
        rw [← b.1]
        exact pic_ge H a2 b.2.1.1 b.2.1.2
  have inv := bf_inv n h (t := t) hi hj (k := 3) (by decide)
  rcases picM_in H (triN i j t) with z0 | ⟨x, y, z, w, hb, ⟨x1, y1, z1⟩, ht2, hm⟩
  · -- nothing is seen
    rcases inv.1 with v | ⟨v1, v2, v3⟩
    · exact Or.inl ⟨v.1, z0⟩
    · have k := key _ v1.1 v1.2 (by omega)
      have g := codeB_f (x := pF i t (fcK n h i j t 3) + zF9 n h i j t (fcK n h i j t 3)) (y := qF j t (fcK n h i j t 3) + zF9 n h i j t (fcK n h i j t 3)) (z := zF9 n h i j t (fcK n h i j t 3)) (w := wF t (fcK n h i j t 3)) ⟨⟨k.2.1.1.1.1, by have := k.2.1.1.1.2; omega⟩, ⟨k.2.1.1.2.1, by have := k.2.1.1.2.2; omega⟩, k.1, (tri_of (i := i) (j := j) (z := 0) v1 ht).2.1⟩
      have l := k.2.2.2
      have b0 := blkN_rg (x := pF i t (fcK n h i j t 3) + zF9 n h i j t (fcK n h i j t 3)) (y := qF j t (fcK n h i j t 3) + zF9 n h i j t (fcK n h i j t 3)) (z := zF9 n h i j t (fcK n h i j t 3)) ⟨k.2.1.1.1.1, by have := k.2.1.1.1.2; omega⟩ ⟨k.2.1.1.2.1, by have := k.2.1.1.2.2; omega⟩ k.1
      have hw := (tri_of (i := i) (j := j) (t := t) (f := fcK n h i j t 3) (z := 0) v1 ht).2.1
      have s0 := k.2.1.1.1.1
      have s1 := k.2.1.1.2.1
      exfalso
      rw [z0] at l
      unfold codeB at l
      omega
  · -- the block that is seen
    obtain ⟨b1, b2, b3⟩ := tri_back hi hj ht hb ht2
    have hw := hb.2.2.2
    have cb : cellP n h x y z := ⟨⟨⟨hb.1.1, x1⟩, hb.2.1.1, y1⟩, hb.2.2.1.1, z1⟩
    -- the look finds at least that block at its face
    have a := nearK_spec n h (pF i t (w / 2)) (qF j t (w / 2)) (k := 8) (by decide)
    have e2 : nearK n h (pF i t (w / 2)) (qF j t (w / 2)) 8 = zF9 n h i j t (w / 2) := rfl
    rw [e2] at a
    have zz : z ≤ zF9 n h i j t (w / 2) := Decidable.byContradiction fun q => a.2 z (by omega) (by have := hb.2.2.1.2; omega) (by rw [← b1, ← b2]; exact cb)
    have e : nf n h i j t (w / 2) = if zF9 n h i j t (w / 2) < 0 then -1 else pF i t (w / 2) + qF j t (w / 2) + 3 * zF9 n h i j t (w / 2) := rfl
    have z00 := hb.2.2.1.1
    rw [if_neg (by omega)] at e
    have x00 := hb.1.1
    have y00 := hb.2.1.1
    have nb := inv.2 (w / 2) (by omega) (by omega)
    rcases inv.1 with v | ⟨v1, v2, v3⟩
    · omega
    · have k := key _ v1.1 v1.2 (by omega)
      refine Or.inr ⟨v1, k.1, k.2.1, ?_⟩
      have tw := tri_of (i := i) (j := j) (t := t) (f := fcK n h i j t 3) (z := zF9 n h i j t (fcK n h i j t 3)) v1 ht
      have l := k.2.2.2
      have kn := k.2.2.1
      have o2 : okB (pF i t (fcK n h i j t 3) + zF9 n h i j t (fcK n h i j t 3)) (qF j t (fcK n h i j t 3) + zF9 n h i j t (fcK n h i j t 3)) (zF9 n h i j t (fcK n h i j t 3)) (wF t (fcK n h i j t 3)) := ⟨⟨k.2.1.1.1.1, by have := k.2.1.1.1.2; omega⟩, ⟨k.2.1.1.2.1, by have := k.2.1.1.2.2; omega⟩, k.1, tw.2.1⟩
      have r1 := blkN_rg hb.1 hb.2.1 hb.2.2.1
      have r2 := blkN_rg o2.1 o2.2.1 o2.2.2.1
      have same : pF i t (fcK n h i j t 3) + zF9 n h i j t (fcK n h i j t 3) + (qF j t (fcK n h i j t 3) + zF9 n h i j t (fcK n h i j t 3)) + zF9 n h i j t (fcK n h i j t 3) = x + y + z := by
        rw [hm] at l
        generalize pF i t (fcK n h i j t 3) + zF9 n h i j t (fcK n h i j t 3) = x2 at l kn r2
        generalize qF j t (fcK n h i j t 3) + zF9 n h i j t (fcK n h i j t 3) = y2 at l kn r2
        unfold codeB at l
        have hw2 := tw.2.1
        omega
      rw [hm]
      exact (code_uniq o2 hb (by rw [tw.1, ht2]) same).symm

/-! ===== the picture: for each triangle 0, or 1 + 864 (x + y + z) + the face's number of the block that is seen ===== -/
def codeB (x y z w : Int) : Int := (x + y + z) * 864 + (blkN x y z * 3 + w / 2) + 1
def nearF (M : Int → Int) : Int → Int := fun t => if M t = 0 then -1 else (M t - 1) / 864
def faceF (M : Int → Int) : Int → Int := fun t => if M t = 0 then -1 else (M t - 1) % 864
def blkF (M : Int → Int) : Int → Int := fun t => if M t = 0 then -1 else (M t - 1) % 864 / 3
def drawW (x y z w : Int) (M : Int → Int) : Int → Int := updI M (triB x y z w) (maxI (M (triB x y z w)) (codeB x y z w))
def drawBK (x y z : Int) (M : Int → Int) (k : Int) : Int → Int := itI (fun w N => drawW x y z w N) M k
theorem drawBK_s {x y z : Int} {M : Int → Int} {k : Int} (h0 : 0 ≤ k) : drawBK x y z M (k + 1) = drawW x y z k (drawBK x y z M k) := itI_s _ _ h0
def drawZK (x y : Int) (M : Int → Int) (k : Int) : Int → Int := itI (fun z N => drawBK x y z N 6) M k
theorem drawZK_s {x y : Int} {M : Int → Int} {k : Int} (h0 : 0 ≤ k) : drawZK x y M (k + 1) = drawBK x y k (drawZK x y M k) 6 := itI_s _ _ h0
def drawXK (h : Int → Int) (y : Int) (M : Int → Int) (k : Int) : Int → Int := itI (fun x N => drawZK x y N (h (y * 6 + x))) M k
theorem drawXK_s {h : Int → Int} {y : Int} {M : Int → Int} {k : Int} (h0 : 0 ≤ k) : drawXK h y M (k + 1) = drawZK k y (drawXK h y M k) (h (y * 6 + k)) := itI_s _ _ h0
def drawYK (n : Int) (h : Int → Int) (k : Int) : Int → Int := itI (fun y N => drawXK h y N n) (fun _ => 0) k
theorem drawYK_s {n : Int} {h : Int → Int} {k : Int} (h0 : 0 ≤ k) : drawYK n h (k + 1) = drawXK h k (drawYK n h k) n := itI_s _ _ h0
/-- the picture of a yard -/
def picM (n : Int) (h : Int → Int) : Int → Int := drawYK n h n
abbrev okB (x y z w : Int) : Prop := (0 ≤ x ∧ x ≤ 5) ∧ (0 ≤ y ∧ y ≤ 5) ∧ (0 ≤ z ∧ z ≤ 7) ∧ 0 ≤ w ∧ w < 6
theorem blkN_rg {x y z : Int} (hx : 0 ≤ x ∧ x ≤ 5) (hy : 0 ≤ y ∧ y ≤ 5) (hz : 0 ≤ z ∧ z ≤ 7) : 0 ≤ blkN x y z ∧ blkN x y z < 288 := by unfold blkN; omega
theorem codeB_f {x y z w : Int} (h : okB x y z w) : codeB x y z w ≠ 0 ∧ (codeB x y z w - 1) / 864 = x + y + z ∧ (codeB x y z w - 1) % 864 = blkN x y z * 3 + w / 2 := by
  have := blkN_rg h.1 h.2.1 h.2.2.1
  unfold codeB
  omega
/-- what may stand in a picture -/
def MOk (M : Int → Int) : Prop := ∀ t, M t = 0 ∨ ∃ x y z w, okB x y z w ∧ triB x y z w = t ∧ M t = codeB x y z w
theorem MOk.zero : MOk (fun _ => 0) := fun _ => Or.inl rfl
theorem MOk.rg {M : Int → Int} (H : MOk M) (t : Int) : (-1 ≤ nearF M t ∧ nearF M t ≤ 17) ∧ (-1 ≤ faceF M t ∧ faceF M t < 864) ∧ (-1 ≤ blkF M t ∧ blkF M t < 288) := by
  unfold nearF faceF blkF
  rcases H t with h | ⟨x, y, z, w, h1, h2, h3⟩
  · rw [if_pos h, if_pos h, if_pos h]; omega
  · have h4 := codeB_f h1
    have h5 := blkN_rg h1.1 h1.2.1 h1.2.2.1
    rw [if_neg (by rw [h3]; exact h4.1), if_neg (by rw [h3]; exact h4.1), if_neg (by rw [h3]; exact h4.1), h3, h4.2.1, h4.2.2]
    omega
theorem tri_inj {x y z w x2 y2 z2 w2 : Int} (h : okB x y z w) (h2 : okB x2 y2 z2 w2) (e : triB x y z w = triB x2 y2 z2 w2) : x - z + tI w = x2 - z2 + tI w2 ∧ y - z + tJ w = y2 - z2 + tJ w2 ∧ tH w = tH w2 := by
  have a := t_rg w h.2.2.2
  have b := t_rg w2 h2.2.2.2
  unfold triB triN at e
  omega
theorem code_uniq {x y z w x2 y2 z2 w2 : Int} (h : okB x y z w) (h2 : okB x2 y2 z2 w2) (e : triB x y z w = triB x2 y2 z2 w2) (en : x + y + z = x2 + y2 + z2) : codeB x y z w = codeB x2 y2 z2 w2 := by
  obtain ⟨e1, e2, e3⟩ := tri_inj h h2 e
  obtain ⟨hx, hy, hz, hw⟩ := h
  obtain ⟨hx2, hy2, hz2, hw2⟩ := h2
  unfold codeB blkN
  rcases (show w = 0 ∨ w = 1 ∨ w = 2 ∨ w = 3 ∨ w = 4 ∨ w = 5 by omega) with q | q | q | q | q | q <;> subst q <;>
  rcases (show w2 = 0 ∨ w2 = 1 ∨ w2 = 2 ∨ w2 = 3 ∨ w2 = 4 ∨ w2 = 5 by omega) with r | r | r | r | r | r <;> subst r <;>
  simp only [tI, tJ, tH, atI] at e1 e2 e3 <;> simp at e1 e2 e3 <;> omega
theorem drawW_ok {M : Int → Int} (H : MOk M) {x y z w : Int} (h : okB x y z w) : MOk (drawW x y z w M) := by
  intro t
  unfold drawW updI
  by_cases e : t = triB x y z w
  · rw [if_pos e]
    unfold maxI
    by_cases q : M (triB x y z w) < codeB x y z w
    · rw [if_pos q]; exact Or.inr ⟨x, y, z, w, h, e.symm, rfl⟩
    · rw [if_neg q, ← e]; exact H t
  · rw [if_neg e]; exact H t
/-- a triangle is taken by a nearer face -/
theorem takes_code {M : Int → Int} (H : MOk M) {x y z w : Int} (h : okB x y z w) : nearF M (triB x y z w) < x + y + z ↔ M (triB x y z w) < codeB x y z w := by
  have a := codeB_f h
  have b := blkN_rg h.1 h.2.1 h.2.2.1
  unfold nearF
  rcases H (triB x y z w) with q | ⟨x2, y2, z2, w2, h1, h2, h3⟩
  · rw [if_pos q, q]
    unfold codeB
    omega
  · have c := codeB_f h1
    have d := blkN_rg h1.1 h1.2.1 h1.2.2.1
    rw [if_neg (by rw [h3]; exact c.1), h3, c.2.1]
    constructor
    · intro q
      unfold codeB
      omega
    · intro q
      by_cases e : x + y + z = x2 + y2 + z2
      · rw [code_uniq h h1 h2.symm e] at q; omega
      · unfold codeB at q; omega
theorem drawW_near {M : Int → Int} (H : MOk M) {x y z w : Int} (h : okB x y z w) (ht : nearF M (triB x y z w) < x + y + z) (t : Int) : updI (nearF M) (triB x y z w) (x + y + z) t = nearF (drawW x y z w M) t := by
  have a := codeB_f h
  have q := (takes_code H h).mp ht
  unfold updI nearF drawW updI
  by_cases e : t = triB x y z w
  · rw [if_pos e, if_pos e]; unfold maxI; rw [if_pos q, if_neg a.1, a.2.1]
  · rw [if_neg e, if_neg e]
theorem drawW_face {M : Int → Int} (H : MOk M) {x y z w : Int} (h : okB x y z w) (ht : nearF M (triB x y z w) < x + y + z) (t : Int) : updI (faceF M) (triB x y z w) (blkN x y z * 3 + w / 2) t = faceF (drawW x y z w M) t := by
  have a := codeB_f h
  have q := (takes_code H h).mp ht
  unfold updI faceF drawW updI
  by_cases e : t = triB x y z w
  · rw [if_pos e, if_pos e]; unfold maxI; rw [if_pos q, if_neg a.1, a.2.2]
  · rw [if_neg e, if_neg e]
theorem drawW_no {M : Int → Int} (H : MOk M) {x y z w : Int} (h : okB x y z w) (ht : ¬ nearF M (triB x y z w) < x + y + z) : drawW x y z w M = M := by
  have q := fun r => ht ((takes_code H h).mpr r)
  funext t
  unfold drawW updI
  by_cases e : t = triB x y z w
  · rw [if_pos e]; unfold maxI; rw [if_neg q, e]
  · rw [if_neg e]
theorem drawBK_ok {M : Int → Int} (H : MOk M) {x y z : Int} (hx : 0 ≤ x ∧ x ≤ 5) (hy : 0 ≤ y ∧ y ≤ 5) (hz : 0 ≤ z ∧ z ≤ 7) {k : Int} (h0 : 0 ≤ k) (h6 : k ≤ 6) : MOk (drawBK x y z M k) :=
  itI_ind (F := fun w N => drawW x y z w N) (a := M) (fun _ N => MOk N) H h0 (fun w N a b hN => drawW_ok hN ⟨hx, hy, hz, a, by omega⟩)
theorem drawZK_ok {M : Int → Int} (H : MOk M) {x y : Int} (hx : 0 ≤ x ∧ x ≤ 5) (hy : 0 ≤ y ∧ y ≤ 5) {k : Int} (h0 : 0 ≤ k) (h8 : k ≤ 8) : MOk (drawZK x y M k) :=
  itI_ind (F := fun z N => drawBK x y z N 6) (a := M) (fun _ N => MOk N) H h0 (fun z N a b hN => drawBK_ok hN hx hy ⟨a, by omega⟩ (by decide) (by decide))
theorem drawXK_ok {M : Int → Int} (H : MOk M) {h : Int → Int} (hh : ∀ j, 0 ≤ h j ∧ h j ≤ 8) {y : Int} (hy : 0 ≤ y ∧ y ≤ 5) {k : Int} (h0 : 0 ≤ k) (h6 : k ≤ 6) : MOk (drawXK h y M k) :=
  itI_ind (F := fun x N => drawZK x y N (h (y * 6 + x))) (a := M) (fun _ N => MOk N) H h0 (fun x N a b hN => drawZK_ok hN ⟨a, by omega⟩ hy (hh _).1 (hh _).2)
theorem drawYK_ok {n : Int} (hn : 0 ≤ n ∧ n ≤ 6) {h : Int → Int} (hh : ∀ j, 0 ≤ h j ∧ h j ≤ 8) {k : Int} (h0 : 0 ≤ k) (h6 : k ≤ 6) : MOk (drawYK n h k) :=
  itI_ind (F := fun y N => drawXK h y N n) (a := fun _ => 0) (fun _ N => MOk N) MOk.zero h0 (fun y N a b hN => drawXK_ok hN hh ⟨a, by omega⟩ hn.1 hn.2)
theorem picM_ok {n ho : Int} {h c : Int → Int} (H : YOk n ho h c) : MOk (picM n h) := by
  have := H.n
  exact drawYK_ok (by omega) H.h (by omega) (by omega)
/-! counting labels -/
/-- how many of the first k places bear the label b -/
def cntL (L : Int → Int) (b k : Int) : Int := itI (fun t s => s + bI (L t = b)) 0 k
theorem cntL_s {L : Int → Int} {b k : Int} (h : 0 ≤ k) : cntL L b (k + 1) = cntL L b k + bI (L k = b) := itI_s _ _ h
theorem cntL_rg (L : Int → Int) (b : Int) {k : Int} (hk : 0 ≤ k) : 0 ≤ cntL L b k ∧ cntL L b k ≤ k := by
  have := itI_lin (F := fun t s => s + bI (L t = b)) (a := 0) (c := 1) (fun k x _ => by have := bI_rg (L k = b); omega) hk
  unfold cntL; omega
/-- how many labels below N the first k places bear -/
def distL (L : Int → Int) (N k : Int) : Int := itI (fun b s => s + bI (0 < cntL L b k)) 0 N
/-- a sum in which one number is another -/
theorem sum_one {f g : Int → Int} {N b : Int} (hN : 0 ≤ N) (h0 : 0 ≤ b) (hb : b < N) (hne : ∀ j, 0 ≤ j → j < N → j ≠ b → f j = g j) : itI (fun j s => s + f j) 0 N = itI (fun j s => s + g j) 0 N + (f b - g b) := by
  have key : ∀ k : Int, 0 ≤ k → k ≤ N → itI (fun j s => s + f j) 0 k = itI (fun j s => s + g j) 0 k + (if b < k then f b - g b else 0) := by
    intro k hk
    obtain ⟨m, rfl⟩ := Int.eq_ofNat_of_zero_le hk
    induction m with
    | zero => intro _; rw [if_neg (by omega)]; rfl
    | succ m ih =>
      intro hm
      have e : ((m + 1 : Nat) : Int) = (m : Int) + 1 := by omega
      have i1 := ih (by omega) (by omega)
      rw [e, itI_s _ _ (by omega), itI_s _ _ (by omega), i1]
      by_cases q : (m : Int) = b
      · rw [if_neg (by omega), if_pos (by omega), q]; omega
      · rw [hne _ (by omega) (by omega) q]
        by_cases r : b < (m : Int)
        · rw [if_pos r, if_pos (by omega)]; omega
        · rw [if_neg r, if_neg (by omega)]; omega
  have := key N hN (Int.le_refl N)
  rw [if_pos hb] at this
  exact this
theorem sum_same {f g : Int → Int} {N : Int} (hne : ∀ j, 0 ≤ j → j < N → f j = g j) : itI (fun j s => s + f j) 0 N = itI (fun j s => s + g j) 0 N := itI_congr (fun k x h0 h1 => by show x + f k = x + g k; rw [hne k h0 h1])
theorem distL_s {L : Int → Int} {N k : Int} (hN : 0 ≤ N) (hk : 0 ≤ k) (h0 : 0 ≤ L k) (h1 : L k < N) : distL L N (k + 1) = distL L N k + bI (cntL L (L k) k = 0) := by
  have h := sum_one (f := fun b => bI (0 < cntL L b (k + 1))) (g := fun b => bI (0 < cntL L b k)) hN h0 h1 (fun j a b ne => by
    show bI _ = bI _
    rw [cntL_s hk, bI_f (P := L k = j) (fun q => ne q.symm), Int.add_zero])
  have e : cntL L (L k) (k + 1) = cntL L (L k) k + 1 := by rw [cntL_s hk, bI_t rfl]
  have c := cntL_rg L (L k) hk
  unfold distL
  rw [h]
  show _ + (bI (0 < cntL L (L k) (k + 1)) - bI (0 < cntL L (L k) k)) = _
  rw [bI_t (P := 0 < cntL L (L k) (k + 1)) (by omega)]
  by_cases q : cntL L (L k) k = 0
  · rw [bI_f (P := 0 < cntL L (L k) k) (by omega), bI_t q]; omega
  · rw [bI_t (P := 0 < cntL L (L k) k) (by omega), bI_f q]; omega
theorem distL_no {L : Int → Int} {N k : Int} (hk : 0 ≤ k) (h0 : L k < 0) : distL L N (k + 1) = distL L N k := by
  unfold distL
  refine sum_same (fun j a b => ?_)
  rw [cntL_s hk, bI_f (P := L k = j) (by omega), Int.add_zero]
theorem distL_0 {L : Int → Int} {N : Int} : distL L N 0 = 0 := by
  unfold distL
  by_cases h : 0 ≤ N
  · exact itI_ind (fun _ s => s = 0) rfl h (fun k x _ _ hx => by rw [hx]; show 0 + bI (0 < (0:Int)) = 0; rw [bI_f (by omega)]; rfl)
  · exact itI_neg _ _ (by omega)
theorem distL_rg {L : Int → Int} {N k : Int} (hN : 0 ≤ N) : 0 ≤ distL L N k ∧ distL L N k ≤ N := by
  have := itI_lin (F := fun b s => s + bI (0 < cntL L b k)) (a := 0) (c := 1) (fun b x _ => by have := bI_rg (0 < cntL L b k); omega) hN
  unfold distL; omega
/-- the triangles in which a face is seen -/
def litK (M : Int → Int) (k : Int) : Int := itI (fun t s => s + bI (M t ≠ 0)) 0 k
theorem litK_s {M : Int → Int} {k : Int} (h : 0 ≤ k) : litK M (k + 1) = litK M k + bI (M k ≠ 0) := itI_s _ _ h
theorem litK_rg (M : Int → Int) {k : Int} (hk : 0 ≤ k) : 0 ≤ litK M k ∧ litK M k ≤ k := by
  have := itI_lin (F := fun t s => s + bI (M t ≠ 0)) (a := 0) (c := 1) (fun k x _ => by have := bI_rg (M k ≠ 0); omega) hk
  unfold litK; omega
/-- a block's triangles, out of its faces' -/
theorem cnt_blk {M : Int → Int} (H : MOk M) {b k : Int} (hb : 0 ≤ b) (hk : 0 ≤ k) : cntL (faceF M) (b * 3) k + cntL (faceF M) (b * 3 + 1) k + cntL (faceF M) (b * 3 + 2) k = cntL (blkF M) b k := by
  refine itI_ind (F := fun t s => s + bI (blkF M t = b)) (a := (0 : Int)) (fun k x => cntL (faceF M) (b * 3) k + cntL (faceF M) (b * 3 + 1) k + cntL (faceF M) (b * 3 + 2) k = x) rfl hk (fun t x h0 _ hx => ?_)
  rw [cntL_s h0, cntL_s h0, cntL_s h0]
  have e : bI (faceF M t = b * 3) + bI (faceF M t = b * 3 + 1) + bI (faceF M t = b * 3 + 2) = bI (blkF M t = b) := by
    unfold faceF blkF
    by_cases q : M t = 0
    · rw [if_pos q, if_pos q, bI_f (by omega), bI_f (by omega), bI_f (by omega), bI_f (by omega)]; rfl
    · rw [if_neg q, if_neg q]
      unfold bI
      split <;> split <;> split <;> split <;> omega
  omega
theorem blk_face {M : Int → Int} (t : Int) : M t ≠ 0 → blkF M t = faceF M t / 3 := fun h => by unfold blkF faceF; rw [if_neg h, if_neg h]
theorem face_none {M : Int → Int} (H : MOk M) (t : Int) : faceF M t = -1 ↔ M t = 0 := by
  unfold faceF
  by_cases q : M t = 0
  · rw [if_pos q]; exact ⟨fun _ => q, fun _ => rfl⟩
  · rw [if_neg q]; exact ⟨fun h => absurd h (by omega), fun h => absurd h q⟩

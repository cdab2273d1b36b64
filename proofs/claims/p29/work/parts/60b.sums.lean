/-! ===== the script's numbers ===== -/
def ab (v : Int) : Int := (iI v &&& iI 2147483647).toInt
theorem and_nn (a : Int32) : 0 ≤ (a &&& iI 2147483647).toInt := by
  obtain ⟨⟨b⟩⟩ := a
  show 0 ≤ (b &&& 2147483647#32).toInt
  have h : (b &&& 2147483647#32).msb = false := by
    rw [BitVec.msb_and]
    have : (2147483647#32).msb = false := by decide
    rw [this, Bool.and_false]
  rw [BitVec.toInt_eq_msb_cond, h]
  simp
theorem ab_rg (v : Int) : 0 ≤ ab v ∧ ab v < 2147483648 := ⟨and_nn _, (rg_toInt _).2⟩
def lowI (v m : Int) : Int := ab v % m
theorem lowI_rg (v : Int) {m : Int} (h : 0 < m) : 0 ≤ lowI v m ∧ lowI v m < m := ⟨Int.emod_nonneg _ (by omega), Int.emod_lt_of_pos _ h⟩
def shrI (v s : Int) : Int := (iI v >>> (iI s &&& 31)).toInt
theorem shr_at (v s : Int) : iI v >>> (iI s &&& 31) = iI (shrI v s) := iI_of _
/-- the script's k-th number, or one made of k -/
def cellF (g : GT) (k : Int) : Int := if k < (scN g : Int) then scF g k else 32452867 * k + 15485863
/-! ===== two triangles a face ===== -/
theorem cnt_two {L : Int → Int} {b t1 t2 k : Int} (hk : 0 ≤ k) (h : ∀ t, 0 ≤ t → t < k → L t = b → t = t1 ∨ t = t2) : cntL L b k ≤ 2 := by
  have key : ∀ i, 0 ≤ i → i ≤ k → cntL L b i ≤ bI (t1 < i) + bI (t2 < i) := by
    intro i hi
    obtain ⟨m, rfl⟩ := Int.eq_ofNat_of_zero_le hi
    induction m with
    | zero => intro _; have := bI_rg (t1 < ((0 : Nat) : Int)); have := bI_rg (t2 < ((0 : Nat) : Int)); show (0 : Int) ≤ _; omega
    | succ m ih =>
      intro hm
      rw [show ((m + 1 : Nat) : Int) = (m : Int) + 1 by omega, cntL_s (by omega)]
      have i1 := ih (by omega) (by omega)
      have a1 := bI_rg (t1 < (m : Int))
      have a2 := bI_rg (t2 < (m : Int))
      by_cases e : L m = b
      · rw [bI_t e]
        rcases h m (by omega) (by omega) e with q | q
        · rw [bI_f (P := t1 < (m : Int)) (by omega)] at i1
          rw [bI_t (P := t1 < (m : Int) + 1) (by omega)]
          by_cases r : t2 < (m : Int)
          · rw [bI_t r] at i1; rw [bI_t (P := t2 < (m : Int) + 1) (by omega)]; omega
          · rw [bI_f r] at i1; have := bI_rg (t2 < (m : Int) + 1); omega
        · rw [bI_f (P := t2 < (m : Int)) (by omega)] at i1
          rw [bI_t (P := t2 < (m : Int) + 1) (by omega)]
          by_cases r : t1 < (m : Int)
          · rw [bI_t r] at i1; rw [bI_t (P := t1 < (m : Int) + 1) (by omega)]; omega
          · rw [bI_f r] at i1; have := bI_rg (t1 < (m : Int) + 1); omega
      · rw [bI_f e]
        have b1 : bI (t1 < (m : Int)) ≤ bI (t1 < (m : Int) + 1) := by unfold bI; split <;> split <;> omega
        have b2 : bI (t2 < (m : Int)) ≤ bI (t2 < (m : Int) + 1) := by unfold bI; split <;> split <;> omega
        omega
  have a := key k hk (Int.le_refl k)
  have := bI_rg (t1 < k)
  have := bI_rg (t2 < k)
  omega
theorem face_at {M : Int → Int} (H : MOk M) {t F : Int} (hF : 0 ≤ F) (e : faceF M t = F) : ∃ x y z w, okB x y z w ∧ triB x y z w = t ∧ M t = codeB x y z w ∧ F = blkN x y z * 3 + w / 2 := by
  rcases H t with q | ⟨x, y, z, w, h1, h2, h3⟩
  · rw [(face_none H t).mpr q] at e; omega
  · refine ⟨x, y, z, w, h1, h2, h3, ?_⟩
    have c := codeB_f h1
    rw [← e]
    unfold faceF
    rw [if_neg (by rw [h3]; exact c.1), h3, c.2.2]
theorem face_two {M : Int → Int} (H : MOk M) {F : Int} (hF : 0 ≤ F) : cntL (faceF M) F 512 ≤ 2 := by
  refine cnt_two (t1 := triB (F / 3 % 6) (F / 3 / 6 % 6) (F / 3 / 36) (2 * (F % 3))) (t2 := triB (F / 3 % 6) (F / 3 / 6 % 6) (F / 3 / 36) (2 * (F % 3) + 1)) (by decide) (fun t _ _ e => ?_)
  obtain ⟨x, y, z, w, h1, h2, -, h4⟩ := face_at H hF e
  have b := blkN_xyz (z := z) h1.1 h1.2.1
  have hw := h1.2.2.2
  have f3 : F / 3 = blkN x y z := by omega
  have fm : F % 3 = w / 2 := by omega
  rw [f3, fm, b.1, b.2.1, b.2.2, ← h2]
  rcases (show w = 2 * (w / 2) ∨ w = 2 * (w / 2) + 1 by omega) with q | q
  · left; rw [← q]
  · right; rw [← q]
theorem ofF_two {M : Int → Int} (H : MOk M) {F : Int} (hF : 0 ≤ F) : 0 ≤ ofF M 512 F ∧ ofF M 512 F ≤ 2 := ⟨(ofF_rg M (by decide) F).1, face_two H hF⟩
/-- a block one face of which is seen is seen -/
theorem face_blk {M : Int → Int} (H : MOk M) {b f : Int} (hb : 0 ≤ b) (hf : 0 ≤ f ∧ f ≤ 2) (h : 0 < ofF M 512 (b * 3 + f)) : 0 < cntL (blkF M) b 512 := by
  have e := cnt_blk H hb (k := 512) (by decide)
  have a0 := cntL_rg (faceF M) (b * 3) (k := 512) (by decide)
  have a1 := cntL_rg (faceF M) (b * 3 + 1) (k := 512) (by decide)
  have a2 := cntL_rg (faceF M) (b * 3 + 2) (k := 512) (by decide)
  unfold ofF at h
  rcases (show f = 0 ∨ f = 1 ∨ f = 2 by omega) with q | q | q <;> subst q
  · rw [Int.add_zero] at h; omega
  · omega
  · omega
/-! ===== sums over a yard ===== -/
theorem sm_c (c : Int) (f : Int → Int) {n : Int} (hn : 0 ≤ n) : sm (fun j => c * f j) n = c * sm f n :=
  sm_ind (P := fun k => sm (fun j => c * f j) k = c * sm f k) (by rw [sm_0, sm_0, Int.mul_zero]) hn (fun k a _ hk => by
    show sm _ (k + 1) = c * sm f (k + 1)
    rw [sm_s a, sm_s a, hk, Int.mul_add])
theorem sm_nn {f : Int → Int} {n : Int} (hn : 0 ≤ n) (h : ∀ j, 0 ≤ j → j < n → 0 ≤ f j) : 0 ≤ sm f n :=
  sm_ind (P := fun k => 0 ≤ sm f k) (Int.le_refl 0) hn (fun k a b hk => by
    show 0 ≤ sm f (k + 1)
    rw [sm_s a]
    have := h k a b
    omega)
theorem sm_one_le {f : Int → Int} {n a : Int} (h : ∀ j, 0 ≤ j → j < n → 0 ≤ f j) (h0 : 0 ≤ a) (h1 : a < n) : f a ≤ sm f n := by
  rw [show n = (a + 1) + (n - (a + 1)) by omega, sm_split f (by omega) (by omega), sm_s h0]
  have u := sm_nn (f := f) (n := a) h0 (fun j p q => h j p (by omega))
  have v := sm_nn (f := fun j => f (a + 1 + j)) (n := n - (a + 1)) (by omega) (fun j p q => h (a + 1 + j) (by omega) (by omega))
  omega
/-- squares one behind the other, or row by row -/
theorem sq_sum (G : Int → Int → Int) {n : Int} (hn : 2 ≤ n ∧ n ≤ 6) : sm (fun j => G (j % n) (j / n)) (n * n) = sm (fun y => sm (fun x => G x y) n) n := by
  rw [sm_prod _ (by omega) (by omega)]
  refine sm_cg (fun y a b => sm_cg (fun x c d => ?_))
  show G ((y * n + x) % n) ((y * n + x) / n) = G x y
  have e : (y * n + x) % n = x ∧ (y * n + x) / n = y := by
    rcases (show n = 2 ∨ n = 3 ∨ n = 4 ∨ n = 5 ∨ n = 6 by omega) with q | q | q | q | q <;> subst q <;> omega
  rw [e.1, e.2]
theorem sq_rg {n k : Int} (hn : 2 ≤ n ∧ n ≤ 6) (h0 : 0 ≤ k) (h1 : k < n * n) : (0 ≤ k % n ∧ k % n < n) ∧ 0 ≤ k / n ∧ k / n < n := by
  rcases (show n = 2 ∨ n = 3 ∨ n = 4 ∨ n = 5 ∨ n = 6 by omega) with q | q | q | q | q <;> subst q <;> omega
theorem nn_rg {n : Int} (hn : 2 ≤ n ∧ n ≤ 6) : 4 ≤ n * n ∧ n * n ≤ 36 := by
  rcases (show n = 2 ∨ n = 3 ∨ n = 4 ∨ n = 5 ∨ n = 6 by omega) with q | q | q | q | q <;> subst q <;> omega
/-- a sum over all blocks that could be, of what is nothing where none is: stack by stack -/
theorem yard_sum {n ho : Int} {h c : Int → Int} (H : YOk n ho h c) {G : Int → Int} (hG : ∀ b, 0 ≤ b → b < 288 → ¬ inY n h b → G b = 0) : sm G 288 = sm (fun y => sm (fun x => sm (fun z => G (blkN x y z)) (h (y * 6 + x))) n) n := by
  have hn := H.n
  have e := sm_prod G (m := 8) (k := 36) (by decide) (by decide)
  rw [show (8 : Int) * 36 = 288 by decide] at e
  rw [e, sm_swap (fun z j => G (z * 36 + j)) (by decide) (by decide)]
  show sm (fun j => sm (fun z => G (z * 36 + j)) 8) 36 = _
  have z0 : ∀ j, 0 ≤ j → j < 36 → ∀ z, 0 ≤ z → z < 8 → ¬ (sqIn n j ∧ z < h j) → G (z * 36 + j) = 0 := fun j a b z u v q => hG _ (by omega) (by omega) (fun w => q (by
    have e1 : (z * 36 + j) % 36 = j := by omega
    have e2 : (z * 36 + j) / 36 = z := by omega
    obtain ⟨w1, w2⟩ := w
    rw [e1] at w1
    rw [e1, e2] at w2
    exact ⟨w1, w2⟩))
  have hs : sm (fun j => sm (fun z => G (z * 36 + j)) 8) 36 = sm (fun j => if sqIn n j then sm (fun z => G (z * 36 + j)) 8 else 0) 36 := sm_cg (fun j a b => by
    show _ = if sqIn n j then _ else 0
    by_cases q : sqIn n j
    · rw [if_pos q]
    · rw [if_neg q]; exact sm_none (by decide) (fun z u v => z0 j a b z u v (fun w => q w.1)))
  rw [hs, sm_yard (n := n) (by omega) (f := fun j => if sqIn n j then sm (fun z => G (z * 36 + j)) 8 else 0) (fun j hj => if_neg hj)]
  refine sm_cg (fun y a b => sm_cg (fun x u v => ?_))
  show (if sqIn n (y * 6 + x) then sm (fun z => G (z * 36 + (y * 6 + x))) 8 else 0) = sm (fun z => G (blkN x y z)) (h (y * 6 + x))
  have h8 := H.h (y * 6 + x)
  rw [if_pos (sq_in (by omega) u v a b), sm_cut (f := fun z => G (z * 36 + (y * 6 + x))) h8.1 h8.2 (fun z p q => z0 _ (by omega) (by omega) z (by omega) q (fun w => by omega))]
  refine sm_cg (fun z p q => ?_)
  show G (z * 36 + (y * 6 + x)) = G (blkN x y z)
  rw [show blkN x y z = z * 36 + (y * 6 + x) by unfold blkN; omega]
/-- the law's sums, up to a square -/
def allQ (n : Int) (h : Int → Int) (k : Int) : Int := sm (fun j => h (j / n * 6 + j % n)) k
def blkQ (M : Int → Int) (n : Int) (h : Int → Int) (k : Int) : Int := sm (fun j => seenIn M (j % n) (j / n) (h (j / n * 6 + j % n))) k
def f3K (M : Int → Int) (x y z k : Int) : Int := sm (fun f => bI (0 < ofF M 512 (blkN x y z * 3 + f))) k
def fzK (M : Int → Int) (x y k : Int) : Int := sm (fun z => f3K M x y z 3) k
def facQ (M : Int → Int) (n : Int) (h : Int → Int) (k : Int) : Int := sm (fun j => fzK M (j % n) (j / n) (h (j / n * 6 + j % n))) k
theorem allQ_all {n ho : Int} {h c : Int → Int} (H : YOk n ho h c) : allQ n h (n * n) = countK n h n := by
  unfold allQ
  rw [sq_sum (fun x y => h (y * 6 + x)) H.n]
  rfl
theorem blkQ_all {n ho : Int} {h c : Int → Int} (H : YOk n ho h c) : blkQ (picM n h) n h (n * n) = seenD n h := by
  unfold blkQ
  rw [sq_sum (fun x y => seenIn (picM n h) x y (h (y * 6 + x))) H.n]
  have e := yard_sum H (G := fun b => bI (0 < cntL (blkF (picM n h)) b 512)) (fun b h0 _ q => bI_f (fun w => q (inY_of (picM_in H) h0 w)))
  exact e.symm
theorem face_inY {n ho : Int} {h c : Int → Int} (H : YOk n ho h c) {b f : Int} (hb : 0 ≤ b) (hf : 0 ≤ f ∧ f ≤ 2) (hc : 0 < ofF (picM n h) 512 (b * 3 + f)) : inY n h b := inY_of (picM_in H) hb (face_blk (picM_ok H) hb hf hc)
theorem facQ_all {n ho : Int} {h c : Int → Int} (H : YOk n ho h c) : facQ (picM n h) n h (n * n) = distL (faceF (picM n h)) 864 512 := by
  unfold facQ
  rw [sq_sum (fun x y => fzK (picM n h) x y (h (y * 6 + x))) H.n]
  have e := yard_sum H (G := fun b => sm (fun f => bI (0 < ofF (picM n h) 512 (b * 3 + f))) 3) (fun b h0 _ q => sm_none (by decide) (fun f u v => bI_f (fun w => q (face_inY H h0 ⟨u, by omega⟩ w))))
  have e2 := sm_prod (fun F => bI (0 < cntL (faceF (picM n h)) F 512)) (m := 288) (k := 3) (by decide) (by decide)
  rw [show (288 : Int) * 3 = 864 by decide] at e2
  show _ = sm (fun F => bI (0 < cntL (faceF (picM n h)) F 512)) 864
  rw [e2]
  exact e.symm
theorem allQ_s {n : Int} {h : Int → Int} {k : Int} (h0 : 0 ≤ k) : allQ n h (k + 1) = allQ n h k + h (k / n * 6 + k % n) := sm_s h0
theorem blkQ_s {M : Int → Int} {n : Int} {h : Int → Int} {k : Int} (h0 : 0 ≤ k) : blkQ M n h (k + 1) = blkQ M n h k + seenIn M (k % n) (k / n) (h (k / n * 6 + k % n)) := sm_s h0
theorem facQ_s {M : Int → Int} {n : Int} {h : Int → Int} {k : Int} (h0 : 0 ≤ k) : facQ M n h (k + 1) = facQ M n h k + fzK M (k % n) (k / n) (h (k / n * 6 + k % n)) := sm_s h0
theorem fzK_s {M : Int → Int} {x y k : Int} (h0 : 0 ≤ k) : fzK M x y (k + 1) = fzK M x y k + f3K M x y k 3 := sm_s h0
theorem f3K_s {M : Int → Int} {x y z k : Int} (h0 : 0 ≤ k) : f3K M x y z (k + 1) = f3K M x y z k + bI (0 < ofF M 512 (blkN x y z * 3 + k)) := sm_s h0
theorem sm_rg {f : Int → Int} {n c : Int} (hn : 0 ≤ n) (h : ∀ j, 0 ≤ f j ∧ f j ≤ c) : 0 ≤ sm f n ∧ sm f n ≤ n * c := by
  have := itI_lin (F := fun k s => s + f k) (a := 0) (c := c) (fun k x _ => by have := h k; omega) hn
  unfold sm; omega
theorem allQ_rg {n ho : Int} {h c : Int → Int} (H : YOk n ho h c) {k : Int} (hk : 0 ≤ k) : 0 ≤ allQ n h k ∧ allQ n h k ≤ k * 8 := sm_rg hk (fun j => H.h _)
theorem blkQ_rg (M : Int → Int) {n ho : Int} {h c : Int → Int} (H : YOk n ho h c) {k : Int} (hk : 0 ≤ k) : 0 ≤ blkQ M n h k ∧ blkQ M n h k ≤ k * 8 := sm_rg hk (fun j => by
  have a := H.h (j / n * 6 + j % n)
  have b := seenIn_rg M (j % n) (j / n) (k := h (j / n * 6 + j % n)) a.1
  omega)
theorem f3K_rg (M : Int → Int) (x y z : Int) {k : Int} (hk : 0 ≤ k) : 0 ≤ f3K M x y z k ∧ f3K M x y z k ≤ k * 1 := sm_rg hk (fun f => bI_rg _)
theorem fzK_rg (M : Int → Int) (x y : Int) {k : Int} (hk : 0 ≤ k) : 0 ≤ fzK M x y k ∧ fzK M x y k ≤ k * 3 := sm_rg hk (fun z => by have := f3K_rg M x y z (k := 3) (by decide); omega)
theorem facQ_rg (M : Int → Int) {n ho : Int} {h c : Int → Int} (H : YOk n ho h c) {k : Int} (hk : 0 ≤ k) : 0 ≤ facQ M n h k ∧ facQ M n h k ≤ k * 24 := sm_rg hk (fun j => by
  have a := H.h (j / n * 6 + j % n)
  have b := fzK_rg M (j % n) (j / n) (k := h (j / n * 6 + j % n)) a.1
  omega)
/-! ===== shadows ===== -/
theorem mulsun8 {k m : Int} (hk : 0 ≤ k ∧ k ≤ 8) (h : -1 ≤ m ∧ m ≤ 1) : -8 ≤ k * m ∧ k * m ≤ 8 := by
  rcases (show m = -1 ∨ m = 0 ∨ m = 1 by omega) with e | e | e <;> subst e <;> omega
theorem mulsun9 {k m : Int} (hk : 0 ≤ k ∧ k ≤ 8) (h : 1 ≤ m ∧ m ≤ 3) : k ≤ k * m ∧ k * m ≤ 24 := by
  rcases (show m = 1 ∨ m = 2 ∨ m = 3 by omega) with e | e | e <;> subst e <;> omega
theorem sun_ne (t : Int) (h : 0 ≤ t ∧ t ≤ 7) : (sunX t = 1 ∨ sunX t = -1) ∨ sunY t = 1 ∨ sunY t = -1 := by
  rcases (show t = 0 ∨ t = 1 ∨ t = 2 ∨ t = 3 ∨ t = 4 ∨ t = 5 ∨ t = 6 ∨ t = 7 by omega) with h | h | h | h | h | h | h | h <;> subst h <;> decide
/-- beyond the yard no stack makes a shadow -/
theorem shade_far {n : Int} {h : Int → Int} {t x y : Int} (ht : 0 ≤ t ∧ t ≤ 7) (h1 : 0 ≤ x) (h2 : x < n) (h3 : 0 ≤ y) (h4 : y < n) {k : Int} (hk : n ≤ k) : ¬ shP n h t x y k := by
  rintro ⟨⟨⟨a, b⟩, c, d⟩, -⟩
  rcases sun_ne t ht with (e | e) | e | e
  · rw [e] at a b; omega
  · rw [e] at a b; omega
  · rw [e] at c d; omega
  · rw [e] at c d; omega
theorem shade_7 {n : Int} {h : Int → Int} {t x y : Int} (hn : 2 ≤ n ∧ n ≤ 6) (ht : 0 ≤ t ∧ t ≤ 7) (h1 : 0 ≤ x) (h2 : x < n) (h3 : 0 ≤ y) (h4 : y < n) : shadeK n h t x y 7 = shadeI n h t x y := by
  unfold shadeI
  have key : ∀ m : Nat, shadeK n h t x y (n - 1 + m) = shadeK n h t x y (n - 1) := by
    intro m
    induction m with
    | zero => rw [show n - 1 + ((0 : Nat) : Int) = n - 1 by omega]
    | succ m ih =>
      rw [shadeK_s (by omega) (shade_far ht h1 h2 h3 h4 (by omega)), show n - 1 + ((m + 1 : Nat) : Int) - 1 = n - 1 + m by omega]
      exact ih
  have := key (8 - n).toNat
  rw [show n - 1 + (((8 - n).toNat : Nat) : Int) = 7 by omega] at this
  exact this
/-- one more step towards the sun -/
theorem shade_st {n ho : Int} {h c : Int → Int} (H : YOk n ho h c) {t x y k : Int} (ht : 0 ≤ t ∧ t ≤ 7) (hk : 0 ≤ k ∧ k ≤ 6) : cellP n h (x + k * sunX t + sunX t) (y + k * sunY t + sunY t) (h (y * 6 + x) + k * sunS t + sunS t - 1) ↔ shP n h t x y (k + 1) := by
  have s := sun_rg t ht
  have h0 := H.h (y * 6 + x)
  have m := mulsun9 (k := k) (m := sunS t) ⟨hk.1, by omega⟩ s.2.2
  unfold shP
  rw [show (k + 1) * sunX t = k * sunX t + sunX t by rw [Int.add_mul, Int.one_mul], show (k + 1) * sunY t = k * sunY t + sunY t by rw [Int.add_mul, Int.one_mul], show (k + 1) * sunS t = k * sunS t + sunS t by rw [Int.add_mul, Int.one_mul], ← Int.add_assoc, ← Int.add_assoc]
  constructor
  · rintro ⟨a, b, e⟩
    exact ⟨a, by omega⟩
  · rintro ⟨a, b⟩
    exact ⟨a, by omega, by omega⟩
theorem sunX_of {t : Int} (h : 0 ≤ t ∧ t ≤ 7) : sunX t = if t = 7 ∨ t < 2 then 1 else if 2 < t ∧ t < 6 then -1 else 0 := by
  rcases (show t = 0 ∨ t = 1 ∨ t = 2 ∨ t = 3 ∨ t = 4 ∨ t = 5 ∨ t = 6 ∨ t = 7 by omega) with h | h | h | h | h | h | h | h <;> subst h <;> decide
theorem sunY_of {t : Int} (h : 0 ≤ t ∧ t ≤ 7) : sunY t = if 0 < t ∧ t < 4 then 1 else if 4 < t then -1 else 0 := by
  rcases (show t = 0 ∨ t = 1 ∨ t = 2 ∨ t = 3 ∨ t = 4 ∨ t = 5 ∨ t = 6 ∨ t = 7 by omega) with h | h | h | h | h | h | h | h <;> subst h <;> decide
theorem sunS_of {t : Int} (h : 0 ≤ t ∧ t ≤ 7) : sunS t = if t = 2 ∨ t = 3 then 3 else if t = 1 ∨ t = 4 then 2 else 1 := by
  rcases (show t = 0 ∨ t = 1 ∨ t = 2 ∨ t = 3 ∨ t = 4 ∨ t = 5 ∨ t = 6 ∨ t = 7 by omega) with h | h | h | h | h | h | h | h <;> subst h <;> decide
theorem shK_r36 {n : Int} (h : Int → Int) (t : Int) (hn : 2 ≤ n ∧ n ≤ 6) : 0 ≤ shK n h t n ∧ shK n h t n ≤ 36 := by
  have := shK_rg (n := n) (h := h) t (by omega) (k := n) (by omega)
  omega
theorem shadeK_1 {n : Int} {h : Int → Int} {t x y k : Int} (h0 : 0 ≤ k) : shadeK n h t x y (k + 1) = @ite Int (shP n h t x y (k + 1)) (shD n h t x y (k + 1)) 1 (shadeK n h t x y k) := by
  unfold shadeK
  exact orI_s h0
theorem shadeK_0 (n : Int) (h : Int → Int) (t x y : Int) : shadeK n h t x y 0 = 0 := rfl
theorem shadeK_01 (n : Int) (h : Int → Int) (t x y k : Int) : shadeK n h t x y k = 0 ∨ shadeK n h t x y k = 1 := by unfold shadeK; exact orI_01
def shQ (n : Int) (h : Int → Int) (t k : Int) : Int := sm (fun j => shadeI n h t (j % n) (j / n)) k
theorem shQ_s {n : Int} {h : Int → Int} {t k : Int} (h0 : 0 ≤ k) : shQ n h t (k + 1) = shQ n h t k + shadeI n h t (k % n) (k / n) := sm_s h0
theorem shQ_rg (n : Int) (h : Int → Int) (t : Int) {k : Int} (hk : 0 ≤ k) : 0 ≤ shQ n h t k ∧ shQ n h t k ≤ k * 1 := sm_rg hk (fun j => by rcases shadeI_01 n h t (j % n) (j / n) with e | e <;> omega)
theorem it_sm (f : Int → Int) (a : Int) {k : Int} (h0 : 0 ≤ k) : itI (fun x m => m + f x) a k = a + sm f k := by
  refine sm_ind (P := fun k => itI (fun x m => m + f x) a k = a + sm f k) (by rw [sm_0, Int.add_zero]; rfl) h0 (fun i u _ ih => ?_)
  show itI (fun x m => m + f x) a (i + 1) = a + sm f (i + 1)
  rw [itI_s _ _ u, sm_s u]
  show itI (fun x m => m + f x) a i + f i = _
  rw [ih]; omega
theorem shQ_all {n : Int} (h : Int → Int) (t : Int) (hn : 2 ≤ n ∧ n ≤ 6) : shQ n h t (n * n) = shK n h t n := by
  unfold shQ
  rw [sq_sum (fun x y => shadeI n h t x y) hn]
  show sm (fun y => sm (fun x => shadeI n h t x y) n) n = itI (fun y m => shR n h t y m n) 0 n
  refine itI_congr (fun y s a b => ?_)
  show s + sm (fun x => shadeI n h t x y) n = itI (fun x m => m + shadeI n h t x y) s n
  rw [it_sm (fun x => shadeI n h t x y) s (by omega)]
/-- the brightest hour so far -/
def lstH (n : Int) (h : Int → Int) (k : Int) : Int := if k = 0 then 99 else leastK n h (k - 1)
def bstH (n : Int) (h : Int → Int) (k : Int) : Int := if k = 0 then 0 else brK n h (k - 1)
theorem lstH_rg {n : Int} (h : Int → Int) (hn : 2 ≤ n ∧ n ≤ 6) {k : Int} (h0 : 0 ≤ k) : 0 ≤ lstH n h k ∧ lstH n h k ≤ 99 := by
  unfold lstH
  split
  · omega
  · have := leastK_rg (n := n) (h := h) (by omega) (k := k - 1) (by omega)
    omega
theorem lstH_s {n : Int} (h : Int → Int) (hn : 2 ≤ n ∧ n ≤ 6) {k : Int} (h0 : 0 ≤ k) : lstH n h (k + 1) = if shK n h k n < lstH n h k then shK n h k n else lstH n h k := by
  unfold lstH
  rw [if_neg (by omega), show k + 1 - 1 = k by omega]
  have r := shK_rg (n := n) (h := h) k (by omega) (k := n) (by omega)
  by_cases e : k = 0
  · subst e
    rw [if_pos rfl, if_pos (by omega)]; rfl
  · rw [if_neg e]
    have := leastK_s (n := n) (h := h) (k := k - 1) (by omega)
    rw [show k - 1 + 1 = k by omega] at this
    exact this
theorem bstH_s {n : Int} (h : Int → Int) (hn : 2 ≤ n ∧ n ≤ 6) {k : Int} (h0 : 0 ≤ k) : bstH n h (k + 1) = if shK n h k n < lstH n h k then k else bstH n h k := by
  unfold lstH bstH
  rw [if_neg (by omega), show k + 1 - 1 = k by omega]
  have r := shK_rg (n := n) (h := h) k (by omega) (k := n) (by omega)
  by_cases e : k = 0
  · subst e
    rw [if_pos rfl, if_pos rfl, if_pos (by omega)]; rfl
  · rw [if_neg e, if_neg e]
    have := brK_s (n := n) (h := h) (k := k - 1) (by omega)
    rw [show k - 1 + 1 = k by omega] at this
    exact this
theorem bstH_rg (n : Int) (h : Int → Int) {k : Int} (h0 : 0 ≤ k) (h8 : k ≤ 8) : 0 ≤ bstH n h k ∧ bstH n h k ≤ 8 := by
  unfold bstH
  split
  · omega
  · have := brK_rg n h (k := k - 1) (by omega)
    omega
/-- a double and itself -/
theorem dcmp_same {a b : UInt64} {op : CmpOp} (ha : dOk a) (e : b = a) : Op.cmpValue (FP.dcmp a b) op = iI 0 := by
  subst e
  have h : b.toNat < 0x7ff0000000000000 := by unfold dOk at ha; omega
  rw [fp_cmp h h]
  unfold cmpN
  rw [if_neg (Nat.lt_irrefl _), if_pos rfl]
theorem maxI_le {a b : Int} (h : a ≤ b) : maxI a b = b := by unfold maxI; split <;> omega
theorem maxI_gt {a b : Int} (h : b ≤ a) : maxI a b = a := by unfold maxI; split <;> omega
theorem minI_le {a b : Int} (h : b ≤ a) : minI a b = b := by unfold minI; split <;> omega
theorem minI_lt {a b : Int} (h : a < b) : minI a b = a := by unfold minI; split <;> omega
theorem or_0 (a : Int) : iI a ||| iI 0 = iI a := by
  show iI a ||| 0 = iI a
  exact Int32.or_zero
/-- the first squares, and those behind them -/
theorem sq_back {m k : Int} (hm : 2 ≤ m ∧ m ≤ 6) (hk : 0 ≤ k) : k / m * m + k % m = k := by
  rcases (show m = 2 ∨ m = 3 ∨ m = 4 ∨ m = 5 ∨ m = 6 by omega) with q | q | q | q | q <;> subst q <;> omega
theorem sq_ne {m k x y : Int} (hm : 2 ≤ m ∧ m ≤ 6) (hk : 0 ≤ k) (hx : 0 ≤ x) (hx2 : x < m) (hy : 0 ≤ y) (h : k < y * m + x) : y * 6 + x ≠ k / m * 6 + k % m := by
  rcases (show m = 2 ∨ m = 3 ∨ m = 4 ∨ m = 5 ∨ m = 6 by omega) with q | q | q | q | q <;> subst q <;> omega
def restZ (m : Int) (h : Int → Int) (k : Int) : Prop := ∀ x y, 0 ≤ x → x < m → 0 ≤ y → k ≤ y * m + x → h (y * 6 + x) = 0
theorem restZ_0 (m k : Int) : restZ m (fun _ => 0) k := fun _ _ _ _ _ _ => rfl
theorem restZ_at {m k : Int} {h : Int → Int} (H : restZ m h k) (hm : 2 ≤ m ∧ m ≤ 6) (hk : 0 ≤ k) : h (k / m * 6 + k % m) = 0 := by
  refine H (k % m) (k / m) (Int.emod_nonneg _ (by omega)) (Int.emod_lt_of_pos _ (by omega)) (Int.ediv_nonneg hk (by omega)) ?_
  rw [sq_back hm hk]; exact Int.le_refl k
theorem restZ_up {m k : Int} {h : Int → Int} (H : restZ m h k) : restZ m h (k + 1) := fun x y a b c d => H x y a b c (by omega)
theorem restZ_put {m k : Int} {h : Int → Int} (H : restZ m h (k + 1)) (hm : 2 ≤ m ∧ m ≤ 6) (hk : 0 ≤ k) (v : Int) : restZ m (updI h (k / m * 6 + k % m) v) (k + 1) := fun x y a b c d => by
  rw [updI_n (sq_ne hm hk a b c (by omega))]
  exact H x y a b c d

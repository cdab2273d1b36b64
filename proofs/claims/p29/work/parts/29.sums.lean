/-! ===== sums ===== -/
def sm (f : Int → Int) (n : Int) : Int := itI (fun k s => s + f k) 0 n
theorem sm_s {f : Int → Int} {n : Int} (h : 0 ≤ n) : sm f (n + 1) = sm f n + f n := itI_s _ _ h
theorem sm_0 (f : Int → Int) : sm f 0 = 0 := rfl
theorem sm_ind {P : Int → Prop} {n : Int} (h0 : P 0) (hn : 0 ≤ n) (hs : ∀ k, 0 ≤ k → k < n → P k → P (k + 1)) : P n := by
  obtain ⟨m, rfl⟩ := Int.eq_ofNat_of_zero_le hn
  have key : ∀ i : Nat, i ≤ m → P (i : Int) := by
    intro i
    induction i with
    | zero => intro _; exact h0
    | succ i ih =>
      intro hi
      have := hs (i : Int) (by omega) (by omega) (ih (by omega))
      rw [show ((i + 1 : Nat) : Int) = (i : Int) + 1 by omega]
      exact this
  exact key m (Nat.le_refl m)
theorem sm_cg {f g : Int → Int} {n : Int} (h : ∀ j, 0 ≤ j → j < n → f j = g j) : sm f n = sm g n := sum_same h
theorem sm_mono {f g : Int → Int} {n : Int} (hn : 0 ≤ n) (h : ∀ j, 0 ≤ j → j < n → f j ≤ g j) : sm f n ≤ sm g n :=
  sm_ind (P := fun k => sm f k ≤ sm g k) (Int.le_refl 0) hn (fun k a b hk => by
    show sm f (k + 1) ≤ sm g (k + 1)
    rw [sm_s a, sm_s a]
    have := h k a b
    omega)
theorem sm_add (f g : Int → Int) {n : Int} (hn : 0 ≤ n) : sm (fun j => f j + g j) n = sm f n + sm g n :=
  sm_ind (P := fun k => sm (fun j => f j + g j) k = sm f k + sm g k) rfl hn (fun k a _ hk => by
    show sm _ (k + 1) = sm f (k + 1) + sm g (k + 1)
    rw [sm_s a, sm_s a, sm_s a, hk]
    omega)
theorem sm_split (f : Int → Int) {a b : Int} (ha : 0 ≤ a) (hb : 0 ≤ b) : sm f (a + b) = sm f a + sm (fun j => f (a + j)) b :=
  sm_ind (P := fun k => sm f (a + k) = sm f a + sm (fun j => f (a + j)) k) (by rw [Int.add_zero, sm_0, Int.add_zero]) hb (fun k c _ hk => by
    show sm f (a + (k + 1)) = sm f a + sm (fun j => f (a + j)) (k + 1)
    rw [← Int.add_assoc, sm_s (by omega), sm_s c, hk]
    omega)
theorem sm_none {f : Int → Int} {n : Int} (hn : 0 ≤ n) (h : ∀ j, 0 ≤ j → j < n → f j = 0) : sm f n = 0 :=
  sm_ind (P := fun k => sm f k = 0) rfl hn (fun k a b hk => by
    show sm f (k + 1) = 0
    rw [sm_s a, hk, h k a b]; rfl)
theorem sm_cut {f : Int → Int} {n m : Int} (h0 : 0 ≤ n) (hm : n ≤ m) (h : ∀ j, n ≤ j → j < m → f j = 0) : sm f m = sm f n := by
  rw [show m = n + (m - n) by omega, sm_split f h0 (by omega), sm_none (by omega) (fun j a b => h (n + j) (by omega) (by omega))]
  omega
theorem sm_prod (f : Int → Int) {m k : Int} (hm : 0 ≤ m) (hk : 0 ≤ k) : sm f (m * k) = sm (fun y => sm (fun x => f (y * k + x)) k) m :=
  sm_ind (P := fun i => sm f (i * k) = sm (fun y => sm (fun x => f (y * k + x)) k) i) (by rw [Int.zero_mul]; rfl) hm (fun i a _ hi => by
    show sm f ((i + 1) * k) = sm _ (i + 1)
    rw [Int.add_mul, Int.one_mul, sm_split f (Int.mul_nonneg a hk) hk, sm_s a, hi])
theorem sm_swap (f : Int → Int → Int) {n m : Int} (hn : 0 ≤ n) (hm : 0 ≤ m) : sm (fun i => sm (fun j => f i j) m) n = sm (fun j => sm (fun i => f i j) n) m :=
  sm_ind (P := fun k => sm (fun i => sm (fun j => f i j) m) k = sm (fun j => sm (fun i => f i j) k) m) (by rw [sm_0]; exact (sm_none hm (fun j _ _ => rfl)).symm) hn (fun k a _ hk => by
    show sm _ (k + 1) = sm (fun j => sm (fun i => f i j) (k + 1)) m
    rw [sm_s a, hk, sm_cg (f := fun j => sm (fun i => f i j) (k + 1)) (g := fun j => sm (fun i => f i j) k + f k j) (fun j _ _ => sm_s a), sm_add (fun j => sm (fun i => f i j) k) (fun j => f k j) hm])
/-- all of a yard's squares, or all 36 -/
theorem sm_yard {n : Int} (hn : 0 ≤ n ∧ n ≤ 6) {f : Int → Int} (h : ∀ j, ¬ sqIn n j → f j = 0) : sm f 36 = sm (fun y => sm (fun x => f (y * 6 + x)) n) n := by
  have e := sm_prod f (m := 6) (k := 6) (by decide) (by decide)
  rw [show (6 : Int) * 6 = 36 by decide] at e
  rw [e, sm_cut hn.1 hn.2 (f := fun y => sm (fun x => f (y * 6 + x)) 6) (fun y a b => sm_none (by decide) (fun x c d => h _ (by rintro ⟨u, v, w⟩; omega)))]
  exact sm_cg (fun y _ _ => sm_cut hn.1 hn.2 (f := fun x => f (y * 6 + x)) (fun x c d => h _ (by rintro ⟨u, v, w⟩; omega)))
theorem count_36 {n ho : Int} {h c : Int → Int} (H : YOk n ho h c) : sm h 36 = countK n h n := sm_yard (by have := H.n; omega) (fun _ hj => H.o hj)
theorem cnt_ex {L : Int → Int} {b k : Int} (hk : 0 ≤ k) (h : 0 < cntL L b k) : ∃ t, 0 ≤ t ∧ t < k ∧ L t = b := by
  refine sm_ind (P := fun k => 0 < cntL L b k → ∃ t, 0 ≤ t ∧ t < k ∧ L t = b) (fun q => absurd q (by show ¬ (0 : Int) < 0; omega)) hk (fun i a _ ih q => ?_) h
  rw [cntL_s a] at q
  by_cases e : L i = b
  · exact ⟨i, a, by omega, e⟩
  · rw [bI_f e] at q
    obtain ⟨t, u, v, w⟩ := ih (by omega)
    exact ⟨t, u, by omega, w⟩
abbrev inY (n : Int) (h : Int → Int) (b : Int) : Prop := sqIn n (b % 36) ∧ b / 36 < h (b % 36)
theorem inY_of {n : Int} {h M : Int → Int} (H : MIn n h M) {b : Int} (hb : 0 ≤ b) (hc : 0 < cntL (blkF M) b 512) : inY n h b := by
  obtain ⟨t, _, _, e⟩ := cnt_ex (by decide) hc
  have ne : M t ≠ 0 := fun q => by
    unfold blkF at e
    rw [if_pos q] at e
    omega
  have k := MIn.blk H ne
  rw [e] at k
  have e1 : b % 36 = b / 6 % 6 * 6 + b % 6 := by omega
  refine ⟨⟨by omega, by omega, by omega⟩, ?_⟩
  rw [e1]; exact k.2.2.2
theorem sm_lt {v m : Int} (h0 : 0 ≤ v) (hm : v ≤ m) : sm (fun z => bI (z < v)) m = v := by
  rw [sm_cut h0 hm (fun j a _ => bI_f (by omega))]
  refine sm_ind (P := fun k => k ≤ v → sm (fun z => bI (z < v)) k = k) (fun _ => rfl) h0 (fun k a b hk hv => ?_) (Int.le_refl v)
  show sm _ (k + 1) = k + 1
  rw [sm_s a, hk (by omega), bI_t (by omega)]
theorem sum_inY {n ho : Int} {h c : Int → Int} (H : YOk n ho h c) : sm (fun b => bI (inY n h b)) 288 = countK n h n := by
  rw [← count_36 H]
  have e := sm_prod (fun b => bI (inY n h b)) (m := 8) (k := 36) (by decide) (by decide)
  rw [show (8 : Int) * 36 = 288 by decide] at e
  rw [e, sm_swap (fun z j => bI (inY n h (z * 36 + j))) (by decide) (by decide)]
  refine sm_cg (fun j a b => ?_)
  have h8 := H.h j
  show sm (fun z => bI (inY n h (z * 36 + j))) 8 = h j
  rw [← sm_lt (v := h j) (m := 8) h8.1 h8.2]
  refine sm_cg (fun z c d => bI_c ?_)
  have e1 : (z * 36 + j) % 36 = j := by omega
  have e2 : (z * 36 + j) / 36 = z := by omega
  show (sqIn n ((z * 36 + j) % 36) ∧ (z * 36 + j) / 36 < h ((z * 36 + j) % 36)) ↔ z < h j
  rw [e1, e2]
  refine ⟨fun q => q.2, fun q => ⟨Decidable.byContradiction fun r => ?_, q⟩⟩
  have := H.o r
  omega
theorem seen_le {n ho : Int} {h c : Int → Int} (H : YOk n ho h c) : seenD n h ≤ countK n h n := by
  rw [← sum_inY H]
  refine sm_mono (f := fun b => bI (0 < cntL (blkF (picM n h)) b 512)) (by decide) (fun b h0 h1 => ?_)
  by_cases q : 0 < cntL (blkF (picM n h)) b 512
  · show bI _ ≤ bI _
    rw [bI_t q, bI_t (inY_of (picM_in H) h0 q)]
    exact Int.le_refl 1
  · show bI _ ≤ bI _
    rw [bI_f q]
    exact (bI_rg _).1
theorem count_le {n ho : Int} {h c : Int → Int} (H : YOk n ho h c) : 0 ≤ countK n h n ∧ countK n h n ≤ 288 := by
  have := H.n
  have := countK_rg (n := n) H.h (by omega) (k := n) (by omega)
  omega
/-! ===== bits ===== -/
section LC
variable {p : Program} {l : Launch} {e : Env} {R : Room} {s : State} {m : MethodId} {args : Array Value} {below : List Frame} {meth : Method} {c : Code} {H : Heap} {locs : List Loc} {cells slots : Nat} {Q : State → Prop}
variable {cc : ByteArray} {pc : Nat} {ls : Array Slot} {rest : List Value}
theorem lv_lcmp (hexec : p.tables.exec = Jvm.exec) (hb : c.code = cc) {x y : Int64} {v : Int32} (hdg : decode cc pc = .ok (.lcmp, 1)) (hv : (if x > y then (1 : Int32) else if x = y then 0 else -1) = v)
    (k : W p l e R s m args below meth c H locs cells slots Q (F0 m (pc + 1) ls (.int v :: rest))) : W p l e R s m args below meth c H locs cells slots Q (F0 m pc ls (.long y :: .long x :: rest)) := by
  intro T hT X
  obtain ⟨t, a, b⟩ := k T hT X
  refine ⟨t, ?_, b⟩
  jvm_step X.here [X.here.top, hexec, hb, hdg]
  by_cases q : x > y
  · rw [if_pos q] at hv ⊢
    rw [hv]; exact a
  · rw [if_neg q] at hv ⊢
    by_cases r : x = y
    · rw [if_pos r] at hv ⊢
      rw [hv]; exact a
    · rw [if_neg r] at hv ⊢
      rw [hv]; exact a
end LC

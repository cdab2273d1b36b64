/-! ===== texts ===== -/
def dfa (s c : Int) : Int :=
  if s = 0 then (if 48 ≤ c ∧ c ≤ 53 then 1 else -1)
  else if s = 1 then (if 48 ≤ c ∧ c ≤ 53 then 2 else -1)
  else if s = 2 then (if c = 43 then 3 else if c = 45 then 5 else -1)
  else if s = 3 then (if 48 ≤ c ∧ c ≤ 51 then 4 else -1)
  else if s = 4 then (if 48 ≤ c ∧ c ≤ 51 then 4 else if c = 59 then 0 else -1)
  else if s = 5 then (if 49 ≤ c ∧ c ≤ 56 then 6 else -1)
  else if s = 6 then (if c = 59 then 0 else -1)
  else -1
theorem dfa_rg (s c : Int) : -1 ≤ dfa s c ∧ dfa s c ≤ 6 := by unfold dfa; repeat' split <;> omega
def dfaK (b : Int → Int) (k : Int) : Int := itI (fun i s => dfa s (b i)) 0 k
theorem dfaK_s {b : Int → Int} {k : Int} (h : 0 ≤ k) : dfaK b (k + 1) = dfa (dfaK b k) (b k) := itI_s _ _ h
theorem dfaK_rg (b : Int → Int) {k : Int} (h : 0 ≤ k) : -1 ≤ dfaK b k ∧ dfaK b k ≤ 6 := itI_ind (F := fun i s => dfa s (b i)) (fun _ s => -1 ≤ s ∧ s ≤ 6) (by decide) h (fun i s _ _ _ => dfa_rg _ _)
theorem dfaK_stay {b : Int → Int} {k : Int} (h : 0 ≤ k) (hk : dfaK b k = -1) {j : Int} (hj : k ≤ j) : dfaK b j = -1 := by
  obtain ⟨d, rfl⟩ := Int.le.dest hj
  induction d with
  | zero => simpa using hk
  | succ d ih =>
    have e : k + ((d + 1 : Nat) : Int) = (k + d) + 1 := by omega
    rw [e, dfaK_s (by omega), ih (by omega)]
    unfold dfa
    rw [if_neg (by decide), if_neg (by decide), if_neg (by decide), if_neg (by decide), if_neg (by decide), if_neg (by decide), if_neg (by decide)]
/-- the first error's index: how many characters stand ahead of it -/
def errK (b : Int → Int) (k : Int) : Int := itI (fun i s => s + bI (dfaK b (i + 1) ≠ -1)) 0 k
theorem errK_s {b : Int → Int} {k : Int} (h : 0 ≤ k) : errK b (k + 1) = errK b k + bI (dfaK b (k + 1) ≠ -1) := itI_s _ _ h
theorem errK_all {b : Int → Int} {k : Int} (h : 0 ≤ k) (hk : dfaK b k ≠ -1) : errK b k = k := by
  obtain ⟨m, rfl⟩ := Int.eq_ofNat_of_zero_le h
  induction m with
  | zero => rfl
  | succ m ih =>
    have e : ((m + 1 : Nat) : Int) = (m : Int) + 1 := by omega
    rw [e] at hk ⊢
    have q : dfaK b (m : Int) ≠ -1 := fun q => hk (dfaK_stay (by omega) q (by omega))
    rw [errK_s (by omega), ih (by omega) q, bI_t hk]
theorem errK_at {b : Int → Int} {k : Int} (h : 0 ≤ k) (hk : dfaK b k ≠ -1) (hk1 : dfaK b (k + 1) = -1) {L : Int} (hL : k ≤ L) : errK b L = k := by
  obtain ⟨d, rfl⟩ := Int.le.dest hL
  induction d with
  | zero => simpa using errK_all h hk
  | succ d ih =>
    have e : k + ((d + 1 : Nat) : Int) = (k + d) + 1 := by omega
    rw [e, errK_s (by omega), ih (by omega), bI_f (fun q => q (dfaK_stay (by omega) hk1 (by omega)))]
    omega
theorem errK_rg (b : Int → Int) {k : Int} (h : 0 ≤ k) : 0 ≤ errK b k ∧ errK b k ≤ k := by
  have := itI_lin (F := fun i s => s + bI (dfaK b (i + 1) ≠ -1)) (a := 0) (c := 1) (fun k x _ => by have := bI_rg (dfaK b (k + 1) ≠ -1); omega) h
  unfold errK; omega
/-- the end of the order that begins at s: its semicolon, or L -/
def endK (b : Int → Int) (s k : Int) : Int := itI (fun i e => if e = s + i ∧ b (s + i) ≠ 59 then e + 1 else e) s k
theorem endK_s {b : Int → Int} {s k : Int} (h : 0 ≤ k) : endK b s (k + 1) = if endK b s k = s + k ∧ b (s + k) ≠ 59 then endK b s k + 1 else endK b s k := itI_s _ _ h
theorem endK_stop {b : Int → Int} {s k : Int} (h : 0 ≤ k) (he : endK b s k = s + k) (hb : b (s + k) = 59) {m : Int} (hm : k ≤ m) : endK b s m = s + k := by
  obtain ⟨d, rfl⟩ := Int.le.dest hm
  induction d with
  | zero => simpa using he
  | succ d ih =>
    have e : k + ((d + 1 : Nat) : Int) = (k + d) + 1 := by omega
    have i1 := ih (by omega)
    rw [e, endK_s (by omega), i1]
    refine if_neg (fun q => ?_)
    have : (d : Int) = 0 := by omega
    rw [this] at q
    exact q.2 (by rw [show s + (k + 0) = s + k by omega]; exact hb)
def endI (b : Int → Int) (L s : Int) : Int := endK b s (L - s)
theorem endK_rg (b : Int → Int) (s : Int) {k : Int} (h : 0 ≤ k) : s ≤ endK b s k ∧ endK b s k ≤ s + k := itI_ind (F := fun i e => if e = s + i ∧ b (s + i) ≠ 59 then e + 1 else e) (fun k e => s ≤ e ∧ e ≤ s + k) (by omega) h (fun k e _ _ he => by split <;> omega)
theorem endI_rg (b : Int → Int) {L s : Int} (h : s ≤ L) : s ≤ endI b L s ∧ endI b L s ≤ L := by
  have := endK_rg b s (k := L - s) (by omega)
  unfold endI; omega
def BOk (b : Int → Int) (L : Int) : Prop := (0 ≤ L ∧ L ≤ 60) ∧ ∀ j, 0 ≤ b j ∧ b j ≤ 126
/-! ===== the saved yards, by their slots ===== -/
def updF (f : Int → Int → Int) (i : Int) (v : Int → Int) : Int → Int → Int := fun j => if j = i then v else f j
/-- where a state is saved: the first slot and the number behind dropping the oldest -/
def svF (hf hn : Int) : Int := if hn = 6 then (hf + 1) % 6 else hf
def svL (hn : Int) : Int := if hn = 6 then 5 else hn

/-! ===== orders ===== -/
theorem endK_spec (b : Int → Int) (s : Int) {k : Int} (hk : 0 ≤ k) : (∀ j, s ≤ j → j < endK b s k → b j ≠ 59) ∧ (endK b s k < s + k → b (endK b s k) = 59) ∧ endK b s k ≤ s + k := by
  refine itI_ind (F := fun i e => if e = s + i ∧ b (s + i) ≠ 59 then e + 1 else e) (a := s) (fun k e => (∀ j, s ≤ j → j < e → b j ≠ 59) ∧ (e < s + k → b e = 59) ∧ e ≤ s + k) ⟨fun j a c => absurd a (by omega), fun q => absurd q (by omega), by omega⟩ hk (fun i e a _ he => ?_)
  obtain ⟨h1, h2, h3⟩ := he
  by_cases q : e = s + i ∧ b (s + i) ≠ 59
  · rw [if_pos q]
    refine ⟨fun j u v => ?_, fun w => absurd w (by omega), by omega⟩
    by_cases r : j = s + i
    · rw [r]; exact q.2
    · exact h1 j u (by omega)
  · rw [if_neg q]
    refine ⟨h1, fun w => ?_, by omega⟩
    by_cases r : e = s + i
    · rw [r]
      exact Decidable.byContradiction fun x => q ⟨r, x⟩
    · exact h2 (by omega)
theorem endI_spec (b : Int → Int) {L s : Int} (h : s ≤ L) : (∀ j, s ≤ j → j < endI b L s → b j ≠ 59) ∧ (endI b L s < L → b (endI b L s) = 59) ∧ s ≤ endI b L s ∧ endI b L s ≤ L := by
  have a := endK_spec b s (k := L - s) (by omega)
  have r := endI_rg b h
  unfold endI at *
  exact ⟨a.1, fun q => a.2.1 (by omega), r⟩
def ordW (b : Int → Int) (s e L : Int) : Prop := (0 ≤ s ∧ s + 4 ≤ e ∧ e ≤ L) ∧ (48 ≤ b s ∧ b s ≤ 53) ∧ (48 ≤ b (s + 1) ∧ b (s + 1) ≤ 53) ∧ ((b (s + 2) = 43 ∧ ∀ j, s + 3 ≤ j → j < e → 48 ≤ b j ∧ b j ≤ 51) ∨ (b (s + 2) = 45 ∧ 49 ≤ b (s + 3) ∧ b (s + 3) ≤ 56))
theorem dfa_0 (c : Int) : dfa 0 c = if 48 ≤ c ∧ c ≤ 53 then 1 else -1 := rfl
theorem dfa_1 (c : Int) : dfa 1 c = if 48 ≤ c ∧ c ≤ 53 then 2 else -1 := rfl
theorem dfa_2 (c : Int) : dfa 2 c = if c = 43 then 3 else if c = 45 then 5 else -1 := rfl
theorem dfa_3 (c : Int) : dfa 3 c = if 48 ≤ c ∧ c ≤ 51 then 4 else -1 := rfl
theorem dfa_4 (c : Int) : dfa 4 c = if 48 ≤ c ∧ c ≤ 51 then 4 else if c = 59 then 0 else -1 := rfl
theorem dfa_5 (c : Int) : dfa 5 c = if 49 ≤ c ∧ c ≤ 56 then 6 else -1 := rfl
theorem dfa_6 (c : Int) : dfa 6 c = if c = 59 then 0 else -1 := rfl
theorem ordW_of {b : Int → Int} {L s : Int} (hL : dfaK b L = 4 ∨ dfaK b L = 6) (h0 : 0 ≤ s) (hs : s < L) (h : dfaK b s = 0) : ordW b s (endI b L s) L ∧ (endI b L s < L → endI b L s + 1 < L ∧ dfaK b (endI b L s + 1) = 0) := by
  have live : ∀ j, 0 ≤ j → j ≤ L → dfaK b j ≠ -1 := fun j a c q => by
    have := dfaK_stay a q c
    omega
  obtain ⟨e1, e2, e3, e4⟩ := endI_spec b (L := L) (s := s) (by omega)
  generalize endI b L s = e at e1 e2 e3 e4 ⊢
  have s1 := dfaK_s (b := b) (k := s) h0
  rw [h, dfa_0] at s1
  have l1 := live (s + 1) (by omega) (by omega)
  have c1 : 48 ≤ b s ∧ b s ≤ 53 := Decidable.byContradiction fun q => by rw [if_neg q] at s1; exact l1 s1
  rw [if_pos c1] at s1
  have n1 : s + 1 < L := by
    rcases (show s + 1 < L ∨ s + 1 = L by omega) with q | q
    · exact q
    · rw [← q] at hL; omega
  have s2 := dfaK_s (b := b) (k := s + 1) (by omega)
  rw [s1, dfa_1, show s + 1 + 1 = s + 2 by omega] at s2
  have l2 := live (s + 2) (by omega) (by omega)
  have c2 : 48 ≤ b (s + 1) ∧ b (s + 1) ≤ 53 := Decidable.byContradiction fun q => by rw [if_neg q] at s2; exact l2 s2
  rw [if_pos c2] at s2
  have n2 : s + 2 < L := by
    rcases (show s + 2 < L ∨ s + 2 = L by omega) with q | q
    · exact q
    · rw [← q] at hL; omega
  have s3 := dfaK_s (b := b) (k := s + 2) (by omega)
  rw [s2, dfa_2, show s + 2 + 1 = s + 3 by omega] at s3
  have l3 := live (s + 3) (by omega) (by omega)
  have s4 := dfaK_s (b := b) (k := s + 3) (by omega)
  rw [show s + 3 + 1 = s + 4 by omega] at s4
  have sep : ∀ j, s ≤ j → j < L → b j ≠ 59 → (∀ i, s ≤ i → i < j → b i ≠ 59) → j + 1 ≤ e := fun j a c q w => by
    rcases (show j < e ∨ e ≤ j by omega) with r | r
    · omega
    · rcases (show e = j ∨ e < j by omega) with x | x
      · exact absurd (by rw [← x]; exact e2 (by omega)) q
      · exact absurd (e2 (by omega)) (w e e3 x)
  by_cases p1 : b (s + 2) = 43
  · rw [if_pos p1] at s3
    have n3 : s + 3 < L := by
      rcases (show s + 3 < L ∨ s + 3 = L by omega) with q | q
      · exact q
      · rw [← q] at hL; omega
    rw [s3, dfa_3] at s4
    have l4 := live (s + 4) (by omega) (by omega)
    have c4 : 48 ≤ b (s + 3) ∧ b (s + 3) ≤ 51 := Decidable.byContradiction fun q => by rw [if_neg q] at s4; exact l4 s4
    rw [if_pos c4] at s4
    have e9 : s + 4 ≤ e := by
      have := sep (s + 3) (by omega) n3 (by omega) (fun i a c => by
        rcases (show i = s ∨ i = s + 1 ∨ i = s + 2 by omega) with q | q | q <;> rw [q] <;> omega)
      omega
    have run : ∀ m : Nat, s + 4 + (m : Int) ≤ e → dfaK b (s + 4 + m) = 4 ∧ ∀ j, s + 3 ≤ j → j < s + 4 + m → 48 ≤ b j ∧ b j ≤ 51 := by
      intro m
      induction m with
      | zero =>
        intro _
        refine ⟨by rw [show s + 4 + ((0 : Nat) : Int) = s + 4 by omega]; exact s4, fun j a c => ?_⟩
        rw [show j = s + 3 by omega]; exact c4
      | succ m ih =>
        intro hm
        obtain ⟨i1, i2⟩ := ih (by omega)
        have t := dfaK_s (b := b) (k := s + 4 + m) (by omega)
        rw [i1, dfa_4, show s + 4 + (m : Int) + 1 = s + 4 + ((m + 1 : Nat) : Int) by omega] at t
        have lt := live (s + 4 + ((m + 1 : Nat) : Int)) (by omega) (by omega)
        have ne := e1 (s + 4 + m) (by omega) (by omega)
        have ct : 48 ≤ b (s + 4 + m) ∧ b (s + 4 + m) ≤ 51 := Decidable.byContradiction fun q => by rw [if_neg q, if_neg ne] at t; exact lt t
        rw [if_pos ct] at t
        refine ⟨t, fun j a c => ?_⟩
        rcases (show j = s + 4 + m ∨ j < s + 4 + m by omega) with q | q
        · rw [q]; exact ct
        · exact i2 j a q
    have r9 := run (e - (s + 4)).toNat (by omega)
    rw [show s + 4 + (((e - (s + 4)).toNat : Nat) : Int) = e by omega] at r9
    refine ⟨⟨⟨h0, e9, e4⟩, c1, c2, Or.inl ⟨p1, fun j a c => r9.2 j a c⟩⟩, fun q => ?_⟩
    have t := dfaK_s (b := b) (k := e) (by omega)
    rw [r9.1, e2 q] at t
    have t : dfaK b (e + 1) = 0 := t
    refine ⟨?_, t⟩
    rcases (show e + 1 < L ∨ e + 1 = L by omega) with w | w
    · exact w
    · rw [← w] at hL; omega
  · rw [if_neg p1] at s3
    have p2 : b (s + 2) = 45 := Decidable.byContradiction fun q => by rw [if_neg q] at s3; exact l3 s3
    rw [if_pos p2] at s3
    have n3 : s + 3 < L := by
      rcases (show s + 3 < L ∨ s + 3 = L by omega) with q | q
      · exact q
      · rw [← q] at hL; omega
    rw [s3, dfa_5] at s4
    have l4 := live (s + 4) (by omega) (by omega)
    have c4 : 49 ≤ b (s + 3) ∧ b (s + 3) ≤ 56 := Decidable.byContradiction fun q => by rw [if_neg q] at s4; exact l4 s4
    rw [if_pos c4] at s4
    have e9 : s + 4 ≤ e := by
      have := sep (s + 3) (by omega) n3 (by omega) (fun i a c => by
        rcases (show i = s ∨ i = s + 1 ∨ i = s + 2 by omega) with q | q | q <;> rw [q] <;> omega)
      omega
    have e8 : e = s + 4 := by
      rcases (show e = s + 4 ∨ s + 4 < e by omega) with q | q
      · exact q
      · have t := dfaK_s (b := b) (k := s + 4) (by omega)
        rw [s4, dfa_6, if_neg (e1 (s + 4) (by omega) q)] at t
        exact absurd t (live (s + 4 + 1) (by omega) (by omega))
    refine ⟨⟨⟨h0, e9, e4⟩, c1, c2, Or.inr ⟨p2, c4⟩⟩, fun q => ?_⟩
    have t := dfaK_s (b := b) (k := e) (by omega)
    rw [e2 q, e8, s4] at t
    have t : dfaK b (e + 1) = 0 := by rw [e8]; exact t
    refine ⟨?_, t⟩
    rcases (show e + 1 < L ∨ e + 1 = L by omega) with w | w
    · exact w
    · rw [← w] at hL; omega
abbrev ordQ (b : Int → Int) (s : Int) : Int := (b (s + 1) - 48) * 6 + (b s - 48)
abbrev ordP (n : Int) (h b : Int → Int) (s e : Int) : Prop := okS n (b s - 48) (b (s + 1) - 48) ∧ (b (s + 2) = 43 → h (ordQ b s) + (e - (s + 3)) ≤ 8) ∧ (b (s + 2) ≠ 43 → b (s + 3) - 48 ≤ h (ordQ b s))
/-- the colours that k characters from u put on a stack -/
def txC (h c b : Int → Int) (q u k : Int) : Int := itI (fun k v => v + (b (u + k) - 48) * p4 (h q + k)) (c q) k
theorem txC_s {h c b : Int → Int} {q u k : Int} (h0 : 0 ≤ k) : txC h c b q u (k + 1) = txC h c b q u k + (b (u + k) - 48) * p4 (h q + k) := itI_s _ _ h0
theorem YOk.txt {n ho : Int} {h c b : Int → Int} (H : YOk n ho h c) {q u v : Int} (hq : sqIn n q) (hb : ∀ j, u ≤ j → j < v → 48 ≤ b j ∧ b j ≤ 51) {k : Int} (h0 : 0 ≤ k) (hv : u + k ≤ v) (h8 : h q + k ≤ 8) : YOk n ho (updI h q (h q + k)) (updI c q (txC h c b q u k)) := by
  have a1 := H.h q
  refine H.set hq (by omega) ?_
  have key : ∀ m : Nat, u + (m : Int) ≤ v → h q + (m : Int) ≤ 8 → 0 ≤ txC h c b q u m ∧ txC h c b q u m < p4 (h q + m) := by
    intro m
    induction m with
    | zero =>
      intro _ _
      have := H.c q
      show 0 ≤ c q ∧ c q < p4 (h q + 0)
      rw [Int.add_zero]; exact this
    | succ m ih =>
      intro hm h9
      have e : ((m + 1 : Nat) : Int) = (m : Int) + 1 := by omega
      obtain ⟨i1, i2⟩ := ih (by omega) (by omega)
      have := hb (u + m) (by omega) (by omega)
      rw [e, txC_s (by omega), show h q + ((m : Int) + 1) = (h q + m) + 1 by omega]
      exact add4 i1 i2 ⟨by omega, by omega⟩ (by omega)
  obtain ⟨m, rfl⟩ := Int.eq_ofNat_of_zero_le h0
  exact key m hv h8
def ordH (n : Int) (h b : Int → Int) (s e : Int) : Int → Int := if ordP n h b s e then (if b (s + 2) = 43 then updI h (ordQ b s) (h (ordQ b s) + (e - (s + 3))) else lowH h (ordQ b s) (h (ordQ b s) - (b (s + 3) - 48))) else h
def ordC (n : Int) (h c b : Int → Int) (s e : Int) : Int → Int := if ordP n h b s e then (if b (s + 2) = 43 then updI c (ordQ b s) (txC h c b (ordQ b s) (s + 3) (e - (s + 3))) else lowC h c (ordQ b s) (h (ordQ b s) - (b (s + 3) - 48))) else c
theorem YOk.ord {n ho : Int} {h c b : Int → Int} (H : YOk n ho h c) {s e L : Int} (hw : ordW b s e L) : YOk n ho (ordH n h b s e) (ordC n h c b s e) := by
  unfold ordH ordC
  by_cases q : ordP n h b s e
  · rw [if_pos q, if_pos q]
    have hq : sqIn n (ordQ b s) := sq_in (by have := H.n; omega) q.1.1.1 q.1.1.2 q.1.2.1 q.1.2.2
    by_cases r : b (s + 2) = 43
    · rw [if_pos r, if_pos r]
      have h8 := q.2.1 r
      refine H.txt hq (v := e) ?_ (by have := hw.1; omega) (by omega) h8
      rcases hw.2.2.2 with w | w
      · exact w.2
      · exact absurd w.1 (by omega)
    · rw [if_neg r, if_neg r]
      exact H.low hq
  · rw [if_neg q, if_neg q]; exact H
/-- all orders: how many are done, the heights, the colours -/
def runO (b : Int → Int) (L n : Int) : Nat → Int → Int → (Int → Int) → (Int → Int) → Int × (Int → Int) × (Int → Int)
  | 0, _, d, h, c => (d, h, c)
  | k + 1, s, d, h, c => if s < L then (if ordP n h b s (endI b L s) then runO b L n k (endI b L s + 1) (d + 1) (ordH n h b s (endI b L s)) (ordC n h c b s (endI b L s)) else (d, h, c)) else (d, h, c)
theorem runO_stop {b : Int → Int} {L n : Int} (k : Nat) {s d : Int} {h c : Int → Int} (hs : ¬ s < L) : runO b L n k s d h c = (d, h, c) := by
  cases k with
  | zero => rfl
  | succ k => unfold runO; rw [if_neg hs]
theorem runO_no {b : Int → Int} {L n : Int} (k : Nat) {s d : Int} {h c : Int → Int} (hp : ¬ ordP n h b s (endI b L s)) : runO b L n k s d h c = (d, h, c) := by
  cases k with
  | zero => rfl
  | succ k =>
    unfold runO
    by_cases hs : s < L
    · rw [if_pos hs, if_neg hp]
    · rw [if_neg hs]
theorem runO_s {b : Int → Int} {L n : Int} {k : Int} (hk : k < 60) {s d : Int} {h c : Int → Int} (hs : s < L) (hp : ordP n h b s (endI b L s)) : runO b L n (60 - k).toNat s d h c = runO b L n (60 - (k + 1)).toNat (endI b L s + 1) (d + 1) (ordH n h b s (endI b L s)) (ordC n h c b s (endI b L s)) := by
  rw [show (60 - k).toNat = (60 - (k + 1)).toNat + 1 by omega]
  conv => lhs; unfold runO
  rw [if_pos hs, if_pos hp]
/-- what build answers and leaves -/
abbrev blD (b : Int → Int) (L n : Int) (h c : Int → Int) : Int := (runO b L n 60 0 0 h c).1
abbrev blH (b : Int → Int) (L n : Int) (h c : Int → Int) : Int → Int := (runO b L n 60 0 0 h c).2.1
abbrev blC (b : Int → Int) (L n : Int) (h c : Int → Int) : Int → Int := (runO b L n 60 0 0 h c).2.2
section OR
variable {n s e : Int} {h c b : Int → Int}
theorem ordP_p (hs : okS n (b s - 48) (b (s + 1) - 48)) (hp : b (s + 2) = 43) : ordP n h b s e ↔ h ((b (s + 1) - 48) * 6 + (b s - 48)) + (e - (s + 3)) ≤ 8 := ⟨fun q => q.2.1 hp, fun q => ⟨hs, fun _ => q, fun r => absurd hp r⟩⟩
theorem ordP_m (hs : okS n (b s - 48) (b (s + 1) - 48)) (hp : ¬ b (s + 2) = 43) : ordP n h b s e ↔ b (s + 3) - 48 ≤ h ((b (s + 1) - 48) * 6 + (b s - 48)) := ⟨fun q => q.2.2 hp, fun q => ⟨hs, fun r => absurd r hp, fun _ => q⟩⟩
theorem ordH_0 (hs : ¬ okS n (b s - 48) (b (s + 1) - 48)) : h = ordH n h b s e := (if_neg (fun q => hs q.1)).symm
theorem ordC_0 (hs : ¬ okS n (b s - 48) (b (s + 1) - 48)) : c = ordC n h c b s e := (if_neg (fun q => hs q.1)).symm
theorem ordH_p (hs : okS n (b s - 48) (b (s + 1) - 48)) (hp : b (s + 2) = 43) : (if h ((b (s + 1) - 48) * 6 + (b s - 48)) + (e - (s + 3)) ≤ 8 then updI h ((b (s + 1) - 48) * 6 + (b s - 48)) (h ((b (s + 1) - 48) * 6 + (b s - 48)) + (e - (s + 3))) else h) = ordH n h b s e := by
  unfold ordH
  by_cases q : h ((b (s + 1) - 48) * 6 + (b s - 48)) + (e - (s + 3)) ≤ 8
  · rw [if_pos q, if_pos ((ordP_p hs hp).mpr q), if_pos hp]
  · rw [if_neg q, if_neg (fun r => q ((ordP_p hs hp).mp r))]
theorem ordC_p (hs : okS n (b s - 48) (b (s + 1) - 48)) (hp : b (s + 2) = 43) : (if h ((b (s + 1) - 48) * 6 + (b s - 48)) + (e - (s + 3)) ≤ 8 then updI c ((b (s + 1) - 48) * 6 + (b s - 48)) (txC h c b ((b (s + 1) - 48) * 6 + (b s - 48)) (s + 3) (e - (s + 3))) else c) = ordC n h c b s e := by
  unfold ordC
  by_cases q : h ((b (s + 1) - 48) * 6 + (b s - 48)) + (e - (s + 3)) ≤ 8
  · rw [if_pos q, if_pos ((ordP_p hs hp).mpr q), if_pos hp]
  · rw [if_neg q, if_neg (fun r => q ((ordP_p hs hp).mp r))]
theorem ordH_m (hs : okS n (b s - 48) (b (s + 1) - 48)) (hp : ¬ b (s + 2) = 43) : (if b (s + 3) - 48 ≤ h ((b (s + 1) - 48) * 6 + (b s - 48)) then lowH h ((b (s + 1) - 48) * 6 + (b s - 48)) (h ((b (s + 1) - 48) * 6 + (b s - 48)) - (b (s + 3) - 48)) else h) = ordH n h b s e := by
  unfold ordH
  by_cases q : b (s + 3) - 48 ≤ h ((b (s + 1) - 48) * 6 + (b s - 48))
  · rw [if_pos q, if_pos ((ordP_m hs hp).mpr q), if_neg hp]
  · rw [if_neg q, if_neg (fun r => q ((ordP_m hs hp).mp r))]
theorem ordC_m (hs : okS n (b s - 48) (b (s + 1) - 48)) (hp : ¬ b (s + 2) = 43) : (if b (s + 3) - 48 ≤ h ((b (s + 1) - 48) * 6 + (b s - 48)) then lowC h c ((b (s + 1) - 48) * 6 + (b s - 48)) (h ((b (s + 1) - 48) * 6 + (b s - 48)) - (b (s + 3) - 48)) else c) = ordC n h c b s e := by
  unfold ordC
  by_cases q : b (s + 3) - 48 ≤ h ((b (s + 1) - 48) * 6 + (b s - 48))
  · rw [if_pos q, if_pos ((ordP_m hs hp).mpr q), if_neg hp]
  · rw [if_neg q, if_neg (fun r => q ((ordP_m hs hp).mp r))]
end OR

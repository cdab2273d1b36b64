/-! ===== what the looks answer ===== -/
section LK
variable {p : Program} {l : Launch} {e : Env} {R : Room} {s : State} {m : MethodId} {args : Array Value} {below : List Frame} {meth : Method} {c : Code} {H : Heap} {locs : List Loc} {cells slots : Nat} {Q : State → Prop}
variable {cc : ByteArray} {pc : Nat} {ls : Array Slot} {rest : List Value}
theorem ln_lookup (hx : p.tables.exec = Jvm.exec) (hb : c.code = cc) {dflt : Int} {ps : Array (Int × Int)} {len : Nat} {x off : Int} {tgt : Nat} (r : Rg x) (hdg : decode cc pc = .ok (.lookupswitch dflt ps, len)) (hp : (ps.toList.zip (ps.toList.drop 1)).all (fun (a, next) => a.1 < next.1) = true) (ho : Op.lookupswitch.offset ps.toList dflt x = off) (ht : (pc : Int) + off = (tgt : Int)) (k : W p l e R s m args below meth c H locs cells slots Q (F0 m tgt ls rest)) : W p l e R s m args below meth c H locs cells slots Q (F0 m pc ls (.int (iI x) :: rest)) := lv_lookup hx hb hdg hp (by rw [iI_toInt r]; exact ho) ht k
theorem lk2_0 {a b d x : Int} (h : x = 0) : Op.lookupswitch.offset [(0, a), (1, b)] d x = a := by rw [Op.lookupswitch.offset_cons, if_pos h.symm]
theorem lk2_1 {a b d x : Int} (h : x = 1) : Op.lookupswitch.offset [(0, a), (1, b)] d x = b := by rw [Op.lookupswitch.offset_cons, if_neg (by omega), Op.lookupswitch.offset_cons, if_pos h.symm]
theorem lk2_d {a b d x : Int} (h : x < 0 ∨ 1 < x) : Op.lookupswitch.offset [(0, a), (1, b)] d x = d := by rw [Op.lookupswitch.offset_cons, if_neg (by omega), Op.lookupswitch.offset_cons, if_neg (by omega), Op.lookupswitch.offset_nil]
end LK
def seenD (n : Int) (h : Int → Int) : Int := distL (blkF (picM n h)) 288 512
def topV (h c : Int → Int) (q : Int) : Int := if h q = 0 then -1 else colZ (c q) (h q - 1)
def stkV (n ho : Int) (h c : Int → Int) (x y w : Int) : Int := if w = 0 then h (y * 6 + x) else if w = 1 then topV h c (y * 6 + x) else if w = 2 then shadeI n h ho x y else seenIn (picM n h) x y (h (y * 6 + x))
def blkV (n : Int) (h c : Int → Int) (x y z w : Int) : Int := if h (y * 6 + x) ≤ z then -1 else if w = 0 then colZ (c (y * 6 + x)) z else if w = 4 then bI (0 < cntL (blkF (picM n h)) (blkN x y z) 512) else ofF (picM n h) 512 (blkN x y z * 3 + (w - 1))
def picW (c : Int → Int) (f w : Int) : Int := if f = -1 then -1 else if w = 0 then f / 3 % 6 else if w = 1 then f / 3 / 6 % 6 else if w = 2 then f / 3 / 36 else if w = 3 then f % 3 else colB c (f / 3)
def picV (n : Int) (h c : Int → Int) (i j t w : Int) : Int := picW c (faceF (picM n h) (triN i j t)) w
def elvV (n : Int) (h : Int → Int) (s a w : Int) : Int := if w = 0 then greatK h s a n else if w = 1 then stacksK h s a (greatK h s a n) n else blocksK h s a n
def pw (x : Int) : Int := 2 ^ x.toNat
def cutM (h : Int → Int) (z y k : Int) : Int := itI (fun x m => if z < h (y * 6 + x) then m + pw x else m) 0 k
theorem cutM_s {h : Int → Int} {z y k : Int} (h0 : 0 ≤ k) : cutM h z y (k + 1) = if z < h (y * 6 + k) then cutM h z y k + pw k else cutM h z y k := itI_s _ _ h0
theorem pw_s {k : Int} (h : 0 ≤ k) : pw (k + 1) = 2 * pw k := by
  unfold pw
  rw [show (k + 1).toNat = k.toNat + 1 by omega, Int.pow_succ]
  omega
theorem pw_pos (k : Int) : 0 < pw k := by
  unfold pw
  exact Int.pow_pos (by decide)
theorem pw_le {k : Int} (h0 : 0 ≤ k) (h6 : k ≤ 6) : pw k ≤ 64 := by
  rcases (show k = 0 ∨ k = 1 ∨ k = 2 ∨ k = 3 ∨ k = 4 ∨ k = 5 ∨ k = 6 by omega) with h | h | h | h | h | h | h <;> subst h <;> decide
theorem cutM_rg (h : Int → Int) (z y : Int) {k : Int} (h0 : 0 ≤ k) : 0 ≤ cutM h z y k ∧ cutM h z y k < pw k := by
  refine itI_ind (F := fun x m => if z < h (y * 6 + x) then m + pw x else m) (a := (0 : Int)) (fun k m => 0 ≤ m ∧ m < pw k) (by decide) h0 (fun k x a b hx => ?_)
  have := pw_s a
  have := pw_pos k
  split <;> omega
theorem shl1 {x : Int} (h0 : 0 ≤ x) (h5 : x ≤ 5) : iI 1 <<< (iI x &&& 31) = iI (pw x) := by
  have h1 := pw_le h0 (by omega)
  have := iI_shl 1 (s := x) (by decide) h0 (by omega) (by unfold pw at h1; omega)
  rw [this]; unfold pw; rw [Int.one_mul]
theorem or1 {a x : Int} (h : 0 ≤ a) (hk : a < pw x) : iI a ||| iI (pw x) = iI (a + pw x) := by
  have := iI_or (a := a) (b := 1) x.toNat h hk (by decide)
  rw [Int.one_mul] at this
  exact this
def cntV (n ho : Int) (h c : Int → Int) (hn w : Int) : Int := if w = 0 then n else if w = 1 then countK n h n else if w = 2 then seenD n h else if w = 3 then distL (faceF (picM n h)) 864 512 else if w = 4 then litK (picM n h) 512 else if w = 9 then shK n h ho n else if w = 10 then greatHK n h n else if w = 11 then ho else if w = 12 then hn else colK (picM n h) c (w - 5) 512
def putV (n ho : Int) (h : Int → Int) (x y w : Int) : Int := if 8 ≤ h (y * 6 + x) then -1 else if w = 0 then moreK (picM n h) x y (h (y * 6 + x)) 6 + 100 else if w = 1 then takK (picM n h) x y (h (y * 6 + x)) 1 6 else shK n (updI h (y * 6 + x) (h (y * 6 + x) + 1)) ho n - shK n h ho n + 100
def leastK (n : Int) (h : Int → Int) (k : Int) : Int := itI (fun t m => if shK n h (t + 1) n < m then shK n h (t + 1) n else m) (shK n h 0 n) k
theorem leastK_s {n : Int} {h : Int → Int} {k : Int} (h0 : 0 ≤ k) : leastK n h (k + 1) = if shK n h (k + 1) n < leastK n h k then shK n h (k + 1) n else leastK n h k := itI_s _ _ h0
def brK (n : Int) (h : Int → Int) (k : Int) : Int := itI (fun t b => if shK n h (t + 1) n < leastK n h t then t + 1 else b) 0 k
theorem brK_s {n : Int} {h : Int → Int} {k : Int} (h0 : 0 ≤ k) : brK n h (k + 1) = if shK n h (k + 1) n < leastK n h k then k + 1 else brK n h k := itI_s _ _ h0
theorem leastK_rg {n : Int} {h : Int → Int} (hn : 0 ≤ n ∧ n ≤ 6) {k : Int} (h0 : 0 ≤ k) : 0 ≤ leastK n h k ∧ leastK n h k ≤ 36 := by
  refine itI_ind (F := fun t m => if shK n h (t + 1) n < m then shK n h (t + 1) n else m) (fun _ m => 0 ≤ m ∧ m ≤ 36) (by have := shK_rg (n := n) (h := h) 0 hn (k := n) (by omega); omega) h0 (fun t m _ _ hm => ?_)
  have := shK_rg (n := n) (h := h) (t + 1) hn (k := n) (by omega)
  split <;> omega
theorem brK_rg (n : Int) (h : Int → Int) {k : Int} (h0 : 0 ≤ k) : 0 ≤ brK n h k ∧ brK n h k ≤ k := by
  refine itI_ind (F := fun t b => if shK n h (t + 1) n < leastK n h t then t + 1 else b) (a := (0 : Int)) (fun k m => 0 ≤ m ∧ m ≤ k) (by decide) h0 (fun t m _ _ hm => ?_)
  split <;> omega
/-- turned k times -/
def tnK (n : Int) (f : Int → Int) (k : Int) : Int → Int := itI (fun _ g => turnF n g) f k
theorem tnK_s {n : Int} {f : Int → Int} {k : Int} (h0 : 0 ≤ k) : tnK n f (k + 1) = turnF n (tnK n f k) := itI_s _ _ h0
theorem YOk.tn {n ho : Int} {h c : Int → Int} (H : YOk n ho h c) {k : Int} (h0 : 0 ≤ k) : YOk n ho (tnK n h k) (tnK n c k) := by
  obtain ⟨m, rfl⟩ := Int.eq_ofNat_of_zero_le h0
  induction m with
  | zero => exact H
  | succ m ih =>
    have e : ((m + 1 : Nat) : Int) = (m : Int) + 1 := by omega
    rw [e, tnK_s (by omega), tnK_s (by omega)]
    exact (ih (by omega)).turn
def mostD (n : Int) (h : Int → Int) (k : Int) : Int := itI (fun t m => if m < seenD n (tnK n h (t + 1)) then seenD n (tnK n h (t + 1)) else m) (seenD n h) k
theorem mostD_s {n : Int} {h : Int → Int} {k : Int} (h0 : 0 ≤ k) : mostD n h (k + 1) = if mostD n h k < seenD n (tnK n h (k + 1)) then seenD n (tnK n h (k + 1)) else mostD n h k := itI_s _ _ h0
def btK (n : Int) (h : Int → Int) (k : Int) : Int := itI (fun t b => if mostD n h t < seenD n (tnK n h (t + 1)) then t + 1 else b) 0 k
theorem btK_s {n : Int} {h : Int → Int} {k : Int} (h0 : 0 ≤ k) : btK n h (k + 1) = if mostD n h k < seenD n (tnK n h (k + 1)) then k + 1 else btK n h k := itI_s _ _ h0
theorem seenD_rg (n : Int) (h : Int → Int) : 0 ≤ seenD n h ∧ seenD n h ≤ 288 := distL_rg (by decide)
theorem mostD_rg (n : Int) (h : Int → Int) {k : Int} (h0 : 0 ≤ k) : 0 ≤ mostD n h k ∧ mostD n h k ≤ 288 := by
  refine itI_ind (F := fun t m => if m < seenD n (tnK n h (t + 1)) then seenD n (tnK n h (t + 1)) else m) (fun _ m => 0 ≤ m ∧ m ≤ 288) (seenD_rg n h) h0 (fun t m _ _ hm => ?_)
  have := seenD_rg n (tnK n h (t + 1))
  split <;> omega
theorem btK_rg (n : Int) (h : Int → Int) {k : Int} (h0 : 0 ≤ k) : 0 ≤ btK n h k ∧ btK n h k ≤ k := by
  refine itI_ind (F := fun t b => if mostD n h t < seenD n (tnK n h (t + 1)) then t + 1 else b) (a := (0 : Int)) (fun k m => 0 ≤ m ∧ m ≤ k) (by decide) h0 (fun t m _ _ hm => ?_)
  split <;> omega

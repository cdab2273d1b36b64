/-! ===== the parts of the digest ===== -/
def mixL (a v : Int64) : Int64 := 31 * a + v
abbrev mixI (a : Int64) (v : Int) : Int64 := mixL a ((iI v).toInt64)
def stM (n ho : Int) (h c : Int → Int) (x y : Int) (a : Int64) (k : Int) : Int64 := itI (fun w a => mixI a (stkV n ho h c x y w)) a k
theorem stM_s {n ho : Int} {h c : Int → Int} {x y : Int} {a : Int64} {k : Int} (h0 : 0 ≤ k) : mixI (stM n ho h c x y a k) (stkV n ho h c x y k) = stM n ho h c x y a (k + 1) := by symm; exact itI_s _ _ h0
def bwM (n : Int) (h c : Int → Int) (x y z : Int) (a : Int64) (k : Int) : Int64 := itI (fun w a => mixI a (blkV n h c x y z w)) a k
theorem bwM_s {n : Int} {h c : Int → Int} {x y z : Int} {a : Int64} {k : Int} (h0 : 0 ≤ k) : mixI (bwM n h c x y z a k) (blkV n h c x y z k) = bwM n h c x y z a (k + 1) := by symm; exact itI_s _ _ h0
def bzM (n : Int) (h c : Int → Int) (x y : Int) (a : Int64) (k : Int) : Int64 := itI (fun z a => bwM n h c x y z a 5) a k
theorem bzM_s {n : Int} {h c : Int → Int} {x y : Int} {a : Int64} {k : Int} (h0 : 0 ≤ k) : bwM n h c x y k (bzM n h c x y a k) 5 = bzM n h c x y a (k + 1) := by symm; exact itI_s _ _ h0
def puM (n ho : Int) (h : Int → Int) (x y : Int) (a : Int64) (k : Int) : Int64 := itI (fun w a => mixI a (putV n ho h x y w)) a k
theorem puM_s {n ho : Int} {h : Int → Int} {x y : Int} {a : Int64} {k : Int} (h0 : 0 ≤ k) : mixI (puM n ho h x y a k) (putV n ho h x y k) = puM n ho h x y a (k + 1) := by symm; exact itI_s _ _ h0
def sqM (n ho : Int) (h c : Int → Int) (x y : Int) (a : Int64) : Int64 := puM n ho h x y (bzM n h c x y (stM n ho h c x y a 4) (h (y * 6 + x))) 3
def sxM (n ho : Int) (h c : Int → Int) (y : Int) (a : Int64) (k : Int) : Int64 := itI (fun x a => sqM n ho h c x y a) a k
theorem sxM_s {n ho : Int} {h c : Int → Int} {y : Int} {a : Int64} {k : Int} (h0 : 0 ≤ k) : sqM n ho h c k y (sxM n ho h c y a k) = sxM n ho h c y a (k + 1) := by symm; exact itI_s _ _ h0
def syM (n ho : Int) (h c : Int → Int) (a : Int64) (k : Int) : Int64 := itI (fun y a => sxM n ho h c y a n) a k
theorem syM_s {n ho : Int} {h c : Int → Int} {a : Int64} {k : Int} (h0 : 0 ≤ k) : sxM n ho h c k (syM n ho h c a k) n = syM n ho h c a (k + 1) := by symm; exact itI_s _ _ h0
def ptM (n : Int) (h c : Int → Int) (i j : Int) (a : Int64) (k : Int) : Int64 := itI (fun t a => mixI (mixI a (picV n h c i j t 0)) (picV n h c i j t 3)) a k
theorem ptM_s {n : Int} {h c : Int → Int} {i j : Int} {a : Int64} {k : Int} (h0 : 0 ≤ k) : mixI (mixI (ptM n h c i j a k) (picV n h c i j k 0)) (picV n h c i j k 3) = ptM n h c i j a (k + 1) := by symm; exact itI_s _ _ h0
def pjM (n : Int) (h c : Int → Int) (i : Int) (a : Int64) (k : Int) : Int64 := itI (fun j a => ptM n h c i (j - 9) a 2) a k
theorem pjM_s {n : Int} {h c : Int → Int} {i : Int} {a : Int64} {k : Int} (h0 : 0 ≤ k) : ptM n h c i (k - 9) (pjM n h c i a k) 2 = pjM n h c i a (k + 1) := by symm; exact itI_s _ _ h0
def piM (n : Int) (h c : Int → Int) (a : Int64) (k : Int) : Int64 := itI (fun i a => pjM n h c (i - 9) a 16) a k
theorem piM_s {n : Int} {h c : Int → Int} {a : Int64} {k : Int} (h0 : 0 ≤ k) : pjM n h c (k - 9) (piM n h c a k) 16 = piM n h c a (k + 1) := by symm; exact itI_s _ _ h0
def ewM (n : Int) (h : Int → Int) (s x : Int) (a : Int64) (k : Int) : Int64 := itI (fun w a => mixI a (elvV n h s x w)) a k
theorem ewM_s {n : Int} {h : Int → Int} {s x : Int} {a : Int64} {k : Int} (h0 : 0 ≤ k) : mixI (ewM n h s x a k) (elvV n h s x k) = ewM n h s x a (k + 1) := by symm; exact itI_s _ _ h0
def eaM (n : Int) (h : Int → Int) (s : Int) (a : Int64) (k : Int) : Int64 := itI (fun x a => ewM n h s x a 3) a k
theorem eaM_s {n : Int} {h : Int → Int} {s : Int} {a : Int64} {k : Int} (h0 : 0 ≤ k) : ewM n h s k (eaM n h s a k) 3 = eaM n h s a (k + 1) := by symm; exact itI_s _ _ h0
def esM (n : Int) (h : Int → Int) (a : Int64) (k : Int) : Int64 := itI (fun s a => eaM n h s a n) a k
theorem esM_s {n : Int} {h : Int → Int} {a : Int64} {k : Int} (h0 : 0 ≤ k) : eaM n h k (esM n h a k) n = esM n h a (k + 1) := by symm; exact itI_s _ _ h0
def cyM (n : Int) (h : Int → Int) (z : Int) (a : Int64) (k : Int) : Int64 := itI (fun y a => mixI a (cutM h z y n)) a k
theorem cyM_s {n : Int} {h : Int → Int} {z : Int} {a : Int64} {k : Int} (h0 : 0 ≤ k) : mixI (cyM n h z a k) (cutM h z k n) = cyM n h z a (k + 1) := by symm; exact itI_s _ _ h0
def czM (n : Int) (h : Int → Int) (a : Int64) (k : Int) : Int64 := itI (fun z a => cyM n h z a n) a k
theorem czM_s {n : Int} {h : Int → Int} {a : Int64} {k : Int} (h0 : 0 ≤ k) : cyM n h k (czM n h a k) n = czM n h a (k + 1) := by symm; exact itI_s _ _ h0
def htM (n : Int) (h : Int → Int) (a : Int64) (k : Int) : Int64 := itI (fun t a => mixI a (shK n h t n)) a k
theorem htM_s {n : Int} {h : Int → Int} {a : Int64} {k : Int} (h0 : 0 ≤ k) : mixI (htM n h a k) (shK n h k n) = htM n h a (k + 1) := by symm; exact itI_s _ _ h0
def cdM (b : Int → Int) (a : Int64) (k : Int) : Int64 := itI (fun i a => mixI a (b i)) a k
theorem cdM_s {b : Int → Int} {a : Int64} {k : Int} (h0 : 0 ≤ k) : mixI (cdM b a k) (b k) = cdM b a (k + 1) := by symm; exact itI_s _ _ h0
def cwM (n ho : Int) (h c : Int → Int) (hn : Int) (a : Int64) (k : Int) : Int64 := itI (fun w a => mixI a (cntV n ho h c hn w)) a k
theorem cwM_s {n ho : Int} {h c : Int → Int} {hn : Int} {a : Int64} {k : Int} (h0 : 0 ≤ k) : mixI (cwM n ho h c hn a k) (cntV n ho h c hn k) = cwM n ho h c hn a (k + 1) := by symm; exact itI_s _ _ h0

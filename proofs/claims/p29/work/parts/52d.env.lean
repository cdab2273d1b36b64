set_option maxRecDepth 20000 in
theorem ev_st0 {s : State} {b : Nat} {A : Nat → Prop} (hts : ∀ w ∈ lw_tbl, w.before #[Value.ref b] s = true) (hgv : (Jvm.Cond.and given_1 narrow_1).before #[Value.ref b] s = true) (hA : ∀ a : Nat, a < s.heap.size → ¬ A a) : ∃ t : Nat, va_Z "SlantYard" "TRIANGLE_I" "[I" (.ref t) A s s.heap ∧ va_T .int t 6 (fun j => .int (iI (atI [-1, -1, 0, 0, -1, 0] (j : Int)))) A s s.heap := by
  have hs := flat_of_before _ hgv
  have hel : ∀ j : Nat, j < 6 → (Jvm.Term.elem (Jvm.Term.static "SlantYard" "TRIANGLE_I" "[I") (.int (Int32.ofNat j))).eval #[Value.ref b] s none [] s = some (.int (iI (atI [-1, -1, 0, 0, -1, 0] (j : Int)))) := by
    intro j hj
    rcases (show j = 0 ∨ j = 1 ∨ j = 2 ∨ j = 3 ∨ j = 4 ∨ j = 5 by omega) with rfl | rfl | rfl | rfl | rfl | rfl
    · have e := va_eqt (z := (-1)) (hs (Jvm.Cond.eq (Jvm.Term.elem (Jvm.Term.static "SlantYard" "TRIANGLE_I" "[I") (Jvm.Term.int 0)) (Jvm.Term.int (-1))) (by decide +kernel))
      have q : iI (atI [-1, -1, 0, 0, -1, 0] ((0 : Nat) : Int)) = (-1 : Int32) := by decide
      show _ = some (Value.int (iI (atI [-1, -1, 0, 0, -1, 0] ((0 : Nat) : Int))))
      rw [q]
      exact e
    · have e := va_eqt (z := (-1)) (hs (Jvm.Cond.eq (Jvm.Term.elem (Jvm.Term.static "SlantYard" "TRIANGLE_I" "[I") (Jvm.Term.int 1)) (Jvm.Term.int (-1))) (by decide +kernel))
      have q : iI (atI [-1, -1, 0, 0, -1, 0] ((1 : Nat) : Int)) = (-1 : Int32) := by decide
      show _ = some (Value.int (iI (atI [-1, -1, 0, 0, -1, 0] ((1 : Nat) : Int))))
      rw [q]
      exact e
    · have e := va_eqt (z := (0)) (hs (Jvm.Cond.eq (Jvm.Term.elem (Jvm.Term.static "SlantYard" "TRIANGLE_I" "[I") (Jvm.Term.int 2)) (Jvm.Term.int (0))) (by decide +kernel))
      have q : iI (atI [-1, -1, 0, 0, -1, 0] ((2 : Nat) : Int)) = (0 : Int32) := by decide
      show _ = some (Value.int (iI (atI [-1, -1, 0, 0, -1, 0] ((2 : Nat) : Int))))
      rw [q]
      exact e
    · have e := va_eqt (z := (0)) (hs (Jvm.Cond.eq (Jvm.Term.elem (Jvm.Term.static "SlantYard" "TRIANGLE_I" "[I") (Jvm.Term.int 3)) (Jvm.Term.int (0))) (by decide +kernel))
      have q : iI (atI [-1, -1, 0, 0, -1, 0] ((3 : Nat) : Int)) = (0 : Int32) := by decide
      show _ = some (Value.int (iI (atI [-1, -1, 0, 0, -1, 0] ((3 : Nat) : Int))))
      rw [q]
      exact e
    · have e := va_eqt (z := (-1)) (hs (Jvm.Cond.eq (Jvm.Term.elem (Jvm.Term.static "SlantYard" "TRIANGLE_I" "[I") (Jvm.Term.int 4)) (Jvm.Term.int (-1))) (by decide +kernel))
      have q : iI (atI [-1, -1, 0, 0, -1, 0] ((4 : Nat) : Int)) = (-1 : Int32) := by decide
      show _ = some (Value.int (iI (atI [-1, -1, 0, 0, -1, 0] ((4 : Nat) : Int))))
      rw [q]
      exact e
    · have e := va_eqt (z := (0)) (hs (Jvm.Cond.eq (Jvm.Term.elem (Jvm.Term.static "SlantYard" "TRIANGLE_I" "[I") (Jvm.Term.int 5)) (Jvm.Term.int (0))) (by decide +kernel))
      have q : iI (atI [-1, -1, 0, 0, -1, 0] ((5 : Nat) : Int)) = (0 : Int32) := by decide
      show _ = some (Value.int (iI (atI [-1, -1, 0, 0, -1, 0] ((5 : Nat) : Int))))
      rw [q]
      exact e
  obtain ⟨t, ht, hT⟩ := va_Tof (tm := (Jvm.Term.static "SlantYard" "TRIANGLE_I" "[I")) (ty := .int) (N := 6) (f := fun j => .int (iI (atI [-1, -1, 0, 0, -1, 0] (j : Int)))) (A := A) (by decide) (hs _ (by decide +kernel)) (va_eqt (z := 6) (hs (Jvm.Cond.eq (Jvm.Term.length (Jvm.Term.static "SlantYard" "TRIANGLE_I" "[I")) (Jvm.Term.int 6)) (by decide +kernel))) hel hA
  exact ⟨t, va_Zof (hts _ (List.mem_of_getElem? (i := 358) (by decide +kernel))) (hts _ (List.mem_of_getElem? (i := 7) (by decide +kernel))) ht hA, hT⟩
set_option maxRecDepth 20000 in
theorem ev_st1 {s : State} {b : Nat} {A : Nat → Prop} (hts : ∀ w ∈ lw_tbl, w.before #[Value.ref b] s = true) (hgv : (Jvm.Cond.and given_1 narrow_1).before #[Value.ref b] s = true) (hA : ∀ a : Nat, a < s.heap.size → ¬ A a) : ∃ t : Nat, va_Z "SlantYard" "TRIANGLE_J" "[I" (.ref t) A s s.heap ∧ va_T .int t 6 (fun j => .int (iI (atI [-1, -1, -1, 0, 0, 0] (j : Int)))) A s s.heap := by
  have hs := flat_of_before _ hgv
  have hel : ∀ j : Nat, j < 6 → (Jvm.Term.elem (Jvm.Term.static "SlantYard" "TRIANGLE_J" "[I") (.int (Int32.ofNat j))).eval #[Value.ref b] s none [] s = some (.int (iI (atI [-1, -1, -1, 0, 0, 0] (j : Int)))) := by
    intro j hj
    rcases (show j = 0 ∨ j = 1 ∨ j = 2 ∨ j = 3 ∨ j = 4 ∨ j = 5 by omega) with rfl | rfl | rfl | rfl | rfl | rfl
    · have e := va_eqt (z := (-1)) (hs (Jvm.Cond.eq (Jvm.Term.elem (Jvm.Term.static "SlantYard" "TRIANGLE_J" "[I") (Jvm.Term.int 0)) (Jvm.Term.int (-1))) (by decide +kernel))
      have q : iI (atI [-1, -1, -1, 0, 0, 0] ((0 : Nat) : Int)) = (-1 : Int32) := by decide
      show _ = some (Value.int (iI (atI [-1, -1, -1, 0, 0, 0] ((0 : Nat) : Int))))
      rw [q]
      exact e
    · have e := va_eqt (z := (-1)) (hs (Jvm.Cond.eq (Jvm.Term.elem (Jvm.Term.static "SlantYard" "TRIANGLE_J" "[I") (Jvm.Term.int 1)) (Jvm.Term.int (-1))) (by decide +kernel))
      have q : iI (atI [-1, -1, -1, 0, 0, 0] ((1 : Nat) : Int)) = (-1 : Int32) := by decide
      show _ = some (Value.int (iI (atI [-1, -1, -1, 0, 0, 0] ((1 : Nat) : Int))))
      rw [q]
      exact e
    · have e := va_eqt (z := (-1)) (hs (Jvm.Cond.eq (Jvm.Term.elem (Jvm.Term.static "SlantYard" "TRIANGLE_J" "[I") (Jvm.Term.int 2)) (Jvm.Term.int (-1))) (by decide +kernel))
      have q : iI (atI [-1, -1, -1, 0, 0, 0] ((2 : Nat) : Int)) = (-1 : Int32) := by decide
      show _ = some (Value.int (iI (atI [-1, -1, -1, 0, 0, 0] ((2 : Nat) : Int))))
      rw [q]
      exact e
    · have e := va_eqt (z := (0)) (hs (Jvm.Cond.eq (Jvm.Term.elem (Jvm.Term.static "SlantYard" "TRIANGLE_J" "[I") (Jvm.Term.int 3)) (Jvm.Term.int (0))) (by decide +kernel))
      have q : iI (atI [-1, -1, -1, 0, 0, 0] ((3 : Nat) : Int)) = (0 : Int32) := by decide
      show _ = some (Value.int (iI (atI [-1, -1, -1, 0, 0, 0] ((3 : Nat) : Int))))
      rw [q]
      exact e
    · have e := va_eqt (z := (0)) (hs (Jvm.Cond.eq (Jvm.Term.elem (Jvm.Term.static "SlantYard" "TRIANGLE_J" "[I") (Jvm.Term.int 4)) (Jvm.Term.int (0))) (by decide +kernel))
      have q : iI (atI [-1, -1, -1, 0, 0, 0] ((4 : Nat) : Int)) = (0 : Int32) := by decide
      show _ = some (Value.int (iI (atI [-1, -1, -1, 0, 0, 0] ((4 : Nat) : Int))))
      rw [q]
      exact e
    · have e := va_eqt (z := (0)) (hs (Jvm.Cond.eq (Jvm.Term.elem (Jvm.Term.static "SlantYard" "TRIANGLE_J" "[I") (Jvm.Term.int 5)) (Jvm.Term.int (0))) (by decide +kernel))
      have q : iI (atI [-1, -1, -1, 0, 0, 0] ((5 : Nat) : Int)) = (0 : Int32) := by decide
      show _ = some (Value.int (iI (atI [-1, -1, -1, 0, 0, 0] ((5 : Nat) : Int))))
      rw [q]
      exact e
  obtain ⟨t, ht, hT⟩ := va_Tof (tm := (Jvm.Term.static "SlantYard" "TRIANGLE_J" "[I")) (ty := .int) (N := 6) (f := fun j => .int (iI (atI [-1, -1, -1, 0, 0, 0] (j : Int)))) (A := A) (by decide) (hs _ (by decide +kernel)) (va_eqt (z := 6) (hs (Jvm.Cond.eq (Jvm.Term.length (Jvm.Term.static "SlantYard" "TRIANGLE_J" "[I")) (Jvm.Term.int 6)) (by decide +kernel))) hel hA
  exact ⟨t, va_Zof (hts _ (List.mem_of_getElem? (i := 361) (by decide +kernel))) (hts _ (List.mem_of_getElem? (i := 7) (by decide +kernel))) ht hA, hT⟩
set_option maxRecDepth 20000 in
theorem ev_st2 {s : State} {b : Nat} {A : Nat → Prop} (hts : ∀ w ∈ lw_tbl, w.before #[Value.ref b] s = true) (hgv : (Jvm.Cond.and given_1 narrow_1).before #[Value.ref b] s = true) (hA : ∀ a : Nat, a < s.heap.size → ¬ A a) : ∃ t : Nat, va_Z "SlantYard" "TRIANGLE_HALF" "[I" (.ref t) A s s.heap ∧ va_T .int t 6 (fun j => .int (iI (atI [0, 1, 1, 0, 0, 1] (j : Int)))) A s s.heap := by
  have hs := flat_of_before _ hgv
  have hel : ∀ j : Nat, j < 6 → (Jvm.Term.elem (Jvm.Term.static "SlantYard" "TRIANGLE_HALF" "[I") (.int (Int32.ofNat j))).eval #[Value.ref b] s none [] s = some (.int (iI (atI [0, 1, 1, 0, 0, 1] (j : Int)))) := by
    intro j hj
    rcases (show j = 0 ∨ j = 1 ∨ j = 2 ∨ j = 3 ∨ j = 4 ∨ j = 5 by omega) with rfl | rfl | rfl | rfl | rfl | rfl
    · have e := va_eqt (z := (0)) (hs (Jvm.Cond.eq (Jvm.Term.elem (Jvm.Term.static "SlantYard" "TRIANGLE_HALF" "[I") (Jvm.Term.int 0)) (Jvm.Term.int (0))) (by decide +kernel))
      have q : iI (atI [0, 1, 1, 0, 0, 1] ((0 : Nat) : Int)) = (0 : Int32) := by decide
      show _ = some (Value.int (iI (atI [0, 1, 1, 0, 0, 1] ((0 : Nat) : Int))))
      rw [q]
      exact e
    · have e := va_eqt (z := (1)) (hs (Jvm.Cond.eq (Jvm.Term.elem (Jvm.Term.static "SlantYard" "TRIANGLE_HALF" "[I") (Jvm.Term.int 1)) (Jvm.Term.int (1))) (by decide +kernel))
      have q : iI (atI [0, 1, 1, 0, 0, 1] ((1 : Nat) : Int)) = (1 : Int32) := by decide
      show _ = some (Value.int (iI (atI [0, 1, 1, 0, 0, 1] ((1 : Nat) : Int))))
      rw [q]
      exact e
    · have e := va_eqt (z := (1)) (hs (Jvm.Cond.eq (Jvm.Term.elem (Jvm.Term.static "SlantYard" "TRIANGLE_HALF" "[I") (Jvm.Term.int 2)) (Jvm.Term.int (1))) (by decide +kernel))
      have q : iI (atI [0, 1, 1, 0, 0, 1] ((2 : Nat) : Int)) = (1 : Int32) := by decide
      show _ = some (Value.int (iI (atI [0, 1, 1, 0, 0, 1] ((2 : Nat) : Int))))
      rw [q]
      exact e
    · have e := va_eqt (z := (0)) (hs (Jvm.Cond.eq (Jvm.Term.elem (Jvm.Term.static "SlantYard" "TRIANGLE_HALF" "[I") (Jvm.Term.int 3)) (Jvm.Term.int (0))) (by decide +kernel))
      have q : iI (atI [0, 1, 1, 0, 0, 1] ((3 : Nat) : Int)) = (0 : Int32) := by decide
      show _ = some (Value.int (iI (atI [0, 1, 1, 0, 0, 1] ((3 : Nat) : Int))))
      rw [q]
      exact e
    · have e := va_eqt (z := (0)) (hs (Jvm.Cond.eq (Jvm.Term.elem (Jvm.Term.static "SlantYard" "TRIANGLE_HALF" "[I") (Jvm.Term.int 4)) (Jvm.Term.int (0))) (by decide +kernel))
      have q : iI (atI [0, 1, 1, 0, 0, 1] ((4 : Nat) : Int)) = (0 : Int32) := by decide
      show _ = some (Value.int (iI (atI [0, 1, 1, 0, 0, 1] ((4 : Nat) : Int))))
      rw [q]
      exact e
    · have e := va_eqt (z := (1)) (hs (Jvm.Cond.eq (Jvm.Term.elem (Jvm.Term.static "SlantYard" "TRIANGLE_HALF" "[I") (Jvm.Term.int 5)) (Jvm.Term.int (1))) (by decide +kernel))
      have q : iI (atI [0, 1, 1, 0, 0, 1] ((5 : Nat) : Int)) = (1 : Int32) := by decide
      show _ = some (Value.int (iI (atI [0, 1, 1, 0, 0, 1] ((5 : Nat) : Int))))
      rw [q]
      exact e
  obtain ⟨t, ht, hT⟩ := va_Tof (tm := (Jvm.Term.static "SlantYard" "TRIANGLE_HALF" "[I")) (ty := .int) (N := 6) (f := fun j => .int (iI (atI [0, 1, 1, 0, 0, 1] (j : Int)))) (A := A) (by decide) (hs _ (by decide +kernel)) (va_eqt (z := 6) (hs (Jvm.Cond.eq (Jvm.Term.length (Jvm.Term.static "SlantYard" "TRIANGLE_HALF" "[I")) (Jvm.Term.int 6)) (by decide +kernel))) hel hA
  exact ⟨t, va_Zof (hts _ (List.mem_of_getElem? (i := 363) (by decide +kernel))) (hts _ (List.mem_of_getElem? (i := 7) (by decide +kernel))) ht hA, hT⟩
set_option maxRecDepth 20000 in
theorem ev_st3 {s : State} {b : Nat} {A : Nat → Prop} (hts : ∀ w ∈ lw_tbl, w.before #[Value.ref b] s = true) (hgv : (Jvm.Cond.and given_1 narrow_1).before #[Value.ref b] s = true) (hA : ∀ a : Nat, a < s.heap.size → ¬ A a) : ∃ t : Nat, va_Z "SlantYard" "SUN_X" "[I" (.ref t) A s s.heap ∧ va_T .int t 8 (fun j => .int (iI (atI [1, 1, 0, -1, -1, -1, 0, 1] (j : Int)))) A s s.heap := by
  have hs := flat_of_before _ hgv
  have hel : ∀ j : Nat, j < 8 → (Jvm.Term.elem (Jvm.Term.static "SlantYard" "SUN_X" "[I") (.int (Int32.ofNat j))).eval #[Value.ref b] s none [] s = some (.int (iI (atI [1, 1, 0, -1, -1, -1, 0, 1] (j : Int)))) := by
    intro j hj
    rcases (show j = 0 ∨ j = 1 ∨ j = 2 ∨ j = 3 ∨ j = 4 ∨ j = 5 ∨ j = 6 ∨ j = 7 by omega) with rfl | rfl | rfl | rfl | rfl | rfl | rfl | rfl
    · have e := va_eqt (z := (1)) (hs (Jvm.Cond.eq (Jvm.Term.elem (Jvm.Term.static "SlantYard" "SUN_X" "[I") (Jvm.Term.int 0)) (Jvm.Term.int (1))) (by decide +kernel))
      have q : iI (atI [1, 1, 0, -1, -1, -1, 0, 1] ((0 : Nat) : Int)) = (1 : Int32) := by decide
      show _ = some (Value.int (iI (atI [1, 1, 0, -1, -1, -1, 0, 1] ((0 : Nat) : Int))))
      rw [q]
      exact e
    · have e := va_eqt (z := (1)) (hs (Jvm.Cond.eq (Jvm.Term.elem (Jvm.Term.static "SlantYard" "SUN_X" "[I") (Jvm.Term.int 1)) (Jvm.Term.int (1))) (by decide +kernel))
      have q : iI (atI [1, 1, 0, -1, -1, -1, 0, 1] ((1 : Nat) : Int)) = (1 : Int32) := by decide
      show _ = some (Value.int (iI (atI [1, 1, 0, -1, -1, -1, 0, 1] ((1 : Nat) : Int))))
      rw [q]
      exact e
    · have e := va_eqt (z := (0)) (hs (Jvm.Cond.eq (Jvm.Term.elem (Jvm.Term.static "SlantYard" "SUN_X" "[I") (Jvm.Term.int 2)) (Jvm.Term.int (0))) (by decide +kernel))
      have q : iI (atI [1, 1, 0, -1, -1, -1, 0, 1] ((2 : Nat) : Int)) = (0 : Int32) := by decide
      show _ = some (Value.int (iI (atI [1, 1, 0, -1, -1, -1, 0, 1] ((2 : Nat) : Int))))
      rw [q]
      exact e
    · have e := va_eqt (z := (-1)) (hs (Jvm.Cond.eq (Jvm.Term.elem (Jvm.Term.static "SlantYard" "SUN_X" "[I") (Jvm.Term.int 3)) (Jvm.Term.int (-1))) (by decide +kernel))
      have q : iI (atI [1, 1, 0, -1, -1, -1, 0, 1] ((3 : Nat) : Int)) = (-1 : Int32) := by decide
      show _ = some (Value.int (iI (atI [1, 1, 0, -1, -1, -1, 0, 1] ((3 : Nat) : Int))))
      rw [q]
      exact e
    · have e := va_eqt (z := (-1)) (hs (Jvm.Cond.eq (Jvm.Term.elem (Jvm.Term.static "SlantYard" "SUN_X" "[I") (Jvm.Term.int 4)) (Jvm.Term.int (-1))) (by decide +kernel))
      have q : iI (atI [1, 1, 0, -1, -1, -1, 0, 1] ((4 : Nat) : Int)) = (-1 : Int32) := by decide
      show _ = some (Value.int (iI (atI [1, 1, 0, -1, -1, -1, 0, 1] ((4 : Nat) : Int))))
      rw [q]
      exact e
    · have e := va_eqt (z := (-1)) (hs (Jvm.Cond.eq (Jvm.Term.elem (Jvm.Term.static "SlantYard" "SUN_X" "[I") (Jvm.Term.int 5)) (Jvm.Term.int (-1))) (by decide +kernel))
      have q : iI (atI [1, 1, 0, -1, -1, -1, 0, 1] ((5 : Nat) : Int)) = (-1 : Int32) := by decide
      show _ = some (Value.int (iI (atI [1, 1, 0, -1, -1, -1, 0, 1] ((5 : Nat) : Int))))
      rw [q]
      exact e
    · have e := va_eqt (z := (0)) (hs (Jvm.Cond.eq (Jvm.Term.elem (Jvm.Term.static "SlantYard" "SUN_X" "[I") (Jvm.Term.int 6)) (Jvm.Term.int (0))) (by decide +kernel))
      have q : iI (atI [1, 1, 0, -1, -1, -1, 0, 1] ((6 : Nat) : Int)) = (0 : Int32) := by decide
      show _ = some (Value.int (iI (atI [1, 1, 0, -1, -1, -1, 0, 1] ((6 : Nat) : Int))))
      rw [q]
      exact e
    · have e := va_eqt (z := (1)) (hs (Jvm.Cond.eq (Jvm.Term.elem (Jvm.Term.static "SlantYard" "SUN_X" "[I") (Jvm.Term.int 7)) (Jvm.Term.int (1))) (by decide +kernel))
      have q : iI (atI [1, 1, 0, -1, -1, -1, 0, 1] ((7 : Nat) : Int)) = (1 : Int32) := by decide
      show _ = some (Value.int (iI (atI [1, 1, 0, -1, -1, -1, 0, 1] ((7 : Nat) : Int))))
      rw [q]
      exact e
  obtain ⟨t, ht, hT⟩ := va_Tof (tm := (Jvm.Term.static "SlantYard" "SUN_X" "[I")) (ty := .int) (N := 8) (f := fun j => .int (iI (atI [1, 1, 0, -1, -1, -1, 0, 1] (j : Int)))) (A := A) (by decide) (hs _ (by decide +kernel)) (va_eqt (z := 8) (hs (Jvm.Cond.eq (Jvm.Term.length (Jvm.Term.static "SlantYard" "SUN_X" "[I")) (Jvm.Term.int 8)) (by decide +kernel))) hel hA
  exact ⟨t, va_Zof (hts _ (List.mem_of_getElem? (i := 423) (by decide +kernel))) (hts _ (List.mem_of_getElem? (i := 7) (by decide +kernel))) ht hA, hT⟩
set_option maxRecDepth 20000 in
theorem ev_st4 {s : State} {b : Nat} {A : Nat → Prop} (hts : ∀ w ∈ lw_tbl, w.before #[Value.ref b] s = true) (hgv : (Jvm.Cond.and given_1 narrow_1).before #[Value.ref b] s = true) (hA : ∀ a : Nat, a < s.heap.size → ¬ A a) : ∃ t : Nat, va_Z "SlantYard" "SUN_Y" "[I" (.ref t) A s s.heap ∧ va_T .int t 8 (fun j => .int (iI (atI [0, 1, 1, 1, 0, -1, -1, -1] (j : Int)))) A s s.heap := by
  have hs := flat_of_before _ hgv
  have hel : ∀ j : Nat, j < 8 → (Jvm.Term.elem (Jvm.Term.static "SlantYard" "SUN_Y" "[I") (.int (Int32.ofNat j))).eval #[Value.ref b] s none [] s = some (.int (iI (atI [0, 1, 1, 1, 0, -1, -1, -1] (j : Int)))) := by
    intro j hj
    rcases (show j = 0 ∨ j = 1 ∨ j = 2 ∨ j = 3 ∨ j = 4 ∨ j = 5 ∨ j = 6 ∨ j = 7 by omega) with rfl | rfl | rfl | rfl | rfl | rfl | rfl | rfl
    · have e := va_eqt (z := (0)) (hs (Jvm.Cond.eq (Jvm.Term.elem (Jvm.Term.static "SlantYard" "SUN_Y" "[I") (Jvm.Term.int 0)) (Jvm.Term.int (0))) (by decide +kernel))
      have q : iI (atI [0, 1, 1, 1, 0, -1, -1, -1] ((0 : Nat) : Int)) = (0 : Int32) := by decide
      show _ = some (Value.int (iI (atI [0, 1, 1, 1, 0, -1, -1, -1] ((0 : Nat) : Int))))
      rw [q]
      exact e
    · have e := va_eqt (z := (1)) (hs (Jvm.Cond.eq (Jvm.Term.elem (Jvm.Term.static "SlantYard" "SUN_Y" "[I") (Jvm.Term.int 1)) (Jvm.Term.int (1))) (by decide +kernel))
      have q : iI (atI [0, 1, 1, 1, 0, -1, -1, -1] ((1 : Nat) : Int)) = (1 : Int32) := by decide
      show _ = some (Value.int (iI (atI [0, 1, 1, 1, 0, -1, -1, -1] ((1 : Nat) : Int))))
      rw [q]
      exact e
    · have e := va_eqt (z := (1)) (hs (Jvm.Cond.eq (Jvm.Term.elem (Jvm.Term.static "SlantYard" "SUN_Y" "[I") (Jvm.Term.int 2)) (Jvm.Term.int (1))) (by decide +kernel))
      have q : iI (atI [0, 1, 1, 1, 0, -1, -1, -1] ((2 : Nat) : Int)) = (1 : Int32) := by decide
      show _ = some (Value.int (iI (atI [0, 1, 1, 1, 0, -1, -1, -1] ((2 : Nat) : Int))))
      rw [q]
      exact e
    · have e := va_eqt (z := (1)) (hs (Jvm.Cond.eq (Jvm.Term.elem (Jvm.Term.static "SlantYard" "SUN_Y" "[I") (Jvm.Term.int 3)) (Jvm.Term.int (1))) (by decide +kernel))
      have q : iI (atI [0, 1, 1, 1, 0, -1, -1, -1] ((3 : Nat) : Int)) = (1 : Int32) := by decide
      show _ = some (Value.int (iI (atI [0, 1, 1, 1, 0, -1, -1, -1] ((3 : Nat) : Int))))
      rw [q]
      exact e
    · have e := va_eqt (z := (0)) (hs (Jvm.Cond.eq (Jvm.Term.elem (Jvm.Term.static "SlantYard" "SUN_Y" "[I") (Jvm.Term.int 4)) (Jvm.Term.int (0))) (by decide +kernel))
      have q : iI (atI [0, 1, 1, 1, 0, -1, -1, -1] ((4 : Nat) : Int)) = (0 : Int32) := by decide
      show _ = some (Value.int (iI (atI [0, 1, 1, 1, 0, -1, -1, -1] ((4 : Nat) : Int))))
      rw [q]
      exact e
    · have e := va_eqt (z := (-1)) (hs (Jvm.Cond.eq (Jvm.Term.elem (Jvm.Term.static "SlantYard" "SUN_Y" "[I") (Jvm.Term.int 5)) (Jvm.Term.int (-1))) (by decide +kernel))
      have q : iI (atI [0, 1, 1, 1, 0, -1, -1, -1] ((5 : Nat) : Int)) = (-1 : Int32) := by decide
      show _ = some (Value.int (iI (atI [0, 1, 1, 1, 0, -1, -1, -1] ((5 : Nat) : Int))))
      rw [q]
      exact e
    · have e := va_eqt (z := (-1)) (hs (Jvm.Cond.eq (Jvm.Term.elem (Jvm.Term.static "SlantYard" "SUN_Y" "[I") (Jvm.Term.int 6)) (Jvm.Term.int (-1))) (by decide +kernel))
      have q : iI (atI [0, 1, 1, 1, 0, -1, -1, -1] ((6 : Nat) : Int)) = (-1 : Int32) := by decide
      show _ = some (Value.int (iI (atI [0, 1, 1, 1, 0, -1, -1, -1] ((6 : Nat) : Int))))
      rw [q]
      exact e
    · have e := va_eqt (z := (-1)) (hs (Jvm.Cond.eq (Jvm.Term.elem (Jvm.Term.static "SlantYard" "SUN_Y" "[I") (Jvm.Term.int 7)) (Jvm.Term.int (-1))) (by decide +kernel))
      have q : iI (atI [0, 1, 1, 1, 0, -1, -1, -1] ((7 : Nat) : Int)) = (-1 : Int32) := by decide
      show _ = some (Value.int (iI (atI [0, 1, 1, 1, 0, -1, -1, -1] ((7 : Nat) : Int))))
      rw [q]
      exact e
  obtain ⟨t, ht, hT⟩ := va_Tof (tm := (Jvm.Term.static "SlantYard" "SUN_Y" "[I")) (ty := .int) (N := 8) (f := fun j => .int (iI (atI [0, 1, 1, 1, 0, -1, -1, -1] (j : Int)))) (A := A) (by decide) (hs _ (by decide +kernel)) (va_eqt (z := 8) (hs (Jvm.Cond.eq (Jvm.Term.length (Jvm.Term.static "SlantYard" "SUN_Y" "[I")) (Jvm.Term.int 8)) (by decide +kernel))) hel hA
  exact ⟨t, va_Zof (hts _ (List.mem_of_getElem? (i := 425) (by decide +kernel))) (hts _ (List.mem_of_getElem? (i := 7) (by decide +kernel))) ht hA, hT⟩
set_option maxRecDepth 20000 in
theorem ev_st5 {s : State} {b : Nat} {A : Nat → Prop} (hts : ∀ w ∈ lw_tbl, w.before #[Value.ref b] s = true) (hgv : (Jvm.Cond.and given_1 narrow_1).before #[Value.ref b] s = true) (hA : ∀ a : Nat, a < s.heap.size → ¬ A a) : ∃ t : Nat, va_Z "SlantYard" "SUN_STEEP" "[I" (.ref t) A s s.heap ∧ va_T .int t 8 (fun j => .int (iI (atI [1, 2, 3, 3, 2, 1, 1, 1] (j : Int)))) A s s.heap := by
  have hs := flat_of_before _ hgv
  have hel : ∀ j : Nat, j < 8 → (Jvm.Term.elem (Jvm.Term.static "SlantYard" "SUN_STEEP" "[I") (.int (Int32.ofNat j))).eval #[Value.ref b] s none [] s = some (.int (iI (atI [1, 2, 3, 3, 2, 1, 1, 1] (j : Int)))) := by
    intro j hj
    rcases (show j = 0 ∨ j = 1 ∨ j = 2 ∨ j = 3 ∨ j = 4 ∨ j = 5 ∨ j = 6 ∨ j = 7 by omega) with rfl | rfl | rfl | rfl | rfl | rfl | rfl | rfl
    · have e := va_eqt (z := (1)) (hs (Jvm.Cond.eq (Jvm.Term.elem (Jvm.Term.static "SlantYard" "SUN_STEEP" "[I") (Jvm.Term.int 0)) (Jvm.Term.int (1))) (by decide +kernel))
      have q : iI (atI [1, 2, 3, 3, 2, 1, 1, 1] ((0 : Nat) : Int)) = (1 : Int32) := by decide
      show _ = some (Value.int (iI (atI [1, 2, 3, 3, 2, 1, 1, 1] ((0 : Nat) : Int))))
      rw [q]
      exact e
    · have e := va_eqt (z := (2)) (hs (Jvm.Cond.eq (Jvm.Term.elem (Jvm.Term.static "SlantYard" "SUN_STEEP" "[I") (Jvm.Term.int 1)) (Jvm.Term.int (2))) (by decide +kernel))
      have q : iI (atI [1, 2, 3, 3, 2, 1, 1, 1] ((1 : Nat) : Int)) = (2 : Int32) := by decide
      show _ = some (Value.int (iI (atI [1, 2, 3, 3, 2, 1, 1, 1] ((1 : Nat) : Int))))
      rw [q]
      exact e
    · have e := va_eqt (z := (3)) (hs (Jvm.Cond.eq (Jvm.Term.elem (Jvm.Term.static "SlantYard" "SUN_STEEP" "[I") (Jvm.Term.int 2)) (Jvm.Term.int (3))) (by decide +kernel))
      have q : iI (atI [1, 2, 3, 3, 2, 1, 1, 1] ((2 : Nat) : Int)) = (3 : Int32) := by decide
      show _ = some (Value.int (iI (atI [1, 2, 3, 3, 2, 1, 1, 1] ((2 : Nat) : Int))))
      rw [q]
      exact e
    · have e := va_eqt (z := (3)) (hs (Jvm.Cond.eq (Jvm.Term.elem (Jvm.Term.static "SlantYard" "SUN_STEEP" "[I") (Jvm.Term.int 3)) (Jvm.Term.int (3))) (by decide +kernel))
      have q : iI (atI [1, 2, 3, 3, 2, 1, 1, 1] ((3 : Nat) : Int)) = (3 : Int32) := by decide
      show _ = some (Value.int (iI (atI [1, 2, 3, 3, 2, 1, 1, 1] ((3 : Nat) : Int))))
      rw [q]
      exact e
    · have e := va_eqt (z := (2)) (hs (Jvm.Cond.eq (Jvm.Term.elem (Jvm.Term.static "SlantYard" "SUN_STEEP" "[I") (Jvm.Term.int 4)) (Jvm.Term.int (2))) (by decide +kernel))
      have q : iI (atI [1, 2, 3, 3, 2, 1, 1, 1] ((4 : Nat) : Int)) = (2 : Int32) := by decide
      show _ = some (Value.int (iI (atI [1, 2, 3, 3, 2, 1, 1, 1] ((4 : Nat) : Int))))
      rw [q]
      exact e
    · have e := va_eqt (z := (1)) (hs (Jvm.Cond.eq (Jvm.Term.elem (Jvm.Term.static "SlantYard" "SUN_STEEP" "[I") (Jvm.Term.int 5)) (Jvm.Term.int (1))) (by decide +kernel))
      have q : iI (atI [1, 2, 3, 3, 2, 1, 1, 1] ((5 : Nat) : Int)) = (1 : Int32) := by decide
      show _ = some (Value.int (iI (atI [1, 2, 3, 3, 2, 1, 1, 1] ((5 : Nat) : Int))))
      rw [q]
      exact e
    · have e := va_eqt (z := (1)) (hs (Jvm.Cond.eq (Jvm.Term.elem (Jvm.Term.static "SlantYard" "SUN_STEEP" "[I") (Jvm.Term.int 6)) (Jvm.Term.int (1))) (by decide +kernel))
      have q : iI (atI [1, 2, 3, 3, 2, 1, 1, 1] ((6 : Nat) : Int)) = (1 : Int32) := by decide
      show _ = some (Value.int (iI (atI [1, 2, 3, 3, 2, 1, 1, 1] ((6 : Nat) : Int))))
      rw [q]
      exact e
    · have e := va_eqt (z := (1)) (hs (Jvm.Cond.eq (Jvm.Term.elem (Jvm.Term.static "SlantYard" "SUN_STEEP" "[I") (Jvm.Term.int 7)) (Jvm.Term.int (1))) (by decide +kernel))
      have q : iI (atI [1, 2, 3, 3, 2, 1, 1, 1] ((7 : Nat) : Int)) = (1 : Int32) := by decide
      show _ = some (Value.int (iI (atI [1, 2, 3, 3, 2, 1, 1, 1] ((7 : Nat) : Int))))
      rw [q]
      exact e
  obtain ⟨t, ht, hT⟩ := va_Tof (tm := (Jvm.Term.static "SlantYard" "SUN_STEEP" "[I")) (ty := .int) (N := 8) (f := fun j => .int (iI (atI [1, 2, 3, 3, 2, 1, 1, 1] (j : Int)))) (A := A) (by decide) (hs _ (by decide +kernel)) (va_eqt (z := 8) (hs (Jvm.Cond.eq (Jvm.Term.length (Jvm.Term.static "SlantYard" "SUN_STEEP" "[I")) (Jvm.Term.int 8)) (by decide +kernel))) hel hA
  exact ⟨t, va_Zof (hts _ (List.mem_of_getElem? (i := 427) (by decide +kernel))) (hts _ (List.mem_of_getElem? (i := 7) (by decide +kernel))) ht hA, hT⟩
set_option maxRecDepth 20000 in
theorem ev_NW {s : State} {b : Nat} {A : Nat → Prop} (hts : ∀ w ∈ lw_tbl, w.before #[Value.ref b] s = true) (hgv : (Jvm.Cond.and given_1 narrow_1).before #[Value.ref b] s = true) (hA : ∀ a : Nat, a < s.heap.size → ¬ A a) : NW s := by
  refine ⟨?_, ?_, trivial⟩
  · exact (List.forall_mem_cons.mpr ⟨va_Nw.of rfl (hts _ (List.mem_of_getElem? (i := 354) (by decide +kernel))), List.forall_mem_cons.mpr ⟨va_Nw.of rfl (hts _ (List.mem_of_getElem? (i := 372) (by decide +kernel))), List.forall_mem_cons.mpr ⟨va_Nw.of rfl (hts _ (List.mem_of_getElem? (i := 373) (by decide +kernel))), List.forall_mem_cons.mpr ⟨va_Nw.of rfl (hts _ (List.mem_of_getElem? (i := 376) (by decide +kernel))), List.forall_mem_cons.mpr ⟨va_Nw.of rfl (hts _ (List.mem_of_getElem? (i := 371) (by decide +kernel))), List.forall_mem_cons.mpr ⟨va_Nw.of rfl (hts _ (List.mem_of_getElem? (i := 465) (by decide +kernel))), List.forall_mem_cons.mpr ⟨va_Nw.of rfl (hts _ (List.mem_of_getElem? (i := 468) (by decide +kernel))), List.forall_mem_cons.mpr ⟨va_Nw.of rfl (hts _ (List.mem_of_getElem? (i := 471) (by decide +kernel))), List.forall_mem_cons.mpr ⟨va_Nw.of rfl (hts _ (List.mem_of_getElem? (i := 244) (by decide +kernel))), List.forall_mem_cons.mpr ⟨va_Nw.of rfl (hts _ (List.mem_of_getElem? (i := 279) (by decide +kernel))), fun _ h => absurd h List.not_mem_nil⟩⟩⟩⟩⟩⟩⟩⟩⟩⟩)
  · exact (List.forall_mem_cons.mpr ⟨va_Nw.of rfl (hts _ (List.mem_of_getElem? (i := 61) (by decide +kernel))), List.forall_mem_cons.mpr ⟨va_Nw.of rfl (hts _ (List.mem_of_getElem? (i := 38) (by decide +kernel))), List.forall_mem_cons.mpr ⟨va_Nw.of rfl (hts _ (List.mem_of_getElem? (i := 40) (by decide +kernel))), List.forall_mem_cons.mpr ⟨va_Nw.of rfl (hts _ (List.mem_of_getElem? (i := 91) (by decide +kernel))), List.forall_mem_cons.mpr ⟨va_Nw.of rfl (hts _ (List.mem_of_getElem? (i := 63) (by decide +kernel))), List.forall_mem_cons.mpr ⟨va_Nw.of rfl (hts _ (List.mem_of_getElem? (i := 65) (by decide +kernel))), List.forall_mem_cons.mpr ⟨va_Nw.of rfl (hts _ (List.mem_of_getElem? (i := 37) (by decide +kernel))), List.forall_mem_cons.mpr ⟨va_Nw.of rfl (hts _ (List.mem_of_getElem? (i := 422) (by decide +kernel))), List.forall_mem_cons.mpr ⟨va_Nw.of rfl (hts _ (List.mem_of_getElem? (i := 424) (by decide +kernel))), List.forall_mem_cons.mpr ⟨va_Nw.of rfl (hts _ (List.mem_of_getElem? (i := 426) (by decide +kernel))), fun _ h => absurd h List.not_mem_nil⟩⟩⟩⟩⟩⟩⟩⟩⟩⟩)
theorem ev_arr {s : State} {args : Array Value} {t : FieldType} (h : (Cond.arrayClass t).before args s = true) (hp : t = .int) : ∃ cA : ClassId, ArrOfT s cA t ∧ va_RA s cA t := by
  obtain ⟨c, k, comp, h1, h2, h3⟩ := Cond.arrayClass_spec h
  refine ⟨c, fun n z => ⟨fun k h => (by cases h), k, h2, comp, h3⟩, ?_⟩
  subst hp; exact h1
theorem ev_yarr {s : State} {args : Array Value} (h : (Cond.arrayOver (.object "SlantYard$Yard")).before args s = true) : ∃ cA : ClassId, ArrOfT s cA (.object "SlantYard$Yard") ∧ va_RA s cA (.object "SlantYard$Yard") := by
  obtain ⟨comp, c, k, h1, h2, h3, h4, h5⟩ := Cond.arrayOver_spec h
  exact ⟨c, fun n z => ⟨fun k h => (by cases h), k, h3, comp, h4⟩, k, comp, h3, h4, h1, h5⟩
/-- an int as a number -/
def codeN (x : Int32) : Nat := x.toBitVec.toNat
theorem codeN_at (x : Int32) : iI ((codeN x : Nat) : Int) = x := by
  rw [← iI_nat]
  unfold codeN
  exact Int32.toBitVec_inj.mp (by simp)
def selS (t0 t1 t2 t3 t4 t5 b L : Nat) (xs : Nat → Int32) : Nat → Nat := fun k => match k with
  | 0 => t0
  | 1 => t1
  | 2 => t2
  | 3 => t3
  | 4 => t4
  | 5 => t5
  | 6 => b
  | 7 => L
  | j + 8 => codeN (xs j)
theorem selS_8 (t0 t1 t2 t3 t4 t5 b L : Nat) (xs : Nat → Int32) (n : Nat) : selS t0 t1 t2 t3 t4 t5 b L xs (8 + n) = codeN (xs n) := by
  rw [Nat.add_comm]; rfl
theorem ev_SC {s : State} {b L : Nat} {A : Nat → Prop} {xs : Nat → Int32} (hL : L ≤ 260) (hX : va_X b L xs s s.heap) (hb : ¬ A b) (t0 t1 t2 t3 t4 t5 : Nat) (g1 : va_G) (c4 : ClassId × ClassId × ClassId × ClassId) : SC (g1, (c4, selS t0 t1 t2 t3 t4 t5 b L xs)) A s s.heap := by
  obtain ⟨scr, h1, h2, h3, h4, h5⟩ := hX
  refine ⟨hL, scr, h1, h2, h3, ?_, ?_, ?_, hb⟩
  · show L ≤ scr.slots.size
    omega
  · show scr.slots.size.toInt32 = Int32.ofNat L
    rw [h4]
  · intro j hj
    have e : iI (scF (g1, (c4, selS t0 t1 t2 t3 t4 t5 b L xs)) (j : Int)) = xs j := by
      unfold scF
      show iI ((selS t0 t1 t2 t3 t4 t5 b L xs (8 + (j : Int).toNat) : Nat) : Int) = xs j
      rw [Int.toNat_natCast, selS_8, codeN_at]
    show scr.slots[j]? = some (.int (iI (scF (g1, (c4, selS t0 t1 t2 t3 t4 t5 b L xs)) (j : Int))))
    rw [e]
    exact h5 j hj
set_option maxRecDepth 20000 in
theorem ev_EN {s : State} {b : Nat} {A : Nat → Prop} (hts : ∀ w ∈ lw_tbl, w.before #[Value.ref b] s = true) (hgv : (Jvm.Cond.and given_1 narrow_1).before #[Value.ref b] s = true) (hA : ∀ a : Nat, a < s.heap.size → ¬ A a) {L : Nat} {xs : Nat → Int32} (hL : L ≤ 260) (hX : va_X b L xs s s.heap) (hb : ¬ A b) : ∃ g : GT, g.2.2 6 = b ∧ EN g A s s.heap ∧ va_AO "SlantYard$Yard" s := by
  obtain ⟨c0, i0, hk0⟩ := u_known (C := RX0) (T := TX0) (N := 2) (n := 2) hts inX0 (hts (.instantiable RX0 2) (List.mem_of_getElem? (i := 100) (by decide +kernel)))
  obtain ⟨c1, i1, hk1⟩ := u_known (C := RX1) (T := TX1) (N := 3) (n := 3) hts inX1 (hts (.instantiable RX1 3) (List.mem_of_getElem? (i := 80) (by decide +kernel)))
  obtain ⟨c2, i2, hk2⟩ := u_known (C := RX2) (T := TX2) (N := 6) (n := 6) hts inX2 (hts (.instantiable RX2 6) (List.mem_of_getElem? (i := 52) (by decide +kernel)))
  obtain ⟨c3, i3, hk3⟩ := u_known (C := RX3) (T := TX3) (N := 4) (n := 4) hts inX3 (hts (.instantiable RX3 4) (List.mem_of_getElem? (i := 29) (by decide +kernel)))
  obtain ⟨c4, i4, hk4⟩ := u_known (C := RX4) (T := TX4) (N := 8) (n := 8) hts inX4 (hts (.instantiable RX4 8) (List.mem_of_getElem? (i := 21) (by decide +kernel)))
  obtain ⟨gi, hi⟩ := ev_arr (hts _ (List.mem_of_getElem? (i := 50) (by decide +kernel))) rfl
  have hao : (Cond.arrayOver (.object "SlantYard$Yard")).before #[Value.ref b] s = true := hts _ (List.mem_of_getElem? (i := 86) (by decide +kernel))
  obtain ⟨gy, hy⟩ := ev_yarr hao
  obtain ⟨t0, ht0⟩ := ev_st0 hts hgv hA
  obtain ⟨t1, ht1⟩ := ev_st1 hts hgv hA
  obtain ⟨t2, ht2⟩ := ev_st2 hts hgv hA
  obtain ⟨t3, ht3⟩ := ev_st3 hts hgv hA
  obtain ⟨t4, ht4⟩ := ev_st4 hts hgv hA
  obtain ⟨t5, ht5⟩ := ev_st5 hts hgv hA
  refine ⟨((fun k => if k = 0 then c0 else if k = 1 then c1 else if k = 2 then c2 else if k = 3 then c3 else c4, fun k => if k = 0 then i0 else if k = 1 then i1 else if k = 2 then i2 else if k = 3 then i3 else i4), ((gi, gi, gy, gi), selS t0 t1 t2 t3 t4 t5 b L xs)), rfl, ⟨⟨?_, ?_⟩, ev_NW hts hgv hA, ?_, ev_SC hL hX hb t0 t1 t2 t3 t4 t5 _ _⟩, va_AO.of hao⟩
  · intro k q hq
    match k, hq with
    | 0, hq => cases hq; exact hk0
    | 1, hq => cases hq; exact hk1
    | 2, hq => cases hq; exact hk2
    | 3, hq => cases hq; exact hk3
    | 4, hq => cases hq; exact hk4
    | k + 5, hq => simp [vwCl] at hq
  · intro k q hq
    match k, hq with
    | 0, hq => cases hq; exact hi
    | 1, hq => cases hq; exact hi
    | 2, hq => cases hq; exact hy
    | 3, hq => cases hq; exact hi
    | k + 4, hq => simp [tysG] at hq
  · intro k q hq
    match k, hq with
    | 0, hq => cases hq; exact ht0
    | 1, hq => cases hq; exact ht1
    | 2, hq => cases hq; exact ht2
    | 3, hq => cases hq; exact ht3
    | 4, hq => cases hq; exact ht4
    | 5, hq => cases hq; exact ht5
    | k + 6, hq => simp [stL] at hq

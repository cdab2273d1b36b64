set_option maxRecDepth 20000 in
theorem ev_st0 {s : State} {b : Nat} {A : Nat → Prop} (hts : ∀ w ∈ lw_tbl, w.before #[Value.ref b] s = true) (hgv : (Jvm.Cond.and given_1 narrow_1).before #[Value.ref b] s = true) (hA : ∀ a : Nat, a < s.heap.size → ¬ A a) : ∃ t : Nat, va_Z "SlantYard" "TRIANGLE_I" "[I" (.ref t) A s s.heap ∧ va_T .int t 6 (fun j => .int (iI (atI [-1, -1, 0, 0, -1, 0] (j : Int)))) A s s.heap := by
  have hs := flat_of_before _ hgv
  have hel : ∀ j : Nat, j < 6 → (Jvm.Term.elem (Jvm.Term.static "SlantYard" "TRIANGLE_I" "[I") (.int (Int32.ofNat j))).eval #[Value.ref b] s none [] s = some (.int (iI (atI [-1, -1, 0, 0, -1, 0] (j : Int)))) := by
    intro j hj
    rcases (show j = 0 ∨ j = 1 ∨ j = 2 ∨ j = 3 ∨ j = 4 ∨ j = 5 by omega) with rfl | rfl | rfl | rfl | rfl | rfl
    · have e := va_eqt (z := (-1)) (hs (Jvm.Cond.eq (Jvm.Term.elem (Jvm.Term.static "SlantYard" "TRIANGLE_I" "[I") (Jvm.Term.int 0)) (Jvm.Term.int (-1))) (by decide +kernel))
      have q : iI (atI [-1, -1, 0, 0, -1, 0] ((0 : Nat) : Int)) = (-1 : Int32) := by decide
      show _ = some (Value.int (iI (atI [-1, -1, 0, 0, -1, 0] ((0 : Nat) : Int))))
      rw [q]
      exact e
    · have e := va_eqt (z := (-1)) (hs (Jvm.Cond.eq (Jvm.Term.elem (Jvm.Term.static "SlantYard" "TRIANGLE_I" "[I") (Jvm.Term.int 1)) (Jvm.Term.int (-1))) (by decide +kernel))
      have q : iI (atI [-1, -1, 0, 0, -1, 0] ((1 : Nat) : Int)) = (-1 : Int32) := by decide
      show _ = some (Value.int (iI (atI [-1, -1, 0, 0, -1, 0] ((1 : Nat) : Int))))
      rw [q]
      exact e
    · have e := va_eqt (z := (0)) (hs (Jvm.Cond.eq (Jvm.Term.elem (Jvm.Term.static "SlantYard" "TRIANGLE_I" "[I") (Jvm.Term.int 2)) (Jvm.Term.int (0))) (by decide +kernel))
      have q : iI (atI [-1, -1, 0, 0, -1, 0] ((2 : Nat) : Int)) = (0 : Int32) := by decide
      show _ = some (Value.int (iI (atI [-1, -1, 0, 0, -1, 0] ((2 : Nat) : Int))))
      rw [q]
      exact e
    · have e := va_eqt (z := (0)) (hs (Jvm.Cond.eq (Jvm.Term.elem (Jvm.Term.static "SlantYard" "TRIANGLE_I" "[I") (Jvm.Term.int 3)) (Jvm.Term.int (0))) (by decide +kernel))
      have q : iI (atI [-1, -1, 0, 0, -1, 0] ((3 : Nat) : Int)) = (0 : Int32) := by decide
      show _ = some (Value.int (iI (atI [-1, -1, 0, 0, -1, 0] ((3 : Nat) : Int))))
      rw [q]
      exact e
    · have e := va_eqt (z := (-1)) (hs (Jvm.Cond.eq (Jvm.Term.elem (Jvm.Term.static "SlantYard" "TRIANGLE_I" "[I") (Jvm.Term.int 4)) (Jvm.Term.int (-1))) (by decide +kernel))
      have q : iI (atI [-1, -1, 0, 0, -1, 0] ((4 : Nat) : Int)) = (-1 : Int32) := by decide
      show _ = some (Value.int (iI (atI [-1, -1, 0, 0, -1, 0] ((4 : Nat) : Int))))
      rw [q]
      exact e
    · have e := va_eqt (z := (0)) (hs (Jvm.Cond.eq (Jvm.Term.elem (Jvm.Term.static "SlantYard" "TRIANGLE_I" "[I") (Jvm.Term.int 5)) (Jvm.Term.int (0))) (by decide +kernel))
      have q : iI (atI [-1, -1, 0, 0, -1, 0] ((5 : Nat) : Int)) = (0 : Int32) := by decide
      show _ = some (Value.int (iI (atI [-1, -1, 0, 0, -1, 0] ((5 : Nat) : Int))))
      rw [q]
      exact e
  obtain ⟨t, ht, hT⟩ := va_Tof (tm := (Jvm.Term.static "SlantYard" "TRIANGLE_I" "[I")) (ty := .int) (N := 6) (f := fun j => .int (iI (atI [-1, -1, 0, 0, -1, 0] (j : Int)))) (A := A) (by decide) (hs _ (by decide +kernel)) (va_eqt (z := 6) (hs (Jvm.Cond.eq (Jvm.Term.length (Jvm.Term.static "SlantYard" "TRIANGLE_I" "[I")) (Jvm.Term.int 6)) (by decide +kernel))) hel hA
  exact ⟨t, va_Zof (hts _ (List.mem_of_getElem? (i := 259) (by decide +kernel))) (hts _ (List.mem_of_getElem? (i := 64) (by decide +kernel))) ht hA, hT⟩
set_option maxRecDepth 20000 in
theorem ev_st1 {s : State} {b : Nat} {A : Nat → Prop} (hts : ∀ w ∈ lw_tbl, w.before #[Value.ref b] s = true) (hgv : (Jvm.Cond.and given_1 narrow_1).before #[Value.ref b] s = true) (hA : ∀ a : Nat, a < s.heap.size → ¬ A a) : ∃ t : Nat, va_Z "SlantYard" "TRIANGLE_J" "[I" (.ref t) A s s.heap ∧ va_T .int t 6 (fun j => .int (iI (atI [-1, -1, -1, 0, 0, 0] (j : Int)))) A s s.heap := by
  have hs := flat_of_before _ hgv
  have hel : ∀ j : Nat, j < 6 → (Jvm.Term.elem (Jvm.Term.static "SlantYard" "TRIANGLE_J" "[I") (.int (Int32.ofNat j))).eval #[Value.ref b] s none [] s = some (.int (iI (atI [-1, -1, -1, 0, 0, 0] (j : Int)))) := by
    intro j hj
    rcases (show j = 0 ∨ j = 1 ∨ j = 2 ∨ j = 3 ∨ j = 4 ∨ j = 5 by omega) with rfl | rfl | rfl | rfl | rfl | rfl
    · have e := va_eqt (z := (-1)) (hs (Jvm.Cond.eq (Jvm.Term.elem (Jvm.Term.static "SlantYard" "TRIANGLE_J" "[I") (Jvm.Term.int 0)) (Jvm.Term.int (-1))) (by decide +kernel))
      have q : iI (atI [-1, -1, -1, 0, 0, 0] ((0 : Nat) : Int)) = (-1 : Int32) := by decide
      show _ = some (Value.int (iI (atI [-1, -1, -1, 0, 0, 0] ((0 : Nat) : Int))))
      rw [q]
      exact e
    · have e := va_eqt (z := (-1)) (hs (Jvm.Cond.eq (Jvm.Term.elem (Jvm.Term.static "SlantYard" "TRIANGLE_J" "[I") (Jvm.Term.int 1)) (Jvm.Term.int (-1))) (by decide +kernel))
      have q : iI (atI [-1, -1, -1, 0, 0, 0] ((1 : Nat) : Int)) = (-1 : Int32) := by decide
      show _ = some (Value.int (iI (atI [-1, -1, -1, 0, 0, 0] ((1 : Nat) : Int))))
      rw [q]
      exact e
    · have e := va_eqt (z := (-1)) (hs (Jvm.Cond.eq (Jvm.Term.elem (Jvm.Term.static "SlantYard" "TRIANGLE_J" "[I") (Jvm.Term.int 2)) (Jvm.Term.int (-1))) (by decide +kernel))
      have q : iI (atI [-1, -1, -1, 0, 0, 0] ((2 : Nat) : Int)) = (-1 : Int32) := by decide
      show _ = some (Value.int (iI (atI [-1, -1, -1, 0, 0, 0] ((2 : Nat) : Int))))
      rw [q]
      exact e
    · have e := va_eqt (z := (0)) (hs (Jvm.Cond.eq (Jvm.Term.elem (Jvm.Term.static "SlantYard" "TRIANGLE_J" "[I") (Jvm.Term.int 3)) (Jvm.Term.int (0))) (by decide +kernel))
      have q : iI (atI [-1, -1, -1, 0, 0, 0] ((3 : Nat) : Int)) = (0 : Int32) := by decide
      show _ = some (Value.int (iI (atI [-1, -1, -1, 0, 0, 0] ((3 : Nat) : Int))))
      rw [q]
      exact e
    · have e := va_eqt (z := (0)) (hs (Jvm.Cond.eq (Jvm.Term.elem (Jvm.Term.static "SlantYard" "TRIANGLE_J" "[I") (Jvm.Term.int 4)) (Jvm.Term.int (0))) (by decide +kernel))
      have q : iI (atI [-1, -1, -1, 0, 0, 0] ((4 : Nat) : Int)) = (0 : Int32) := by decide
      show _ = some (Value.int (iI (atI [-1, -1, -1, 0, 0, 0] ((4 : Nat) : Int))))
      rw [q]
      exact e
    · have e := va_eqt (z := (0)) (hs (Jvm.Cond.eq (Jvm.Term.elem (Jvm.Term.static "SlantYard" "TRIANGLE_J" "[I") (Jvm.Term.int 5)) (Jvm.Term.int (0))) (by decide +kernel))
      have q : iI (atI [-1, -1, -1, 0, 0, 0] ((5 : Nat) : Int)) = (0 : Int32) := by decide
      show _ = some (Value.int (iI (atI [-1, -1, -1, 0, 0, 0] ((5 : Nat) : Int))))
      rw [q]
      exact e
  obtain ⟨t, ht, hT⟩ := va_Tof (tm := (Jvm.Term.static "SlantYard" "TRIANGLE_J" "[I")) (ty := .int) (N := 6) (f := fun j => .int (iI (atI [-1, -1, -1, 0, 0, 0] (j : Int)))) (A := A) (by decide) (hs _ (by decide +kernel)) (va_eqt (z := 6) (hs (Jvm.Cond.eq (Jvm.Term.length (Jvm.Term.static "SlantYard" "TRIANGLE_J" "[I")) (Jvm.Term.int 6)) (by decide +kernel))) hel hA
  exact ⟨t, va_Zof (hts _ (List.mem_of_getElem? (i := 262) (by decide +kernel))) (hts _ (List.mem_of_getElem? (i := 64) (by decide +kernel))) ht hA, hT⟩
set_option maxRecDepth 20000 in
theorem ev_st2 {s : State} {b : Nat} {A : Nat → Prop} (hts : ∀ w ∈ lw_tbl, w.before #[Value.ref b] s = true) (hgv : (Jvm.Cond.and given_1 narrow_1).before #[Value.ref b] s = true) (hA : ∀ a : Nat, a < s.heap.size → ¬ A a) : ∃ t : Nat, va_Z "SlantYard" "TRIANGLE_HALF" "[I" (.ref t) A s s.heap ∧ va_T .int t 6 (fun j => .int (iI (atI [0, 1, 1, 0, 0, 1] (j : Int)))) A s s.heap := by
  have hs := flat_of_before _ hgv
  have hel : ∀ j : Nat, j < 6 → (Jvm.Term.elem (Jvm.Term.static "SlantYard" "TRIANGLE_HALF" "[I") (.int (Int32.ofNat j))).eval #[Value.ref b] s none [] s = some (.int (iI (atI [0, 1, 1, 0, 0, 1] (j : Int)))) := by
    intro j hj
    rcases (show j = 0 ∨ j = 1 ∨ j = 2 ∨ j = 3 ∨ j = 4 ∨ j = 5 by omega) with rfl | rfl | rfl | rfl | rfl | rfl
    · have e := va_eqt (z := (0)) (hs (Jvm.Cond.eq (Jvm.Term.elem (Jvm.Term.static "SlantYard" "TRIANGLE_HALF" "[I") (Jvm.Term.int 0)) (Jvm.Term.int (0))) (by decide +kernel))
      have q : iI (atI [0, 1, 1, 0, 0, 1] ((0 : Nat) : Int)) = (0 : Int32) := by decide
      show _ = some (Value.int (iI (atI [0, 1, 1, 0, 0, 1] ((0 : Nat) : Int))))
      rw [q]
      exact e
    · have e := va_eqt (z := (1)) (hs (Jvm.Cond.eq (Jvm.Term.elem (Jvm.Term.static "SlantYard" "TRIANGLE_HALF" "[I") (Jvm.Term.int 1)) (Jvm.Term.int (1))) (by decide +kernel))
      have q : iI (atI [0, 1, 1, 0, 0, 1] ((1 : Nat) : Int)) = (1 : Int32) := by decide
      show _ = some (Value.int (iI (atI [0, 1, 1, 0, 0, 1] ((1 : Nat) : Int))))
      rw [q]
      exact e
    · have e := va_eqt (z := (1)) (hs (Jvm.Cond.eq (Jvm.Term.elem (Jvm.Term.static "SlantYard" "TRIANGLE_HALF" "[I") (Jvm.Term.int 2)) (Jvm.Term.int (1))) (by decide +kernel))
      have q : iI (atI [0, 1, 1, 0, 0, 1] ((2 : Nat) : Int)) = (1 : Int32) := by decide
      show _ = some (Value.int (iI (atI [0, 1, 1, 0, 0, 1] ((2 : Nat) : Int))))
      rw [q]
      exact e
    · have e := va_eqt (z := (0)) (hs (Jvm.Cond.eq (Jvm.Term.elem (Jvm.Term.static "SlantYard" "TRIANGLE_HALF" "[I") (Jvm.Term.int 3)) (Jvm.Term.int (0))) (by decide +kernel))
      have q : iI (atI [0, 1, 1, 0, 0, 1] ((3 : Nat) : Int)) = (0 : Int32) := by decide
      show _ = some (Value.int (iI (atI [0, 1, 1, 0, 0, 1] ((3 : Nat) : Int))))
      rw [q]
      exact e
    · have e := va_eqt (z := (0)) (hs (Jvm.Cond.eq (Jvm.Term.elem (Jvm.Term.static "SlantYard" "TRIANGLE_HALF" "[I") (Jvm.Term.int 4)) (Jvm.Term.int (0))) (by decide +kernel))
      have q : iI (atI [0, 1, 1, 0, 0, 1] ((4 : Nat) : Int)) = (0 : Int32) := by decide
      show _ = some (Value.int (iI (atI [0, 1, 1, 0, 0, 1] ((4 : Nat) : Int))))
      rw [q]
      exact e
    · have e := va_eqt (z := (1)) (hs (Jvm.Cond.eq (Jvm.Term.elem (Jvm.Term.static "SlantYard" "TRIANGLE_HALF" "[I") (Jvm.Term.int 5)) (Jvm.Term.int (1))) (by decide +kernel))
      have q : iI (atI [0, 1, 1, 0, 0, 1] ((5 : Nat) : Int)) = (1 : Int32) := by decide
      show _ = some (Value.int (iI (atI [0, 1, 1, 0, 0, 1] ((5 : Nat) : Int))))
      rw [q]
      exact e
  obtain ⟨t, ht, hT⟩ := va_Tof (tm := (Jvm.Term.static "SlantYard" "TRIANGLE_HALF" "[I")) (ty := .int) (N := 6) (f := fun j => .int (iI (atI [0, 1, 1, 0, 0, 1] (j : Int)))) (A := A) (by decide) (hs _ (by decide +kernel)) (va_eqt (z := 6) (hs (Jvm.Cond.eq (Jvm.Term.length (Jvm.Term.static "SlantYard" "TRIANGLE_HALF" "[I")) (Jvm.Term.int 6)) (by decide +kernel))) hel hA
  exact ⟨t, va_Zof (hts _ (List.mem_of_getElem? (i := 264) (by decide +kernel))) (hts _ (List.mem_of_getElem? (i := 64) (by decide +kernel))) ht hA, hT⟩
set_option maxRecDepth 20000 in
theorem ev_st3 {s : State} {b : Nat} {A : Nat → Prop} (hts : ∀ w ∈ lw_tbl, w.before #[Value.ref b] s = true) (hgv : (Jvm.Cond.and given_1 narrow_1).before #[Value.ref b] s = true) (hA : ∀ a : Nat, a < s.heap.size → ¬ A a) : ∃ t : Nat, va_Z "SlantYard" "SUN_X" "[I" (.ref t) A s s.heap ∧ va_T .int t 8 (fun j => .int (iI (atI [1, 1, 0, -1, -1, -1, 0, 1] (j : Int)))) A s s.heap := by
  have hs := flat_of_before _ hgv
  have hel : ∀ j : Nat, j < 8 → (Jvm.Term.elem (Jvm.Term.static "SlantYard" "SUN_X" "[I") (.int (Int32.ofNat j))).eval #[Value.ref b] s none [] s = some (.int (iI (atI [1, 1, 0, -1, -1, -1, 0, 1] (j : Int)))) := by
    intro j hj
    rcases (show j = 0 ∨ j = 1 ∨ j = 2 ∨ j = 3 ∨ j = 4 ∨ j = 5 ∨ j = 6 ∨ j = 7 by omega) with rfl | rfl | rfl | rfl | rfl | rfl | rfl | rfl
    · have e := va_eqt (z := (1)) (hs (Jvm.Cond.eq (Jvm.Term.elem (Jvm.Term.static "SlantYard" "SUN_X" "[I") (Jvm.Term.int 0)) (Jvm.Term.int (1))) (by decide +kernel))
      have q : iI (atI [1, 1, 0, -1, -1, -1, 0, 1] ((0 : Nat) : Int)) = (1 : Int32) := by decide
      show _ = some (Value.int (iI (atI [1, 1, 0, -1, -1, -1, 0, 1] ((0 : Nat) : Int))))
      rw [q]
      exact e
    · have e := va_eqt (z := (1)) (hs (Jvm.Cond.eq (Jvm.Term.elem (Jvm.Term.static "SlantYard" "SUN_X" "[I") (Jvm.Term.int 1)) (Jvm.Term.int (1))) (by decide +kernel))
      have q : iI (atI [1, 1, 0, -1, -1, -1, 0, 1] ((1 : Nat) : Int)) = (1 : Int32) := by decide
      show _ = some (Value.int (iI (atI [1, 1, 0, -1, -1, -1, 0, 1] ((1 : Nat) : Int))))
      rw [q]
      exact e
    · have e := va_eqt (z := (0)) (hs (Jvm.Cond.eq (Jvm.Term.elem (Jvm.Term.static "SlantYard" "SUN_X" "[I") (Jvm.Term.int 2)) (Jvm.Term.int (0))) (by decide +kernel))
      have q : iI (atI [1, 1, 0, -1, -1, -1, 0, 1] ((2 : Nat) : Int)) = (0 : Int32) := by decide
      show _ = some (Value.int (iI (atI [1, 1, 0, -1, -1, -1, 0, 1] ((2 : Nat) : Int))))
      rw [q]
      exact e
    · have e := va_eqt (z := (-1)) (hs (Jvm.Cond.eq (Jvm.Term.elem (Jvm.Term.static "SlantYard" "SUN_X" "[I") (Jvm.Term.int 3)) (Jvm.Term.int (-1))) (by decide +kernel))
      have q : iI (atI [1, 1, 0, -1, -1, -1, 0, 1] ((3 : Nat) : Int)) = (-1 : Int32) := by decide
      show _ = some (Value.int (iI (atI [1, 1, 0, -1, -1, -1, 0, 1] ((3 : Nat) : Int))))
      rw [q]
      exact e
    · have e := va_eqt (z := (-1)) (hs (Jvm.Cond.eq (Jvm.Term.elem (Jvm.Term.static "SlantYard" "SUN_X" "[I") (Jvm.Term.int 4)) (Jvm.Term.int (-1))) (by decide +kernel))
      have q : iI (atI [1, 1, 0, -1, -1, -1, 0, 1] ((4 : Nat) : Int)) = (-1 : Int32) := by decide
      show _ = some (Value.int (iI (atI [1, 1, 0, -1, -1, -1, 0, 1] ((4 : Nat) : Int))))
      rw [q]
      exact e
    · have e := va_eqt (z := (-1)) (hs (Jvm.Cond.eq (Jvm.Term.elem (Jvm.Term.static "SlantYard" "SUN_X" "[I") (Jvm.Term.int 5)) (Jvm.Term.int (-1))) (by decide +kernel))
      have q : iI (atI [1, 1, 0, -1, -1, -1, 0, 1] ((5 : Nat) : Int)) = (-1 : Int32) := by decide
      show _ = some (Value.int (iI (atI [1, 1, 0, -1, -1, -1, 0, 1] ((5 : Nat) : Int))))
      rw [q]
      exact e
    · have e := va_eqt (z := (0)) (hs (Jvm.Cond.eq (Jvm.Term.elem (Jvm.Term.static "SlantYard" "SUN_X" "[I") (Jvm.Term.int 6)) (Jvm.Term.int (0))) (by decide +kernel))
      have q : iI (atI [1, 1, 0, -1, -1, -1, 0, 1] ((6 : Nat) : Int)) = (0 : Int32) := by decide
      show _ = some (Value.int (iI (atI [1, 1, 0, -1, -1, -1, 0, 1] ((6 : Nat) : Int))))
      rw [q]
      exact e
    · have e := va_eqt (z := (1)) (hs (Jvm.Cond.eq (Jvm.Term.elem (Jvm.Term.static "SlantYard" "SUN_X" "[I") (Jvm.Term.int 7)) (Jvm.Term.int (1))) (by decide +kernel))
      have q : iI (atI [1, 1, 0, -1, -1, -1, 0, 1] ((7 : Nat) : Int)) = (1 : Int32) := by decide
      show _ = some (Value.int (iI (atI [1, 1, 0, -1, -1, -1, 0, 1] ((7 : Nat) : Int))))
      rw [q]
      exact e
  obtain ⟨t, ht, hT⟩ := va_Tof (tm := (Jvm.Term.static "SlantYard" "SUN_X" "[I")) (ty := .int) (N := 8) (f := fun j => .int (iI (atI [1, 1, 0, -1, -1, -1, 0, 1] (j : Int)))) (A := A) (by decide) (hs _ (by decide +kernel)) (va_eqt (z := 8) (hs (Jvm.Cond.eq (Jvm.Term.length (Jvm.Term.static "SlantYard" "SUN_X" "[I")) (Jvm.Term.int 8)) (by decide +kernel))) hel hA
  exact ⟨t, va_Zof (hts _ (List.mem_of_getElem? (i := 335) (by decide +kernel))) (hts _ (List.mem_of_getElem? (i := 64) (by decide +kernel))) ht hA, hT⟩
set_option maxRecDepth 20000 in
theorem ev_st4 {s : State} {b : Nat} {A : Nat → Prop} (hts : ∀ w ∈ lw_tbl, w.before #[Value.ref b] s = true) (hgv : (Jvm.Cond.and given_1 narrow_1).before #[Value.ref b] s = true) (hA : ∀ a : Nat, a < s.heap.size → ¬ A a) : ∃ t : Nat, va_Z "SlantYard" "SUN_Y" "[I" (.ref t) A s s.heap ∧ va_T .int t 8 (fun j => .int (iI (atI [0, 1, 1, 1, 0, -1, -1, -1] (j : Int)))) A s s.heap := by
  have hs := flat_of_before _ hgv
  have hel : ∀ j : Nat, j < 8 → (Jvm.Term.elem (Jvm.Term.static "SlantYard" "SUN_Y" "[I") (.int (Int32.ofNat j))).eval #[Value.ref b] s none [] s = some (.int (iI (atI [0, 1, 1, 1, 0, -1, -1, -1] (j : Int)))) := by
    intro j hj
    rcases (show j = 0 ∨ j = 1 ∨ j = 2 ∨ j = 3 ∨ j = 4 ∨ j = 5 ∨ j = 6 ∨ j = 7 by omega) with rfl | rfl | rfl | rfl | rfl | rfl | rfl | rfl
    · have e := va_eqt (z := (0)) (hs (Jvm.Cond.eq (Jvm.Term.elem (Jvm.Term.static "SlantYard" "SUN_Y" "[I") (Jvm.Term.int 0)) (Jvm.Term.int (0))) (by decide +kernel))
      have q : iI (atI [0, 1, 1, 1, 0, -1, -1, -1] ((0 : Nat) : Int)) = (0 : Int32) := by decide
      show _ = some (Value.int (iI (atI [0, 1, 1, 1, 0, -1, -1, -1] ((0 : Nat) : Int))))
      rw [q]
      exact e
    · have e := va_eqt (z := (1)) (hs (Jvm.Cond.eq (Jvm.Term.elem (Jvm.Term.static "SlantYard" "SUN_Y" "[I") (Jvm.Term.int 1)) (Jvm.Term.int (1))) (by decide +kernel))
      have q : iI (atI [0, 1, 1, 1, 0, -1, -1, -1] ((1 : Nat) : Int)) = (1 : Int32) := by decide
      show _ = some (Value.int (iI (atI [0, 1, 1, 1, 0, -1, -1, -1] ((1 : Nat) : Int))))
      rw [q]
      exact e
    · have e := va_eqt (z := (1)) (hs (Jvm.Cond.eq (Jvm.Term.elem (Jvm.Term.static "SlantYard" "SUN_Y" "[I") (Jvm.Term.int 2)) (Jvm.Term.int (1))) (by decide +kernel))
      have q : iI (atI [0, 1, 1, 1, 0, -1, -1, -1] ((2 : Nat) : Int)) = (1 : Int32) := by decide
      show _ = some (Value.int (iI (atI [0, 1, 1, 1, 0, -1, -1, -1] ((2 : Nat) : Int))))
      rw [q]
      exact e
    · have e := va_eqt (z := (1)) (hs (Jvm.Cond.eq (Jvm.Term.elem (Jvm.Term.static "SlantYard" "SUN_Y" "[I") (Jvm.Term.int 3)) (Jvm.Term.int (1))) (by decide +kernel))
      have q : iI (atI [0, 1, 1, 1, 0, -1, -1, -1] ((3 : Nat) : Int)) = (1 : Int32) := by decide
      show _ = some (Value.int (iI (atI [0, 1, 1, 1, 0, -1, -1, -1] ((3 : Nat) : Int))))
      rw [q]
      exact e
    · have e := va_eqt (z := (0)) (hs (Jvm.Cond.eq (Jvm.Term.elem (Jvm.Term.static "SlantYard" "SUN_Y" "[I") (Jvm.Term.int 4)) (Jvm.Term.int (0))) (by decide +kernel))
      have q : iI (atI [0, 1, 1, 1, 0, -1, -1, -1] ((4 : Nat) : Int)) = (0 : Int32) := by decide
      show _ = some (Value.int (iI (atI [0, 1, 1, 1, 0, -1, -1, -1] ((4 : Nat) : Int))))
      rw [q]
      exact e
    · have e := va_eqt (z := (-1)) (hs (Jvm.Cond.eq (Jvm.Term.elem (Jvm.Term.static "SlantYard" "SUN_Y" "[I") (Jvm.Term.int 5)) (Jvm.Term.int (-1))) (by decide +kernel))
      have q : iI (atI [0, 1, 1, 1, 0, -1, -1, -1] ((5 : Nat) : Int)) = (-1 : Int32) := by decide
      show _ = some (Value.int (iI (atI [0, 1, 1, 1, 0, -1, -1, -1] ((5 : Nat) : Int))))
      rw [q]
      exact e
    · have e := va_eqt (z := (-1)) (hs (Jvm.Cond.eq (Jvm.Term.elem (Jvm.Term.static "SlantYard" "SUN_Y" "[I") (Jvm.Term.int 6)) (Jvm.Term.int (-1))) (by decide +kernel))
      have q : iI (atI [0, 1, 1, 1, 0, -1, -1, -1] ((6 : Nat) : Int)) = (-1 : Int32) := by decide
      show _ = some (Value.int (iI (atI [0, 1, 1, 1, 0, -1, -1, -1] ((6 : Nat) : Int))))
      rw [q]
      exact e
    · have e := va_eqt (z := (-1)) (hs (Jvm.Cond.eq (Jvm.Term.elem (Jvm.Term.static "SlantYard" "SUN_Y" "[I") (Jvm.Term.int 7)) (Jvm.Term.int (-1))) (by decide +kernel))
      have q : iI (atI [0, 1, 1, 1, 0, -1, -1, -1] ((7 : Nat) : Int)) = (-1 : Int32) := by decide
      show _ = some (Value.int (iI (atI [0, 1, 1, 1, 0, -1, -1, -1] ((7 : Nat) : Int))))
      rw [q]
      exact e
  obtain ⟨t, ht, hT⟩ := va_Tof (tm := (Jvm.Term.static "SlantYard" "SUN_Y" "[I")) (ty := .int) (N := 8) (f := fun j => .int (iI (atI [0, 1, 1, 1, 0, -1, -1, -1] (j : Int)))) (A := A) (by decide) (hs _ (by decide +kernel)) (va_eqt (z := 8) (hs (Jvm.Cond.eq (Jvm.Term.length (Jvm.Term.static "SlantYard" "SUN_Y" "[I")) (Jvm.Term.int 8)) (by decide +kernel))) hel hA
  exact ⟨t, va_Zof (hts _ (List.mem_of_getElem? (i := 337) (by decide +kernel))) (hts _ (List.mem_of_getElem? (i := 64) (by decide +kernel))) ht hA, hT⟩
set_option maxRecDepth 20000 in
theorem ev_st5 {s : State} {b : Nat} {A : Nat → Prop} (hts : ∀ w ∈ lw_tbl, w.before #[Value.ref b] s = true) (hgv : (Jvm.Cond.and given_1 narrow_1).before #[Value.ref b] s = true) (hA : ∀ a : Nat, a < s.heap.size → ¬ A a) : ∃ t : Nat, va_Z "SlantYard" "SUN_STEEP" "[I" (.ref t) A s s.heap ∧ va_T .int t 8 (fun j => .int (iI (atI [1, 2, 3, 3, 2, 1, 1, 1] (j : Int)))) A s s.heap := by
  have hs := flat_of_before _ hgv
  have hel : ∀ j : Nat, j < 8 → (Jvm.Term.elem (Jvm.Term.static "SlantYard" "SUN_STEEP" "[I") (.int (Int32.ofNat j))).eval #[Value.ref b] s none [] s = some (.int (iI (atI [1, 2, 3, 3, 2, 1, 1, 1] (j : Int)))) := by
    intro j hj
    rcases (show j = 0 ∨ j = 1 ∨ j = 2 ∨ j = 3 ∨ j = 4 ∨ j = 5 ∨ j = 6 ∨ j = 7 by omega) with rfl | rfl | rfl | rfl | rfl | rfl | rfl | rfl
    · have e := va_eqt (z := (1)) (hs (Jvm.Cond.eq (Jvm.Term.elem (Jvm.Term.static "SlantYard" "SUN_STEEP" "[I") (Jvm.Term.int 0)) (Jvm.Term.int (1))) (by decide +kernel))
      have q : iI (atI [1, 2, 3, 3, 2, 1, 1, 1] ((0 : Nat) : Int)) = (1 : Int32) := by decide
      show _ = some (Value.int (iI (atI [1, 2, 3, 3, 2, 1, 1, 1] ((0 : Nat) : Int))))
      rw [q]
      exact e
    · have e := va_eqt (z := (2)) (hs (Jvm.Cond.eq (Jvm.Term.elem (Jvm.Term.static "SlantYard" "SUN_STEEP" "[I") (Jvm.Term.int 1)) (Jvm.Term.int (2))) (by decide +kernel))
      have q : iI (atI [1, 2, 3, 3, 2, 1, 1, 1] ((1 : Nat) : Int)) = (2 : Int32) := by decide
      show _ = some (Value.int (iI (atI [1, 2, 3, 3, 2, 1, 1, 1] ((1 : Nat) : Int))))
      rw [q]
      exact e
    · have e := va_eqt (z := (3)) (hs (Jvm.Cond.eq (Jvm.Term.elem (Jvm.Term.static "SlantYard" "SUN_STEEP" "[I") (Jvm.Term.int 2)) (Jvm.Term.int (3))) (by decide +kernel))
      have q : iI (atI [1, 2, 3, 3, 2, 1, 1, 1] ((2 : Nat) : Int)) = (3 : Int32) := by decide
      show _ = some (Value.int (iI (atI [1, 2, 3, 3, 2, 1, 1, 1] ((2 : Nat) : Int))))
      rw [q]
      exact e
    · have e := va_eqt (z := (3)) (hs (Jvm.Cond.eq (Jvm.Term.elem (Jvm.Term.static "SlantYard" "SUN_STEEP" "[I") (Jvm.Term.int 3)) (Jvm.Term.int (3))) (by decide +kernel))
      have q : iI (atI [1, 2, 3, 3, 2, 1, 1, 1] ((3 : Nat) : Int)) = (3 : Int32) := by decide
      show _ = some (Value.int (iI (atI [1, 2, 3, 3, 2, 1, 1, 1] ((3 : Nat) : Int))))
      rw [q]
      exact e
    · have e := va_eqt (z := (2)) (hs (Jvm.Cond.eq (Jvm.Term.elem (Jvm.Term.static "SlantYard" "SUN_STEEP" "[I") (Jvm.Term.int 4)) (Jvm.Term.int (2))) (by decide +kernel))
      have q : iI (atI [1, 2, 3, 3, 2, 1, 1, 1] ((4 : Nat) : Int)) = (2 : Int32) := by decide
      show _ = some (Value.int (iI (atI [1, 2, 3, 3, 2, 1, 1, 1] ((4 : Nat) : Int))))
      rw [q]
      exact e
    · have e := va_eqt (z := (1)) (hs (Jvm.Cond.eq (Jvm.Term.elem (Jvm.Term.static "SlantYard" "SUN_STEEP" "[I") (Jvm.Term.int 5)) (Jvm.Term.int (1))) (by decide +kernel))
      have q : iI (atI [1, 2, 3, 3, 2, 1, 1, 1] ((5 : Nat) : Int)) = (1 : Int32) := by decide
      show _ = some (Value.int (iI (atI [1, 2, 3, 3, 2, 1, 1, 1] ((5 : Nat) : Int))))
      rw [q]
      exact e
    · have e := va_eqt (z := (1)) (hs (Jvm.Cond.eq (Jvm.Term.elem (Jvm.Term.static "SlantYard" "SUN_STEEP" "[I") (Jvm.Term.int 6)) (Jvm.Term.int (1))) (by decide +kernel))
      have q : iI (atI [1, 2, 3, 3, 2, 1, 1, 1] ((6 : Nat) : Int)) = (1 : Int32) := by decide
      show _ = some (Value.int (iI (atI [1, 2, 3, 3, 2, 1, 1, 1] ((6 : Nat) : Int))))
      rw [q]
      exact e
    · have e := va_eqt (z := (1)) (hs (Jvm.Cond.eq (Jvm.Term.elem (Jvm.Term.static "SlantYard" "SUN_STEEP" "[I") (Jvm.Term.int 7)) (Jvm.Term.int (1))) (by decide +kernel))
      have q : iI (atI [1, 2, 3, 3, 2, 1, 1, 1] ((7 : Nat) : Int)) = (1 : Int32) := by decide
      show _ = some (Value.int (iI (atI [1, 2, 3, 3, 2, 1, 1, 1] ((7 : Nat) : Int))))
      rw [q]
      exact e
  obtain ⟨t, ht, hT⟩ := va_Tof (tm := (Jvm.Term.static "SlantYard" "SUN_STEEP" "[I")) (ty := .int) (N := 8) (f := fun j => .int (iI (atI [1, 2, 3, 3, 2, 1, 1, 1] (j : Int)))) (A := A) (by decide) (hs _ (by decide +kernel)) (va_eqt (z := 8) (hs (Jvm.Cond.eq (Jvm.Term.length (Jvm.Term.static "SlantYard" "SUN_STEEP" "[I")) (Jvm.Term.int 8)) (by decide +kernel))) hel hA
  exact ⟨t, va_Zof (hts _ (List.mem_of_getElem? (i := 339) (by decide +kernel))) (hts _ (List.mem_of_getElem? (i := 64) (by decide +kernel))) ht hA, hT⟩
set_option maxRecDepth 20000 in
theorem ev_NW {s : State} {b : Nat} {A : Nat → Prop} (hts : ∀ w ∈ lw_tbl, w.before #[Value.ref b] s = true) (hgv : (Jvm.Cond.and given_1 narrow_1).before #[Value.ref b] s = true) (hA : ∀ a : Nat, a < s.heap.size → ¬ A a) : NW s := by
  have hs := flat_of_before _ hgv
  refine ⟨?_, ?_, ?_, ?_, ?_⟩
  · exact (List.forall_mem_cons.mpr ⟨va_Nw.of rfl (hts _ (List.mem_of_getElem? (i := 716) (by decide +kernel))), List.forall_mem_cons.mpr ⟨va_Nw.of rfl (hts _ (List.mem_of_getElem? (i := 315) (by decide +kernel))), List.forall_mem_cons.mpr ⟨va_Nw.of rfl (hts _ (List.mem_of_getElem? (i := 255) (by decide +kernel))), List.forall_mem_cons.mpr ⟨va_Nw.of rfl (hts _ (List.mem_of_getElem? (i := 273) (by decide +kernel))), List.forall_mem_cons.mpr ⟨va_Nw.of rfl (hts _ (List.mem_of_getElem? (i := 274) (by decide +kernel))), List.forall_mem_cons.mpr ⟨va_Nw.of rfl (hts _ (List.mem_of_getElem? (i := 277) (by decide +kernel))), List.forall_mem_cons.mpr ⟨va_Nw.of rfl (hts _ (List.mem_of_getElem? (i := 272) (by decide +kernel))), List.forall_mem_cons.mpr ⟨va_Nw.of rfl (hts _ (List.mem_of_getElem? (i := 460) (by decide +kernel))), List.forall_mem_cons.mpr ⟨va_Nw.of rfl (hts _ (List.mem_of_getElem? (i := 463) (by decide +kernel))), List.forall_mem_cons.mpr ⟨va_Nw.of rfl (hts _ (List.mem_of_getElem? (i := 466) (by decide +kernel))), List.forall_mem_cons.mpr ⟨va_Nw.of rfl (hts _ (List.mem_of_getElem? (i := 216) (by decide +kernel))), List.forall_mem_cons.mpr ⟨va_Nw.of rfl (hts _ (List.mem_of_getElem? (i := 219) (by decide +kernel))), fun _ h => absurd h List.not_mem_nil⟩⟩⟩⟩⟩⟩⟩⟩⟩⟩⟩⟩)
  · exact (List.forall_mem_cons.mpr ⟨va_Nw.of rfl (hts _ (List.mem_of_getElem? (i := 119) (by decide +kernel))), List.forall_mem_cons.mpr ⟨va_Nw.of rfl (hts _ (List.mem_of_getElem? (i := 96) (by decide +kernel))), List.forall_mem_cons.mpr ⟨va_Nw.of rfl (hts _ (List.mem_of_getElem? (i := 98) (by decide +kernel))), List.forall_mem_cons.mpr ⟨va_Nw.of rfl (hts _ (List.mem_of_getElem? (i := 165) (by decide +kernel))), List.forall_mem_cons.mpr ⟨va_Nw.of rfl (hts _ (List.mem_of_getElem? (i := 149) (by decide +kernel))), List.forall_mem_cons.mpr ⟨va_Nw.of rfl (hts _ (List.mem_of_getElem? (i := 121) (by decide +kernel))), List.forall_mem_cons.mpr ⟨va_Nw.of rfl (hts _ (List.mem_of_getElem? (i := 123) (by decide +kernel))), List.forall_mem_cons.mpr ⟨va_Nw.of rfl (hts _ (List.mem_of_getElem? (i := 95) (by decide +kernel))), List.forall_mem_cons.mpr ⟨va_Nw.of rfl (hts _ (List.mem_of_getElem? (i := 334) (by decide +kernel))), List.forall_mem_cons.mpr ⟨va_Nw.of rfl (hts _ (List.mem_of_getElem? (i := 336) (by decide +kernel))), List.forall_mem_cons.mpr ⟨va_Nw.of rfl (hts _ (List.mem_of_getElem? (i := 338) (by decide +kernel))), fun _ h => absurd h List.not_mem_nil⟩⟩⟩⟩⟩⟩⟩⟩⟩⟩⟩)
  · exact (List.forall_mem_cons.mpr ⟨va_Nw.of rfl (hts _ (List.mem_of_getElem? (i := 379) (by decide +kernel))), List.forall_mem_cons.mpr ⟨va_Nw.of rfl (hts _ (List.mem_of_getElem? (i := 639) (by decide +kernel))), List.forall_mem_cons.mpr ⟨va_Nw.of rfl (hts _ (List.mem_of_getElem? (i := 492) (by decide +kernel))), fun _ h => absurd h List.not_mem_nil⟩⟩⟩)
  · exact (List.forall_mem_cons.mpr ⟨(List.forall_mem_cons.mpr ⟨fun n => absurd rfl n, List.forall_mem_cons.mpr ⟨fun _ => va_Nc.of (hs (Jvm.Cond.not (Jvm.Cond.castable "java/lang/IllegalArgumentException" "java/lang/IllegalStateException")) (by decide +kernel)), List.forall_mem_cons.mpr ⟨fun _ => va_Nc.of (hs (Jvm.Cond.not (Jvm.Cond.castable "java/lang/IllegalArgumentException" "java/lang/IndexOutOfBoundsException")) (by decide +kernel)), fun _ h => absurd h List.not_mem_nil⟩⟩⟩), List.forall_mem_cons.mpr ⟨(List.forall_mem_cons.mpr ⟨fun _ => va_Nc.of (hs (Jvm.Cond.not (Jvm.Cond.castable "java/lang/IllegalStateException" "java/lang/IllegalArgumentException")) (by decide +kernel)), List.forall_mem_cons.mpr ⟨fun n => absurd rfl n, List.forall_mem_cons.mpr ⟨fun _ => va_Nc.of (hs (Jvm.Cond.not (Jvm.Cond.castable "java/lang/IllegalStateException" "java/lang/IndexOutOfBoundsException")) (by decide +kernel)), fun _ h => absurd h List.not_mem_nil⟩⟩⟩), List.forall_mem_cons.mpr ⟨(List.forall_mem_cons.mpr ⟨fun _ => va_Nc.of (hs (Jvm.Cond.not (Jvm.Cond.castable "java/lang/IndexOutOfBoundsException" "java/lang/IllegalArgumentException")) (by decide +kernel)), List.forall_mem_cons.mpr ⟨fun _ => va_Nc.of (hs (Jvm.Cond.not (Jvm.Cond.castable "java/lang/IndexOutOfBoundsException" "java/lang/IllegalStateException")) (by decide +kernel)), List.forall_mem_cons.mpr ⟨fun n => absurd rfl n, fun _ h => absurd h List.not_mem_nil⟩⟩⟩), fun _ h => absurd h List.not_mem_nil⟩⟩⟩)
  · exact (List.forall_mem_cons.mpr ⟨va_Nw.of rfl (hts _ (List.mem_of_getElem? (i := 381) (by decide +kernel))), List.forall_mem_cons.mpr ⟨va_Nw.of rfl (hts _ (List.mem_of_getElem? (i := 383) (by decide +kernel))), List.forall_mem_cons.mpr ⟨va_Nw.of rfl (hts _ (List.mem_of_getElem? (i := 385) (by decide +kernel))), fun _ h => absurd h List.not_mem_nil⟩⟩⟩)
set_option maxRecDepth 20000 in
theorem ev_s127 {s : State} {b : Nat} {A : Nat → Prop} (hts : ∀ w ∈ lw_tbl, w.before #[Value.ref b] s = true) (hgv : (Jvm.Cond.and given_1 narrow_1).before #[Value.ref b] s = true) (hA : ∀ a : Nat, a < s.heap.size → ¬ A a) : ∃ sa, vk_R RX4 127 "the buffer is full" sa s := by
  have hs := flat_of_before _ hgv
  obtain ⟨q, _, _, _, q1, -⟩ := Cond.exactly_spec (args := #[Value.ref b]) (first := s) (o := none) (s := s) (idx := []) (t := Jvm.Term.string "SlantYard" 127) (cls := "java/lang/String") (hs (Jvm.Cond.exactly (Jvm.Term.string "SlantYard" 127) "java/lang/String") (by decide +kernel))
  exact ⟨q, vk_R.of (A := #[Value.ref b]) (hts _ (List.mem_of_getElem? (i := 711) (by decide +kernel))) q1⟩
set_option maxRecDepth 20000 in
theorem ev_s141 {s : State} {b : Nat} {A : Nat → Prop} (hts : ∀ w ∈ lw_tbl, w.before #[Value.ref b] s = true) (hgv : (Jvm.Cond.and given_1 narrow_1).before #[Value.ref b] s = true) (hA : ∀ a : Nat, a < s.heap.size → ¬ A a) : ∃ sa, vk_R RX4 141 "the buffer is not a complete yard" sa s := by
  have hs := flat_of_before _ hgv
  obtain ⟨q, _, _, _, q1, -⟩ := Cond.exactly_spec (args := #[Value.ref b]) (first := s) (o := none) (s := s) (idx := []) (t := Jvm.Term.string "SlantYard" 141) (cls := "java/lang/String") (hs (Jvm.Cond.exactly (Jvm.Term.string "SlantYard" 141) "java/lang/String") (by decide +kernel))
  exact ⟨q, vk_R.of (A := #[Value.ref b]) (hts _ (List.mem_of_getElem? (i := 728) (by decide +kernel))) q1⟩
set_option maxRecDepth 20000 in
theorem ev_s148 {s : State} {b : Nat} {A : Nat → Prop} (hts : ∀ w ∈ lw_tbl, w.before #[Value.ref b] s = true) (hgv : (Jvm.Cond.and given_1 narrow_1).before #[Value.ref b] s = true) (hA : ∀ a : Nat, a < s.heap.size → ¬ A a) : ∃ sa, vk_R RX4 148 "no state is saved" sa s := by
  have hs := flat_of_before _ hgv
  obtain ⟨q, _, _, _, q1, -⟩ := Cond.exactly_spec (args := #[Value.ref b]) (first := s) (o := none) (s := s) (idx := []) (t := Jvm.Term.string "SlantYard" 148) (cls := "java/lang/String") (hs (Jvm.Cond.exactly (Jvm.Term.string "SlantYard" 148) "java/lang/String") (by decide +kernel))
  exact ⟨q, vk_R.of (A := #[Value.ref b]) (hts _ (List.mem_of_getElem? (i := 760) (by decide +kernel))) q1⟩
set_option maxRecDepth 20000 in
theorem ev_s278 {s : State} {b : Nat} {A : Nat → Prop} (hts : ∀ w ∈ lw_tbl, w.before #[Value.ref b] s = true) (hgv : (Jvm.Cond.and given_1 narrow_1).before #[Value.ref b] s = true) (hA : ∀ a : Nat, a < s.heap.size → ¬ A a) : ∃ sa, vk_R RX4 278 "out of range" sa s := by
  have hs := flat_of_before _ hgv
  obtain ⟨q, _, _, _, q1, -⟩ := Cond.exactly_spec (args := #[Value.ref b]) (first := s) (o := none) (s := s) (idx := []) (t := Jvm.Term.string "SlantYard" 278) (cls := "java/lang/String") (hs (Jvm.Cond.exactly (Jvm.Term.string "SlantYard" 278) "java/lang/String") (by decide +kernel))
  exact ⟨q, vk_R.of (A := #[Value.ref b]) (hts _ (List.mem_of_getElem? (i := 418) (by decide +kernel))) q1⟩
set_option maxRecDepth 20000 in
theorem ev_s286 {s : State} {b : Nat} {A : Nat → Prop} (hts : ∀ w ∈ lw_tbl, w.before #[Value.ref b] s = true) (hgv : (Jvm.Cond.and given_1 narrow_1).before #[Value.ref b] s = true) (hA : ∀ a : Nat, a < s.heap.size → ¬ A a) : ∃ sa, vk_R RX4 286 "no such square" sa s := by
  have hs := flat_of_before _ hgv
  obtain ⟨q, _, _, _, q1, -⟩ := Cond.exactly_spec (args := #[Value.ref b]) (first := s) (o := none) (s := s) (idx := []) (t := Jvm.Term.string "SlantYard" 286) (cls := "java/lang/String") (hs (Jvm.Cond.exactly (Jvm.Term.string "SlantYard" 286) "java/lang/String") (by decide +kernel))
  exact ⟨q, vk_R.of (A := #[Value.ref b]) (hts _ (List.mem_of_getElem? (i := 499) (by decide +kernel))) q1⟩
set_option maxRecDepth 20000 in
theorem ev_s289 {s : State} {b : Nat} {A : Nat → Prop} (hts : ∀ w ∈ lw_tbl, w.before #[Value.ref b] s = true) (hgv : (Jvm.Cond.and given_1 narrow_1).before #[Value.ref b] s = true) (hA : ∀ a : Nat, a < s.heap.size → ¬ A a) : ∃ sa, vk_R RX4 289 "no such row or column" sa s := by
  have hs := flat_of_before _ hgv
  obtain ⟨q, _, _, _, q1, -⟩ := Cond.exactly_spec (args := #[Value.ref b]) (first := s) (o := none) (s := s) (idx := []) (t := Jvm.Term.string "SlantYard" 289) (cls := "java/lang/String") (hs (Jvm.Cond.exactly (Jvm.Term.string "SlantYard" 289) "java/lang/String") (by decide +kernel))
  exact ⟨q, vk_R.of (A := #[Value.ref b]) (hts _ (List.mem_of_getElem? (i := 575) (by decide +kernel))) q1⟩
set_option maxRecDepth 20000 in
theorem ev_s291 {s : State} {b : Nat} {A : Nat → Prop} (hts : ∀ w ∈ lw_tbl, w.before #[Value.ref b] s = true) (hgv : (Jvm.Cond.and given_1 narrow_1).before #[Value.ref b] s = true) (hA : ∀ a : Nat, a < s.heap.size → ¬ A a) : ∃ sa, vk_R RX4 291 "the stack is empty" sa s := by
  have hs := flat_of_before _ hgv
  obtain ⟨q, _, _, _, q1, -⟩ := Cond.exactly_spec (args := #[Value.ref b]) (first := s) (o := none) (s := s) (idx := []) (t := Jvm.Term.string "SlantYard" 291) (cls := "java/lang/String") (hs (Jvm.Cond.exactly (Jvm.Term.string "SlantYard" 291) "java/lang/String") (by decide +kernel))
  exact ⟨q, vk_R.of (A := #[Value.ref b]) (hts _ (List.mem_of_getElem? (i := 664) (by decide +kernel))) q1⟩
set_option maxRecDepth 20000 in
theorem ev_s71 {s : State} {b : Nat} {A : Nat → Prop} (hts : ∀ w ∈ lw_tbl, w.before #[Value.ref b] s = true) (hgv : (Jvm.Cond.and given_1 narrow_1).before #[Value.ref b] s = true) (hA : ∀ a : Nat, a < s.heap.size → ¬ A a) : ∃ sa, vk_R RX4 71 "the stack is full" sa s := by
  have hs := flat_of_before _ hgv
  obtain ⟨q, _, _, _, q1, -⟩ := Cond.exactly_spec (args := #[Value.ref b]) (first := s) (o := none) (s := s) (idx := []) (t := Jvm.Term.string "SlantYard" 71) (cls := "java/lang/String") (hs (Jvm.Cond.exactly (Jvm.Term.string "SlantYard" 71) "java/lang/String") (by decide +kernel))
  exact ⟨q, vk_R.of (A := #[Value.ref b]) (hts _ (List.mem_of_getElem? (i := 646) (by decide +kernel))) q1⟩
set_option maxRecDepth 20000 in
theorem ev_s88 {s : State} {b : Nat} {A : Nat → Prop} (hts : ∀ w ∈ lw_tbl, w.before #[Value.ref b] s = true) (hgv : (Jvm.Cond.and given_1 narrow_1).before #[Value.ref b] s = true) (hA : ∀ a : Nat, a < s.heap.size → ¬ A a) : ∃ sa, vk_R RX4 88 "both stacks are the same" sa s := by
  have hs := flat_of_before _ hgv
  obtain ⟨q, _, _, _, q1, -⟩ := Cond.exactly_spec (args := #[Value.ref b]) (first := s) (o := none) (s := s) (idx := []) (t := Jvm.Term.string "SlantYard" 88) (cls := "java/lang/String") (hs (Jvm.Cond.exactly (Jvm.Term.string "SlantYard" 88) "java/lang/String") (by decide +kernel))
  exact ⟨q, vk_R.of (A := #[Value.ref b]) (hts _ (List.mem_of_getElem? (i := 680) (by decide +kernel))) q1⟩
set_option maxRecDepth 20000 in
theorem ev_s90 {s : State} {b : Nat} {A : Nat → Prop} (hts : ∀ w ∈ lw_tbl, w.before #[Value.ref b] s = true) (hgv : (Jvm.Cond.and given_1 narrow_1).before #[Value.ref b] s = true) (hA : ∀ a : Nat, a < s.heap.size → ¬ A a) : ∃ sa, vk_R RX4 90 "the stack would be too high" sa s := by
  have hs := flat_of_before _ hgv
  obtain ⟨q, _, _, _, q1, -⟩ := Cond.exactly_spec (args := #[Value.ref b]) (first := s) (o := none) (s := s) (idx := []) (t := Jvm.Term.string "SlantYard" 90) (cls := "java/lang/String") (hs (Jvm.Cond.exactly (Jvm.Term.string "SlantYard" 90) "java/lang/String") (by decide +kernel))
  exact ⟨q, vk_R.of (A := #[Value.ref b]) (hts _ (List.mem_of_getElem? (i := 681) (by decide +kernel))) q1⟩
set_option maxRecDepth 20000 in
theorem ev_XS {s : State} {b : Nat} {A : Nat → Prop} (hts : ∀ w ∈ lw_tbl, w.before #[Value.ref b] s = true) (hgv : (Jvm.Cond.and given_1 narrow_1).before #[Value.ref b] s = true) (hA : ∀ a : Nat, a < s.heap.size → ¬ A a) : XS A s s.heap := by
  have hs := flat_of_before _ hgv
  refine ⟨vx_Zqof (hts _ (List.mem_of_getElem? (i := 404) (by decide +kernel))) (hts _ (List.mem_of_getElem? (i := 70) (by decide +kernel))) (hs (Jvm.Cond.isRef (Jvm.Term.static "java/lang/Throwable" "UNASSIGNED_STACK" "[Ljava/lang/StackTraceElement;")) (by decide +kernel)) hA, vx_Zqof (hts _ (List.mem_of_getElem? (i := 406) (by decide +kernel))) (hts _ (List.mem_of_getElem? (i := 70) (by decide +kernel))) (hs (Jvm.Cond.isRef (Jvm.Term.static "java/lang/Throwable" "SUPPRESSED_SENTINEL" "Ljava/util/List;")) (by decide +kernel)) hA, ?_⟩
  exact (List.forall_mem_cons.mpr ⟨ev_s127 hts hgv hA, List.forall_mem_cons.mpr ⟨ev_s141 hts hgv hA, List.forall_mem_cons.mpr ⟨ev_s148 hts hgv hA, List.forall_mem_cons.mpr ⟨ev_s278 hts hgv hA, List.forall_mem_cons.mpr ⟨ev_s286 hts hgv hA, List.forall_mem_cons.mpr ⟨ev_s289 hts hgv hA, List.forall_mem_cons.mpr ⟨ev_s291 hts hgv hA, List.forall_mem_cons.mpr ⟨ev_s71 hts hgv hA, List.forall_mem_cons.mpr ⟨ev_s88 hts hgv hA, List.forall_mem_cons.mpr ⟨ev_s90 hts hgv hA, fun _ h => absurd h List.not_mem_nil⟩⟩⟩⟩⟩⟩⟩⟩⟩⟩)
theorem ev_arr {s : State} {args : Array Value} {t : FieldType} (h : (Cond.arrayClass t).before args s = true) (hp : t = .int ∨ t = .boolean ∨ t = .long) : ∃ cA : ClassId, ArrOfT s cA t ∧ va_RA s cA t := by
  obtain ⟨c, k, comp, h1, h2, h3⟩ := Cond.arrayClass_spec h
  refine ⟨c, fun n z => ⟨fun k h => (by cases h), k, h2, comp, h3⟩, ?_⟩
  rcases hp with rfl | rfl | rfl <;> exact h1
theorem ev_yarr {s : State} {args : Array Value} (h : (Cond.arrayOver (.object "SlantYard$Yard")).before args s = true) : ∃ cA : ClassId, ArrOfT s cA (.object "SlantYard$Yard") ∧ va_RA s cA (.object "SlantYard$Yard") := by
  obtain ⟨comp, c, k, h1, h2, h3, h4, h5⟩ := Cond.arrayOver_spec h
  exact ⟨c, fun n z => ⟨fun k h => (by cases h), k, h3, comp, h4⟩, k, comp, h3, h4, h1, h5⟩
set_option maxRecDepth 20000 in
theorem ev_EN {s : State} {b : Nat} {A : Nat → Prop} (hts : ∀ w ∈ lw_tbl, w.before #[Value.ref b] s = true) (hgv : (Jvm.Cond.and given_1 narrow_1).before #[Value.ref b] s = true) (hA : ∀ a : Nat, a < s.heap.size → ¬ A a) : ∃ g : GT, EN g A s s.heap ∧ va_AO "SlantYard$Yard" s := by
  obtain ⟨c0, i0, hk0⟩ := u_known (C := RX0) (T := TX0) (N := 2) (n := 2) hts inX0 (hts (.instantiable RX0 2) (List.mem_of_getElem? (i := 158) (by decide +kernel)))
  obtain ⟨c1, i1, hk1⟩ := u_known (C := RX1) (T := TX1) (N := 3) (n := 3) hts inX1 (hts (.instantiable RX1 3) (List.mem_of_getElem? (i := 138) (by decide +kernel)))
  obtain ⟨c2, i2, hk2⟩ := u_known (C := RX2) (T := TX2) (N := 6) (n := 6) hts inX2 (hts (.instantiable RX2 6) (List.mem_of_getElem? (i := 110) (by decide +kernel)))
  obtain ⟨c3, i3, hk3⟩ := u_known (C := RX3) (T := TX3) (N := 4) (n := 4) hts inX3 (hts (.instantiable RX3 4) (List.mem_of_getElem? (i := 87) (by decide +kernel)))
  obtain ⟨c4, i4, hk4⟩ := u_known (C := RX4) (T := TX4) (N := 8) (n := 8) hts inX4 (hts (.instantiable RX4 8) (List.mem_of_getElem? (i := 79) (by decide +kernel)))
  obtain ⟨c5, i5, hk5⟩ := u_known (C := RX5) (T := TX5) (N := 17) (n := 17) hts inX5 (hts (.instantiable RX5 17) (List.mem_of_getElem? (i := 802) (by decide +kernel)))
  obtain ⟨gi, hi⟩ := ev_arr (hts _ (List.mem_of_getElem? (i := 108) (by decide +kernel))) (Or.inl rfl)
  obtain ⟨gz, hz⟩ := ev_arr (hts _ (List.mem_of_getElem? (i := 859) (by decide +kernel))) (Or.inr (Or.inl rfl))
  obtain ⟨gl, hl⟩ := ev_arr (hts _ (List.mem_of_getElem? (i := 1186) (by decide +kernel))) (Or.inr (Or.inr rfl))
  have hao : (Cond.arrayOver (.object "SlantYard$Yard")).before #[Value.ref b] s = true := hts _ (List.mem_of_getElem? (i := 144) (by decide +kernel))
  obtain ⟨gy, hy⟩ := ev_yarr hao
  obtain ⟨t0, ht0⟩ := ev_st0 hts hgv hA
  obtain ⟨t1, ht1⟩ := ev_st1 hts hgv hA
  obtain ⟨t2, ht2⟩ := ev_st2 hts hgv hA
  obtain ⟨t3, ht3⟩ := ev_st3 hts hgv hA
  obtain ⟨t4, ht4⟩ := ev_st4 hts hgv hA
  obtain ⟨t5, ht5⟩ := ev_st5 hts hgv hA
  refine ⟨((fun k => if k = 0 then c0 else if k = 1 then c1 else if k = 2 then c2 else if k = 3 then c3 else if k = 4 then c4 else c5, fun k => if k = 0 then i0 else if k = 1 then i1 else if k = 2 then i2 else if k = 3 then i3 else if k = 4 then i4 else i5), ((gi, gz, gy, gl), fun k => if k = 0 then t0 else if k = 1 then t1 else if k = 2 then t2 else if k = 3 then t3 else if k = 4 then t4 else t5)), ⟨⟨?_, ?_⟩, ev_NW hts hgv hA, ?_, ev_XS hts hgv hA⟩, va_AO.of hao⟩
  · intro k q hq
    match k, hq with
    | 0, hq => cases hq; exact hk0
    | 1, hq => cases hq; exact hk1
    | 2, hq => cases hq; exact hk2
    | 3, hq => cases hq; exact hk3
    | 4, hq => cases hq; exact hk4
    | 5, hq => cases hq; exact hk5
    | k + 6, hq => simp [vwCl] at hq
  · intro k q hq
    match k, hq with
    | 0, hq => cases hq; exact hi
    | 1, hq => cases hq; exact hz
    | 2, hq => cases hq; exact hy
    | 3, hq => cases hq; exact hl
    | k + 4, hq => simp [tysG] at hq
  · intro k q hq
    match k, hq with
    | 0, hq => cases hq; exact ht0
    | 1, hq => cases hq; exact ht1
    | 2, hq => cases hq; exact ht2
    | 3, hq => cases hq; exact ht3
    | 4, hq => cases hq; exact ht4
    | 5, hq => cases hq; exact ht5
    | k + 6, hq => simp [stL] at hq

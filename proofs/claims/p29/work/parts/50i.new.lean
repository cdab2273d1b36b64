/-! ===== new arrays, rows of longs, catching, bodies with handlers ===== -/
theorem cell_eqQ {cA : ClassId} {n : Nat} {f g : Nat → Option Nat} (h : ∀ j, j < n → f j = g j) : vp_cell cA (n, .inr (.inr (.inr (.inr f)))) = vp_cell cA (n, .inr (.inr (.inr (.inr g)))) := by
  rw [vp_cell_q, vp_cell_q]
  unfold arrV
  congr 1
  apply Array.ext
  · simp
  · intro i h1 h2
    simp only [Array.size_ofFn] at h1
    simp [h i h1]
theorem va_P.reset0 {D : va_G} {cl : List vw_C} {ws : va_W} {q0 a : Nat} {e e' : va_E} {H : Heap} (hq : ws[q0]? = some (a, e)) (h : va_P D cl ws H) (he : va_at D cl (a, e) H → va_at D cl (a, e') H) : va_P D cl (ws.set q0 (a, e')) H := by
  have hl := (List.getElem?_eq_some_iff.mp hq).1
  intro k q hk
  by_cases hkp : k = q0
  · subst hkp
    rw [List.getElem?_set_self hl] at hk
    cases hk
    exact he (h k _ hq)
  · rw [List.getElem?_set_ne (Ne.symm hkp)] at hk
    exact h k q hk
theorem va_P.recellQ {D : va_G} {cl : List vw_C} {ws : va_W} {H : Heap} (hP : va_P D cl ws H) (q0 : Nat) {a n : Nat} {cA : ClassId} {f : Nat → Option Nat} (hq : ws[q0]? = some (a, .inl (cA, n, .inr (.inr (.inr (.inr f)))))) (f' : Nat → Option Nat) (hf : ∀ j, j < n → f j = f' j) : va_P D cl (ws.set q0 (a, .inl (cA, n, .inr (.inr (.inr (.inr f')))))) H := by
  refine va_P.reset0 hq hP (fun h => ?_)
  show H[a]? = some (vp_cell cA _)
  rw [← cell_eqQ hf]
  exact h
section NR
variable {p : Program} {l : Launch} {e : Env} {R : Room} {s : State} {m : MethodId} {args : Array Value} {below : List Frame} {meth : Method} {c : Code} {H : Heap} {locs : List Loc} {cells slots : Nat} {Q : State → Prop}
variable {cc : ByteArray} {pc : Nat} {ls : Array Slot} {rest st0 : List Value}
variable {g : GT} {A A' : Nat → Prop} {H0 : Heap} {ws wc wr w : va_W} {a : Nat} {As : List Value} {E : String}
theorem gI_of {cA : ClassId} (hK : va_K g.1 vwCl (tysG g ++ [(cA, .int)]) s) : cA = gI g := by
  have a : s.vm.findClass ("[" ++ (FieldType.int).toString) = some (gI g) := (hK.2 0 _ rfl).2
  have b : s.vm.findClass ("[" ++ (FieldType.int).toString) = some cA := (hK.2 4 _ rfl).2
  exact Option.some.inj (b.symm.trans a)
theorem gY_of {cA : ClassId} (hK : va_K g.1 vwCl (tysG g ++ [(cA, .object "SlantYard$Yard")]) s) : cA = gY g := by
  obtain ⟨_, _, _, _, _, a⟩ := (hK.2 2 _ rfl).2
  obtain ⟨_, _, _, _, _, b⟩ := (hK.2 4 _ rfl).2
  exact Option.some.inj (b.symm.trans a)
theorem iI_nn {N : Nat} (h : N < 2147483648) : ¬ iI (N : Int) < 0 := fun q => by
  rw [← iI_zero, iI_lt ⟨by omega, by omega⟩ ⟨by decide, by decide⟩] at q
  omega
theorem ln_newI (hx : p.tables.exec = Jvm.exec) (hb : c.code = cc) (harr : (Cond.arrayClass .int).before args s = true) (hE : EN g A' s s.heap) (hP : va_P g.1 vwCl ws H) (hD : va_D A ws) (hS : va_S A H0 H locs) (hA : ∀ q, H0.size ≤ q → A q) (N : Nat) {x : Int} (hx0 : x = (N : Int)) (hN : N < 100000) (hcells : cells + 1 ≤ R.cells) (hslots : slots + N ≤ R.slots) (hdg : decode cc pc = .ok (.newarray .int, 2))
    (kk : ∀ (q : Nat) (H : Heap), va_P g.1 vwCl (ws ++ [(q, .inl (gI g, N, .inl (aI (fun _ => 0))))]) H → va_D A (ws ++ [(q, .inl (gI g, N, .inl (aI (fun _ => 0))))]) → va_S A H0 H locs → W p l e R s m args below meth c H locs (cells + 1) (slots + N) Q (F0 m (pc + 2) ls (.ref q :: rest))) : W p l e R s m args below meth c H locs cells slots Q (F0 m pc ls (.int (iI x) :: rest)) := by
  subst hx0
  refine va_newa (atype := .int) (ty := .int) (N' := N) (a0 := (N, .inl (aI (fun _ => 0)))) hx hb harr rfl hE.1 hP hD hS hA (fun cA => rfl) (iI_nn (by omega)) ((iI_clamp (by omega) (by omega)).trans (Int.toNat_natCast N)) (by show N * 4 ≤ _; omega) hcells hslots hdg (fun q cA H1 hK hP hD hS => ?_)
  obtain rfl := gI_of hK
  exact kk q H1 hP hD hS
theorem ln_newY (hx : p.tables.exec = Jvm.exec) (hb : c.code = cc) {own : String} {index : Nat} (hown : s.vm.findClass own = some m.cls) (hclink : (Cond.classLink own index RX3).before args s = true) (hover : va_AO "SlantYard$Yard" s) (hE : EN g A' s s.heap) (hP : va_P g.1 vwCl ws H) (hD : va_D A ws) (hS : va_S A H0 H locs) (hA : ∀ q, H0.size ≤ q → A q) (N : Nat) {x : Int} (hx0 : x = (N : Int)) (hN : N < 100000) (hcells : cells + 1 ≤ R.cells) (hslots : slots + N ≤ R.slots) (hdg : decode cc pc = .ok (.anewarray index, 3))
    (kk : ∀ (q : Nat) (H : Heap), va_P g.1 vwCl (ws ++ [(q, .inl (gY g, N, .inr (.inr (.inr (.inr (fun _ => none))))))]) H → va_D A (ws ++ [(q, .inl (gY g, N, .inr (.inr (.inr (.inr (fun _ => none))))))]) → va_S A H0 H locs → W p l e R s m args below meth c H locs (cells + 1) (slots + N) Q (F0 m (pc + 3) ls (.ref q :: rest))) : W p l e R s m args below meth c H locs cells slots Q (F0 m pc ls (.int (iI x) :: rest)) := by
  subst hx0
  refine va_newq (C := "SlantYard$Yard") (N' := N) hx hb hown hclink hover hE.1 hP hD hS hA (iI_nn (by omega)) ((iI_clamp (by omega) (by omega)).trans (Int.toNat_natCast N)) (by omega) hcells hslots hdg (fun q cA H1 hK hP hD hS => ?_)
  obtain rfl := gY_of hK
  exact kk q H1 hP hD hS
end NR
/-! ===== with the word of the yards' arrays ===== -/
abbrev MUa (g : GT) (w : va_W) (av : List Value) (sz : Nat) : Array Value → State → Prop := va_Pc av (fun U => (U.heap.size = sz ∧ va_P g.1 vwCl w U.heap ∧ va_D (fun _ => True) w ∧ EN g (va_A w sz) U U.heap) ∧ va_AO "SlantYard$Yard" U)
theorem MUa.blind {g : GT} {w : va_W} {av : List Value} {sz : Nat} : FrameBlind (MUa g w av sz) := fun a U gg mk q => ⟨q.1, ⟨q.2.1.1, q.2.1.2.1, q.2.1.2.2.1, EN.same (u := U) (U := U.calling gg mk a) rfl q.2.1.2.2.2⟩, va_AO.moved (u := U) (Vm.Alike.refl U.vm) q.2.2⟩
abbrev MutVa (l : Launch) (y : MethodName) (ws : List Cond) (rm : Room) (mc ms : Nat) (g : GT) (w : va_W) (av : List Value) {S : Type} (post : S → Prop) (w' : S → va_W) : Prop := ∀ sz : Nat, Met l y ws rm (MUa g w av sz) (va_Qv (fun (u : S) => post u) (fun u t => MB g (w' u) (va_A w sz) t) (va_A w sz)) mc ms (va_A w sz)
theorem mut_ofa {l : Launch} {y : MethodName} {ws ws' : List Cond} {rm : Room} {mc ms : Nat} {g : GT} {w : va_W} {av : List Value} {Qc : (Nat → Prop) → Array Value → State → Outcome → State → Prop} {cc : ByteArray} {maxL : Nat} {ret : Option FieldType} (hy : plainName y.cls = true) (hw : ws = Cond.code y cc maxL ret :: ws') (hn : (lg_sl av).length ≤ maxL)
    (body : ∀ (p : Program) (e : Env) (s : State) (m : MethodId) (below : List Frame) (meth : Method) (c : Code) (A : Nat → Prop), FX p s m av.toArray meth c cc maxL ret ws y.cls → (y.name = "<init>" → meth.name = "<init>") → (∀ q : Nat, s.heap.size ≤ q → A q) → va_P g.1 vwCl w s.heap → va_D A w → EN g A s s.heap → va_AO "SlantYard$Yard" s → va_S A s.heap s.heap [] → ∀ ls : Array Slot, lv_has ls maxL (lv_args 0 av) → W p l e rm s m av.toArray below meth c s.heap [] 0 0 (MQ below (Qc A) av.toArray s mc ms A) (F0 m 0 ls [])) : ∀ sz : Nat, Met l y ws rm (MUa g w av sz) (Qc (va_A w sz)) mc ms (va_A w sz) := by
  intro sz
  refine Met.ofW (cc := cc) (maxL := maxL) (ret := ret) hy hw ?_
  intro p e s m args below meth c s₁ B hml hv
  obtain ⟨rfl, ⟨rfl, hP, hD0, hE⟩, hAO⟩ := hv
  have hl := lv_entry av (n := maxL) hn
  rw [lg_entry_eq]
  exact body p e s m below meth c _ ⟨B.exec, B.bytes, B.returns, hml, atoms_spec (ws := ws) B.pre, findClass_of_methodNamed B.named, B.notSynchronized⟩ (fun h => (name_of_methodNamed B.named B.method).1.trans h) (fun q h => Or.inr h) hP (hD0.self (sz := s.heap.size)) hE hAO va_S.rf _ hl
theorem muSa {g : GT} {s : State} {A : Nat → Prop} {H : Heap} {locs : List Loc} {As : List Value} {w : va_W} (hE : EN g A s s.heap) (hAO : va_AO "SlantYard$Yard" s) (hS : va_S A s.heap H locs) (hP : va_P g.1 vwCl w H) (hD : va_D A w) (hA : ∀ q, va_A w H.size q → A q) : PreS s H (MUa g w As H.size) As := ⟨MUa.blind, fun U hU hW => ⟨rfl, ⟨by rw [hU], by rw [hU]; exact hP, hD.weaken (fun _ _ _ _ => trivial), hE.call hS hA hU hW⟩, va_AO.moved hW.alike hAO⟩⟩

/-! ===== methods that throw ===== -/
abbrev XT (g : GT) (w : va_W) (A : Nat → Prop) (E : String) : String → State → State → Prop := vx_X (fun (_ : Unit) => True) (fun E9 _ t => E9 = E ∧ MB g w A t) A
abbrev QF (A : Nat → Prop) : Array Value → State → Outcome → State → Prop := va_Qv (fun (_ : Unit) => False) (fun _ _ => True) A
/-- it throws E, and its world stays -/
abbrev MetX (l : Launch) (y : MethodName) (ws : List Cond) (rm : Room) (g : GT) (w : va_W) (av : List Value) (E : String) : Prop := ∀ sz : Nat, vx_Met l y ws rm (MU g w av sz) (QF (va_A w sz)) (XT g w (va_A w sz) E) 1 6 (va_A w sz)
theorem thr_of {l : Launch} {y : MethodName} {ws ws' : List Cond} {rm : Room} {g : GT} {w : va_W} {av : List Value} {E : String} {cc : ByteArray} {maxL : Nat} {ret : Option FieldType} (hy : plainName y.cls = true) (hw : ws = Cond.code y cc maxL ret :: ws') (hn : (lg_sl av).length ≤ maxL)
    (body : ∀ (p : Program) (e : Env) (s : State) (m : MethodId) (below : List Frame) (meth : Method) (c : Code) (A : Nat → Prop), FX p s m av.toArray meth c cc maxL ret ws y.cls → (∀ x ∈ c.exceptionTable.toList, False) → (∀ q : Nat, s.heap.size ≤ q → A q) → va_P g.1 vwCl w s.heap → va_D A w → EN g A s s.heap → va_S A s.heap s.heap [] → ∀ ls : Array Slot, lv_has ls maxL (lv_args 0 av) → W p l e rm s m av.toArray below meth c s.heap [] 0 0 (vx_MQ below (QF A) (XT g w A E) av.toArray s 1 6 A) (F0 m 0 ls [])) : MetX l y ws rm g w av E := by
  intro sz
  refine vx_ofW (cc := cc) (maxL := maxL) (ret := ret) hy hw ?_
  intro p e s m args below meth c s₁ B hml hET hv
  obtain ⟨rfl, rfl, hP, hD0, hE⟩ := hv
  have hl := lv_entry av (n := maxL) hn
  rw [lg_entry_eq]
  exact body p e s m below meth c _ ⟨B.exec, B.bytes, B.returns, hml, atoms_spec (ws := ws) B.pre, findClass_of_methodNamed B.named, B.notSynchronized⟩ hET (fun q h => Or.inr h) hP (hD0.self (sz := s.heap.size)) hE va_S.rf _ hl
section LX
variable {p : Program} {l : Launch} {e : Env} {R : Room} {s : State} {m : MethodId} {args : Array Value} {below : List Frame} {meth : Method} {c : Code} {H : Heap} {locs : List Loc} {cells slots : Nat} {Q : State → Prop}
variable {cc : ByteArray} {pc : Nat} {ls : Array Slot} {rest st0 : List Value} {g : GT} {A : Nat → Prop} {ws wc wr w : va_W} {mc ms : Nat} {a : Array Value} {E : String} {Qc : Array Value → State → Outcome → State → Prop}
theorem thr_keep {t : State} (hP : va_P g.1 vwCl w H) (hk : ∀ q : Nat, q < H.size → t.heap[q]? = H[q]?) : va_P g.1 vwCl w t.heap := hP.kept (fun k q hq => hk q.1 (hP k q hq).lt)
/-- a callee has thrown: it goes on to the caller -/
theorem thr_call (hr : vx_Run p l e R s m args below meth c H locs cells slots 1 6 (F0 m pc ls st0) rest (QF (va_A wc H.size) a) (XT g wc (va_A wc H.size) E) (va_A wc H.size)) (hP : va_P g.1 vwCl ws H) (hD : va_D A ws) (hS : va_S A s.heap H locs) (hA : ∀ q : Nat, s.heap.size ≤ q → A q) (isC isR perm : List Nat) (hC : isC.map (fun i => ws[i]?) = wc.map some) (hR : isR.map (fun i => ws[i]?) = wr.map some) (hn : va_nd isR = true) (hdis : ∀ i ∈ isR, i ∉ isC) (hperm : perm.map (fun i => (wr ++ wc)[i]?) = w.map some) (hpn : va_nd perm = true)
    (hET : ∀ x ∈ c.exceptionTable.toList, False) (hlk : meth.locks = false) (hc : cells + 1 ≤ mc) (hs : slots + 6 ≤ ms) : W p l e R s m args below meth c H locs cells slots (vx_MQ below Qc (XT g w A E) args s mc ms A) (F0 m pc ls st0) := by
  have hF := va_free (wc := wc) hD hS hA isC hC
  refine vx_callv hr hS (fun q _ h => hF q h) hF (fun q _ h => hF q h) ?_ (fun u t H1 locs1 ht hvm hp hB hz1 hk1 hS1 => hp.elim)
  intro E9 ce q9 u t H1 locs1 ht hvm hpx hB hz1 hk1 hS1 hcell hv hcl
  obtain ⟨rfl, hP1, hD1⟩ := hB
  rw [ht] at hP1
  obtain ⟨hP2, hD2⟩ := va_join (wr := wr) (w1 := wc) hP hD isC isR hC hR hn hdis hk1 hF hP1 hD1
  have hP3 := hP2.sub perm (fm_of hperm)
  have hD3 := hD2.sub perm hpn hperm
  exact vx_out (fun x hx => (hET x hx).elim) hlk hcell hv hcl (fun t2 ht2 hvm2 => ⟨(), trivial, ⟨rfl, by rw [ht2]; exact hP3, hD3⟩, hS1.F ht2⟩) hS1.2.2 hc hs
/-- throw new E(text) -/
theorem thr_new (hx : p.tables.exec = Jvm.exec) (hb : c.code = cc) (hst : l.stackTraces = false) {text : String} {ik is ic : Nat} (hown : s.vm.findClass RX4 = some m.cls) (hcls : Bundle.fit E = true) (hk : (Cond.classLink RX4 ik E).before args s = true) (hini : (Cond.initialized E).before args s = true) (hE : EN g A s s.heap) (htx : (is, text) ∈ sxL) (hex : E ∈ exL)
    (hat : ∀ w ∈ (vx_atS RX4 ic E ["java/lang/RuntimeException", "java/lang/Exception"]).filter goodWord, w.before args s = true) (hng : ∀ w ∈ (vx_atS RX4 ic E ["java/lang/RuntimeException", "java/lang/Exception"]).filter (fun w => !goodWord w), w ∈ Cond.castable E E :: exD.map (fun q => Cond.declares (Bundle.initS q)))
    (hgood : ∀ w ∈ Cond.classLink RX4 ik E :: Cond.initialized E :: vx_atS RX4 ic E ["java/lang/RuntimeException", "java/lang/Exception"], vx_ot w = true)
    (hS : va_S A s.heap H locs) (hP : va_P g.1 vwCl w H) (hD : va_D A w) (hsize : ls.size = c.maxLocals)
    (d0 : decode cc pc = .ok (.new ik, 3)) (d3 : decode cc (pc + 3) = .ok (.dup, 1)) (d4 : decode cc (pc + 4) = .ok (.ldc is, 2)) (d6 : decode cc (pc + 6) = .ok (.invokespecial ic, 3)) (d9 : decode cc (pc + 9) = .ok (.athrow, 1))
    (hET : ∀ x ∈ c.exceptionTable.toList, False) (hRf : 5 < R.frames) (hRl : (rest.map fun v => v.category).sum + 82 ≤ R.locals) (hRc : cells + 1 ≤ R.cells) (hRs : slots + 6 ≤ R.slots) (hlk : meth.locks = false) (hc : cells + 1 ≤ mc) (hs : slots + 6 ≤ ms) : W p l e R s m args below meth c H locs cells slots (vx_MQ below Qc (XT g w A E) args s mc ms A) (F0 m pc ls rest) := by
  obtain ⟨sa, hsa⟩ := hE.2.2.2.2.2 _ htx
  refine vx_throwS (text := text) (sa := sa) (A := A) (names := ["java/lang/RuntimeException", "java/lang/Exception"]) hx hb hst hown hcls (by decide +kernel) hk hini hsa (vx_hat hat hng (fun w hw => by
    rcases List.mem_cons.mp hw with e | e
    · rw [e]; exact va_Nw.use rfl (hE.2.1.2.2.1 E hex)
    · obtain ⟨q, hq, e2⟩ := List.mem_map.mp e
      rw [← e2]; exact va_Nw.use rfl (hE.2.1.2.2.2.2 q hq))) hgood hE.2.2.2.1 hE.2.2.2.2.1 hS hsize d0 d3 d4 d6 d9 (fun x h => (hET x h).elim) (by show 2 + 3 < R.frames; exact hRf) (by show _ + (13 * (2 + 1) + 43) ≤ R.locals; exact hRl) hRc hRs hlk ?_ hS.2.2 hc hs
  intro t hvm hz hkp
  exact ⟨(), trivial, ⟨rfl, thr_keep hP hkp, hD⟩, Nat.le_trans hS.1 hz, fun q h1 h2 => (hkp q (Nat.lt_of_lt_of_le h1 hS.1)).trans (hS.2.1 q h1 h2)⟩
/-- throw new E(text) -/
theorem thr_newW (hx : p.tables.exec = Jvm.exec) (hb : c.code = cc) (hst : l.stackTraces = false) {text : String} {ik is ic : Nat} (hown : s.vm.findClass RX4 = some m.cls) (hcls : Bundle.fit E = true) (hk : (Cond.classLink RX4 ik E).before args s = true) (hini : (Cond.initialized E).before args s = true) (hE : EN g A s s.heap) (htx : (is, text) ∈ sxL) (hex : E ∈ exL)
    (hat : ∀ w ∈ (vx_atS RX4 ic E ["java/lang/RuntimeException", "java/lang/Exception"]).filter goodWord, w.before args s = true) (hng : ∀ w ∈ (vx_atS RX4 ic E ["java/lang/RuntimeException", "java/lang/Exception"]).filter (fun w => !goodWord w), w ∈ Cond.castable E E :: exD.map (fun q => Cond.declares (Bundle.initS q)))
    (hgood : ∀ w ∈ Cond.classLink RX4 ik E :: Cond.initialized E :: vx_atS RX4 ic E ["java/lang/RuntimeException", "java/lang/Exception"], vx_ot w = true)
    (hS : va_S A s.heap H locs) (hP : va_P g.1 vwCl w H) (hD : va_D A w) (hsize : ls.size = c.maxLocals)
    (d0 : decode cc pc = .ok (.new ik, 3)) (d3 : decode cc (pc + 3) = .ok (.dup, 1)) (d4 : decode cc (pc + 4) = .ok (.ldc_w is, 3)) (d6 : decode cc (pc + 7) = .ok (.invokespecial ic, 3)) (d9 : decode cc (pc + 10) = .ok (.athrow, 1))
    (hET : ∀ x ∈ c.exceptionTable.toList, False) (hRf : 5 < R.frames) (hRl : (rest.map fun v => v.category).sum + 82 ≤ R.locals) (hRc : cells + 1 ≤ R.cells) (hRs : slots + 6 ≤ R.slots) (hlk : meth.locks = false) (hc : cells + 1 ≤ mc) (hs : slots + 6 ≤ ms) : W p l e R s m args below meth c H locs cells slots (vx_MQ below Qc (XT g w A E) args s mc ms A) (F0 m pc ls rest) := by
  obtain ⟨sa, hsa⟩ := hE.2.2.2.2.2 _ htx
  refine vx_throwSW (text := text) (sa := sa) (A := A) (names := ["java/lang/RuntimeException", "java/lang/Exception"]) hx hb hst hown hcls (by decide +kernel) hk hini hsa (vx_hat hat hng (fun w hw => by
    rcases List.mem_cons.mp hw with e | e
    · rw [e]; exact va_Nw.use rfl (hE.2.1.2.2.1 E hex)
    · obtain ⟨q, hq, e2⟩ := List.mem_map.mp e
      rw [← e2]; exact va_Nw.use rfl (hE.2.1.2.2.2.2 q hq))) hgood hE.2.2.2.1 hE.2.2.2.2.1 hS hsize d0 d3 d4 d6 d9 (fun x h => (hET x h).elim) (by show 2 + 3 < R.frames; exact hRf) (by show _ + (13 * (2 + 1) + 43) ≤ R.locals; exact hRl) hRc hRs hlk ?_ hS.2.2 hc hs
  intro t hvm hz hkp
  exact ⟨(), trivial, ⟨rfl, thr_keep hP hkp, hD⟩, Nat.le_trans hS.1 hz, fun q h1 h2 => (hkp q (Nat.lt_of_lt_of_le h1 hS.1)).trans (hS.2.1 q h1 h2)⟩
end LX
abbrev exN : List String := ["java/lang/RuntimeException", "java/lang/Exception"]
theorem ng_IllegalArgumentException : ∀ w ∈ (vx_atS RX4 143 "java/lang/IllegalArgumentException" exN).filter (fun w => !goodWord w), w ∈ Cond.castable "java/lang/IllegalArgumentException" "java/lang/IllegalArgumentException" :: exD.map (fun q => Cond.declares (Bundle.initS q)) := by decide +kernel
theorem ng_IllegalStateException : ∀ w ∈ (vx_atS RX4 73 "java/lang/IllegalStateException" exN).filter (fun w => !goodWord w), w ∈ Cond.castable "java/lang/IllegalStateException" "java/lang/IllegalStateException" :: exD.map (fun q => Cond.declares (Bundle.initS q)) := by decide +kernel
theorem ng_IndexOutOfBoundsException : ∀ w ∈ (vx_atS RX4 288 "java/lang/IndexOutOfBoundsException" exN).filter (fun w => !goodWord w), w ∈ Cond.castable "java/lang/IndexOutOfBoundsException" "java/lang/IndexOutOfBoundsException" :: exD.map (fun q => Cond.declares (Bundle.initS q)) := by decide +kernel
theorem gd_IllegalArgumentException : ∀ w ∈ Cond.classLink RX4 139 "java/lang/IllegalArgumentException" :: Cond.initialized "java/lang/IllegalArgumentException" :: vx_atS RX4 143 "java/lang/IllegalArgumentException" exN, vx_ot w = true := by decide +kernel
theorem gd_IllegalStateException : ∀ w ∈ Cond.classLink RX4 69 "java/lang/IllegalStateException" :: Cond.initialized "java/lang/IllegalStateException" :: vx_atS RX4 73 "java/lang/IllegalStateException" exN, vx_ot w = true := by decide +kernel
theorem gd_IndexOutOfBoundsException : ∀ w ∈ Cond.classLink RX4 284 "java/lang/IndexOutOfBoundsException" :: Cond.initialized "java/lang/IndexOutOfBoundsException" :: vx_atS RX4 288 "java/lang/IndexOutOfBoundsException" exN, vx_ot w = true := by decide +kernel

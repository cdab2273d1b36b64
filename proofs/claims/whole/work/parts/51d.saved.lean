/-! ===== what is saved, in both ===== -/
def SVd (hf hn : Int) (HN HO : Int → Int) (HH HC : Int → Int → Int) (f : Int → Int) : Prop := ∀ i, 0 ≤ i → i < hn → YOk (HN ((hf + i) % 6)) (HO ((hf + i) % 6)) (HH ((hf + i) % 6)) (HC ((hf + i) % 6)) ∧ ∀ j, 0 ≤ j → j < 326 → f (i * 326 + j) = zF (HN ((hf + i) % 6)) (HO ((hf + i) % 6)) (HH ((hf + i) % 6)) (HC ((hf + i) % 6)) j
theorem SVd.none (hf : Int) (HN HO : Int → Int) (HH HC : Int → Int → Int) (f : Int → Int) : SVd hf 0 HN HO HH HC f := fun i a b => absurd b (by omega)
theorem SVd.pop {hf hn : Int} {HN HO : Int → Int} {HH HC : Int → Int → Int} {f : Int → Int} (H : SVd hf hn HN HO HH HC f) : SVd hf (hn - 1) HN HO HH HC f := fun i a b => H i a (by omega)
theorem sv_rg {hf hn : Int} (hQ : (0 ≤ hf ∧ hf ≤ 5) ∧ 0 ≤ hn ∧ hn ≤ 6) : (0 ≤ svF hf hn ∧ svF hf hn ≤ 5) ∧ 0 ≤ svL hn + 1 ∧ svL hn + 1 ≤ 6 := by
  unfold svF svL
  split <;> omega
theorem updF_s {f : Int → Int → Int} {i : Int} {v : Int → Int} : updF f i v i = v := if_pos rfl
theorem updF_n {f : Int → Int → Int} {i j : Int} {v : Int → Int} (h : j ≠ i) : updF f i v j = f j := if_neg h
theorem SVd.save {hf hn n ho : Int} {HN HO : Int → Int} {HH HC : Int → Int → Int} {f h c : Int → Int} (H : SVd hf hn HN HO HH HC f) (hQ : (0 ≤ hf ∧ hf ≤ 5) ∧ 0 ≤ hn ∧ hn ≤ 6) (hY : YOk n ho h c) : SVd (svF hf hn) (svL hn + 1) (updI HN ((svF hf hn + svL hn) % 6) n) (updI HO ((svF hf hn + svL hn) % 6) ho) (updF HH ((svF hf hn + svL hn) % 6) h) (updF HC ((svF hf hn + svL hn) % 6) c) (svM (olF f hn) (svL hn) (zF n ho h c) 326) := by
  intro i h0 h1
  have R : (hn = 6 ∧ svF hf hn = (hf + 1) % 6 ∧ svL hn = 5 ∧ olF f hn = mvF f 1630) ∨ (hn ≠ 6 ∧ svF hf hn = hf ∧ svL hn = hn ∧ olF f hn = f) := by
    unfold svF svL olF
    by_cases q : hn = 6
    · exact Or.inl ⟨q, if_pos q, if_pos q, if_pos q⟩
    · exact Or.inr ⟨q, if_neg q, if_neg q, if_neg q⟩
  by_cases e : i = svL hn
  · subst e
    rw [updI_s, updI_s, updF_s, updF_s]
    refine ⟨hY, fun j a b => ?_⟩
    unfold svM
    rw [if_pos ⟨by omega, by omega⟩, show svL hn * 326 + j - svL hn * 326 = j by omega]
  · have ne : (svF hf hn + i) % 6 ≠ (svF hf hn + svL hn) % 6 := by
      rcases R with ⟨r1, r2, r3, r4⟩ | ⟨r1, r2, r3, r4⟩ <;> omega
    rw [updI_n ne, updI_n ne, updF_n ne, updF_n ne]
    rcases R with ⟨r1, r2, r3, r4⟩ | ⟨r1, r2, r3, r4⟩
    · have K := H (i + 1) (by omega) (by omega)
      rw [show (hf + (i + 1)) % 6 = (svF hf hn + i) % 6 by omega] at K
      refine ⟨K.1, fun j a b => ?_⟩
      unfold svM
      rw [if_neg (by omega), r4]
      unfold mvF
      rw [if_pos (by omega), show i * 326 + j + 326 = (i + 1) * 326 + j by omega]
      exact K.2 j a b
    · have K := H i h0 (by omega)
      rw [show (hf + i) % 6 = (svF hf hn + i) % 6 by omega] at K
      refine ⟨K.1, fun j a b => ?_⟩
      unfold svM
      rw [if_neg (by omega), r4]
      exact K.2 j a b
theorem YOk.bl {n ho : Int} {b : Int → Int} {L : Int} (hL : dfaK b L = 4 ∨ dfaK b L = 6) : ∀ (k : Nat) (s d : Int) (h c : Int → Int), YOk n ho h c → 0 ≤ s → (s < L → dfaK b s = 0) → YOk n ho (runO b L n k s d h c).2.1 (runO b L n k s d h c).2.2
  | 0, _, _, _, _, H, _, _ => H
  | k + 1, s, d, h, c, H, h0, hs => by
    unfold runO
    by_cases q : s < L
    · rw [if_pos q]
      have w := ordW_of hL h0 q (hs q)
      by_cases r : ordP n h b s (endI b L s)
      · rw [if_pos r]
        have e := w.1.1
        exact YOk.bl hL k _ _ _ _ (YOk.ord H w.1) (by omega) (fun z => (w.2 (by omega)).2)
      · rw [if_neg r]; exact H
    · rw [if_neg q]; exact H
theorem BOk.add {b : Int → Int} {L d : Int} (H : BOk b L) (h6 : L < 60) (hd : 33 ≤ d ∧ d ≤ 126) : BOk (updI b L d) (L + 1) := by
  have a := H.1
  refine ⟨⟨by omega, by omega⟩, fun j => ?_⟩
  have b1 := H.2 j
  unfold updI
  split <;> omega
theorem BOk.zero {b : Int → Int} {L : Int} (H : BOk b L) : BOk b 0 := ⟨⟨by decide, by decide⟩, H.2⟩
theorem cmpN_e (a : Nat) : cmpN a a = 0 := by
  unfold cmpN
  rw [if_neg (Nat.lt_irrefl a), if_pos rfl]
theorem dcmp_e {d : UInt64} (h : dOk d) (op : CmpOp) : Value.int (Op.cmpValue (FP.dcmp d d) op) = .int (iI 0) := by
  have q : d.toNat < 0x7ff0000000000000 := by unfold dOk at h; omega
  rw [fp_cmp q q op, cmpN_e]

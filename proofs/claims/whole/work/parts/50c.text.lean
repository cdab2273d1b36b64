/-! ===== texts, the model's way ===== -/
theorem ord_no {n : Int} {h c b : Int → Int} {s e : Int} (q : ¬ ordP n h b s e) : ordH n h b s e = h ∧ ordC n h c b s e = c := ⟨if_neg q, if_neg q⟩
theorem err_bad {b : Int → Int} {k L : Int} (h : 0 ≤ k) (hk1 : dfaK b (k + 1) = -1) (hL : k < L) : dfaK b L = -1 := dfaK_stay (k := k + 1) (by omega) hk1 (by omega)

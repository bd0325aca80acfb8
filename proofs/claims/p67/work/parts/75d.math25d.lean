/-- the bytes that stand ahead of i -/
def Fed (T : List Nat) (i : Nat) (r : G) : Prop := r 0 2 = nI i ∧ ∀ j, j < i → r 13 j = nI (chT T j)
theorem tk4_fed {T : List Nat} {i q : Nat} {r : G} (h : Lat T) (hF : Fed T (i + 4 * q) r) : Fed T (i + 4 * (q + 1)) (tkN r (i + 4 * q) (nI (accW T i q 4)) 4) := by
  obtain ⟨b0, b1, b2, b3⟩ := byt_w (i := i) (q := q) h
  refine ⟨rfl, fun j hj => ?_⟩
  show upd (upd (upd (upd (r 13) (i + 4 * q + 0) (byt (nI (accW T i q 4)) (shI 0))) (i + 4 * q + 1) (byt (nI (accW T i q 4)) (shI 1))) (i + 4 * q + 2) (byt (nI (accW T i q 4)) (shI 2))) (i + 4 * q + 3) (byt (nI (accW T i q 4)) (shI 3)) j = _
  rw [b0, b1, b2, b3]
  by_cases e3 : j = i + 4 * q + 3
  · subst e3; rw [upd_s]
  rw [upd_o e3]
  by_cases e2 : j = i + 4 * q + 2
  · subst e2; rw [upd_s]
  rw [upd_o e2]
  by_cases e1 : j = i + 4 * q + 1
  · subst e1; rw [upd_s]
  rw [upd_o e1]
  by_cases e0 : j = i + 4 * q
  · subst e0; exact upd_s
  rw [upd_o (by omega)]
  exact hF.2 j (by omega)

theorem wdsF_s {T : List Nat} {i k : Nat} (h : Lat T) (hk : k < 20) : upd (wdsF T i k) (k / 4) ((wdsF T i k (k / 4) <<< (nI 8 &&& 31)) ||| nI (chT T (i + k))) = wdsF T i (k + 1) := by
  funext q
  by_cases e : q = k / 4
  · subst e
    rw [upd_s]
    unfold wdsF
    have h1 : min 4 (k - 4 * (k / 4)) = k % 4 := by omega
    have h2 : min 4 (k + 1 - 4 * (k / 4)) = k % 4 + 1 := by omega
    have h3 := accW_lt h (i := i) (q := k / 4) (k % 4)
    have h4 : 256 ^ (k % 4) ≤ 256 ^ 3 := Nat.pow_le_pow_right (by omega) (by omega)
    rw [h1, h2, wrd_step (by omega) (chT_lt h _)]
    show _ = nI (accW T i (k / 4) (k % 4) * 256 + chT T (i + 4 * (k / 4) + k % 4))
    rw [show i + 4 * (k / 4) + k % 4 = i + k by omega]
  · rw [upd_o e]
    unfold wdsF
    rw [show min 4 (k - 4 * q) = min 4 (k + 1 - 4 * q) by omega]
theorem wdsF_0 {T : List Nat} {i : Nat} : (fun _ => 0) = wdsF T i 0 := by
  funext q
  unfold wdsF
  rw [show min 4 (0 - 4 * q) = 0 by omega]
  rfl

/-! READS OF MANY PLACES -/
theorem chk_s {m : Mg} {n j : Nat} {x : Int64} (h : j < n) : forG (fun p (x : Int64) => x * 31 + (valM m p).toInt64) j (n - j) x = forG (fun p (x : Int64) => x * 31 + (valM m p).toInt64) (j + 1) (n - (j + 1)) (x * 31 + (valM m j).toInt64) := forG_s h
theorem sum_s {m : Mg} {b j : Nat} {x : Int32} (h : j < b) : forG (fun p (x : Int32) => x + valM m p) j (b - j) x = forG (fun p (x : Int32) => x + valM m p) (j + 1) (b - (j + 1)) (x + valM m j) := forG_s h
theorem fst_s {f : Nat → Bool} {i n : Nat} (h : i < n) : fstG f i (n - i) = if f i then some i else fstG f (i + 1) (n - (i + 1)) := by
  rw [show n - i = (n - (i + 1)) + 1 by omega]
  rfl
theorem fst_0 {f : Nat → Bool} {i n : Nat} (h : n ≤ i) : fstG f i (n - i) = none := by
  rw [show n - i = 0 by omega]
  rfl
theorem cd_fd {n a v : Nat} (h1 : ¬ n = 0) (ha : a < n) (h31 : n < 2 ^ 31) (hv : v < 256) : cdL [(decide (n = 0), 1), (!plB n (nI a), 2), (!inB (nI v) 0 255, 3)] = 0 := by
  rw [cd_h h1 ha h31, cdL_f (by rw [inB_n (by omega) (by omega) (by omega)]; rfl)]
  rfl
theorem lcmp_same (x : Int64) : lg_cmp x x = 0 := by
  unfold lg_cmp
  simp
theorem cnt_dn {f : Nat → Bool} {t c : Nat} (h : f (t - 1) = false) (ht : 1 ≤ t) : cntG f t (c + 1 - t) + 0 = cntG f (t - 1) (c + 1 - (t - 1)) := by
  by_cases hc : t - 1 < c + 1
  · rw [cntG_s hc, h, if_neg Bool.false_ne_true, show t - 1 + 1 = t by omega]
    omega
  · rw [cntG_0 (show c + 1 ≤ t by omega), cntG_0 (show c + 1 ≤ t - 1 by omega)]

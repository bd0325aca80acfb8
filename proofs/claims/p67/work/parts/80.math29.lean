/-! READS OF MANY PLACES -/
theorem chk_s {m : Mg} {n j : Nat} {x : Int64} (h : j < n) : forG (fun p (x : Int64) => x * 31 + (valM m p).toInt64) j (n - j) x = forG (fun p (x : Int64) => x * 31 + (valM m p).toInt64) (j + 1) (n - (j + 1)) (x * 31 + (valM m j).toInt64) := forG_s h
theorem sum_s {m : Mg} {b j : Nat} {x : Int32} (h : j < b) : forG (fun p (x : Int32) => x + valM m p) j (b - j) x = forG (fun p (x : Int32) => x + valM m p) (j + 1) (b - (j + 1)) (x + valM m j) := forG_s h
theorem fst_s {f : Nat → Bool} {i n : Nat} (h : i < n) : fstG f i (n - i) = if f i then some i else fstG f (i + 1) (n - (i + 1)) := by
  rw [show n - i = (n - (i + 1)) + 1 by omega]
  rfl
theorem fst_0 {f : Nat → Bool} {i n : Nat} (h : n ≤ i) : fstG f i (n - i) = none := by
  rw [show n - i = 0 by omega]
  rfl

theorem byt_at {x k : Nat} (hx : x < 2 ^ 31) (s : Int32) (hs : ((s.toUInt32 &&& Int32.toUInt32 31).toBitVec % 32).toNat = k) : byt (nI x) s = nI (x / 2 ^ k % 256) := by
  unfold byt
  rw [pk_ushrN (by omega) s k hs]
  apply Int32.toBitVec_inj.mp
  show (BitVec.ofNat 32 (x / 2 ^ k) &&& BitVec.ofNat 32 255) = BitVec.ofNat 32 (x / 2 ^ k % 256)
  rw [← BitVec.ofNat_and, Nat.and_two_pow_sub_one_eq_mod _ 8]
theorem byt_w {T : List Nat} {i q : Nat} (h : Lat T) : byt (nI (accW T i q 4)) (shI 0) = nI (chT T (i + 4 * q)) ∧ byt (nI (accW T i q 4)) (shI 1) = nI (chT T (i + 4 * q + 1)) ∧ byt (nI (accW T i q 4)) (shI 2) = nI (chT T (i + 4 * q + 2)) ∧ byt (nI (accW T i q 4)) (shI 3) = nI (chT T (i + 4 * q + 3)) := by
  have c0 := chT_lt h (i + 4 * q)
  have c1 := chT_lt h (i + 4 * q + 1)
  have c2 := chT_lt h (i + 4 * q + 2)
  have c3 := chT_lt h (i + 4 * q + 3)
  have e : accW T i q 4 = ((chT T (i + 4 * q) * 256 + chT T (i + 4 * q + 1)) * 256 + chT T (i + 4 * q + 2)) * 256 + chT T (i + 4 * q + 3) := by
    show (((0 * 256 + chT T (i + 4 * q + 0)) * 256 + chT T (i + 4 * q + 1)) * 256 + chT T (i + 4 * q + 2)) * 256 + chT T (i + 4 * q + 3) = _
    rw [Nat.zero_mul, Nat.zero_add, Nat.add_zero]
  rw [e]
  refine ⟨?_, ?_, ?_, ?_⟩
  · rw [byt_at (by omega) (shI 0) (k := 24) (by decide)]
    congr 1
    omega
  · rw [byt_at (by omega) (shI 1) (k := 16) (by decide)]
    congr 1
    omega
  · rw [byt_at (by omega) (shI 2) (k := 8) (by decide)]
    congr 1
    omega
  · rw [byt_at (by omega) (shI 3) (k := 0) (by decide)]
    congr 1
    omega

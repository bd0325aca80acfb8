/-! THE TEXT IS HANDED OVER IN WORDS OF FOUR BYTES -/
def chT (T : List Nat) (j : Nat) : Nat := if j < T.length then T.getD j 0 else 32
theorem chT_lt {T : List Nat} (h : Lat T) (j : Nat) : chT T j < 128 := by
  unfold chT
  split
  · exact h.get j
  · omega
/-- the first k bytes of word q, from place i on -/
def accW (T : List Nat) (i q : Nat) : Nat → Nat
  | 0 => 0
  | k + 1 => accW T i q k * 256 + chT T (i + 4 * q + k)
theorem accW_lt {T : List Nat} (h : Lat T) {i q : Nat} : ∀ k, accW T i q k < 256 ^ k
  | 0 => (by show 0 < 1; omega)
  | k + 1 => by
    have h1 := accW_lt h (i := i) (q := q) k
    have h2 := chT_lt h (i + 4 * q + k)
    show accW T i q k * 256 + chT T (i + 4 * q + k) < 256 ^ k * 256
    omega
def wdsF (T : List Nat) (i k : Nat) : Nat → Int32 := fun q => nI (accW T i q (min 4 (k - 4 * q)))
theorem fa_or (a b : Nat) : nI a ||| nI b = nI (a ||| b) := by
  apply Int32.toBitVec_inj.mp
  show (BitVec.ofNat 32 a ||| BitVec.ofNat 32 b) = BitVec.ofNat 32 (a ||| b)
  exact (BitVec.ofNat_or).symm
theorem or_add {x b : Nat} (hb : b < 256) : x * 256 ||| b = x * 256 + b := by
  have := Nat.two_pow_add_eq_or_of_lt (i := 8) (b := b) (by omega) x
  rw [Nat.mul_comm x 256]
  exact this.symm
theorem wrd_step {x b : Nat} (hx : x < 2 ^ 24) (hb : b < 128) : (nI x <<< (nI 8 &&& 31)) ||| nI b = nI (x * 256 + b) := by
  rw [pk_shlN (nI 8 &&& 31) 8 (by decide) (by omega), fa_or, show x * 2 ^ 8 = x * 256 by omega, or_add (by omega)]

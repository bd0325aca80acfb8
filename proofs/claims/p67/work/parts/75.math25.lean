/-! THE TEXT IS HANDED OVER IN WORDS OF FOUR BYTES -/
def chT (T : List Nat) (j : Nat) : Nat := if j < T.length then T.getD j 0 else 32
theorem chT_lt {T : List Nat} (h : Lat T) (j : Nat) : chT T j < 128 := by
  unfold chT
  split
  · exact h.get j
  · omega
/-- the first k bytes of word q, from place i on -/
def accW (T : List Nat) (i q : Nat) : Nat → Nat
  | 0 => 0
  | k + 1 => accW T i q k * 256 + chT T (i + 4 * q + k)
theorem accW_lt {T : List Nat} (h : Lat T) {i q : Nat} : ∀ k, accW T i q k < 256 ^ k
  | 0 => (by show 0 < 1; omega)
  | k + 1 => by
    have h1 := accW_lt h (i := i) (q := q) k
    have h2 := chT_lt h (i + 4 * q + k)
    show accW T i q k * 256 + chT T (i + 4 * q + k) < 256 ^ k * 256
    omega
def wdsF (T : List Nat) (i k : Nat) : Nat → Int32 := fun q => nI (accW T i q (min 4 (k - 4 * q)))
theorem fa_or (a b : Nat) : nI a ||| nI b = nI (a ||| b) := by
  apply Int32.toBitVec_inj.mp
  show (BitVec.ofNat 32 a ||| BitVec.ofNat 32 b) = BitVec.ofNat 32 (a ||| b)
  exact (BitVec.ofNat_or).symm
theorem or_add {x b : Nat} (hb : b < 256) : x * 256 ||| b = x * 256 + b := by
  have := Nat.two_pow_add_eq_or_of_lt (i := 8) (b := b) (by omega) x
  rw [Nat.mul_comm x 256]
  exact this.symm
theorem wrd_step {x b : Nat} (hx : x < 2 ^ 24) (hb : b < 128) : (nI x <<< (nI 8 &&& 31)) ||| nI b = nI (x * 256 + b) := by
  rw [pk_shlN (nI 8 &&& 31) 8 (by decide) (by omega), fa_or, show x * 2 ^ 8 = x * 256 by omega, or_add (by omega)]
theorem wdsF_s {T : List Nat} {i k : Nat} (h : Lat T) (hk : k < 20) : upd (wdsF T i k) (k / 4) ((wdsF T i k (k / 4) <<< (nI 8 &&& 31)) ||| nI (chT T (i + k))) = wdsF T i (k + 1) := by
  funext q
  by_cases e : q = k / 4
  · subst e
    rw [upd_s]
    unfold wdsF
    have h1 : min 4 (k - 4 * (k / 4)) = k % 4 := by omega
    have h2 : min 4 (k + 1 - 4 * (k / 4)) = k % 4 + 1 := by omega
    have h3 := accW_lt h (i := i) (q := k / 4) (k % 4)
    have h4 : 256 ^ (k % 4) ≤ 256 ^ 3 := Nat.pow_le_pow_right (by omega) (by omega)
    rw [h1, h2, wrd_step (by omega) (chT_lt h _)]
    show _ = nI (accW T i (k / 4) (k % 4) * 256 + chT T (i + 4 * (k / 4) + k % 4))
    rw [show i + 4 * (k / 4) + k % 4 = i + k by omega]
  · rw [upd_o e]
    unfold wdsF
    rw [show min 4 (k - 4 * q) = min 4 (k + 1 - 4 * q) by omega]
theorem wdsF_0 {T : List Nat} {i : Nat} : (fun _ => 0) = wdsF T i 0 := by
  funext q
  unfold wdsF
  rw [show min 4 (0 - 4 * q) = 0 by omega]
  rfl
theorem byt_at {x k : Nat} (hx : x < 2 ^ 31) (s : Int32) (hs : ((s.toUInt32 &&& Int32.toUInt32 31).toBitVec % 32).toNat = k) : byt (nI x) s = nI (x / 2 ^ k % 256) := by
  unfold byt
  rw [pk_ushrN (by omega) s k hs]
  apply Int32.toBitVec_inj.mp
  show (BitVec.ofNat 32 (x / 2 ^ k) &&& BitVec.ofNat 32 255) = BitVec.ofNat 32 (x / 2 ^ k % 256)
  rw [← BitVec.ofNat_and, Nat.and_two_pow_sub_one_eq_mod _ 8]
theorem byt_w {T : List Nat} {i q : Nat} (h : Lat T) : byt (nI (accW T i q 4)) (shI 0) = nI (chT T (i + 4 * q)) ∧ byt (nI (accW T i q 4)) (shI 1) = nI (chT T (i + 4 * q + 1)) ∧ byt (nI (accW T i q 4)) (shI 2) = nI (chT T (i + 4 * q + 2)) ∧ byt (nI (accW T i q 4)) (shI 3) = nI (chT T (i + 4 * q + 3)) := by
  have c0 := chT_lt h (i + 4 * q)
  have c1 := chT_lt h (i + 4 * q + 1)
  have c2 := chT_lt h (i + 4 * q + 2)
  have c3 := chT_lt h (i + 4 * q + 3)
  have e : accW T i q 4 = ((chT T (i + 4 * q) * 256 + chT T (i + 4 * q + 1)) * 256 + chT T (i + 4 * q + 2)) * 256 + chT T (i + 4 * q + 3) := by
    show (((0 * 256 + chT T (i + 4 * q + 0)) * 256 + chT T (i + 4 * q + 1)) * 256 + chT T (i + 4 * q + 2)) * 256 + chT T (i + 4 * q + 3) = _
    rw [Nat.zero_mul, Nat.zero_add, Nat.add_zero]
  rw [e]
  refine ⟨?_, ?_, ?_, ?_⟩
  · rw [byt_at (by omega) (shI 0) (k := 24) (by decide)]
    congr 1
    omega
  · rw [byt_at (by omega) (shI 1) (k := 16) (by decide)]
    congr 1
    omega
  · rw [byt_at (by omega) (shI 2) (k := 8) (by decide)]
    congr 1
    omega
  · rw [byt_at (by omega) (shI 3) (k := 0) (by decide)]
    congr 1
    omega
/-- the bytes that stand ahead of i -/
def Fed (T : List Nat) (i : Nat) (r : G) : Prop := r 0 2 = nI i ∧ ∀ j, j < i → r 13 j = nI (chT T j)
theorem tk4_fed {T : List Nat} {i q : Nat} {r : G} (h : Lat T) (hF : Fed T (i + 4 * q) r) : Fed T (i + 4 * (q + 1)) (tkN r (i + 4 * q) (nI (accW T i q 4)) 4) := by
  obtain ⟨b0, b1, b2, b3⟩ := byt_w (i := i) (q := q) h
  refine ⟨rfl, fun j hj => ?_⟩
  show upd (upd (upd (upd (r 13) (i + 4 * q + 0) (byt (nI (accW T i q 4)) (shI 0))) (i + 4 * q + 1) (byt (nI (accW T i q 4)) (shI 1))) (i + 4 * q + 2) (byt (nI (accW T i q 4)) (shI 2))) (i + 4 * q + 3) (byt (nI (accW T i q 4)) (shI 3)) j = _
  rw [b0, b1, b2, b3]
  by_cases e3 : j = i + 4 * q + 3
  · subst e3; rw [upd_s]
  rw [upd_o e3]
  by_cases e2 : j = i + 4 * q + 2
  · subst e2; rw [upd_s]
  rw [upd_o e2]
  by_cases e1 : j = i + 4 * q + 1
  · subst e1; rw [upd_s]
  rw [upd_o e1]
  by_cases e0 : j = i + 4 * q
  · subst e0; exact upd_s
  rw [upd_o (by omega)]
  exact hF.2 j (by omega)
theorem ap5_fed {T : List Nat} {i : Nat} {r : G} (h : Lat T) (hF : Fed T i r) : Fed T (i + 20) (ap5 r i (wdsF T i 20 0) (wdsF T i 20 1) (wdsF T i 20 2) (wdsF T i 20 3) (wdsF T i 20 4)) := by
  have h0 := tk4_fed (i := i) (q := 0) h hF
  have h1 := tk4_fed (i := i) (q := 1) h h0
  have h2 := tk4_fed (i := i) (q := 2) h h1
  have h3 := tk4_fed (i := i) (q := 3) h h2
  exact tk4_fed (i := i) (q := 4) h h3
theorem Fed.bt {T : List Nat} {i : Nat} {r : G} (hF : Fed T i r) (hi : T.length ≤ i) : Bt (r 13) T := fun j hj => by
  rw [hF.2 j (by omega)]
  unfold chT
  rw [if_pos hj]
theorem LI.lkk {n : Nat} {m : Mg} (h : LI n m) : LK m := by
  obtain ⟨-, ⟨c, hM, -⟩, -⟩ := h
  exact hM.2.2.1
/-- there are fewer lines than letters -/
theorem bd_len {n a b c B : Nat} {L : List Q4} (h : (txtL n a b c L).length ≤ B) : L.length ≤ B := by
  have h1 : ∀ (L : List Q4), L.length ≤ (bdT L).length := by
    intro L
    induction L with
    | nil => exact Nat.zero_le _
    | cons q L ih =>
      show L.length + 1 ≤ (clT q ++ bdT L).length
      rw [clT_B, List.length_append, List.length_cons]
      omega
  rw [txtL_bd, List.length_append] at h
  have := h1 L
  omega

/-! for the law: what buffers and texts keep -/
theorem and255_nn (y : Int32) : 0 ≤ (y &&& nI 255).toInt := by
  show 0 ≤ (y.toBitVec &&& 255#32).toInt
  rw [BitVec.toInt_eq_toNat_of_msb (by rw [BitVec.msb_and]; exact Bool.and_false _)]
  exact Int.natCast_nonneg _
theorem byL_nn {a b c d e : Int32} {k : Nat} : 0 ≤ (byL a b c d e k).toInt := and255_nn _
theorem BN0_bf {B : Nat → Int32} {f n : Nat} {a b c d e : Int32} (h : BN0 B) : BN0 (bfB B f n a b c d e) := fun i => by
  unfold bfB
  split
  · exact byL_nn
  · exact h i
theorem dbs_len {m : Mg} {n : Nat} (hI : IM m n) : (forG (dbsS m n) 0 n []).length ≤ 9 * n := by
  have h := forG_inv (f := dbsS m n) (fun j (T : List Int32) => T.length ≤ 9 * j) n 0 [] (Nat.zero_le _) (fun j T h1 h2 hT => by
    have h2 : j < n := by omega
    show (dbsS m n j T).length ≤ 9 * (j + 1)
    cases hs : startM m j with
    | true =>
      have := dbT_len (m := m) (T := T) hI.2.1 h2 (start_src hI h2 hs).1
      rw [show dbsS m n j T = dbT m n j T from if_pos hs]
      omega
    | false =>
      rw [show dbsS m n j T = T from if_neg (by rw [hs]; exact Bool.false_ne_true)]
      omega)
  rw [Nat.zero_add] at h
  exact h
theorem dbsT_len {m : Mg} {n : Nat} (hI : IM m n) : (dbsT m n).length ≤ 864 := by
  have h := dbs_len hI
  have := hI.2.1
  unfold dbsT
  split
  · decide
  · omega
theorem chnF_len {m : Mg} {n : Nat} (hI : IM m n) : ∀ (f p : Nat) (T : List Int32), p < n → (chnF f m p T).length ≤ T.length + 3 * f
  | 0, _, _, _ => Nat.le_add_right _ _
  | f + 1, p, T, hp => by
    show (if m 2 p = -1 then T else chnF f m (src m p) (T ++ [nI 60] ++ numL (src m p))).length ≤ T.length + 3 * (f + 1)
    by_cases e : m 2 p = -1
    · rw [if_pos e]; omega
    · rw [if_neg e]
      have hs := IM_src hI hp e
      have h96 := hI.2.1
      have l := numL_len (v := src m p) (by omega)
      have := chnF_len hI f (src m p) (T ++ [nI 60] ++ numL (src m p)) hs.1
      simp only [List.length_append, List.length_cons, List.length_nil] at this
      omega
theorem chnT_len {m : Mg} {n p : Nat} (hI : IM m n) (hp : p < n) : (chnT m p).length ≤ 864 := by
  have h96 := hI.2.1
  have l := numL_len (v := p) (by omega)
  have l3 := numL_len3 (v := tN (valM m p))
  have h := chnF_len hI 96 p (numL p) hp
  unfold chnT
  simp only [List.length_append, List.length_cons, List.length_nil]
  omega

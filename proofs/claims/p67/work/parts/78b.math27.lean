/-! THE CODES OF ACT'S CALLS -/
section CDS
variable {n a v : Nat} {m : Mg}
theorem cd_h (h1 : ¬ n = 0) (ha : a < n) (h31 : n < 2 ^ 31) {L : List (Bool × Nat)} : cdL ((decide (n = 0), 1) :: (!plB n (nI a), 2) :: L) = cdL L := by
  rw [cdL_f (decide_eq_false h1), cdL_f (by rw [pl_n (by omega), decide_eq_true ha]; rfl)]
theorem cd_s3 (h1 : ¬ n = 0) (ha : a < n) (h31 : n < 2 ^ 31) (ho : owb m a = false) : cdL [(decide (n = 0), 1), (!plB n (nI a), 2), (!owb m (tN (nI a)), 3)] = 3 := by
  rw [cd_h h1 ha h31, tN_nI (by omega), ho]
  rfl
theorem cd_s0 (h1 : ¬ n = 0) (ha : a < n) (h31 : n < 2 ^ 31) (ho : owb m a = true) : cdL [(decide (n = 0), 1), (!plB n (nI a), 2), (!owb m (tN (nI a)), 3)] = 0 := by
  rw [cd_h h1 ha h31, tN_nI (by omega), ho]
  rfl
theorem cd_p3 (h1 : ¬ n = 0) (ha : a < n) (h31 : n < 2 ^ 31) (ho : lockB m a = true) : cdL [(decide (n = 0), 1), (!plB n (nI a), 2), (lockB m (tN (nI a)), 3)] = 3 := by
  rw [cd_h h1 ha h31, tN_nI (by omega), ho]
  rfl
theorem cd_w3 (h1 : ¬ n = 0) (ha : a < n) (h31 : n < 2 ^ 31) (hv : v < 256) (ho : lockB m a = true) : cdL [(decide (n = 0), 1), (!plB n (nI a), 2), (!inB (nI v) 0 255, 3), (lockB m (tN (nI a)), 3)] = 3 := by
  rw [cd_h h1 ha h31, tN_nI (by omega), ho, cdL_f (by rw [inB_n (by omega) (by omega) (by omega)]; rfl)]
  rfl
theorem cd_w0 (h1 : ¬ n = 0) (ha : a < n) (h31 : n < 2 ^ 31) (hv : v < 256) (ho : lockB m a = false) : cdL [(decide (n = 0), 1), (!plB n (nI a), 2), (!inB (nI v) 0 255, 3), (lockB m (tN (nI a)), 3)] = 0 := by
  rw [cd_h h1 ha h31, tN_nI (by omega), ho, cdL_f (by rw [inB_n (by omega) (by omega) (by omega)]; rfl)]
  rfl
theorem why_lt {f t l : Nat} : whyN m n f t l < 4 := by
  unfold whyN
  split
  · split <;> omega
  · omega
theorem cd_c2 {P K : Nat} (h1 : ¬ n = 0) (hn : m 0 7 = nI n) (h96 : n ≤ 96) (ha : a < n) (hP : P < n) (hK : 1 ≤ K ∧ K ≤ n) (hz : ¬ whyN m n a P K = 0) : cdL [(decide (n = 0), 1), (!(refM m n (nI a) (nI P) (nI K) == 0), 2)] = 2 := by
  have hr : (refM m n (nI a) (nI P) (nI K) == 0) = false := by
    rw [refM_v hn h96 ha hP hK]
    have := why_lt (n := n) (m := m) (f := a) (t := P) (l := K)
    exact beq_eq_false_iff_ne.mpr (fun e => hz (nI_inj (a := whyN m n a P K) (b := 0) (by omega) (by omega) e))
  rw [cdL_f (decide_eq_false h1), hr]
  rfl
theorem cd_c0 {P K : Nat} (h1 : ¬ n = 0) (hn : m 0 7 = nI n) (h96 : n ≤ 96) (hK : 1 ≤ K) (hw : a + K ≤ n ∧ P + K ≤ n ∧ anyG (lockB m) P K = false) : cdL [(decide (n = 0), 1), (!(refM m n (nI a) (nI P) (nI K) == 0), 2)] = 0 := by
  rw [cdL_f (decide_eq_false h1), refM_ok hn h96 (by omega) hw.1 hw.2.1 hw.2.2]
  rfl
end CDS
theorem LI.band {n : Nat} {m : Mg} (h : LI n m) : ∃ b, m 5 0 = nI b ∧ 1 ≤ b ∧ b ≤ 20 ∧ bandN m = b := by
  obtain ⟨-, ⟨c, hM, -⟩, -⟩ := h
  obtain ⟨w, lim, pol, h1, h2, h3, h4, h5, h6, h7⟩ := hM.2.2.2.2.1
  refine ⟨w, h1, h2, h3, ?_⟩
  unfold bandN
  rw [h1, nI_toInt (by omega)]
  rfl
theorem tick_s {j b C : Nat} : min (j * b) C + min b (C - j * b) = min ((j + 1) * b) C := by
  rw [Nat.succ_mul]
  omega
theorem acc_c {m : Mg} {x y : Int32} : accM (accM m 6 x) 8 y = accM (accM m 8 y) 6 x := by
  unfold accM
  funext i j
  by_cases h : i = 6
  · subst h
    show upd (upd (m 6) 6 (m 6 6 + x)) 8 (upd (m 6) 6 (m 6 6 + x) 8 + y) j = upd (upd (m 6) 8 (m 6 8 + y)) 6 (upd (m 6) 8 (m 6 8 + y) 6 + x) j
    rw [show upd (m 6) 6 (m 6 6 + x) 8 = m 6 8 from upd_o (by decide), show upd (m 6) 8 (m 6 8 + y) 6 = m 6 6 from upd_o (by decide)]
    by_cases h6 : j = 6
    · subst h6
      rw [upd_o (by decide), upd_s, upd_s]
    · by_cases h8 : j = 8
      · subst h8
        rw [upd_s, upd_o (by decide), upd_s]
      · rw [upd_o h8, upd_o h6, upd_o h6, upd_o h8]
  · have e : ∀ (m : Mg) (f : Nat → Int32), sG m 6 f i = m i := fun m f => if_neg h
    rw [e, e, e, e]
theorem fet_c {p : Nat} {m : Mg} : accM (accM m 6 (nI (hopsM m p))) 8 (nI 1) = fetM p m := acc_c
theorem fet_im {n p : Nat} {m : Mg} (h : IM m n) : IM (fetM p m) n := h
theorem fet_ev {p : Nat} {m : Mg} (h : EvOK m) : EvOK (fetM p m) := h
theorem fet_o {p q : Nat} {m : Mg} : owb (fetM p m) q = owb m q := rfl
theorem fetch_v {n p : Nat} {m : Mg} (hI : IM m n) (hp : p < n) : valM (fetchM p m) p = valM m p := by
  have h0 : valM (fetM p m) p = valM m p := valM_of rfl rfl p
  unfold fetchM
  split
  · unfold payO
    split
    · exact ((payM_Pd (n := n) (k := 2) (m := fetM p m) hp).val (fet_im hI) p hp).trans h0
    · exact h0
  · exact h0
theorem fetch_n {p : Nat} {m : Mg} (h : ¬ m 5 4 = nI 1) : fetchM p m = fetM p m := if_neg h
theorem fetch_t {p : Nat} {m : Mg} (h : m 5 4 = nI 1) (ho : owb m p = true) : fetchM p m = payM 2 (fetM p m) p := by
  unfold fetchM
  rw [if_pos h]
  exact payO_t ho
theorem fetch_f {p : Nat} {m : Mg} (h : m 5 4 = nI 1) (ho : owb m p = false) : fetchM p m = fetM p m := by
  unfold fetchM
  rw [if_pos h]
  exact payO_f ho
theorem cd_1 {n a : Nat} (h1 : ¬ n = 0) (ha : a < n) (h31 : n < 2 ^ 31) : cdL [(decide (n = 0), 1), (!plB n (nI a), 2)] = 0 := (cd_h h1 ha h31).trans rfl

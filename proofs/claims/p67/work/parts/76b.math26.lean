/-! WHAT THE LAW'S MEMORY KEEPS UNDER EACH CHANGE -/
theorem LI.k6 {n : Nat} {m : Mg} (h : LI n m) : ∃ j, j ≤ 1000 ∧ m 6 0 = nI j := by
  obtain ⟨-, ⟨c, hM, hc⟩, -⟩ := h
  exact ⟨c, hc, hM.2.2.2.2.2.2.1⟩
theorem LI.wm {n : Nat} {m : Mg} (h : LI n m) : ∃ c, WM n c m := by
  obtain ⟨h14, ⟨c, hM, -⟩, -⟩ := h
  exact ⟨c, by omega, hM.1.1, fun _ => hM⟩
theorem LI.n1 {n : Nat} {m : Mg} (h : LI n m) : ¬ n = 0 := by
  obtain ⟨-, ⟨c, hM, -⟩, -⟩ := h
  have := hM.2.2.2.1
  omega
theorem LI.im {n : Nat} {m : Mg} (h : LI n m) : IM m n := h.2.1.choose_spec.1.1
theorem LI.ev {n : Nat} {m : Mg} (h : LI n m) : EvOK m := h.2.1.choose_spec.1.2.1
theorem LI.cop {n fr to_ len : Nat} {m : Mg} (h : LI n m) (hk : ∃ j, j < 1000 ∧ m 6 0 = nI j) (q1 : 0 < len) (q2 : fr + len ≤ n) (q3 : to_ + len ≤ n) : LI n (copyM n fr to_ len m) ∧ copyM n fr to_ len m 6 0 = m 6 0 + nI 1 := by
  obtain ⟨h14, ⟨c, hM, hc⟩, h3, h4⟩ := h
  have e6 : m 6 0 = nI c := hM.2.2.2.2.2.2.1
  have hc1 : c < 1000 := by
    obtain ⟨j, hj, e⟩ := hk
    have := nI_inj (a := c) (b := j) (by omega) (by omega) (e6.symm.trans e)
    omega
  have hM2 := hM.copy q1 q2 q3
  have e7 : copyM n fr to_ len m 6 0 = nI (c + 1) := hM2.2.2.2.2.2.2.1
  refine ⟨LI.keep ⟨h14, ⟨c, hM, hc⟩, h3, h4⟩ (c + 1) hM2 (by omega) (copy_5 hM q2 q3), ?_⟩
  rw [e7, e6, nI_add]
theorem swap_5 {n a b : Nat} {m : Mg} (h : IM m n) : (swapM n a b m).2 5 = m 5 ∧ (swapM n a b m).2 6 0 = m 6 0 := by
  have hdp := depM_ok (T := two a b) h
  have hdr := drpM_ok (T := two a b) (n := n) (m := (depM (two a b) n m).2)
  exact ⟨hdr.1.1.2.2.1.trans hdp.1.1.2.2.1, hdr.1.1.2.2.2.1.trans hdp.1.1.2.2.2.1⟩
theorem LI.swap {n a b : Nat} {m : Mg} (h : LI n m) (ha : a < n) (hb : b < n) : LI n (swapM n a b m).2 := by
  have h0 := h
  obtain ⟨h14, ⟨c, hM, hc⟩, h3, h4⟩ := h
  exact h0.keep c (hM.swap ha hb) hc (swap_5 hM.1).1
theorem LI.short {n p : Nat} {m : Mg} (h : LI n m) (hp : p < n) (ho : owb m p = true) : LI n (srcM m p (nI (rootM m p))) := by
  have h0 := h
  obtain ⟨h14, ⟨c, hM, hc⟩, h3, h4⟩ := h
  exact h0.keep c (hM.short hp ho) hc rfl
theorem fet_60 {p : Nat} {m : Mg} : fetM p m 6 0 = m 6 0 := rfl
theorem fetch_5 {n p : Nat} {m : Mg} (hp : p < n) : fetchM p m 5 = m 5 ∧ fetchM p m 6 0 = m 6 0 := by
  unfold fetchM
  split
  · unfold payO
    split
    · exact ⟨(payM_Pd (n := n) (k := 2) (m := fetM p m) hp).1.2.2.1, (payM_Pd (n := n) (k := 2) (m := fetM p m) hp).1.2.2.2.1⟩
    · exact ⟨rfl, rfl⟩
  · exact ⟨rfl, rfl⟩
theorem LI.fetch {n p : Nat} {m : Mg} (h : LI n m) (hp : p < n) : LI n (fetchM p m) := by
  have h0 := h
  obtain ⟨h14, ⟨c, hM, hc⟩, h3, h4⟩ := h
  exact h0.keep c (hM.fetch hp) hc (fetch_5 hp).1
theorem slk_5 {n p : Nat} {m : Mg} {b : Bool} (h : IM m n) (hp : p < n) : slkM p b m 5 = m 5 ∧ slkM p b m 6 0 = m 6 0 := by
  unfold slkM
  split
  · have hr := (rowM_Pd (a := p) (b := p) h hp (Nat.le_refl _)).1
    have hs := setL_k (a := p) (k := p + 1 - p) (m := rowM p p m)
    exact ⟨hs.1.trans hr.2.2.1, (congrFun hs.2 0).trans hr.2.2.2.1⟩
  · exact ⟨rfl, rfl⟩
theorem LI.slk {n p : Nat} {m : Mg} {b : Bool} (h : LI n m) (hp : p < n) : LI n (slkM p b m) := by
  have h0 := h
  obtain ⟨h14, ⟨c, hM, hc⟩, h3, h4⟩ := h
  refine h0.keep c ?_ hc (slk_5 hM.1 hp).1
  unfold slkM
  split
  · exact hM.lock (Nat.le_refl _) hp
  · exact hM.lck (b := false)
theorem LI.payK {n k : Nat} {m : Mg} (h : LI n m) : LI n (payK 1 n k m) := h.pd (payK_ok h.im).1
/-- a move's source places that are left over -/
theorem left_at {n f t l : Nat} (hf : f + l ≤ n) (ht : t + l ≤ n) (hl : 0 < l) : (f = t → (leftN n f t l) = (n, 0)) ∧ (¬ f = t → leftN n f t l = (lefA f t l, lefZ f t l + 1) ∧ lefA f t l ≤ lefZ f t l ∧ lefZ f t l < n) := by
  refine ⟨fun e => if_pos e, fun e => ?_⟩
  unfold leftN lefA lefZ
  rw [if_neg e]
  by_cases h : f < t
  · rw [if_pos h, if_neg (by omega), if_pos h]
    refine ⟨?_, by omega, by omega⟩
    rw [show min (f + l) t - 1 + 1 = min (f + l) t by omega]
  · rw [if_neg h, if_pos (by omega), if_neg h]
    refine ⟨?_, by omega, by omega⟩
    rw [show f + l - 1 + 1 = f + l by omega]
theorem LI.mov {n f t l : Nat} {m : Mg} (h : LI n m) (hk : ∃ j, j < 1000 ∧ m 6 0 = nI j) (q1 : 0 < l) (q2 : f + l ≤ n) (q3 : t + l ≤ n) : LI n (movM n f t l m) ∧ movM n f t l m 6 0 = m 6 0 + nI 1 := by
  have hc := h.cop hk q1 q2 q3
  unfold movM
  split
  · exact hc
  · exact ⟨hc.1.fill (v := 0) (by decide), (fill_5 hc.1.im).2.trans hc.2⟩
theorem LI.n7 {n : Nat} {m : Mg} (h : LI n m) : m 0 7 = nI n := h.im.1
theorem lk_t {x : Int32} {z : Bool} (h : x = bI z) (c : ¬ x = 0) : z = true := by rw [h] at c; exact bI_ne.mp c
theorem lk_f {x : Int32} {z : Bool} (h : x = bI z) (c : x = 0) : z = false := by rw [h] at c; exact bI_eq.mp c
theorem p1_eq {x : Int32} : x = x + nI 1 - nI 1 := (Int32.add_sub_cancel _ _).symm
theorem why_0 {m : Mg} {n fr to_ len : Nat} (c : nI (whyN m n fr to_ len) = 0) : fr + len ≤ n ∧ to_ + len ≤ n ∧ anyG (lockB m) to_ len = false := by
  unfold whyN at c
  split at c
  · rename_i h
    split at c
    · exact absurd c (by decide)
    · rename_i h2
      exact ⟨h.1, h.2, by simpa using h2⟩
  · exact absurd c (by decide)
theorem refM_v {m : Mg} {n f t l : Nat} (hn : m 0 7 = nI n) (h96 : n ≤ 96) (hf : f < n) (ht : t < n) (hl : 1 ≤ l ∧ l ≤ n) : refM m n (nI f) (nI t) (nI l) = nI (whyN m n f t l) := by
  unfold refM whyN
  rw [isP_n hn h96 (by omega), isP_n hn h96 (by omega), nI_toInt (by omega), nI_toInt (by omega), nI_toInt (by omega), if_neg (by omega)]
  by_cases h : f + l ≤ n ∧ t + l ≤ n
  · rw [if_pos h, if_pos (by
      simp only [Bool.and_eq_true, decide_eq_true_eq]
      omega)]
    show (if anyG (lockB m) (t : Int).toNat (l : Int).toNat then nI 3 else nI 0) = _
    rw [Int.toNat_natCast, Int.toNat_natCast]
    cases anyG (lockB m) t l <;> rfl
  · rw [if_neg h, if_neg (by
      simp only [Bool.and_eq_true, decide_eq_true_eq]
      omega)]
theorem cd_x3 {n a b : Nat} {m : Mg} (h1 : ¬ n = 0) (ha : a < n) (hb : b < n) (h31 : n < 2 ^ 31) (hz : a = b ∨ lockB m a = true ∨ lockB m b = true) : cdL [(decide (n = 0), 1), (!plB n (nI a), 2), (!plB n (nI b), 2), (nI a == nI b, 3), (lockB m (tN (nI a)), 3), (lockB m (tN (nI b)), 3)] = 3 := by
  rw [cdL_f (decide_eq_false h1), cdL_f (by rw [pl_n (by omega), decide_eq_true ha]; rfl), cdL_f (by rw [pl_n (by omega), decide_eq_true hb]; rfl)]
  have ea : tN (nI a) = a := tN_nI (by omega)
  have eb : tN (nI b) = b := tN_nI (by omega)
  rw [ea, eb]
  rcases hz with rfl | h | h
  · exact cdL_t (beq_self_eq_true _)
  · rw [h]
    generalize (nI a == nI b) = z
    generalize lockB m b = y
    cases z <;> cases y <;> rfl
  · rw [h]
    generalize (nI a == nI b) = z
    generalize lockB m a = y
    cases z <;> cases y <;> rfl
theorem cd_x0 {n a b : Nat} {m : Mg} (h1 : ¬ n = 0) (ha : a < n) (hb : b < n) (h31 : n < 2 ^ 31) (hab : ¬ a = b) (la : lockB m a = false) (lb : lockB m b = false) : cdL [(decide (n = 0), 1), (!plB n (nI a), 2), (!plB n (nI b), 2), (nI a == nI b, 3), (lockB m (tN (nI a)), 3), (lockB m (tN (nI b)), 3)] = 0 := by
  rw [cdL_f (decide_eq_false h1), cdL_f (by rw [pl_n (by omega), decide_eq_true ha]; rfl), cdL_f (by rw [pl_n (by omega), decide_eq_true hb]; rfl)]
  have ea : tN (nI a) = a := tN_nI (by omega)
  have eb : tN (nI b) = b := tN_nI (by omega)
  rw [ea, eb, la, lb, show (nI a == nI b) = false from beq_eq_false_iff_ne.mpr (fun e => hab (nI_inj (by omega) (by omega) e))]
  rfl
theorem cd_v2 {n a P K : Nat} {m : Mg} (h1 : ¬ n = 0) (hn : m 0 7 = nI n) (h96 : n ≤ 96) (ha : a < n) (hP : P < n) (hK : 1 ≤ K ∧ K ≤ n) (hz : whyN m n a P K = 0 → ¬ a = P ∧ anyG (lockB m) (lefA a P K) (lefZ a P K + 1 - lefA a P K) = true) : cdL [(decide (n = 0), 1), (!(refM m n (nI a) (nI P) (nI K) == 0), 2), (!(nI a == nI P) && anyG (lockB m) (lefA (tN (nI a)) (tN (nI P)) (tN (nI K))) (lefZ (tN (nI a)) (tN (nI P)) (tN (nI K)) + 1 - lefA (tN (nI a)) (tN (nI P)) (tN (nI K))), 2)] = 2 := by
  have ea : tN (nI a) = a := tN_nI (by omega)
  have eb : tN (nI P) = P := tN_nI (by omega)
  have ec : tN (nI K) = K := tN_nI (by omega)
  rw [cdL_f (decide_eq_false h1), ea, eb, ec]
  by_cases hw : whyN m n a P K = 0
  · obtain ⟨e1, e2⟩ := hz hw
    rw [e2, show (nI a == nI P) = false from beq_eq_false_iff_ne.mpr (fun e => e1 (nI_inj (by omega) (by omega) e))]
    generalize (refM m n (nI a) (nI P) (nI K) == 0) = z
    cases z <;> rfl
  · have hr : (refM m n (nI a) (nI P) (nI K) == 0) = false := by
      rw [refM_v hn h96 ha hP hK]
      refine beq_eq_false_iff_ne.mpr (fun e => hw ?_)
      have hw4 : whyN m n a P K < 4 := by
        unfold whyN
        split
        · split <;> omega
        · omega
      exact nI_inj (a := whyN m n a P K) (b := 0) (by omega) (by omega) e
    rw [hr]
    exact cdL_t rfl
theorem cd_v0 {n a P K : Nat} {m : Mg} (h1 : ¬ n = 0) (hn : m 0 7 = nI n) (h96 : n ≤ 96) (hK : 1 ≤ K) (hw : a + K ≤ n ∧ P + K ≤ n ∧ anyG (lockB m) P K = false) (hz : a = P ∨ anyG (lockB m) (lefA a P K) (lefZ a P K + 1 - lefA a P K) = false) : cdL [(decide (n = 0), 1), (!(refM m n (nI a) (nI P) (nI K) == 0), 2), (!(nI a == nI P) && anyG (lockB m) (lefA (tN (nI a)) (tN (nI P)) (tN (nI K))) (lefZ (tN (nI a)) (tN (nI P)) (tN (nI K)) + 1 - lefA (tN (nI a)) (tN (nI P)) (tN (nI K))), 2)] = 0 := by
  have ea : tN (nI a) = a := tN_nI (by omega)
  have eb : tN (nI P) = P := tN_nI (by omega)
  have ec : tN (nI K) = K := tN_nI (by omega)
  rw [cdL_f (decide_eq_false h1), ea, eb, ec, refM_ok hn h96 (by omega) hw.1 hw.2.1 hw.2.2]
  rcases hz with rfl | h
  · have hq : (nI a == nI a) = true := beq_self_eq_true _
    rw [hq]
    rfl
  · rw [h]
    generalize (nI a == nI P) = z
    cases z <;> rfl
theorem lf_A {n a P K : Nat} (hf : a + K ≤ n) (ht : P + K ≤ n) (hl : 0 < K) (e : a = P) : upd (upd (fun _ => 0) 0 (nI (leftN n a P K).1)) 1 (nI (leftN n a P K).2 - nI 1) = upd (upd (fun _ => 0) 0 (nI n)) 1 (-1) := by
  rw [(left_at hf ht hl).1 e]
  rfl
theorem lf_B {n a P K : Nat} (hf : a + K ≤ n) (ht : P + K ≤ n) (hl : 0 < K) (e : ¬ a = P) : upd (upd (fun _ => 0) 0 (nI (leftN n a P K).1)) 1 (nI (leftN n a P K).2 - nI 1) = upd (upd (fun _ => 0) 0 (nI (lefA a P K))) 1 (nI (lefZ a P K)) := by
  rw [((left_at hf ht hl).2 e).1]
  show upd (upd (fun _ => 0) 0 (nI (lefA a P K))) 1 (nI (lefZ a P K + 1) - nI 1) = _
  rw [nI_sub (by omega), Nat.add_sub_cancel]

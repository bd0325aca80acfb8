/-! WHAT THE LAW'S MEMORY KEEPS UNDER EACH CHANGE -/
theorem LI.k6 {n : Nat} {m : Mg} (h : LI n m) : ∃ j, j ≤ 1000 ∧ m 6 0 = nI j := by
  obtain ⟨-, ⟨c, hM, hc⟩, -⟩ := h
  exact ⟨c, hc, hM.2.2.2.2.2.2.1⟩
theorem LI.wm {n : Nat} {m : Mg} (h : LI n m) : ∃ c, WM n c m := by
  obtain ⟨h14, ⟨c, hM, -⟩, -⟩ := h
  exact ⟨c, by omega, hM.1.1, fun _ => hM⟩
theorem LI.n1 {n : Nat} {m : Mg} (h : LI n m) : ¬ n = 0 := by
  obtain ⟨-, ⟨c, hM, -⟩, -⟩ := h
  have := hM.2.2.2.1
  omega
theorem LI.im {n : Nat} {m : Mg} (h : LI n m) : IM m n := h.2.1.choose_spec.1.1
theorem LI.ev {n : Nat} {m : Mg} (h : LI n m) : EvOK m := h.2.1.choose_spec.1.2.1
theorem LI.cop {n fr to_ len : Nat} {m : Mg} (h : LI n m) (hk : ∃ j, j < 1000 ∧ m 6 0 = nI j) (q1 : 0 < len) (q2 : fr + len ≤ n) (q3 : to_ + len ≤ n) : LI n (copyM n fr to_ len m) ∧ copyM n fr to_ len m 6 0 = m 6 0 + nI 1 := by
  obtain ⟨h14, ⟨c, hM, hc⟩, h3, h4⟩ := h
  have e6 : m 6 0 = nI c := hM.2.2.2.2.2.2.1
  have hc1 : c < 1000 := by
    obtain ⟨j, hj, e⟩ := hk
    have := nI_inj (a := c) (b := j) (by omega) (by omega) (e6.symm.trans e)
    omega
  have hM2 := hM.copy q1 q2 q3
  have e7 : copyM n fr to_ len m 6 0 = nI (c + 1) := hM2.2.2.2.2.2.2.1
  refine ⟨LI.keep ⟨h14, ⟨c, hM, hc⟩, h3, h4⟩ (c + 1) hM2 (by omega) (copy_5 hM q2 q3), ?_⟩
  rw [e7, e6, nI_add]
theorem swap_5 {n a b : Nat} {m : Mg} (h : IM m n) : (swapM n a b m).2 5 = m 5 ∧ (swapM n a b m).2 6 0 = m 6 0 := by
  have hdp := depM_ok (T := two a b) h
  have hdr := drpM_ok (T := two a b) (n := n) (m := (depM (two a b) n m).2)
  exact ⟨hdr.1.1.2.2.1.trans hdp.1.1.2.2.1, hdr.1.1.2.2.2.1.trans hdp.1.1.2.2.2.1⟩
theorem LI.swap {n a b : Nat} {m : Mg} (h : LI n m) (ha : a < n) (hb : b < n) : LI n (swapM n a b m).2 := by
  have h0 := h
  obtain ⟨h14, ⟨c, hM, hc⟩, h3, h4⟩ := h
  exact h0.keep c (hM.swap ha hb) hc (swap_5 hM.1).1
theorem LI.short {n p : Nat} {m : Mg} (h : LI n m) (hp : p < n) (ho : owb m p = true) : LI n (srcM m p (nI (rootM m p))) := by
  have h0 := h
  obtain ⟨h14, ⟨c, hM, hc⟩, h3, h4⟩ := h
  exact h0.keep c (hM.short hp ho) hc rfl
theorem fet_60 {p : Nat} {m : Mg} : fetM p m 6 0 = m 6 0 := rfl
theorem fetch_5 {n p : Nat} {m : Mg} (hp : p < n) : fetchM p m 5 = m 5 ∧ fetchM p m 6 0 = m 6 0 := by
  unfold fetchM
  split
  · unfold payO
    split
    · exact ⟨(payM_Pd (n := n) (k := 2) (m := fetM p m) hp).1.2.2.1, (payM_Pd (n := n) (k := 2) (m := fetM p m) hp).1.2.2.2.1⟩
    · exact ⟨rfl, rfl⟩
  · exact ⟨rfl, rfl⟩
theorem LI.fetch {n p : Nat} {m : Mg} (h : LI n m) (hp : p < n) : LI n (fetchM p m) := by
  have h0 := h
  obtain ⟨h14, ⟨c, hM, hc⟩, h3, h4⟩ := h
  exact h0.keep c (hM.fetch hp) hc (fetch_5 hp).1
theorem slk_5 {n p : Nat} {m : Mg} {b : Bool} (h : IM m n) (hp : p < n) : slkM p b m 5 = m 5 ∧ slkM p b m 6 0 = m 6 0 := by
  unfold slkM
  split
  · have hr := (rowM_Pd (a := p) (b := p) h hp (Nat.le_refl _)).1
    have hs := setL_k (a := p) (k := p + 1 - p) (m := rowM p p m)
    exact ⟨hs.1.trans hr.2.2.1, (congrFun hs.2 0).trans hr.2.2.2.1⟩
  · exact ⟨rfl, rfl⟩
theorem LI.slk {n p : Nat} {m : Mg} {b : Bool} (h : LI n m) (hp : p < n) : LI n (slkM p b m) := by
  have h0 := h
  obtain ⟨h14, ⟨c, hM, hc⟩, h3, h4⟩ := h
  refine h0.keep c ?_ hc (slk_5 hM.1 hp).1
  unfold slkM
  split
  · exact hM.lock (Nat.le_refl _) hp
  · exact hM.lck (b := false)
theorem LI.payK {n k : Nat} {m : Mg} (h : LI n m) : LI n (payK 1 n k m) := h.pd (payK_ok h.im).1
/-- a move's source places that are left over -/
theorem left_at {n f t l : Nat} (hf : f + l ≤ n) (ht : t + l ≤ n) (hl : 0 < l) : (f = t → (leftN n f t l) = (n, 0)) ∧ (¬ f = t → leftN n f t l = (lefA f t l, lefZ f t l + 1) ∧ lefA f t l ≤ lefZ f t l ∧ lefZ f t l < n) := by
  refine ⟨fun e => if_pos e, fun e => ?_⟩
  unfold leftN lefA lefZ
  rw [if_neg e]
  by_cases h : f < t
  · rw [if_pos h, if_neg (by omega), if_pos h]
    refine ⟨?_, by omega, by omega⟩
    rw [show min (f + l) t - 1 + 1 = min (f + l) t by omega]
  · rw [if_neg h, if_pos (by omega), if_neg h]
    refine ⟨?_, by omega, by omega⟩
    rw [show f + l - 1 + 1 = f + l by omega]
theorem LI.mov {n f t l : Nat} {m : Mg} (h : LI n m) (hk : ∃ j, j < 1000 ∧ m 6 0 = nI j) (q1 : 0 < l) (q2 : f + l ≤ n) (q3 : t + l ≤ n) : LI n (movM n f t l m) ∧ movM n f t l m 6 0 = m 6 0 + nI 1 := by
  have hc := h.cop hk q1 q2 q3
  unfold movM
  split
  · exact hc
  · exact ⟨hc.1.fill (v := 0) (by decide), (fill_5 hc.1.im).2.trans hc.2⟩

/-! LOCKS AND SETTINGS IN ACT -/
theorem row_1 {p : Nat} {m : Mg} : rowM p p m = payO 2 m p := by
  unfold rowM
  rw [show p + 1 - p = 1 by omega]
  rfl
theorem setL_1 {p : Nat} {m : Mg} : setL p (p + 1 - p) m = lckM m p (nI 1) := by
  unfold setL
  rw [show p + 1 - p = 1 by omega]
  rfl
theorem slk_n {p : Nat} {m : Mg} : slkM p false m = lckM m p (nI 0) := rfl
theorem slk_o {p : Nat} {m : Mg} (ho : owb m p = false) : slkM p true m = lckM m p (nI 1) := by
  show lockM p p m = _
  unfold lockM
  rw [setL_1, row_1, payO_f ho]
theorem slk_p {p : Nat} {m : Mg} (ho : owb m p = true) : slkM p true m = payM 2 (lckM m p (nI 1)) p := by
  show lockM p p m = _
  unfold lockM
  rw [setL_1, row_1, payO_t ho, pay_lck]
theorem cnt_1 {p : Nat} {m : Mg} : cntG (owb m) p (p + 1 - p) = if owb m p then 1 else 0 := by
  rw [cntG_s (show p < p + 1 by omega), show p + 1 - (p + 1) = 0 by omega]
  rfl
theorem lck_im {n p : Nat} {m : Mg} {v : Int32} (h : IM m n) : IM (lckM m p v) n := h
theorem lck_ev {p : Nat} {m : Mg} {v : Int32} (h : EvOK m) : EvOK (lckM m p v) := h
theorem LI_setM {n k x : Nat} {m : Mg} (h : LI n m) (hk : k < 5) (h0 : k = 0 → 1 ≤ x ∧ x ≤ 20) (h1 : k = 1 → x ≤ 96) (h2 : k = 2 → x ≤ 3) (h3 : 3 ≤ k → x ≤ 1) : LI n (setM m k (nI x)) := by
  obtain ⟨h14, ⟨c, hM, hc⟩, r3, r4⟩ := h
  obtain ⟨w, lim, pol, s1, s2, s3, s4, s5, s6, s7⟩ := hM.2.2.2.2.1
  have e : ∀ j, ¬ j = k → setM m k (nI x) 5 j = m 5 j := fun j hj => (show upd (m 5) k (nI x) j = m 5 j from upd_o hj)
  have ek : setM m k (nI x) 5 k = nI x := (show upd (m 5) k (nI x) k = nI x from upd_s)
  rcases (show k = 0 ∨ k = 1 ∨ k = 2 ∨ k = 3 ∨ k = 4 by omega) with rfl | rfl | rfl | rfl | rfl
  · exact ⟨h14, ⟨c, hM.set ⟨x, lim, pol, ek, (h0 rfl).1, (h0 rfl).2, (e 1 (by decide)).trans s4, s5, (e 2 (by decide)).trans s6, s7⟩, hc⟩, by rw [e 3 (by decide)]; exact r3, by rw [e 4 (by decide)]; exact r4⟩
  · exact ⟨h14, ⟨c, hM.set ⟨w, x, pol, (e 0 (by decide)).trans s1, s2, s3, ek, h1 rfl, (e 2 (by decide)).trans s6, s7⟩, hc⟩, by rw [e 3 (by decide)]; exact r3, by rw [e 4 (by decide)]; exact r4⟩
  · exact ⟨h14, ⟨c, hM.set ⟨w, lim, x, (e 0 (by decide)).trans s1, s2, s3, (e 1 (by decide)).trans s4, s5, ek, h2 rfl⟩, hc⟩, by rw [e 3 (by decide)]; exact r3, by rw [e 4 (by decide)]; exact r4⟩
  · refine ⟨h14, ⟨c, hM.rule (Or.inl rfl), hc⟩, ?_, by rw [e 4 (by decide)]; exact r4⟩
    have h9 := h3 (by decide)
    rw [ek]
    rcases (show x = 0 ∨ x = 1 by omega) with rfl | rfl
    · exact Or.inl rfl
    · exact Or.inr rfl
  · refine ⟨h14, ⟨c, hM.rule (Or.inr rfl), hc⟩, by rw [e 3 (by decide)]; exact r3, ?_⟩
    have h9 := h3 (by decide)
    rw [ek]
    rcases (show x = 0 ∨ x = 1 by omega) with rfl | rfl
    · exact Or.inl rfl
    · exact Or.inr rfl
theorem cd_e0 {n k x : Nat} (n1 : ¬ n = 0) (hk : k < 5) (h0 : k = 0 → 1 ≤ x ∧ x ≤ 20) (h1 : k = 1 → x ≤ 96) (h2 : k = 2 → x ≤ 3) (h3 : 3 ≤ k → x ≤ 1) : cdL [(decide (n = 0), 1), (!inB (nI k) 0 4, 2), (!inB (nI x) (lsV (tN (nI k))) (gsV (tN (nI k))), 2)] = 0 := by
  rw [cdL_f (decide_eq_false n1), cdL_f (by rw [inB_n (by omega) (by omega) (by omega)]; rfl), tN_nI (by omega)]
  have hx : inB (nI x) (lsV k) (gsV k) = true := by
    rcases (show k = 0 ∨ k = 1 ∨ k = 2 ∨ k = 3 ∨ k = 4 by omega) with rfl | rfl | rfl | rfl | rfl
    · have := h0 rfl
      exact inB_n (show (1 : Int) ≤ x by omega) (show (x : Int) ≤ 20 by omega) (by omega)
    · have := h1 rfl
      exact inB_n (show (0 : Int) ≤ x by omega) (show (x : Int) ≤ 96 by omega) (by omega)
    · have := h2 rfl
      exact inB_n (show (0 : Int) ≤ x by omega) (show (x : Int) ≤ 3 by omega) (by omega)
    · have := h3 (by decide)
      exact inB_n (show (0 : Int) ≤ x by omega) (show (x : Int) ≤ 1 by omega) (by omega)
    · have := h3 (by decide)
      exact inB_n (show (0 : Int) ≤ x by omega) (show (x : Int) ≤ 1 by omega) (by omega)
  rw [hx]
  rfl
theorem cd_e2 {n k v : Nat} (n1 : ¬ n = 0) (h : cdL [(!inB (nI k) 0 4, 2), (!inB (nI v) (lsV (tN (nI k))) (gsV (tN (nI k))), 2)] = 2) : cdL [(decide (n = 0), 1), (!inB (nI k) 0 4, 2), (!inB (nI v) (lsV (tN (nI k))) (gsV (tN (nI k))), 2)] = 2 := by
  rw [cdL_f (decide_eq_false n1)]
  exact h

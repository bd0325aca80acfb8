/-! the reference between two calls -/
def IQ (n : Nat) (m : Mg) (L : List Mg) (kb : Nat → Bool) (sm : Nat → Mg) (T : List Int32) (f : Nat) (B : Nat → Int32) (e1 e2 : Int32) (g : G) : Prop :=
  QMm n m g ∧ (n = 0 → g 1 399 = nI 0) ∧ QHs L g ∧ ((∀ j, j < 2 → g 3 j = bI (kb j)) ∧ ∀ j, j < 2 → kb j = true → RowR (sm j) (fun i => g 2 (640 * (9 + j) + i)) ∧ EvOK (sm j)) ∧ QTx T g ∧ (g 0 8 = nI f ∧ g 4 = B) ∧ (g 0 9 = e1 ∧ g 0 10 = e2)
section IQs
variable {n : Nat} {m : Mg} {L : List Mg} {kb : Nat → Bool} {sm : Nat → Mg} {T : List Int32} {f : Nat} {B : Nat → Int32} {e1 e2 : Int32} {g u : G}
/-- other cells and fields like that -/
theorem IQ.of (h : IQ n m L kb sm T f B e1 e2 g) (hR : ¬ n = 0 → RowR m (u 1)) (h99 : n = 0 → u 1 399 = nI 0) (h0 : ∀ k, ¬ k = 0 → k < 25 → (k < 11 ∨ k = 24) → u 0 k = g 0 k) (h2 : ∀ k, 640 ≤ k → u 2 k = g 2 k) (h3 : u 3 = g 3) (h4 : u 4 = g 4) (h6 : u 6 = g 6) : IQ n m L kb sm T f B e1 e2 u := by
  obtain ⟨⟨q1, q2, q3, q4⟩, q5, ⟨q6, q7, q8⟩, ⟨q9, q10⟩, ⟨q11, q12⟩, ⟨q13, q14⟩, q15, q16⟩ := h
  refine ⟨⟨(h0 1 (by decide) (by decide) (by decide)).trans q1, (h0 2 (by decide) (by decide) (by decide)).trans q2, q3, hR⟩, h99, ⟨(h0 5 (by decide) (by decide) (by decide)).trans q6, q7, fun i hi => ?_⟩, ⟨fun j hj => by rw [h3]; exact q9 j hj, fun j hj hk => ⟨?_, (q10 j hj hk).2⟩⟩, ⟨(h0 24 (by decide) (by decide) (by decide)).trans q11, fun i hi => by rw [h6]; exact q12 i hi⟩, ⟨(h0 8 (by decide) (by decide) (by decide)).trans q13, h4.trans q14⟩, (h0 9 (by decide) (by decide) (by decide)).trans q15, (h0 10 (by decide) (by decide) (by decide)).trans q16⟩
  · have e : (fun k => u 2 (640 * (L.length - i) + k)) = fun k => g 2 (640 * (L.length - i) + k) := funext fun k => h2 _ (by omega)
    rw [e]
    exact q8 i hi
  · have e : (fun i => u 2 (640 * (9 + j) + i)) = fun i => g 2 (640 * (9 + j) + i) := funext fun k => h2 _ (by omega)
    rw [e]
    exact (q10 j hj hk).1
theorem IQ.tg {c : Nat} (h : IQ n m L kb sm T f B e1 e2 g) : IQ n m L kb sm T f B e1 e2 (tg g c) := h.of (fun z => h.1.2.2.2 z) h.2.1 (fun k hk _ _ => (show upd (g 0) 0 (nI c) k = g 0 k from upd_o hk)) (fun _ _ => rfl) rfl rfl rfl
/-- something was tried -/
theorem IQ.tp {cd : Nat} (h : IQ n m L kb sm T f B e1 e2 g) (hE : ¬ n = 0 → EvOK m) (hq : QTp g cd u) : IQ n m L kb sm T f B e1 e2 u := by
  obtain ⟨hd, r, S, hu, hr, hS⟩ := hq
  subst hu
  exact h.of (fun z => RowR.mono (h.1.2.2.2 z) (fun k hk => hr k hk) (hE z)) (fun z => (hr 399 (by decide)).trans (h.2.1 z)) (fun k hk _ _ => (show upd (g 0) 0 (nI cd) k = g 0 k from upd_o hk)) (fun k hk => hS k hk) rfl rfl rfl
/-- a text was written -/
theorem IQ.tx {T2 : List Int32} (h : IQ n m L kb sm T f B e1 e2 g) (hF : txF (_root_.Jvm.Pilot.@@N@@.tg g 0) u) (hT : QTx T2 u) : IQ n m L kb sm T2 f B e1 e2 u := by
  obtain ⟨r1, r2, r3, r4, -, r0⟩ := hF.row
  obtain ⟨⟨q1, q2, q3, q4⟩, q5, ⟨q6, q7, q8⟩, ⟨q9, q10⟩, -, ⟨q13, q14⟩, q15, q16⟩ := h.tg (c := 0)
  exact ⟨⟨(r0 1 (by decide)).trans q1, (r0 2 (by decide)).trans q2, q3, fun z => by rw [r1]; exact q4 z⟩, fun z => by rw [r1]; exact q5 z, ⟨(r0 5 (by decide)).trans q6, q7, fun i hi => by rw [r2]; exact q8 i hi⟩, ⟨fun j hj => by rw [r3]; exact q9 j hj, fun j hj hk => by rw [r2]; exact q10 j hj hk⟩, hT, ⟨(r0 8 (by decide)).trans q13, r4.trans q14⟩, (r0 9 (by decide)).trans q15, (r0 10 (by decide)).trans q16⟩
/-- something was changed -/
theorem IQ.mp {m2 : Mg} (h : IQ n m L kb sm T f B e1 e2 g) (hn : ¬ n = 0) (hE : EvOK m) (hEL : ∀ x ∈ L, EvOK x) (hq : QMp g L.length m2 u) : IQ n m2 ((m :: L).take 8) kb sm T f B e1 e2 u := by
  obtain ⟨hd, r, hu, hr⟩ := hq
  obtain ⟨⟨q1, q2, q3, q4⟩, q5, qH, ⟨q9, q10⟩, ⟨q11, q12⟩, ⟨q13, q14⟩, q15, q16⟩ := h
  have hka : QHs ((m :: L).take 8) u := kaS_ok qH (q4 hn) hE hEL (by rw [hu]; rfl) (by rw [hu]; rfl)
  subst hu
  refine ⟨⟨q1, q2, q3, fun _ => hr⟩, fun z => absurd z hn, hka, ⟨q9, fun j hj hk => ⟨?_, (q10 j hj hk).2⟩⟩, ⟨q11, q12⟩, ⟨q13, q14⟩, q15, q16⟩
  have hc8 := qH.2.1
  have e : (fun i => kaS (g 2) (g 1) L.length (640 * (9 + j) + i)) = fun i => g 2 (640 * (9 + j) + i) := funext fun k => by
    unfold kaS
    have hk7 : kaN L.length ≤ 7 := by unfold kaN; split <;> omega
    rw [kpP_out (by omega)]
    split
    · unfold shP; rw [if_neg (by omega)]
    · rfl
  show RowR (sm j) (fun i => kaS (g 2) (g 1) L.length (640 * (9 + j) + i))
  rw [e]
  exact (q10 j hj hk).1
end IQs

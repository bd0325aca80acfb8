section ICl
variable {b n n2 k : Nat} {m : Mg} {L : List Mg} {kb : Nat → Bool} {sm : Nat → Mg} {T : List Int32} {f : Nat} {B : Nat → Int32} {e1 e2 : Int32} {rb : G} {hh hx : Hg} {sl sl2 : Nat → Mg} {tx : G} {P : RX} {ru : Rg}
theorem RXP_err (h : RXP B k P (nI 0) ru) : ru.1 13 = B ∧ ru.1 0 2 = nI 0 ∧ ru.1 0 3 = nI P.1.2.1 ∧ ru.1 0 4 = (if P.1.2.1 = 0 then -1 else nI P.1.2.2) := ⟨h.1.1, h.2.2.1, h.1.2.2.2.1.2.2.1, h.1.2.2.2.1.2.2.2⟩
theorem ICp.ldf (h : ICp b n m L kb sm T f B e1 e2 rb hh sl tx) (hX : RXP B k P (nI 0) ru) : ICp b n m L kb sm T 0 B (nI P.1.2.1) (if P.1.2.1 = 0 then -1 else nI P.1.2.2) ru.1 hh sl tx := by
  obtain ⟨h1, h2, h3, h4, ⟨q1, q2, q3, q4⟩, q5, q6⟩ := h
  obtain ⟨x1, x2, x3, x4⟩ := RXP_err hX
  exact ⟨h1, h2, h3, h4, ⟨x2, Nat.zero_le _, x1, q4⟩, x3, x4⟩
theorem ICp.ldo (h : ICp b n m L kb sm T f B e1 e2 rb hh sl tx) (hb : 20 ≤ b) (hX : RXP B k P (nI 0) ru) (hP : PI n2 P) (hH : HS [] hx) (s0 : sl2 0 = clrM (sl 0 7)) (s1 : sl2 1 = clrM (sl 1 7)) : ICp b n2 P.2.1 [] (fun _ => false) sm T 0 B (nI P.1.2.1) (if P.1.2.1 = 0 then -1 else nI P.1.2.2) ru.1 hx sl2 tx := by
  obtain ⟨h1, h2, h3, h4, ⟨q1, q2, q3, q4⟩, q5, q6⟩ := h
  obtain ⟨x1, x2, x3, x4⟩ := RXP_err hX
  obtain ⟨co, hM, -, hc⟩ := hP
  have hn : ¬ n2 = 0 := by have := hM.2.2.2.1; omega
  refine ⟨⟨⟨co, Nat.le_trans hc hb, hM.wm⟩, fun z => absurd z hn⟩, ⟨hH, fun y hy => by cases hy⟩, fun j hj => ⟨(fun z => by cases z), fun _ => ?_⟩, h4, ⟨x2, Nat.zero_le _, x1, q4⟩, x3, x4⟩
  have hj2 : j = 0 ∨ j = 1 := by omega
  rcases hj2 with rfl | rfl
  · rw [s0]; rfl
  · rw [s1]; rfl
theorem PI_LK (h : PI n P) : LK P.2.1 := by
  obtain ⟨co, hM, -, -⟩ := h
  exact hM.2.2.1
theorem PI_par {ev : Nat → Int32} (h : parS B k ev = P) : PI (hd1 B k).2 P := by
  rw [← h]
  unfold parS
  exact PI.lines 700 _ (PI.hd _)
end ICl

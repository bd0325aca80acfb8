section IQs2
variable {n : Nat} {m : Mg} {L : List Mg} {kb : Nat → Bool} {sm : Nat → Mg} {T : List Int32} {f : Nat} {B : Nat → Int32} {e1 e2 : Int32} {g u : G}
/-- bytes were taken -/
theorem IQ.app {a b c d e : Int32} (h : IQ n m L kb sm T f B e1 e2 g) : IQ n m L kb sm T (f + 20) (bfB B f 20 a b c d e) e1 e2 (sG (sG g 0 (upd (upd (g 0) 0 (nI 0)) 8 (nI (f + 20)))) 4 (bfB (g 4) f 20 a b c d e)) := by
  obtain ⟨⟨q1, q2, q3, q4⟩, q5, ⟨q6, q7, q8⟩, ⟨q9, q10⟩, ⟨q11, q12⟩, ⟨q13, q14⟩, q15, q16⟩ := h
  exact ⟨⟨q1, q2, q3, q4⟩, q5, ⟨q6, q7, q8⟩, ⟨q9, q10⟩, ⟨q11, q12⟩, ⟨rfl, by rw [← q14]; rfl⟩, q15, q16⟩
/-- a change was undone -/
theorem IQ.und {x : Mg} {r : Nat → Int32} (h : IQ n m (x :: L) kb sm T f B e1 e2 g) (hn : ¬ n = 0) (hr : RowR x r) : IQ n x L kb sm T f B e1 e2 (sG (sG g 0 (upd (upd (g 0) 0 (nI 0)) 5 (nI L.length))) 1 r) := by
  obtain ⟨⟨q1, q2, q3, q4⟩, q5, ⟨q6, q7, q8⟩, ⟨q9, q10⟩, ⟨q11, q12⟩, ⟨q13, q14⟩, q15, q16⟩ := h
  rw [List.length_cons] at q7
  refine ⟨⟨q1, q2, q3, fun _ => hr⟩, fun z => absurd z hn, ⟨rfl, by omega, fun i hi => ?_⟩, ⟨q9, q10⟩, ⟨q11, q12⟩, ⟨q13, q14⟩, q15, q16⟩
  have := q8 (i + 1) (Nat.succ_lt_succ hi)
  rw [List.length_cons, Nat.add_sub_add_right] at this
  exact this
/-- a slot was filled -/
theorem IQ.sav {j : Nat} (h : IQ n m L kb sm T f B e1 e2 g) (hn : ¬ n = 0) (hE : EvOK m) (hEL : ∀ x ∈ L, EvOK x) (hj : j < 2) : IQ n m L (fun i => if i = j then true else kb i) (fU sm j m) T f B e1 e2 (sG (sG (_root_.Jvm.Pilot.@@N@@.tg g 0) 2 (kpP (g 2) (g 1) (9 + j) 640)) 3 (upd (g 3) j (nI 1))) := by
  obtain ⟨⟨q1, q2, q3, q4⟩, q5, ⟨q6, q7, q8⟩, ⟨q9, q10⟩, ⟨q11, q12⟩, ⟨q13, q14⟩, q15, q16⟩ := h
  refine ⟨⟨q1, q2, q3, q4⟩, q5, ⟨q6, q7, fun i hi => ?_⟩, ⟨fun i hi => ?_, fun i hi hk => ?_⟩, ⟨q11, q12⟩, ⟨q13, q14⟩, q15, q16⟩
  · refine RowR.mono (q8 i hi) (fun k hk => ?_) (hEL _ (List.getElem_mem hi))
    show kpP (g 2) (g 1) (9 + j) 640 (640 * (L.length - i) + k) = g 2 (640 * (L.length - i) + k)
    exact kpP_out (by omega)
  · show upd (g 3) j (nI 1) i = bI (if i = j then true else kb i)
    by_cases e : i = j
    · rw [if_pos e, e, upd_s]; rfl
    · rw [if_neg e, upd_o e]; exact q9 i hi
  · show RowR (fU sm j m i) (fun k => kpP (g 2) (g 1) (9 + j) 640 (640 * (9 + i) + k)) ∧ EvOK (fU sm j m i)
    unfold fU
    by_cases e : i = j
    · rw [if_pos e]
      subst e
      exact ⟨RowR.mono (q4 hn) (fun k hk => kpP_in hk) hE, hE⟩
    · rw [if_neg e]
      have hk : kb i = true := by
        have hk : (if i = j then true else kb i) = true := hk
        rw [if_neg e] at hk
        exact hk
      have h2 := q10 i hi hk
      exact ⟨RowR.mono h2.1 (fun k hk => kpP_out (by omega)) h2.2, h2.2⟩
/-- a slot came back -/
theorem IQ.res {j : Nat} {r : Nat → Int32} (h : IQ n m L kb sm T f B e1 e2 g) (hn : ¬ n = 0) (hr : RowR (sm j) r) : IQ n (sm j) [] kb sm T f B e1 e2 (sG (sG g 0 (upd (upd (g 0) 0 (nI 0)) 5 (nI 0))) 1 r) := by
  obtain ⟨⟨q1, q2, q3, q4⟩, q5, ⟨q6, q7, q8⟩, ⟨q9, q10⟩, ⟨q11, q12⟩, ⟨q13, q14⟩, q15, q16⟩ := h
  exact ⟨⟨q1, q2, q3, fun _ => hr⟩, fun z => absurd z hn, ⟨rfl, Nat.zero_le _, fun i hi => absurd hi (Nat.not_lt_zero i)⟩, ⟨q9, q10⟩, ⟨q11, q12⟩, ⟨q13, q14⟩, q15, q16⟩
/-- a text was refused -/
theorem IQ.ldf {P : RX} (h : IQ n m L kb sm T f B e1 e2 g) (hE : ¬ n = 0 → EvOK m) (hu : LDf g P u) : IQ n m L kb sm T 0 B (nI P.1.2.1) (if P.1.2.1 = 0 then -1 else nI P.1.2.2) u := by
  obtain ⟨⟨a0, a1, a2, a5, a8, a9, a10, a24⟩, b1, b2, b3, b4, b6⟩ := hu
  obtain ⟨⟨q1, q2, q3, q4⟩, q5, ⟨q6, q7, q8⟩, ⟨q9, q10⟩, ⟨q11, q12⟩, ⟨q13, q14⟩, q15, q16⟩ := h
  refine ⟨⟨a1.trans q1, a2.trans q2, q3, fun z => RowR.mono (q4 z) (fun k hk => b1 k hk) (hE z)⟩, fun z => (b1 399 (by decide)).trans (q5 z), ⟨a5.trans q6, q7, fun i hi => ?_⟩, ⟨fun j hj => by rw [b3]; exact q9 j hj, fun j hj hk => ⟨?_, (q10 j hj hk).2⟩⟩, ⟨a24.trans q11, fun i hi => by rw [b6]; exact q12 i hi⟩, ⟨a8, b4.trans q14⟩, a9, a10⟩
  · have e : (fun k => u 2 (640 * (L.length - i) + k)) = fun k => g 2 (640 * (L.length - i) + k) := funext fun k => b2 _ (by omega)
    rw [e]
    exact q8 i hi
  · have e : (fun i => u 2 (640 * (9 + j) + i)) = fun i => g 2 (640 * (9 + j) + i) := funext fun k => b2 _ (by omega)
    rw [e]
    exact (q10 j hj hk).1
/-- a text was read -/
theorem IQ.ldo {P : RX} {n2 : Nat} (h : IQ n m L kb sm T f B e1 e2 g) (hn : ¬ n2 = 0) (h96 : n2 ≤ 96) (hu : LDo g P n2 u) : IQ n2 P.2.1 [] (fun _ => false) sm T 0 B (nI P.1.2.1) (if P.1.2.1 = 0 then -1 else nI P.1.2.2) u := by
  obtain ⟨⟨a0, a1, a2, a5, a8, a9, a10, a24⟩, b1, b2, ⟨b3, b5⟩, b4, b6⟩ := hu
  obtain ⟨⟨q1, q2, q3, q4⟩, q5, ⟨q6, q7, q8⟩, ⟨q9, q10⟩, ⟨q11, q12⟩, ⟨q13, q14⟩, q15, q16⟩ := h
  refine ⟨⟨by rw [a1, decide_eq_false hn]; rfl, a2, h96, fun _ => b1⟩, fun z => absurd z hn, ⟨a5, Nat.zero_le _, fun i hi => absurd hi (Nat.not_lt_zero i)⟩, ⟨fun j hj => ?_, fun j hj hk => by cases hk⟩, ⟨a24.trans q11, fun i hi => by rw [b6]; exact q12 i hi⟩, ⟨a8, b4.trans q14⟩, a9, a10⟩
  have hj2 : j = 0 ∨ j = 1 := by omega
  rcases hj2 with rfl | rfl
  · exact b3
  · exact b5
end IQs2

theorem start_K {b L : Nat} {xs : Nat → Int32} {s : State} (hts : ∀ w ∈ lw_tbl, w.before #[Value.ref b] s = true) (hgv : (Jvm.Cond.and given_1 narrow_1).before #[Value.ref b] s = true) (hX : va_X b L xs s s.heap) (hbl : b < s.heap.size) : ∃ κ : Kp, (va_K κ.1 vwCl (tysOf κ) s ∧ EV SS MM κ (fun q => s.heap.size ≤ q) s s.heap ∧ EN s) ∧ b = κ.2.2.1 102 ∧ κ.2.2.2 999 = L := by
  have hN := flat_of_before _ hgv
  have hA : ∀ a : Nat, a < s.heap.size → ¬ (fun q : Nat => s.heap.size ≤ q) a := fun a h => Nat.not_le.mpr h
  have hTT : ∀ w ∈ TT, w.before #[Value.ref b] s = true := fun w hw => hts w (List.mem_filter.mp hw).1
  have h0 : ∀ c : Nat, ∃ p : ClassId × (Nat → Nat), ∀ q : vw_C, vwCl[c]? = some q → u_Kn s q.1 q.2.1 q.2.2 p.1 p.2 := by
    intro c
    match c with
    | 0 => obtain ⟨cC, iS, hK⟩ := u_known (C := RX0) (T := TX0) (N := 4) (n := 4) hTT inTX0 (hts _ (tbl_at 37 (by decide +kernel))); exact ⟨(cC, iS), fun q hq => by cases hq; exact hK⟩
    | 1 => obtain ⟨cC, iS, hK⟩ := u_known (C := RX1) (T := TX1) (N := 3) (n := 3) hTT inTX1 (hts _ (tbl_at 168 (by decide +kernel))); exact ⟨(cC, iS), fun q hq => by cases hq; exact hK⟩
    | 2 => obtain ⟨cC, iS, hK⟩ := u_known (C := RX2) (T := TX2) (N := 9) (n := 9) hTT inTX2 (hts _ (tbl_at 43 (by decide +kernel))); exact ⟨(cC, iS), fun q hq => by cases hq; exact hK⟩
    | 3 => obtain ⟨cC, iS, hK⟩ := u_known (C := RX3) (T := TX3) (N := 14) (n := 14) hTT inTX3 (hts _ (tbl_at 113 (by decide +kernel))); exact ⟨(cC, iS), fun q hq => by cases hq; exact hK⟩
    | 4 => obtain ⟨cC, iS, hK⟩ := u_known (C := RX4) (T := TX4) (N := 2) (n := 2) hTT inTX4 (hts _ (tbl_at 189 (by decide +kernel))); exact ⟨(cC, iS), fun q hq => by cases hq; exact hK⟩
    | 5 => obtain ⟨cC, iS, hK⟩ := u_known (C := RX5) (T := TX5) (N := 6) (n := 6) hTT inTX5 (hts _ (tbl_at 29 (by decide +kernel))); exact ⟨(cC, iS), fun q hq => by cases hq; exact hK⟩
    | 6 => obtain ⟨cC, iS, hK⟩ := u_known (C := RX6) (T := TX6) (N := 2) (n := 2) hTT inTX6 (hts _ (tbl_at 244 (by decide +kernel))); exact ⟨(cC, iS), fun q hq => by cases hq; exact hK⟩
    | 7 => obtain ⟨cC, iS, hK⟩ := u_known (C := RX7) (T := TX7) (N := 7) (n := 7) hTT inTX7 (hts _ (tbl_at 262 (by decide +kernel))); exact ⟨(cC, iS), fun q hq => by cases hq; exact hK⟩
    | 8 => obtain ⟨cC, iS, hK⟩ := u_known (C := RX8) (T := TX8) (N := 5) (n := 5) hTT inTX8 (hts _ (tbl_at 431 (by decide +kernel))); exact ⟨(cC, iS), fun q hq => by cases hq; exact hK⟩
    | 9 => obtain ⟨cC, iS, hK⟩ := u_known (C := RJ0) (T := TJ0) (N := 4) (n := 4) hTT inTJ0 (hts _ (tbl_at 1428 (by decide +kernel))); exact ⟨(cC, iS), fun q hq => by cases hq; exact hK⟩
    | 10 => obtain ⟨cC, iS, hK⟩ := u_known (C := RJ4) (T := TJ4) (N := 4) (n := 4) hTT inTJ4 (hts _ (tbl_at 268 (by decide +kernel))); exact ⟨(cC, iS), fun q hq => by cases hq; exact hK⟩
    | c + 11 => exact ⟨(default, fun _ => 0), fun q hq => absurd hq (by simp [vwCl])⟩
  obtain ⟨p, hp⟩ := Classical.axiomOfChoice h0
  have h1 : ∀ k : Nat, ∃ cA : ClassId, ∀ ty, ([FieldType.int, .boolean, .byte, .object "CopyDebtsLaw$Place", .object "CopyDebts$Memory", .array .int] : List FieldType)[k]? = some ty → ArrOfT s cA ty ∧ va_RA s cA ty := by
    intro k
    match k with
    | 0 => obtain ⟨cA, hc⟩ := ar_of (s := s) (ty := .int) (fun _ h => h) (hts _ (tbl_at 95 (by decide +kernel))); exact ⟨cA, fun ty ht => by cases ht; exact hc⟩
    | 1 => obtain ⟨cA, hc⟩ := ar_of (s := s) (ty := .boolean) (fun _ h => h) (hts _ (tbl_at 96 (by decide +kernel))); exact ⟨cA, fun ty ht => by cases ht; exact hc⟩
    | 2 => obtain ⟨cA, hc⟩ := ar_of (s := s) (ty := .byte) (fun _ h => h) (hts _ (tbl_at 425 (by decide +kernel))); exact ⟨cA, fun ty ht => by cases ht; exact hc⟩
    | 3 => obtain ⟨cA, hc⟩ := ar_ofQ (s := s) (C := "CopyDebtsLaw$Place") (hts _ (tbl_at 430 (by decide +kernel))); exact ⟨cA, fun ty ht => by cases ht; exact hc⟩
    | 4 => obtain ⟨cA, hc⟩ := ar_ofQ (s := s) (C := "CopyDebts$Memory") (hts _ (tbl_at 174 (by decide +kernel))); exact ⟨cA, fun ty ht => by cases ht; exact hc⟩
    | 5 => obtain ⟨cA, hc⟩ := ar_ofA (s := s) (hts _ (tbl_at 427 (by decide +kernel))); exact ⟨cA, fun ty ht => by cases ht; exact hc⟩
    | k + 6 => exact ⟨default, fun ty ht => absurd ht (by simp)⟩
  obtain ⟨ca, hca⟩ := Classical.axiomOfChoice h1
  have h2 : ∀ i : Nat, ∃ a : Nat × Nat, ∀ q : SQ, SS[i]? = some q → SAt q a.1 a.2 (fun q : Nat => s.heap.size ≤ q) s s.heap := by
    intro i
    cases hq : SS[i]? with
    | none => exact ⟨(0, 0), fun q h => by cases h⟩
    | some q =>
      obtain ⟨w1, w2⟩ := SS_w i q hq
      obtain ⟨a, ha⟩ := SAt_of (b := b) (s := s) (q := q) (A := fun q : Nat => s.heap.size ≤ q) (SS_len i q hq) (hts _ w1) (fun w hw => hN w (w2 w hw)) hA
      exact ⟨a, fun q2 h => by cases h; exact ha⟩
  obtain ⟨ad, had⟩ := Classical.axiomOfChoice h2
  have h3 : ∀ j : Nat, ∃ k : Nat, nI k = xs j := fun j => nI_all _
  obtain ⟨wn, hwn⟩ := Classical.axiomOfChoice h3
  obtain ⟨d1, z1, t1⟩ := dig_of (b := b) (s := s) (nm := "DigitOnes") (f := fun j => 48 + j % 10) (A := fun q : Nat => s.heap.size ≤ q) (hts _ (tbl_at 475 (by decide +kernel))) (hts _ (tbl_at 15 (by decide +kernel))) (fun w hw => hN w (dw_DigitOnes w hw)) hA
  obtain ⟨d2, z2, t2⟩ := dig_of (b := b) (s := s) (nm := "DigitTens") (f := fun j => 48 + j / 10) (A := fun q : Nat => s.heap.size ≤ q) (hts _ (tbl_at 477 (by decide +kernel))) (hts _ (tbl_at 15 (by decide +kernel))) (fun w hw => hN w (dw_DigitTens w hw)) hA
  have hscr : va_T .int b L (fun j => .int (nI (wn j))) (fun q : Nat => s.heap.size ≤ q) s s.heap := by
    obtain ⟨scr, c1, c2, c3, c4, c5⟩ := hX
    exact ⟨scr, c1, c2, c3, by omega, by rw [c4], fun j hj => by rw [c5 j hj]; exact congrArg (fun z => some (Value.int z)) (hwn j).symm, hA b hbl⟩
  refine ⟨((fun c => (p c).1, fun c => (p c).2), ca, fun i => if i = 100 then d1 else if i = 101 then d2 else if i = 102 then b else (ad i).1, fun i => if i = 999 then L else if 1000 ≤ i then wn (i - 1000) else (ad i).2), ⟨⟨fun c q hq => hp c q hq, fun k q hq => ?_⟩, ⟨?_, ?_, fun w hw => ?_, fun q hq => ?_, fun q hq => ?_, fun i q hq => ?_, ?_, ?_, ?_⟩, fun w hw => ?_, ?_⟩, rfl, rfl⟩
  · match k, hq with
    | 0, hq => cases hq; exact hca 0 _ rfl
    | 1, hq => cases hq; exact hca 1 _ rfl
    | 2, hq => cases hq; exact hca 2 _ rfl
    | 3, hq => cases hq; exact hca 3 _ rfl
    | 4, hq => cases hq; exact hca 4 _ rfl
    | 5, hq => cases hq; exact hca 5 _ rfl
    | k + 6, hq => exact absurd hq (by simp [tysOf])
  · exact vx_Zqof (hts _ (tbl_at 680 (by decide +kernel))) (hts _ (tbl_at 22 (by decide +kernel))) (hN _ (NW1_at 215 (by decide +kernel))) hA
  · exact vx_Zqof (hts _ (tbl_at 682 (by decide +kernel))) (hts _ (tbl_at 22 (by decide +kernel))) (hN _ (NW1_at 216 (by decide +kernel))) hA
  · exact va_Nw.of (TD_on hw) (hts w (List.mem_filter.mp hw).1)
  · exact va_Nc.of (hN _ (NC_w q hq))
  · obtain ⟨w1, w2⟩ := MM_w q hq
    obtain ⟨a, c, cA, kA, q1, -⟩ := Cond.exactly_spec (args := #[Value.ref b]) (first := s) (o := none) (s := s) (idx := []) (t := .string q.1 q.2.1) (cls := "java/lang/String") (hN _ w2)
    exact ⟨a, vk_R.of (hts _ w1) q1⟩
  · have hi := SS_lt i q hq
    have e1 : (if i = 100 then d1 else if i = 101 then d2 else if i = 102 then b else (ad i).1) = (ad i).1 := by rw [if_neg (by omega), if_neg (by omega), if_neg (by omega)]
    have e2 : (if i = 999 then L else if 1000 ≤ i then wn (i - 1000) else (ad i).2) = (ad i).2 := by rw [if_neg (by omega), if_neg (by omega)]
    show SAt q (if i = 100 then d1 else if i = 101 then d2 else if i = 102 then b else (ad i).1) (if i = 999 then L else if 1000 ≤ i then wn (i - 1000) else (ad i).2) _ _ _
    rw [e1, e2]
    exact had i q hq
  · exact va_Zof (hts _ (tbl_at 286 (by decide +kernel))) (hts _ (tbl_at 5 (by decide +kernel))) (va_eqt (hN _ (NW1_at 4 (by decide +kernel)))) hA
  · exact va_Zqof (hts _ (tbl_at 367 (by decide +kernel))) (hts _ (tbl_at 11 (by decide +kernel))) (hN _ (NW1_at 5 (by decide +kernel))) hA
  · refine ⟨z1, t1, z2, t2, va_AO.of (hts _ (tbl_at 430 (by decide +kernel))), AOA.of (hts _ (tbl_at 427 (by decide +kernel))), ?_, TSel_w hts⟩
    have e3 : (fun j : Nat => Value.int (nI (if 1000 + j = 999 then L else if 1000 ≤ 1000 + j then wn (1000 + j - 1000) else (ad (1000 + j)).2))) = fun j => Value.int (nI (wn j)) := by
      funext j
      rw [if_neg (by omega), if_pos (by omega), show 1000 + j - 1000 = j by omega]
    show va_T .int b L (fun j : Nat => Value.int (nI (if 1000 + j = 999 then L else if 1000 ≤ 1000 + j then wn (1000 + j - 1000) else (ad (1000 + j)).2))) _ _ _
    rw [e3]
    exact hscr
  · have h2 : isN w = true := (List.mem_filter.mp hw).2
    exact va_Nw.of (by cases w <;> first | (cases h2; done) | rfl) (hts w (List.mem_filter.mp hw).1)
  · exact va_AO.of (hts _ (tbl_at 174 (by decide +kernel)))

/-! THE LAW'S MEMORY IS MADE: its text, the lines that were drawn, the memory that they give -/
theorem prm8 {α : Type} (a b c d e f g x : α) : [a, b, c, d, e, f, g, x].Perm [g, a, d, c, b, e, f, x] := by
  have h : ([0, 1, 2, 3, 4, 5, 6, 7] : List Nat).Perm [6, 0, 3, 2, 1, 4, 5, 7] := by decide
  exact h.map (fun k => [a, b, c, d, e, f, g, x].getD k a)
theorem hh_ex (a0 a1 a2 a3 a4 a5 : Nat) : ∃ h : Nat → Nat, h 0 = a0 ∧ h 1 = a1 ∧ h 2 = a2 ∧ h 3 = a3 ∧ h 4 = a4 ∧ h 5 = a5 := ⟨fun k => [a0, a1, a2, a3, a4, a5].getD k 0, rfl, rfl, rfl, rfl, rfl, rfl⟩
def plc0 (h : Nat → Nat) (i : Nat) : Nat × va_E := (h (8 + i), .inr (8, [.int (nI i), .int 0, .int (-1), va_rf none, .int 0]))
def lmB (κ : Kp) (h : Nat → Nat) (n j : Nat) (R : va_W) : va_W :=
  (h 0, .inr (7, [.ref (h 5), .ref (h 1), .ref (h 2), .ref (h 3), .ref (h 4), .int 0, .int 0])) :: cP κ (h 1) n (pq0 h j) :: cI κ (h 2) 5 (fun _ => 0) :: cI κ (h 3) 9 (fun _ => 0) :: cE κ (h 4) 80 (fun _ => none) :: ((List.range j).map (plc0 h) ++ R)
def hup (h : Nat → Nat) (j q : Nat) : Nat → Nat := fun k => if k = 8 + j then q else h k
theorem hup_lo {h : Nat → Nat} {j q k : Nat} (hk : k < 8) : hup h j q k = h k := if_neg (by omega)
theorem hup_pl {h : Nat → Nat} {j q i : Nat} (hi : i < j) : hup h j q (8 + i) = h (8 + i) := if_neg (by omega)
theorem lmB_next {κ : Kp} {h : Nat → Nat} {n j q : Nat} {R : va_W} :
    ((q, .inr (8, [.int (nI j), .int 0, .int (-1), va_rf none, .int 0])) :: (lmB κ h n j R).set 1 (cP κ (h 1) n (va_up (pq0 h j) j (some q)))).Perm (lmB κ (hup h j q) n (j + 1) R) := by
  have e1 : pq0 (hup h j q) (j + 1) = va_up (pq0 h j) j (some q) := by
    funext i
    unfold pq0 va_up
    by_cases h1 : i = j
    · subst h1
      rw [if_pos (by omega), if_pos rfl]
      unfold hup
      rw [if_pos rfl]
    · rw [if_neg h1]
      by_cases h2 : i < j
      · show _ = if i < j then some (h (8 + i)) else none
        rw [if_pos (by omega), if_pos h2, hup_pl h2]
      · show _ = if i < j then some (h (8 + i)) else none
        rw [if_neg (by omega), if_neg h2]
  have e2 : (List.range (j + 1)).map (plc0 (hup h j q)) = (List.range j).map (plc0 h) ++ [(q, .inr (8, [.int (nI j), .int 0, .int (-1), va_rf none, .int 0]))] := by
    rw [List.range_succ, List.map_append]
    congr 1
    · apply List.map_congr_left
      intro i hi
      unfold plc0
      rw [hup_pl (List.mem_range.mp hi)]
    · show [plc0 (hup h j q) j] = _
      unfold plc0 hup
      rw [if_pos rfl]
  unfold lmB
  rw [e1, e2, hup_lo (by omega : 0 < 8), hup_lo (by omega : 1 < 8), hup_lo (by omega : 2 < 8), hup_lo (by omega : 3 < 8), hup_lo (by omega : 4 < 8), hup_lo (by omega : 5 < 8)]
  rw [List.append_assoc]
  refine List.Perm.symm ?_
  exact List.perm_middle (l₁ := (h 0, .inr (7, [.ref (h 5), .ref (h 1), .ref (h 2), .ref (h 3), .ref (h 4), .int 0, .int 0])) :: cP κ (h 1) n (va_up (pq0 h j) j (some q)) :: cI κ (h 2) 5 (fun _ => 0) :: cI κ (h 3) 9 (fun _ => 0) :: cE κ (h 4) 80 (fun _ => none) :: (List.range j).map (plc0 h)) (l₂ := R)
/-- the memory ahead of its settings -/
def m00 (n : Nat) : Mg := szM (clrM (fun _ => 0)) (nI n)
theorem lmB_n {κ : Kp} {h e : Nat → Nat} {n : Nat} {R : va_W} (h14 : n ≤ 14) : lmB κ h n n R = lmW κ h n (m00 n, e, nI 0) ++ R := by
  have e2 : ∀ i, i < n → m00 n 2 i = -1 := fun i hi => if_pos (by omega)
  have e3 : ∀ i, i < n → m00 n 3 i = -1 := fun i hi => if_pos (by omega)
  have a1 : (List.range n).map (plc0 h) = lmP h n (m00 n) := by
    unfold lmP
    apply List.map_congr_left
    intro i hi
    have hi := List.mem_range.mp hi
    unfold plc0 plc plf srcV
    rw [e2 i hi, e3 i hi, if_pos rfl]
    rfl
  have a3 : evN (m00 n) = 0 := by
    show (nI 0).toInt.toNat = 0
    decide
  have a4 : evq e 0 = fun _ => none := by
    funext k
    exact if_neg (Nat.not_lt_zero k)
  have a5 : lmE κ e (m00 n) = [] := by
    unfold lmE
    rw [a3]
    rfl
  unfold lmB lmW lmH lmF
  dsimp only
  rw [a1, a3, a4, a5, List.append_nil]
  rfl
theorem wd_le (i : Nat) : (wd i).length ≤ 8 := by
  unfold wd
  cases h : SS[i]? with
  | none => exact Nat.zero_le _
  | some q => exact (SS_ok h).1
theorem wd_lat (i : Nat) : Lat (wd i) := by
  unfold wd
  cases h : SS[i]? with
  | none => exact fun b hb => by cases hb
  | some q => exact (SS_ok h).2
/-! texts -/
def hdT (n a b c : Nat) : List Nat := ((((((wd 10 ++ digs n) ++ wd 11) ++ digs a) ++ wd 12) ++ digs b) ++ wd 13) ++ digs c
abbrev Q4 : Type := Nat × Nat × Nat × Nat
def clT (q : Q4) : List Nat :=
  if q.1 = 0 then ((wd 14 ++ digs q.2.1) ++ [32]) ++ digs q.2.2.1
  else if q.1 = 1 then ((((wd 14 ++ digs q.2.1) ++ [32]) ++ digs q.2.2.1) ++ [32]) ++ digs (q.2.2.1 / 2)
  else if q.1 = 2 then wd 15
  else if q.1 = 3 then wd 16
  else if q.1 = 4 then ((wd 17 ++ digs q.2.1) ++ [32]) ++ digs q.2.2.1
  else if q.1 = 5 then ((((wd 18 ++ digs q.2.1) ++ [32]) ++ digs q.2.2.1) ++ [32]) ++ digs q.2.2.2
  else (((wd 19 ++ digs q.2.1) ++ [32]) ++ digs q.2.2.1) ++ wd 20
def txtL (n a b c : Nat) (L : List Q4) : List Nat := L.foldl (fun t q => t ++ clT q) (hdT n a b c)
theorem txtL_s {n a b c : Nat} {L : List Q4} {q : Q4} : txtL n a b c (L ++ [q]) = txtL n a b c L ++ clT q := by
  unfold txtL
  rw [List.foldl_append]
  rfl
/-! memories -/
def hdL (n a b c : Nat) : Mg := setM (setM (setM (m00 n) 0 (nI a)) 1 (nI b)) 2 (nI c)
def clX (n : Nat) (q : Q4) (m : Mg) : Mg :=
  if q.1 = 0 then byteM m q.2.1 (nI q.2.2.1)
  else if q.1 = 1 then byteM (byteM m q.2.1 (nI q.2.2.1)) (q.2.1 + 1) (nI (q.2.2.1 / 2))
  else if q.1 = 2 then setM m 3 (nI 1)
  else if q.1 = 3 then setM m 4 (nI 1)
  else if q.1 = 4 then setL q.2.1 (q.2.2.1 + 1 - q.2.1) m
  else if q.1 = 5 then copyM n q.2.1 q.2.2.1 q.2.2.2 m
  else (fillM n q.2.1 q.2.2.1 (nI 7) m).2
/-- what a line needs: k counts the lines of put, lock, copy and fill -/
def clOK (n : Nat) (q : Q4) (m : Mg) (k : Cnt) : Prop :=
  (q.1 = 0 ∧ q.2.1 < n ∧ q.2.2.1 < 256 ∧ k.1 < 3 ∧ k.2.1 = 0 ∧ k.2.2.1 = 0 ∧ k.2.2.2 = 0) ∨
  (q.1 = 1 ∧ q.2.1 + 1 < n ∧ q.2.2.1 < 256 ∧ k.1 < 3 ∧ k.2.1 = 0 ∧ k.2.2.1 = 0 ∧ k.2.2.2 = 0) ∨
  (q.1 = 2 ∧ m 5 3 = nI 0 ∧ k.2.2.1 = 0) ∨ (q.1 = 3 ∧ m 5 4 = nI 0 ∧ k.2.2.1 = 0) ∨
  (q.1 = 4 ∧ q.2.1 ≤ q.2.2.1 ∧ q.2.2.1 < n ∧ k.2.1 = 0 ∧ k.2.2.1 = 0 ∧ k.2.2.2 = 0) ∨
  (q.1 = 5 ∧ 0 < q.2.2.2 ∧ q.2.1 + q.2.2.2 ≤ n ∧ q.2.2.1 + q.2.2.2 ≤ n ∧ anyG (lockB m) q.2.2.1 q.2.2.2 = false ∧ k.2.2.1 < 4) ∨
  (q.1 = 6 ∧ q.2.1 ≤ q.2.2.1 ∧ q.2.2.1 < n ∧ anyG (lockB m) q.2.1 (q.2.2.1 + 1 - q.2.1) = false ∧ k.2.2.2 = 0)
def clK (q : Q4) (k : Cnt) : Cnt := if q.1 ≤ 1 then (k.1 + 1, k.2) else if q.1 ≤ 3 then k else if q.1 = 4 then (k.1, k.2.1 + 1, k.2.2) else if q.1 = 5 then (k.1, k.2.1, k.2.2.1 + 1, k.2.2.2) else (k.1, k.2.1, k.2.2.1, k.2.2.2 + 1)
/-- the lines L lead from m, k to m2, k2 -/
def Run (n : Nat) : List Q4 → Mg → Cnt → Mg → Cnt → Prop
  | [], m, k, m2, k2 => m2 = m ∧ k2 = k
  | q :: L, m, k, m2, k2 => clOK n q m k ∧ Run n L (clX n q m) (clK q k) m2 k2
theorem Run.snoc {n : Nat} {q : Q4} {m2 : Mg} {k2 : Cnt} : ∀ {L : List Q4} {m : Mg} {k : Cnt}, Run n L m k m2 k2 → clOK n q m2 k2 → Run n (L ++ [q]) m k (clX n q m2) (clK q k2)
  | [], m, k, h, hq => by
    obtain ⟨rfl, rfl⟩ := h
    exact ⟨hq, rfl, rfl⟩
  | p :: L, m, k, h, hq => ⟨h.1, Run.snoc h.2 hq⟩
/-! what the law's memory keeps -/
def LI (n : Nat) (m : Mg) : Prop := n ≤ 14 ∧ (∃ c, MI n c m ∧ c ≤ 1000) ∧ (m 5 3 = nI 0 ∨ m 5 3 = nI 1) ∧ (m 5 4 = nI 0 ∨ m 5 4 = nI 1)
theorem LI.lk {n : Nat} {m : Mg} (h : LI n m) : ∀ q, q < n → m 4 q = bI (lockB m q) := by
  obtain ⟨-, ⟨c, hM, -⟩, -⟩ := h
  intro q hq
  obtain ⟨b, e⟩ := hM.2.2.1 q (by have := hM.1.2.1; omega)
  rw [e]
  unfold lockB
  rw [e]
  cases b <;> decide
theorem LI.set {n : Nat} {m : Mg} (h : LI n m) : PolOK m ∧ m 5 1 = nI (limN m) ∧ limN m ≤ 96 := by
  obtain ⟨-, ⟨c, hM, -⟩, -⟩ := h
  obtain ⟨w, lim, pol, h1, h2, h3, h4, h5, h6, h7⟩ := hM.2.2.2.2.1
  have e : limN m = lim := by
    unfold limN
    rw [h4, nI_toInt (by omega)]
    rfl
  refine ⟨?_, by rw [e]; exact h4, by rw [e]; exact h5⟩
  unfold PolOK
  rw [h6]
  have : pol = 0 ∨ pol = 1 ∨ pol = 2 ∨ pol = 3 := by omega
  rcases this with rfl | rfl | rfl | rfl
  · exact Or.inl rfl
  · exact Or.inr (Or.inl rfl)
  · exact Or.inr (Or.inr (Or.inl rfl))
  · exact Or.inr (Or.inr (Or.inr rfl))
theorem LI.keep {n : Nat} {m m2 : Mg} (h : LI n m) (c : Nat) (hM : MI n c m2) (hc : c ≤ 1000) (h5 : m2 5 = m 5) : LI n m2 := ⟨h.1, ⟨c, hM, hc⟩, by rw [h5]; exact h.2.2.1, by rw [h5]; exact h.2.2.2⟩
theorem LI_hd {n a b c : Nat} (h1 : 1 ≤ n) (h14 : n ≤ 14) (ha : 1 ≤ a ∧ a ≤ 3) (hb : b ≤ 12) (hc : c ≤ 3) : LI n (hdL n a b c) := by
  have e2 : ∀ p, p < 96 → hdL n a b c 2 p = -1 := fun p hp => if_pos hp
  refine ⟨h14, ⟨0, ⟨⟨rfl, by omega, fun p hp => Or.inl (e2 p (by omega)), fun _ => 0, fun p q hp hq e => ?_⟩, ⟨0, by decide, rfl⟩, fun p _ => ⟨false, rfl⟩, h1, ⟨a, b, c, rfl, ha.1, by omega, rfl, by omega, rfl, hc⟩, fun p _ => ⟨0, by decide, rfl⟩, rfl, fun p hp ho => ?_⟩, Nat.zero_le _⟩, Or.inl rfl, Or.inl rfl⟩
  · have e : hdL n a b c 2 p = nI q := e
    rw [e2 p (by omega)] at e
    exact absurd e.symm (nI_nm1 (by omega))
  · exact absurd (e2 p (by omega)) (owb_t.mp ho)
theorem copy_5 {n c fr to_ len : Nat} {m : Mg} (h : MI n c m) (hf : fr + len ≤ n) (ht : to_ + len ≤ n) : copyM n fr to_ len m 5 = m 5 := by
  have hc0 := cop0_ok (to_ := to_) (len := len) h.1 h.2.1
  have hdp := depM_ok (T := rowT to_ (to_ + len - 1)) hc0.1
  have hdr := drpM_ok (T := rowT to_ (to_ + len - 1)) (n := n) (m := copD n to_ len m)
  have hD5 : (drpM (rowT to_ (to_ + len - 1)) n (copD n to_ len m)) 5 = m 5 := (hdr.1.1.2.2.1.trans hdp.1.1.2.2.1).trans (hc0.2.2 5 (by decide) (by decide) (by decide))
  have hDI : IM (drpM (rowT to_ (to_ + len - 1)) n (copD n to_ len m)) n := hdr.1.im (hdp.1.im hc0.1)
  have hDE : EvOK (drpM (rowT to_ (to_ + len - 1)) n (copD n to_ len m)) := hdr.1.1.2.2.2.2 (hdp.1.1.2.2.2.2 hc0.2.1)
  have hfin := forG_inv (f := copS (rowT to_ (to_ + len - 1)) fr to_ (m 6 0) (fun i => valM (copD n to_ len m) (fr + i))) (fun _ y => IM y n ∧ Sep (rowT to_ (to_ + len - 1)) n y ∧ EvOK y ∧ y 5 = m 5) len 0 (drpM (rowT to_ (to_ + len - 1)) n (copD n to_ len m)) ⟨hDI, sep_dep hc0.1, hDE, hD5⟩ (fun j y _ hj hy => by
    have hT : rowT to_ (to_ + len - 1) (to_ + j) = true := by simp [rowT]; omega
    have k := copS_ok (num := m 6 0) (c := fun i => valM (copD n to_ len m) (fr + i)) hy.1 hy.2.1 hy.2.2.1 (show fr + j < n by omega) (show to_ + j < n by omega) hT
    exact ⟨k.1, k.2.1, k.2.2.1, k.2.2.2.2.trans hy.2.2.2⟩)
  exact (klM_Pd hfin.1).1.2.2.1.trans hfin.2.2.2
theorem fill_5 {n a b : Nat} {v : Int32} {m : Mg} (h : IM m n) : (fillM n a b v m).2 5 = m 5 ∧ (fillM n a b v m).2 6 0 = m 6 0 := by
  have hdp := depM_ok (T := rowT a b) h
  have hdr := drpM_ok (T := rowT a b) (n := n) (m := (depM (rowT a b) n m).2)
  have hb := forG_inv (f := fun p y => byteM y p v) (fun _ y => y 5 = m 5 ∧ y 6 0 = m 6 0) (b + 1 - a) a (drpM (rowT a b) n (depM (rowT a b) n m).2) ⟨hdr.1.1.2.2.1.trans hdp.1.1.2.2.1, hdr.1.1.2.2.2.1.trans hdp.1.1.2.2.2.1⟩ (fun j y _ _ hy => hy)
  exact hb
theorem setL_k {a k : Nat} {m : Mg} : setL a k m 5 = m 5 ∧ setL a k m 6 = m 6 := by
  have := forG_inv (f := fun p y => lckM y p (nI 1)) (fun _ y => y 5 = m 5 ∧ y 6 = m 6) k a m ⟨rfl, rfl⟩ (fun j y _ _ hy => hy)
  exact this
theorem LI_cl {n : Nat} {q : Q4} {m : Mg} {k : Cnt} (h : LI n m) (hq : clOK n q m k) (hk : ∃ j, j < 1000 ∧ m 6 0 = nI j) : LI n (clX n q m) := by
  obtain ⟨h14, ⟨c, hM, hc⟩, h3, h4⟩ := h
  have h0 : LI n m := ⟨h14, ⟨c, hM, hc⟩, h3, h4⟩
  have hc1 : c < 1000 := by
    obtain ⟨j, hj, e⟩ := hk
    have := nI_inj (a := c) (b := j) (by omega) (by omega) (hM.2.2.2.2.2.2.1.symm.trans e)
    omega
  rcases hq with ⟨e, q1, q2, -⟩ | ⟨e, q1, q2, -⟩ | ⟨e, q1, -⟩ | ⟨e, q1, -⟩ | ⟨e, q1, q2, -⟩ | ⟨e, q1, q2, q3, q4, -⟩ | ⟨e, q1, q2, q3, -⟩
  · have e9 : clX n q m = byteM m q.2.1 (nI q.2.2.1) := if_pos e
    rw [e9]
    exact h0.keep c (hM.byte q2) hc rfl
  · have e9 : clX n q m = byteM (byteM m q.2.1 (nI q.2.2.1)) (q.2.1 + 1) (nI (q.2.2.1 / 2)) := by unfold clX; rw [e]; rfl
    rw [e9]
    exact h0.keep c ((hM.byte q2).byte (by omega)) hc rfl
  · have e9 : clX n q m = setM m 3 (nI 1) := by unfold clX; rw [e]; rfl
    rw [e9]
    refine ⟨h14, ⟨c, hM.rule (Or.inl rfl), hc⟩, Or.inr ?_, ?_⟩
    · show upd (m 5) 3 (nI 1) 3 = nI 1
      exact upd_s
    · have e5 : setM m 3 (nI 1) 5 4 = m 5 4 := (show upd (m 5) 3 (nI 1) 4 = m 5 4 from upd_o (by decide))
      rw [e5]; exact h4
  · have e9 : clX n q m = setM m 4 (nI 1) := by unfold clX; rw [e]; rfl
    rw [e9]
    refine ⟨h14, ⟨c, hM.rule (Or.inr rfl), hc⟩, ?_, Or.inr ?_⟩
    · have e5 : setM m 4 (nI 1) 5 3 = m 5 3 := (show upd (m 5) 4 (nI 1) 3 = m 5 3 from upd_o (by decide))
      rw [e5]; exact h3
    · show upd (m 5) 4 (nI 1) 4 = nI 1
      exact upd_s
  · have e9 : clX n q m = setL q.2.1 (q.2.2.1 + 1 - q.2.1) m := by unfold clX; rw [e]; rfl
    rw [e9]
    exact h0.keep c (MI_setL _ hM) hc setL_k.1
  · have e9 : clX n q m = copyM n q.2.1 q.2.2.1 q.2.2.2 m := by unfold clX; rw [e]; rfl
    rw [e9]
    exact h0.keep (c + 1) (hM.copy q1 q2 q3) (by omega) (copy_5 hM q2 q3)
  · have e9 : clX n q m = (fillM n q.2.1 q.2.2.1 (nI 7) m).2 := by unfold clX; rw [e]; rfl
    rw [e9]
    exact h0.keep c (hM.fill (by decide)) hc (fill_5 hM.1).1
/-- what is known of the memory that is made, so far -/
def Sof (κ : Kp) (n a0 b0 c0 : Nat) (L : List Q4) (m : Mg) (kk : Cnt) (N B : Nat) : Prop :=
  (1 ≤ n ∧ n ≤ 14 ∧ (1 ≤ a0 ∧ a0 ≤ 3) ∧ b0 ≤ 12 ∧ c0 ≤ 3) ∧ Run n L (hdL n a0 b0 c0) (0, 0, 0, 0) m kk ∧ LI n m ∧ (m 6 0 = nI kk.2.2.1 ∧ kk.2.2.1 ≤ 4) ∧ SbOK N (txtL n a0 b0 c0 L) ∧ (txtL n a0 b0 c0 L).length ≤ B
def MemP (κ : Kp) (b d : Nat) (w : va_W) : Prop := ∃ (h : Nat → Nat) (n a0 b0 c0 : Nat) (L : List Q4) (m : Mg) (e : Nat → Nat) (v N i : Nat) (kk : Cnt), h 0 = b ∧ Sof κ n a0 b0 c0 L m kk N 300 ∧ i ≤ 100 ∧ w = lmW κ h n (m, e, nI kk.2.2.1) ++ (sbW κ (h 5) v N (txtL n a0 b0 c0 L) ++ dS κ d i)
theorem cl_60 {n : Nat} {q : Q4} {m : Mg} {k : Cnt} {j : Nat} (h : LI n m) (hq : clOK n q m k) (hj : j < 1000) (e : m 6 0 = nI j) : clX n q m 6 0 = nI (if q.1 = 5 then j + 1 else j) := by
  obtain ⟨h14, ⟨c, hM, hc⟩, h3, h4⟩ := h
  have hcj : c = j := nI_inj (by omega) (by omega) (hM.2.2.2.2.2.2.1.symm.trans e)
  subst hcj
  rcases hq with ⟨z, q1, q2, -⟩ | ⟨z, q1, q2, -⟩ | ⟨z, q1, -⟩ | ⟨z, q1, -⟩ | ⟨z, q1, q2, -⟩ | ⟨z, q1, q2, q3, q4, -⟩ | ⟨z, q1, q2, q3, -⟩
  · rw [if_neg (by omega)]
    have e9 : clX n q m = byteM m q.2.1 (nI q.2.2.1) := if_pos z
    rw [e9]; exact e
  · rw [if_neg (by omega)]
    have e9 : clX n q m = byteM (byteM m q.2.1 (nI q.2.2.1)) (q.2.1 + 1) (nI (q.2.2.1 / 2)) := by unfold clX; rw [z]; rfl
    rw [e9]; exact e
  · rw [if_neg (by omega)]
    have e9 : clX n q m = setM m 3 (nI 1) := by unfold clX; rw [z]; rfl
    rw [e9]; exact e
  · rw [if_neg (by omega)]
    have e9 : clX n q m = setM m 4 (nI 1) := by unfold clX; rw [z]; rfl
    rw [e9]; exact e
  · rw [if_neg (by omega)]
    have e9 : clX n q m = setL q.2.1 (q.2.2.1 + 1 - q.2.1) m := by unfold clX; rw [z]; rfl
    rw [e9, setL_k.2]; exact e
  · rw [if_pos z]
    have e9 : clX n q m = copyM n q.2.1 q.2.2.1 q.2.2.2 m := by unfold clX; rw [z]; rfl
    rw [e9]; exact (hM.copy q1 q2 q3).2.2.2.2.2.2.1
  · rw [if_neg (by omega)]
    have e9 : clX n q m = (fillM n q.2.1 q.2.2.1 (nI 7) m).2 := by unfold clX; rw [z]; rfl
    rw [e9, (fill_5 hM.1).2]; exact e
/-- one more line -/
theorem Sof.next {κ : Kp} {n a0 b0 c0 N N2 B B2 : Nat} {L : List Q4} {m : Mg} {kk : Cnt} (h : Sof κ n a0 b0 c0 L m kk N B) (q : Q4) (hq : clOK n q m kk) {T : List Nat} (hT : T = txtL n a0 b0 c0 L ++ clT q) (hS : SbOK N2 T) (hL : T.length ≤ B2) : Sof κ n a0 b0 c0 (L ++ [q]) (clX n q m) (clK q kk) N2 B2 := by
  obtain ⟨h1, h2, h3, ⟨h4, h6⟩, h7, h8⟩ := h
  subst hT
  have e : clX n q m 6 0 = nI (if q.1 = 5 then kk.2.2.1 + 1 else kk.2.2.1) := cl_60 h3 hq (by omega) h4
  have e2 : (clK q kk).2.2.1 = if q.1 = 5 then kk.2.2.1 + 1 else kk.2.2.1 := by
    unfold clK
    rcases hq with ⟨z, -⟩ | ⟨z, -⟩ | ⟨z, -⟩ | ⟨z, -⟩ | ⟨z, -⟩ | ⟨z, -⟩ | ⟨z, -⟩ <;> rw [z] <;> rfl
  refine ⟨h1, h2.snoc hq, LI_cl h3 hq ⟨kk.2.2.1, by omega, h4⟩, ⟨by rw [e, e2], ?_⟩, by rw [txtL_s]; exact hS, by rw [txtL_s]; exact hL⟩
  rw [e2]
  rcases hq with ⟨z, -⟩ | ⟨z, -⟩ | ⟨z, -⟩ | ⟨z, -⟩ | ⟨z, -⟩ | ⟨z, -, -, -, -, hk⟩ | ⟨z, -⟩
  · rw [if_neg (by omega)]; omega
  · rw [if_neg (by omega)]; omega
  · rw [if_neg (by omega)]; omega
  · rw [if_neg (by omega)]; omega
  · rw [if_neg (by omega)]; omega
  · rw [if_pos z]; omega
  · rw [if_neg (by omega)]; omega
theorem Sof.le {κ : Kp} {n a0 b0 c0 N B B2 : Nat} {L : List Q4} {m : Mg} {kk : Cnt} (h : Sof κ n a0 b0 c0 L m kk N B) (hB : B ≤ B2) : Sof κ n a0 b0 c0 L m kk N B2 := ⟨h.1, h.2.1, h.2.2.1, h.2.2.2.1, h.2.2.2.2.1, Nat.le_trans h.2.2.2.2.2 hB⟩
theorem clT_0 {a b c : Nat} : clT (0, a, b, c) = ((wd 14 ++ digs a) ++ [32]) ++ digs b := rfl
theorem clT_1 {a b c : Nat} : clT (1, a, b, c) = ((((wd 14 ++ digs a) ++ [32]) ++ digs b) ++ [32]) ++ digs (b / 2) := rfl
theorem clT_4 {a b c : Nat} : clT (4, a, b, c) = ((wd 17 ++ digs a) ++ [32]) ++ digs b := rfl
theorem clT_5 {a b c : Nat} : clT (5, a, b, c) = ((((wd 18 ++ digs a) ++ [32]) ++ digs b) ++ [32]) ++ digs c := rfl
theorem clT_6 {a b c : Nat} : clT (6, a, b, c) = (((wd 19 ++ digs a) ++ [32]) ++ digs b) ++ wd 20 := rfl
theorem whyN_0 {m : Mg} {n f t l : Nat} (h : nI (whyN m n f t l) = 0) : f + l ≤ n ∧ t + l ≤ n ∧ anyG (lockB m) t l = false := by
  have hw : whyN m n f t l = 0 := nI_inj (b := 0) (by unfold whyN; split <;> (try split) <;> omega) (by omega) h
  unfold whyN at hw
  by_cases c : f + l ≤ n ∧ t + l ≤ n
  · rw [if_pos c] at hw
    refine ⟨c.1, c.2, ?_⟩
    cases e : anyG (lockB m) t l with
    | false => rfl
    | true => rw [e] at hw; exact absurd hw (by decide)
  · rw [if_neg c] at hw; exact absurd hw (by decide)

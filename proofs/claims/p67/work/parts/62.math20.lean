/-! what the law's memory computes, in the words of the class's memory -/
theorem bI_or {a b : Bool} : bI a ||| bI b = bI (a || b) := by cases a <;> cases b <;> decide
theorem sub1_neg {x : Int32} : x + Int32.ofInt (-1) = x - nI 1 := by rw [Int32.sub_eq_add_neg]; rfl
/-- the place that is paid next, looked for from the last one on -/
def bstep (m : Mg) (pol : Int32) (i : Nat) (b : Option Nat) : Option Nat := if owb m i then (match b with | none => some i | some q => if rkM m pol i ≤ rkM m pol q then some i else some q) else b
/-- what is found among the places from i on -/
def bakM (m : Mg) (pol : Int32) (n : Nat) : Nat → Option Nat
  | 0 => none
  | k + 1 => bstep m pol (n - (k + 1)) (bakM m pol n k)
def IsB (m : Mg) (pol : Int32) (a n : Nat) (b : Option Nat) : Prop := (b = none → ∀ j, a ≤ j → j < n → owb m j = false) ∧ ∀ q, b = some q → a ≤ q ∧ q < n ∧ owb m q = true ∧ (∀ j, a ≤ j → j < n → owb m j = true → rkM m pol q ≤ rkM m pol j) ∧ ∀ j, a ≤ j → j < q → owb m j = true → rkM m pol q < rkM m pol j
theorem IsB.one {m : Mg} {pol : Int32} {a n : Nat} {b c : Option Nat} (hb : IsB m pol a n b) (hc : IsB m pol a n c) : b = c := by
  cases b with
  | none =>
    cases c with
    | none => rfl
    | some q =>
      obtain ⟨q1, q2, q3, -⟩ := hc.2 q rfl
      rw [hb.1 rfl q q1 q2] at q3
      cases q3
  | some p =>
    obtain ⟨p1, p2, p3, p4, p5⟩ := hb.2 p rfl
    cases c with
    | none =>
      rw [hc.1 rfl p p1 p2] at p3
      cases p3
    | some q =>
      obtain ⟨q1, q2, q3, q4, q5⟩ := hc.2 q rfl
      have h1 := p4 q q1 q2 q3
      have h2 := q4 p p1 p2 p3
      congr 1
      rcases Nat.lt_trichotomy p q with h | h | h
      · have := q5 p p1 h p3; omega
      · exact h
      · have := p5 q q1 h q3; omega
theorem bak_is {m : Mg} {pol : Int32} {n : Nat} : ∀ k, k ≤ n → IsB m pol (n - k) n (bakM m pol n k)
  | 0, _ => ⟨fun _ j h1 h2 => by omega, fun q h => by cases h⟩
  | k + 1, hk => by
    have ih := bak_is (m := m) (pol := pol) (n := n) k (by omega)
    have hs : n - (k + 1) + 1 = n - k := by omega
    show IsB m pol (n - (k + 1)) n (bstep m pol (n - (k + 1)) (bakM m pol n k))
    generalize hi : n - (k + 1) = i at hs ⊢
    generalize bakM m pol n k = b at ih ⊢
    rw [← hs] at ih
    unfold bstep
    by_cases ho : owb m i = true
    · rw [if_pos ho]
      cases b with
      | none =>
        refine ⟨fun h => (by cases h), fun q h => ?_⟩
        cases h
        refine ⟨Nat.le_refl _, by omega, ho, fun j h1 h2 h3 => ?_, fun j h1 h2 _ => by omega⟩
        by_cases e : j = i
        · subst e; exact Int.le_refl _
        · rw [ih.1 rfl j (by omega) h2] at h3; cases h3
      | some q =>
        obtain ⟨q1, q2, q3, q4, q5⟩ := ih.2 q rfl
        dsimp only
        by_cases hr : rkM m pol i ≤ rkM m pol q
        · rw [if_pos hr]
          refine ⟨fun h => (by cases h), fun r h => ?_⟩
          cases h
          refine ⟨Nat.le_refl _, by omega, ho, fun j h1 h2 h3 => ?_, fun j h1 h2 _ => by omega⟩
          by_cases e : j = i
          · subst e; exact Int.le_refl _
          · exact Int.le_trans hr (q4 j (by omega) h2 h3)
        · rw [if_neg hr]
          refine ⟨fun h => (by cases h), fun r h => ?_⟩
          cases h
          refine ⟨by omega, q2, q3, fun j h1 h2 h3 => ?_, fun j h1 h2 h3 => ?_⟩
          · by_cases e : j = i
            · subst e; omega
            · exact q4 j (by omega) h2 h3
          · by_cases e : j = i
            · subst e; omega
            · exact q5 j (by omega) h2 h3
    · rw [if_neg ho]
      have ho2 : owb m i = false := by simpa using ho
      refine ⟨fun h j h1 h2 => ?_, fun q h => ?_⟩
      · by_cases e : j = i
        · subst e; exact ho2
        · exact ih.1 h j (by omega) h2
      · obtain ⟨q1, q2, q3, q4, q5⟩ := ih.2 q h
        refine ⟨by omega, q2, q3, fun j h1 h2 h3 => ?_, fun j h1 h2 h3 => ?_⟩
        · by_cases e : j = i
          · subst e; rw [ho2] at h3; cases h3
          · exact q4 j (by omega) h2 h3
        · by_cases e : j = i
          · subst e; rw [ho2] at h3; cases h3
          · exact q5 j (by omega) h2 h3
theorem next_is {m : Mg} {pol : Int32} {n : Nat} : IsB m pol 0 n (nextM m n pol) := by
  have h := forG_inv (f := nstep m pol) (fun i b => IsB m pol 0 i b) n 0 none ⟨fun _ j _ h => (by omega), fun q h => (by cases h)⟩ (fun i b _ _ hb => by
    unfold nstep
    by_cases ho : owb m i = true
    · rw [if_pos ho]
      cases b with
      | none =>
        refine ⟨fun h => (by cases h), fun q h => ?_⟩
        cases h
        refine ⟨Nat.zero_le _, by omega, ho, fun j h1 h2 h3 => ?_, fun j h1 h2 h3 => ?_⟩
        · by_cases e : j = i
          · subst e; exact Int.le_refl _
          · rw [hb.1 rfl j (by omega) (by omega)] at h3; cases h3
        · rw [hb.1 rfl j (by omega) (by omega)] at h3; cases h3
      | some q =>
        obtain ⟨q1, q2, q3, q4, q5⟩ := hb.2 q rfl
        dsimp only
        by_cases hr : rkM m pol i < rkM m pol q
        · rw [if_pos hr]
          refine ⟨fun h => (by cases h), fun r h => ?_⟩
          cases h
          refine ⟨Nat.zero_le _, by omega, ho, fun j h1 h2 h3 => ?_, fun j h1 h2 h3 => ?_⟩
          · by_cases e : j = i
            · subst e; exact Int.le_refl _
            · have := q4 j h1 (by omega) h3; omega
          · have := q4 j h1 (by omega) h3; omega
        · rw [if_neg hr]
          refine ⟨fun h => (by cases h), fun r h => ?_⟩
          cases h
          refine ⟨Nat.zero_le _, by omega, q3, fun j h1 h2 h3 => ?_, fun j h1 h2 h3 => q5 j h1 h2 h3⟩
          by_cases e : j = i
          · subst e; omega
          · exact q4 j h1 (by omega) h3
    · rw [if_neg ho]
      have ho2 : owb m i = false := by simpa using ho
      refine ⟨fun h j h1 h2 => ?_, fun q h => ?_⟩
      · by_cases e : j = i
        · subst e; exact ho2
        · exact hb.1 h j h1 (by omega)
      · obtain ⟨q1, q2, q3, q4, q5⟩ := hb.2 q h
        refine ⟨q1, by omega, q3, fun j h1 h2 h3 => ?_, q5⟩
        by_cases e : j = i
        · subst e; rw [ho2] at h3; cases h3
        · exact q4 j h1 (by omega) h3)
  rw [Nat.zero_add] at h
  exact h
theorem bak_next {m : Mg} {pol : Int32} {n : Nat} : bakM m pol n n = nextM m n pol := by
  have h := bak_is (m := m) (pol := pol) (n := n) n (Nat.le_refl _)
  rw [Nat.sub_self] at h
  exact h.one next_is
theorem bak_in {m : Mg} {pol : Int32} {n k q : Nat} (hk : k ≤ n) (h : bakM m pol n k = some q) : q < n ∧ owb m q = true := by
  obtain ⟨-, q2, q3, -⟩ := (bak_is k hk).2 q h
  exact ⟨q2, q3⟩
/-- a policy that there is -/
def PolOK (m : Mg) : Prop := m 5 2 = nI 0 ∨ m 5 2 = nI 1 ∨ m 5 2 = nI 2 ∨ m 5 2 = nI 3
def better (m : Mg) (i : Nat) : Option Nat → Bool
  | none => true
  | some q => decide (rkM m (m 5 2) i ≤ rkM m (m 5 2) q)
def bet1 (m : Mg) (i : Nat) : Option Nat → Bool
  | none => true
  | some q => decide (m 5 2 = nI 1) || (decide (m 5 2 = nI 0) && decide ((m 3 i).toInt ≤ (m 3 q).toInt))
def bet2 (m : Mg) (i : Nat) : Option Nat → Bool
  | none => false
  | some q => (decide (m 5 2 = nI 2) && decide (hopsM m q ≤ hopsM m i)) || (decide (m 5 2 = nI 3) && decide (hopsM m i ≤ hopsM m q))
theorem bet_or {m : Mg} {i : Nat} {b : Option Nat} (hp : PolOK m) : (bet1 m i b || bet2 m i b) = better m i b := by
  cases b with
  | none => rfl
  | some q =>
    have a01 : ¬ nI 0 = nI 1 := by decide
    have a02 : ¬ nI 0 = nI 2 := by decide
    have a03 : ¬ nI 0 = nI 3 := by decide
    have a10 : ¬ nI 1 = nI 0 := by decide
    have a12 : ¬ nI 1 = nI 2 := by decide
    have a13 : ¬ nI 1 = nI 3 := by decide
    have a20 : ¬ nI 2 = nI 0 := by decide
    have a21 : ¬ nI 2 = nI 1 := by decide
    have a23 : ¬ nI 2 = nI 3 := by decide
    have a30 : ¬ nI 3 = nI 0 := by decide
    have a31 : ¬ nI 3 = nI 1 := by decide
    have a32 : ¬ nI 3 = nI 2 := by decide
    unfold bet1 bet2 better rkM
    dsimp only
    rcases hp with e | e | e | e <;> rw [e] <;> simp [a01, a02, a03, a10, a12, a13, a20, a21, a23, a30, a31, a32]
theorem bak_step {m : Mg} {n k : Nat} (hk : k < n) : bakM m (m 5 2) n (k + 1) = if owb m (n - (k + 1)) then (if better m (n - (k + 1)) (bakM m (m 5 2) n k) then some (n - (k + 1)) else bakM m (m 5 2) n k) else bakM m (m 5 2) n k := by
  show bstep m (m 5 2) (n - (k + 1)) (bakM m (m 5 2) n k) = _
  unfold bstep
  cases bakM m (m 5 2) n k with
  | none => rfl
  | some q =>
    by_cases hr : rkM m (m 5 2) (n - (k + 1)) ≤ rkM m (m 5 2) q
    · have hb : better m (n - (k + 1)) (some q) = true := decide_eq_true hr
      dsimp only
      rw [hb, if_pos hr]
      rfl
    · have hb : better m (n - (k + 1)) (some q) = false := decide_eq_false hr
      dsimp only
      rw [hb, if_neg hr]
      rfl
def oH (h : Nat → Nat) (b : Option Nat) : Option Nat := b.map (fun q => h (8 + q))

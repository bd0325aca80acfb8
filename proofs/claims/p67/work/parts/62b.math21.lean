/-! rows of places in the law's memory; longs -/
theorem L64 {a : Nat} (ha : a < 2 ^ 31) : (nI a).toInt64.toInt = a := by rw [Int32.toInt_toInt64, nI_toInt ha]
theorem L64_add {a b : Nat} (ha : a < 2 ^ 30) (hb : b < 2 ^ 30) : ((nI a).toInt64 + (nI b).toInt64).toInt = (a : Int) + b := by
  rw [Int64.toInt_add, L64 (by omega), L64 (by omega), Int.bmod_eq_of_le] <;> omega
theorem lg_gt {x y : Int64} : 0 < (lg_cmp x y).toInt ↔ y.toInt < x.toInt := by
  unfold lg_cmp
  by_cases h : x > y
  · rw [if_pos h]
    have h1 := Int64.lt_iff_toInt_lt.mp h
    exact ⟨fun _ => h1, fun _ => by decide⟩
  · rw [if_neg h]
    have h2 : ¬ y.toInt < x.toInt := fun z => h (Int64.lt_iff_toInt_lt.mpr z)
    by_cases e : x = y
    · rw [if_pos e]
      exact ⟨fun z => absurd z (by decide), fun z => absurd z h2⟩
    · rw [if_neg e]
      exact ⟨fun z => absurd z (by decide), fun z => absurd z h2⟩
theorem lg_gtN {a b c : Nat} (ha : a < 2 ^ 30) (hb : b < 2 ^ 30) (hc : c < 2 ^ 30) : 0 < (lg_cmp ((nI a).toInt64 + (nI b).toInt64) (nI c).toInt64).toInt ↔ c < a + b := by
  rw [lg_gt, L64_add ha hb, L64 (by omega)]
  omega
/-- why a copy is impossible -/
def whyN (m : Mg) (n fr to_ len : Nat) : Nat := if fr + len ≤ n ∧ to_ + len ≤ n then (if anyG (lockB m) to_ len then 3 else 0) else 2
/-- the first of the source places that are no target places, and the one behind the last -/
def leftN (n fr to_ len : Nat) : Nat × Nat := if fr = to_ then (n, 0) else if fr < to_ then (fr, min (fr + len) to_) else (max fr (to_ + len), fr + len)
/-- the same of those ahead of i -/
def leftI (n fr to_ len i : Nat) : Nat × Nat := if fr = to_ then (n, 0) else if fr < to_ then (if i = fr then (n, 0) else (fr, min i to_)) else (if i ≤ max fr (to_ + len) then (n, 0) else (max fr (to_ + len), i))
theorem left_0 {n fr to_ len : Nat} : leftI n fr to_ len fr = (n, 0) := by
  unfold leftI
  split
  · rfl
  · split
    · rw [if_pos rfl]
    · rw [if_pos (by omega)]
theorem left_end {n fr to_ len : Nat} (hl : 0 < len) : leftI n fr to_ len (fr + len) = leftN n fr to_ len := by
  unfold leftI leftN
  split
  · rfl
  · split
    · rw [if_neg (by omega)]
    · rw [if_neg (by omega)]
theorem left_in {n fr to_ len i : Nat} (h1 : fr ≤ i) (h2 : i < fr + len) (h3 : to_ ≤ i) (h4 : i < to_ + len) : leftI n fr to_ len (i + 1) = leftI n fr to_ len i := by
  unfold leftI
  split
  · rfl
  · split
    · rw [if_neg (by omega), if_neg (by omega)]
      exact congrArg _ (by omega)
    · rw [if_pos (by omega), if_pos (by omega)]
theorem left_out {n fr to_ len i : Nat} (h1 : fr ≤ i) (h2 : i < fr + len) (h3 : i < to_ ∨ to_ + len ≤ i) (hn : fr + len ≤ n) : leftI n fr to_ len (i + 1) = (min (leftI n fr to_ len i).1 i, i + 1) := by
  unfold leftI
  split
  · omega
  · split
    · rw [if_neg (by omega)]
      split
      · exact Prod.ext (by show fr = min n i; omega) (by show min (i + 1) to_ = i + 1; omega)
      · exact Prod.ext (by show fr = min fr i; omega) (by show min (i + 1) to_ = i + 1; omega)
    · rw [if_neg (by omega)]
      split
      · exact Prod.ext (by show max fr (to_ + len) = min n i; omega) rfl
      · exact Prod.ext (by show max fr (to_ + len) = min (max fr (to_ + len)) i; omega) rfl
theorem rowT_i {a c : Nat} {b : Int32} (hb : b.toInt = (c : Int) - 1) (ha : a < 2 ^ 31) (q : Nat) : decide (a ≤ q ∧ q < c) = decide ((nI a).toInt ≤ (q : Int) ∧ (q : Int) ≤ b.toInt) := by
  rw [nI_toInt ha, hb]
  by_cases h : a ≤ q ∧ q < c
  · rw [decide_eq_true h, decide_eq_true (by omega)]
  · rw [decide_eq_false h, decide_eq_false (by omega)]
/-- a filling, of the row from a up to c -/
def fillL (n a c : Nat) (v : Int32) (m : Mg) : Nat × Mg := ((depM (fun q => decide (a ≤ q ∧ q < c)) n m).1, setB v a (c - a) (forG (fun p y => dropO y p) a (c - a) (depM (fun q => decide (a ≤ q ∧ q < c)) n m).2))
theorem rowT_eq {a b : Nat} : (fun q => decide (a ≤ q ∧ q < b + 1)) = rowT a b := by
  funext q
  unfold rowT
  by_cases h : a ≤ q ∧ q < b + 1
  · rw [decide_eq_true h, decide_eq_true (by omega)]
  · rw [decide_eq_false h, decide_eq_false (by omega)]
theorem fillL_eq {n a b : Nat} {v : Int32} {m : Mg} (hab : a ≤ b + 1) (hb : b < n) : fillL n a (b + 1) v m = fillM n a b v m := by
  unfold fillL fillM
  rw [rowT_eq, drp_row hab hb]
theorem dep_none {n : Nat} {m : Mg} {T : Nat → Bool} (hT : ∀ q, T q = false) : depM T n m = (0, m) := by
  have h := forG_inv (f := depS T) (fun _ x => x = (0, m)) n 0 (0, m) rfl (fun j x _ _ hx => by
    subst hx
    unfold depS
    rw [if_neg]
    rw [hT (src m j)]
    simp)
  exact h
theorem fillL_0 {n a : Nat} {v : Int32} {m : Mg} : fillL n a 0 v m = (0, m) := by
  unfold fillL
  rw [dep_none (fun q => decide_eq_false (by omega)), Nat.zero_sub]
  rfl
theorem drop_ev {p : Nat} {m : Mg} (h : EvOK m) : EvOK (dropO m p) := (dropO_Dr (n := 0) (p := p) (m := m)).1.2.2.2.2 h
/-! the law's copy -/
theorem cop0_law {n to_ len : Nat} {m : Mg} : accM (accM (noteM m (nI 0) (nI to_) (nI len)) 0 (nI 1)) 1 (nI len) = cop0 to_ len m := by
  unfold cop0
  rw [note_acc, note_acc]
theorem val_cop0 {to_ len : Nat} {m : Mg} (p : Nat) : valM (cop0 to_ len m) p = valM m p := by
  have hc : ∀ c, ¬ c = 0 → ¬ c = 6 → ¬ c = 7 → cop0 to_ len m c = m c := fun c h0 h6 h7 => by unfold cop0; rw [noteM_c h0 h7, accM_c h6, accM_c h6]
  exact valM_of (hc 2 (by decide) (by decide) (by decide)) (hc 1 (by decide) (by decide) (by decide)) p
theorem val_copD {n to_ len : Nat} {m : Mg} (hI : IM m n) (hE : EvOK m) {p : Nat} (hp : p < n) : valM (copD n to_ len m) p = valM m p := by
  have h0 := (cop0_ok (to_ := to_) (len := len) hI hE).1
  have h1 := (depM_ok (T := rowT to_ (to_ + len - 1)) h0).1.val h0 p hp
  rw [val_cop0] at h1
  exact h1
theorem forG_congr2 {α : Type} {f g : Nat → α → α} {k i : Nat} {x : α} (h : ∀ j y, i ≤ j → j < i + k → f j y = g j y) : forG f i k x = forG g i k x := forG_congr k i x h
/-- the values are taken ahead of all payments -/
theorem copy_law {n fr to_ len : Nat} {m : Mg} {c : Nat → Int32} (hI : IM m n) (hE : EvOK m) (hf : fr + len ≤ n) (hc : ∀ j, j < n → c j = valM m j) :
    klM n (forG (copO (rowT to_ (to_ + len - 1)) fr to_ (m 6 0)) 0 len (forG (copA (rowT to_ (to_ + len - 1)) fr to_ (fun i => c (fr + i))) 0 len (drpM (rowT to_ (to_ + len - 1)) n (copD n to_ len m)))) = copyM n fr to_ len m := by
  unfold copyM copL
  rw [cop_split]
  rw [forG_congr2 (f := copA (rowT to_ (to_ + len - 1)) fr to_ (fun i => c (fr + i))) (g := copA (rowT to_ (to_ + len - 1)) fr to_ (fun i => valM (copD n to_ len m) (fr + i))) (fun j y _ h2 => by
    unfold copA
    dsimp only
    rw [hc (fr + j) (by omega), val_copD hI hE (by omega)])]
theorem drop_row {n to_ len : Nat} {m : Mg} (hl : 0 < len) (ht : to_ + len ≤ n) : forG (fun p y => dropO y p) to_ len m = drpM (rowT to_ (to_ + len - 1)) n m := by
  rw [drp_row (by omega) (by omega), show to_ + len - 1 + 1 - to_ = len by omega]
theorem left_le {n fr to_ len i : Nat} (h14 : n ≤ 14) (hf : fr + len ≤ n) (ht : to_ + len ≤ n) : (leftI n fr to_ len i).1 ≤ 14 := by
  unfold leftI
  split
  · exact h14
  · split
    · split
      · exact h14
      · show fr ≤ 14
        omega
    · split
      · exact h14
      · show max fr (to_ + len) ≤ 14
        omega

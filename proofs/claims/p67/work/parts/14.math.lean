/-! what the methods compute, as functions of the cells -/
theorem bI_t {b : Bool} (h : b = true) : nI 1 = bI b := by rw [h]; rfl
theorem bI_f {b : Bool} (h : b = false) : nI 0 = bI b := by rw [h]; rfl
def cntG (f : Nat → Bool) : Nat → Nat → Nat
  | _, 0 => 0
  | i, k + 1 => (if f i then 1 else 0) + cntG f (i + 1) k
def anyG (f : Nat → Bool) : Nat → Nat → Bool
  | _, 0 => false
  | i, k + 1 => f i || anyG f (i + 1) k
def fstG (f : Nat → Bool) : Nat → Nat → Option Nat
  | _, 0 => none
  | i, k + 1 => if f i then some i else fstG f (i + 1) k
theorem cntG_s {f : Nat → Bool} {i b : Nat} (h : i < b) : cntG f i (b - i) = (if f i then 1 else 0) + cntG f (i + 1) (b - (i + 1)) := by
  rw [show b - i = (b - (i + 1)) + 1 by omega]; rfl
theorem anyG_s {f : Nat → Bool} {i b : Nat} (h : i < b) : anyG f i (b - i) = (f i || anyG f (i + 1) (b - (i + 1))) := by
  rw [show b - i = (b - (i + 1)) + 1 by omega]; rfl
theorem fstG_s {f : Nat → Bool} {i b : Nat} (h : i < b) : fstG f i (b - i) = (if f i then some i else fstG f (i + 1) (b - (i + 1))) := by
  rw [show b - i = (b - (i + 1)) + 1 by omega]; rfl
theorem cntG_0 {f : Nat → Bool} {i b : Nat} (h : b ≤ i) : cntG f i (b - i) = 0 := by rw [show b - i = 0 by omega]; rfl
theorem anyG_0 {f : Nat → Bool} {i b : Nat} (h : b ≤ i) : anyG f i (b - i) = false := by rw [show b - i = 0 by omega]; rfl
theorem fstG_0 {f : Nat → Bool} {i b : Nat} (h : b ≤ i) : fstG f i (b - i) = none := by rw [show b - i = 0 by omega]; rfl
theorem cntG_le {f : Nat → Bool} : ∀ (k i : Nat), cntG f i k ≤ k
  | 0, _ => Nat.le_refl 0
  | k + 1, i => by
    have := cntG_le (f := f) k (i + 1)
    show (if f i then 1 else 0) + cntG f (i + 1) k ≤ k + 1
    split <;> omega
theorem cntG_congr {f f2 : Nat → Bool} : ∀ (k i : Nat), (∀ j, i ≤ j → j < i + k → f j = f2 j) → cntG f i k = cntG f2 i k
  | 0, _, _ => rfl
  | k + 1, i, h => by
    show (if f i then 1 else 0) + _ = (if f2 i then 1 else 0) + _
    rw [h i (Nat.le_refl _) (by omega), cntG_congr k (i + 1) (fun j h1 h2 => h j (by omega) (by omega))]
theorem anyG_congr {f f2 : Nat → Bool} : ∀ (k i : Nat), (∀ j, i ≤ j → j < i + k → f j = f2 j) → anyG f i k = anyG f2 i k
  | 0, _, _ => rfl
  | k + 1, i, h => by
    show (f i || _) = (f2 i || _)
    rw [h i (Nat.le_refl _) (by omega), anyG_congr k (i + 1) (fun j h1 h2 => h j (by omega) (by omega))]
theorem fstG_congr {f f2 : Nat → Bool} : ∀ (k i : Nat), (∀ j, i ≤ j → j < i + k → f j = f2 j) → fstG f i k = fstG f2 i k
  | 0, _, _ => rfl
  | k + 1, i, h => by
    show (if f i then _ else _) = (if f2 i then _ else _)
    rw [h i (Nat.le_refl _) (by omega), fstG_congr k (i + 1) (fun j h1 h2 => h j (by omega) (by omega))]
theorem fstG_some {f : Nat → Bool} {r : Nat} : ∀ (k i : Nat), fstG f i k = some r → i ≤ r ∧ r < i + k ∧ f r = true
  | 0, _, h => by cases h
  | k + 1, i, h => by
    have h : (if f i then some i else fstG f (i + 1) k) = some r := h
    split at h
    · cases h; exact ⟨Nat.le_refl _, by omega, by assumption⟩
    · obtain ⟨a, b, c⟩ := fstG_some k (i + 1) h
      exact ⟨by omega, by omega, c⟩
/-! memories -/
def isP (m : Mg) (p : Int32) : Bool := decide (0 ≤ p.toInt ∧ p.toInt < (m 0 7).toInt)
def owb (m : Mg) (j : Nat) : Bool := decide (m 2 j ≠ -1)
def owP (m : Mg) (p : Int32) : Bool := isP m p && owb m p.toInt.toNat
/-- a memory of n places: every source is a place; ranks fall along the chains -/
def IM (m : Mg) (n : Nat) : Prop := m 0 7 = nI n ∧ n ≤ 96 ∧ (∀ p, p < n → m 2 p = -1 ∨ ∃ q, q < n ∧ m 2 p = nI q) ∧ ∃ rk : Nat → Nat, ∀ p q, p < n → q < n → m 2 p = nI q → rk q < rk p
theorem isP_n {m : Mg} {n j : Nat} (h : m 0 7 = nI n) (hn : n ≤ 96) (hj : j < 2 ^ 31) : isP m (nI j) = decide (j < n) := by
  unfold isP
  rw [h, nI_toInt hj, nI_toInt (by omega)]
  simp
theorem owP_n {m : Mg} {n j : Nat} (h : m 0 7 = nI n) (hn : n ≤ 96) (hj : j < 2 ^ 31) : owP m (nI j) = (decide (j < n) && owb m j) := by
  unfold owP
  rw [isP_n h hn hj, nI_toInt hj]
  rfl
def src (m : Mg) (p : Nat) : Nat := (m 2 p).toInt.toNat
def rootF : Nat → Mg → Nat → Nat
  | 0, _, p => p
  | k + 1, m, p => if m 2 p = -1 then p else rootF k m (src m p)
def rootM (m : Mg) (p : Nat) : Nat := rootF 96 m p
def hopF : Nat → Mg → Nat → Nat
  | 0, _, _ => 0
  | k + 1, m, p => if m 2 p = -1 then 0 else hopF k m (src m p) + 1
def hopsM (m : Mg) (p : Nat) : Nat := hopF 96 m p
def hbF : Nat → Nat → Mg → Nat → Nat → Int32
  | 0, _, _, _, _ => -1
  | f + 1, k, m, p, o => if p = o then nI k else if m 2 p = -1 then -1 else hbF f (k + 1) m (src m p) o
/-- how many hops lead from p to o; -1 if none do -/
def hbM (m : Mg) (p o : Nat) : Int32 := hbF 96 0 m p o
theorem owb_f {m : Mg} {p : Nat} : owb m p = false ↔ m 2 p = -1 := by simp [owb]
theorem owb_t {m : Mg} {p : Nat} : owb m p = true ↔ ¬ m 2 p = -1 := by simp [owb]
theorem IM_src {m : Mg} {n p : Nat} (hI : IM m n) (hp : p < n) (h : ¬ m 2 p = -1) : src m p < n ∧ m 2 p = nI (src m p) := by
  obtain ⟨q, h1, h2⟩ := (hI.2.2.1 p hp).resolve_left h
  have e : src m p = q := by unfold src; rw [h2, nI_toInt (by have := hI.2.1; omega)]; rfl
  rw [e]; exact ⟨h1, h2⟩
theorem cntG_mono {f g : Nat → Bool} : ∀ (k i : Nat), (∀ j, f j = true → g j = true) → cntG f i k ≤ cntG g i k
  | 0, _, _ => Nat.le_refl 0
  | k + 1, i, h => by
    have h1 := cntG_mono k (i + 1) h
    show (if f i then 1 else 0) + cntG f (i + 1) k ≤ (if g i then 1 else 0) + cntG g (i + 1) k
    by_cases hf : f i = true
    · rw [if_pos hf, if_pos (h i hf)]; omega
    · rw [if_neg hf]; split <;> omega
theorem cntG_lt {f g : Nat → Bool} (h : ∀ j, f j = true → g j = true) {q : Nat} (hf : f q = false) (hg : g q = true) : ∀ (k i : Nat), i ≤ q → q < i + k → cntG f i k < cntG g i k
  | 0, i, h1, h2 => absurd h2 (by omega)
  | k + 1, i, h1, h2 => by
    show (if f i then 1 else 0) + cntG f (i + 1) k < (if g i then 1 else 0) + cntG g (i + 1) k
    by_cases e : i = q
    · subst e
      have := cntG_mono (f := f) (g := g) k (i + 1) h
      rw [hf, hg]
      simp only [Bool.false_eq_true, if_false, if_true]
      omega
    · have h3 := cntG_lt h hf hg k (i + 1) (by omega) (by omega)
      by_cases hfi : f i = true
      · rw [if_pos hfi, if_pos (h i hfi)]; omega
      · rw [if_neg hfi]; split <;> omega
theorem cntG_true : ∀ (k i : Nat), cntG (fun _ => true) i k = k
  | 0, _ => rfl
  | k + 1, i => by
    show 1 + cntG (fun _ => true) (i + 1) k = k + 1
    rw [cntG_true k]; omega
/-- ranks that fall along the chains and stay below n -/
def Rk (m : Mg) (n : Nat) (rk : Nat → Nat) : Prop := (∀ p, p < n → rk p < n) ∧ ∀ p, p < n → ¬ m 2 p = -1 → rk (src m p) < rk p
theorem IM_rk {m : Mg} {n : Nat} (hI : IM m n) : ∃ rk, Rk m n rk := by
  obtain ⟨rk, hr⟩ := hI.2.2.2
  refine ⟨fun p => cntG (fun q => decide (rk q < rk p)) 0 n, fun p hp => ?_, fun p hp ho => ?_⟩
  · have := cntG_lt (f := fun q => decide (rk q < rk p)) (g := fun _ => true) (fun _ _ => rfl) (q := p) (by simp) rfl n 0 (by omega) (by omega)
    rw [cntG_true] at this
    exact this
  · obtain ⟨h1, h2⟩ := IM_src hI hp ho
    have h3 := hr p (src m p) hp h1 h2
    exact cntG_lt (fun j hj => by simp at hj ⊢; omega) (q := src m p) (by simp) (by simp; omega) n 0 (by omega) (by omega)
theorem IM_ind {m : Mg} {n : Nat} (hI : IM m n) {P : Nat → Prop} (h : ∀ p, p < n → (¬ m 2 p = -1 → P (src m p)) → P p) : ∀ p, p < n → P p := by
  obtain ⟨rk, h1, h2⟩ := IM_rk hI
  have key : ∀ k p, rk p < k → p < n → P p := by
    intro k
    induction k with
    | zero => intro p hp; omega
    | succ k ih => intro p hp hn; exact h p hn (fun ho => ih _ (by have := h2 p hn ho; omega) (IM_src hI hn ho).1)
  intro p hp
  exact key (rk p + 1) p (by omega) hp
theorem rootF_fuel {m : Mg} {n : Nat} (hI : IM m n) {rk : Nat → Nat} (hr : Rk m n rk) : ∀ (k l p : Nat), p < n → rk p ≤ k → rk p ≤ l → rootF k m p = rootF l m p ∧ hopF k m p = hopF l m p
  | 0, l, p, hp, h1, _ => by
    have h : m 2 p = -1 := Classical.byContradiction fun h => by have := hr.2 p hp h; omega
    cases l with
    | zero => exact ⟨rfl, rfl⟩
    | succ l => exact ⟨by show p = if m 2 p = -1 then p else _; rw [if_pos h], by show 0 = if m 2 p = -1 then 0 else _; rw [if_pos h]⟩
  | k + 1, l, p, hp, h1, h2 => by
    by_cases h : m 2 p = -1
    · cases l with
      | zero => exact ⟨by show (if m 2 p = -1 then p else _) = p; rw [if_pos h], by show (if m 2 p = -1 then 0 else _) = 0; rw [if_pos h]⟩
      | succ l => exact ⟨by show (if m 2 p = -1 then p else _) = if m 2 p = -1 then p else _; rw [if_pos h, if_pos h], by show (if m 2 p = -1 then 0 else _) = if m 2 p = -1 then 0 else _; rw [if_pos h, if_pos h]⟩
    · have h3 := hr.2 p hp h
      cases l with
      | zero => omega
      | succ l =>
        have h4 := rootF_fuel hI hr k l (src m p) (IM_src hI hp h).1 (by omega) (by omega)
        exact ⟨by show (if m 2 p = -1 then p else _) = if m 2 p = -1 then p else _; rw [if_neg h, if_neg h, h4.1], by show (if m 2 p = -1 then 0 else _) = if m 2 p = -1 then 0 else _; rw [if_neg h, if_neg h, h4.2]⟩
theorem root_eq {m : Mg} {n p : Nat} (hI : IM m n) (hp : p < n) : rootM m p = if m 2 p = -1 then p else rootM m (src m p) := by
  obtain ⟨rk, hr⟩ := IM_rk hI
  have h96 := hI.2.1
  show (if m 2 p = -1 then p else rootF 95 m (src m p)) = _
  by_cases h : m 2 p = -1
  · rw [if_pos h, if_pos h]
  · rw [if_neg h, if_neg h]
    have h1 := hr.1 _ (IM_src hI hp h).1
    exact (rootF_fuel hI hr 95 96 _ (IM_src hI hp h).1 (by omega) (by omega)).1
theorem hops_eq {m : Mg} {n p : Nat} (hI : IM m n) (hp : p < n) : hopsM m p = if m 2 p = -1 then 0 else hopsM m (src m p) + 1 := by
  obtain ⟨rk, hr⟩ := IM_rk hI
  have h96 := hI.2.1
  show (if m 2 p = -1 then 0 else hopF 95 m (src m p) + 1) = _
  by_cases h : m 2 p = -1
  · rw [if_pos h, if_pos h]
  · rw [if_neg h, if_neg h]
    have h1 := hr.1 _ (IM_src hI hp h).1
    rw [(rootF_fuel hI hr 95 96 _ (IM_src hI hp h).1 (by omega) (by omega)).2]
    rfl
theorem hops_rk {m : Mg} {n : Nat} (hI : IM m n) {rk : Nat → Nat} (hr : Rk m n rk) : ∀ p, p < n → hopsM m p ≤ rk p := by
  refine IM_ind hI (fun p hp ih => ?_)
  rw [hops_eq hI hp]
  by_cases h : m 2 p = -1
  · rw [if_pos h]; omega
  · rw [if_neg h]; have := ih h; have := hr.2 p hp h; omega
theorem hops_lt {m : Mg} {n p : Nat} (hI : IM m n) (hp : p < n) : hopsM m p < n := by
  obtain ⟨rk, hr⟩ := IM_rk hI
  have := hops_rk hI hr p hp; have := hr.1 p hp; omega
theorem root_end {m : Mg} {n : Nat} (hI : IM m n) : ∀ p, p < n → rootM m p < n ∧ m 2 (rootM m p) = -1 := by
  refine IM_ind hI (fun p hp ih => ?_)
  rw [root_eq hI hp]
  by_cases h : m 2 p = -1
  · rw [if_pos h]; exact ⟨hp, h⟩
  · rw [if_neg h]; exact ih h
theorem hb_root {m : Mg} {n : Nat} (hI : IM m n) {rk : Nat → Nat} (hr : Rk m n rk) : ∀ (f k p : Nat), p < n → rk p < f → hbF f k m p (rootM m p) = nI (k + hopsM m p)
  | 0, k, p, _, h => absurd h (by omega)
  | f + 1, k, p, hp, h => by
    show (if p = rootM m p then nI k else if m 2 p = -1 then -1 else hbF f (k + 1) m (src m p) (rootM m p)) = _
    have h1 := root_eq hI hp
    have h2 := hops_eq hI hp
    by_cases ho : m 2 p = -1
    · rw [if_pos ho] at h1 h2
      rw [if_pos h1.symm, h2]; rfl
    · rw [if_neg ho] at h1 h2
      have h3 : ¬ p = rootM m p := fun e => ho (by have := (root_end hI p hp).2; rw [← e] at this; exact this)
      have h4 := hr.2 p hp ho
      rw [if_neg h3, if_neg ho, h1, hb_root hI hr f (k + 1) (src m p) (IM_src hI hp ho).1 (by omega), h2]
      exact congrArg nI (by omega)
theorem hbM_root {m : Mg} {n p : Nat} (hI : IM m n) (hp : p < n) : hbM m p (rootM m p) = nI (hopsM m p) := by
  obtain ⟨rk, hr⟩ := IM_rk hI
  have := hr.1 p hp
  have := hI.2.1
  have h := hb_root hI hr 96 0 p hp (by omega)
  rw [Nat.zero_add] at h
  exact h
def valM (m : Mg) (p : Nat) : Int32 := m 1 (rootM m p)
def lockB (m : Mg) (j : Nat) : Bool := !(m 4 j == 0)
def srcB (m : Mg) (p j : Nat) : Bool := m 2 j == nI p
/-- 0 if a copy is possible -/
def refM (m : Mg) (n : Nat) (from_ to_ len : Int32) : Int32 := if len.toInt < 1 then nI 1 else if (isP m from_ && decide (len.toInt ≤ (n : Int) - from_.toInt)) && (isP m to_ && decide (len.toInt ≤ (n : Int) - to_.toInt)) then (if anyG (lockB m) to_.toInt.toNat len.toInt.toNat then nI 3 else nI 0) else nI 2
def contM (m : Mg) (j : Nat) : Bool := owb m j && (decide (0 < j) && (owb m (j - 1) && (m 3 j == m 3 (j - 1) && m 2 j == m 2 (j - 1) + nI 1)))
def startM (m : Mg) (j : Nat) : Bool := owb m j && !contM m j
/-- how many places from j on (f at most) go on with the debt -/
def runM (m : Mg) (n : Nat) : Nat → Nat → Nat
  | 0, _ => 0
  | f + 1, j => if decide (j < n) && contM m j then 1 + runM m n f (j + 1) else 0
def lenM (m : Mg) (n j : Nat) : Nat := 1 + runM m n 95 (j + 1)
/-- the place of number t among those with f -/
def kthG (f : Nat → Bool) : Nat → Nat → Int → Option Nat
  | _, 0, _ => none
  | i, k + 1, t => if f i then (if t = 0 then some i else kthG f (i + 1) k (t - 1)) else kthG f (i + 1) k t
theorem kthG_s {f : Nat → Bool} {i b : Nat} {t : Int} (h : i < b) : kthG f i (b - i) t = if f i then (if t = 0 then some i else kthG f (i + 1) (b - (i + 1)) (t - 1)) else kthG f (i + 1) (b - (i + 1)) t := by
  rw [show b - i = (b - (i + 1)) + 1 by omega]; rfl
theorem kthG_0 {f : Nat → Bool} {i b : Nat} {t : Int} (h : b ≤ i) : kthG f i (b - i) t = none := by rw [show b - i = 0 by omega]; rfl
def oN : Option Nat → Int32
  | none => -1
  | some p => nI p
/-! changes of a memory -/
def byteM (m : Mg) (p : Nat) (v : Int32) : Mg := sG m 1 (upd (m 1) p v)
def srcM (m : Mg) (p : Nat) (v : Int32) : Mg := sG m 2 (upd (m 2) p v)
def prmM (m : Mg) (p : Nat) (v : Int32) : Mg := sG m 3 (upd (m 3) p v)
def lckM (m : Mg) (p : Nat) (v : Int32) : Mg := sG m 4 (upd (m 4) p v)
def endM (m : Mg) (j : Nat) : Mg := prmM (srcM m j (-1)) j (-1)
def accM (m : Mg) (k : Nat) (x : Int32) : Mg := sG m 6 (upd (m 6) k (m 6 k + x))
/-- a payment counts: kind 1 idle, 2 forced, else at once -/
def cpM (m : Mg) (kind : Nat) : Mg := if kind = 1 then accM (accM m 2 (nI 1)) 7 (nI 1) else if kind = 2 then accM (accM m 3 (nI 1)) 7 (nI 3) else accM (accM m 4 (nI 1)) 7 (nI 2)
def evN (m : Mg) : Nat := (m 0 8).toInt.toNat
def noteM (m : Mg) (kind p v : Int32) : Mg := if evN m < 80 then sG (sG m 7 (upd (upd (upd (m 7) (evN m * 3) kind) (evN m * 3 + 1) p) (evN m * 3 + 2) v)) 0 (upd (m 0) 8 (nI (evN m + 1))) else m
def EvOK (m : Mg) : Prop := ∃ e, e ≤ 80 ∧ m 0 8 = nI e
theorem evN_eq {m : Mg} {e : Nat} (h : m 0 8 = nI e) (he : e ≤ 80) : evN m = e := by unfold evN; rw [h, nI_toInt (by omega)]; rfl
def payM (kind : Nat) (m : Mg) (p : Nat) : Mg := cpM (noteM (endM (byteM m p (valM m p)) p) (nI kind) (nI p) (valM m p)) kind
def payO (kind : Nat) (m : Mg) (p : Nat) : Mg := if owb m p then payM kind m p else m
def dropM (m : Mg) (p : Nat) : Mg := endM (noteM (accM m 5 (nI 1)) (nI 4) (nI p) (m 3 p)) p
def dropO (m : Mg) (p : Nat) : Mg := if owb m p then dropM m p else m

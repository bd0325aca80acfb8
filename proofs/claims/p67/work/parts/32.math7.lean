/-! what a call is refused for: the first reason that holds -/
def cdL : List (Bool × Nat) → Nat
  | [] => 0
  | (b, k) :: t => if b then k else cdL t
theorem cdL_t {b : Bool} {k : Nat} {t : List (Bool × Nat)} (h : b = true) : cdL ((b, k) :: t) = k := if_pos h
theorem cdL_f {b : Bool} {k : Nat} {t : List (Bool × Nat)} (h : b = false) : cdL ((b, k) :: t) = cdL t := if_neg (by rw [h]; exact Bool.false_ne_true)
def Th3 (e : String) (k : Nat) : Prop := (e = EIS ∧ k = 1) ∨ (e = EIO ∧ k = 2) ∨ (e = EIA ∧ k = 3)
def ThA (e : String) (k : Nat) : Prop := (e = EIS ∧ k = 1) ∨ (e = EIA ∧ k = 2)
def ThI (e : String) (k : Nat) : Prop := (e = EIO ∧ k = 1) ∨ (e = EIS ∧ k = 2)
def ThL (e : String) (k : Nat) : Prop := (e = EIO ∧ k = 1) ∨ (e = EIA ∧ k = 2)
def ThO (e : String) (k : Nat) : Prop := e = EIO ∧ k = 1
def ThU (e : String) (k : Nat) : Prop := e = EIS ∧ k = 1
def inB (v : Int32) (a b : Int) : Bool := decide (a ≤ v.toInt) && decide (v.toInt ≤ b)
def tN (p : Int32) : Nat := p.toInt.toNat
theorem tN_nI {j : Nat} (h : j < 2 ^ 31) : tN (nI j) = j := by unfold tN; rw [nI_toInt h]; rfl
def plB (n : Nat) (p : Int32) : Bool := inB p 0 ((n : Int) - 1)
theorem inB_t {v : Int32} {a b : Int} (h : inB v a b = true) : a ≤ v.toInt ∧ v.toInt ≤ b := by simpa [inB] using h
theorem inB_f {v : Int32} {a b : Int} (h : inB v a b = false) : v.toInt < a ∨ b < v.toInt := by
  by_cases c : v.toInt < a
  · exact Or.inl c
  · refine Or.inr (Classical.byContradiction fun c2 => ?_)
    have : inB v a b = true := by simp [inB]; omega
    rw [this] at h
    cases h
theorem inB_mk {v : Int32} {a b : Int} (h1 : a ≤ v.toInt) (h2 : v.toInt ≤ b) : inB v a b = true := by simp [inB]; omega
theorem inB_no {v : Int32} {a b : Int} (h : v.toInt < a ∨ b < v.toInt) : inB v a b = false := by simp [inB]; omega
theorem isP_pl {m : Mg} {n : Nat} {p : Int32} (hn : m 0 7 = nI n) (h96 : n ≤ 96) : isP m p = plB n p := by
  unfold isP plB inB
  rw [hn, nI_toInt (by omega)]
  by_cases h : 0 ≤ p.toInt ∧ p.toInt < (n : Int)
  · rw [decide_eq_true h, decide_eq_true h.1, decide_eq_true (show p.toInt ≤ (n : Int) - 1 by omega)]; rfl
  · rw [decide_eq_false h]
    by_cases h1 : 0 ≤ p.toInt
    · rw [decide_eq_true h1, decide_eq_false (show ¬ p.toInt ≤ (n : Int) - 1 by omega)]; rfl
    · rw [decide_eq_false h1]; rfl
theorem in_at {v : Int32} {a : Nat} {b : Int} (h : inB v a b = true) : ∃ j : Nat, a ≤ j ∧ (j : Int) ≤ b ∧ j < 2 ^ 31 ∧ v = nI j := by
  obtain ⟨h1, h2⟩ := inB_t h
  obtain ⟨e1, e2⟩ := nI_of_nonneg (x := v) (by omega)
  exact ⟨v.toInt.toNat, by omega, by omega, e2, e1⟩
theorem pl_at {n : Nat} {p : Int32} (h : plB n p = true) : ∃ j, j < n ∧ p = nI j := by
  obtain ⟨j, -, h2, -, e⟩ := in_at (a := 0) h
  exact ⟨j, by omega, e⟩
theorem pl_n {n j : Nat} (h : j < 2 ^ 31) : plB n (nI j) = decide (j < n) := by
  unfold plB inB
  rw [nI_toInt h, decide_eq_true (show (0 : Int) ≤ (j : Int) by omega), Bool.true_and]
  by_cases z : j < n
  · rw [decide_eq_true z, decide_eq_true (show (j : Int) ≤ (n : Int) - 1 by omega)]
  · rw [decide_eq_false z, decide_eq_false (show ¬ (j : Int) ≤ (n : Int) - 1 by omega)]
/-- a memory that may be none (n = 0) -/
def WM (n c : Nat) (m : Mg) : Prop := n ≤ 96 ∧ m 0 7 = nI n ∧ (¬ n = 0 → MI n c m)
/-- nothing was changed but what an engine works with -/
def ROp (m : Mg) (rr : Rg) (hh : Hg) (sl : Nat → Mg) (tx : G) (u : Cg) : Prop := ∃ sx ex, u = ((sx, m), ex, rr, hh, sl, tx)
/-- .. and the memory, which was remembered -/
def MUp (m : Mg) (L : List Mg) (rr : Rg) (sl : Nat → Mg) (tx : G) (u : Cg) : Prop := ∃ sx ex hx, u = ((sx, m), ex, rr, hx, sl, tx) ∧ HS L hx
/-- .. and the text -/
def TXp (m : Mg) (T : List Int32) (rr : Rg) (hh : Hg) (sl : Nat → Mg) (u : Cg) : Prop := ∃ sx ex tx, u = ((sx, m), ex, rr, hh, sl, tx) ∧ TX T tx
theorem LK_at {m : Mg} {p : Nat} (h : LK m) (hp : p < 96) : m 4 p = bI (lockB m p) := by
  obtain ⟨b, e⟩ := h p hp
  unfold lockB
  rw [e]
  cases b <;> rfl
theorem ref_at {m : Mg} {n : Nat} {f t l : Int32} (hn : m 0 7 = nI n) (h96 : n ≤ 96) (h : refM m n f t l = 0) : ∃ f' t' l' : Nat, f = nI f' ∧ t = nI t' ∧ l = nI l' ∧ 1 ≤ l' ∧ f' + l' ≤ n ∧ t' + l' ≤ n := by
  unfold refM at h
  by_cases c1 : l.toInt < 1
  · rw [if_pos c1] at h; exact absurd h (by decide)
  rw [if_neg c1] at h
  by_cases c2 : ((isP m f && decide (l.toInt ≤ (n : Int) - f.toInt)) && (isP m t && decide (l.toInt ≤ (n : Int) - t.toInt))) = true
  · simp only [Bool.and_eq_true, decide_eq_true_eq] at c2
    obtain ⟨⟨a1, a2⟩, b1, b2⟩ := c2
    rw [isP_pl hn h96] at a1 b1
    obtain ⟨j1, k1, e1⟩ := pl_at a1
    obtain ⟨j2, k2, e2⟩ := pl_at b1
    obtain ⟨e3, e4⟩ := nI_of_nonneg (x := l) (by omega)
    refine ⟨j1, j2, l.toInt.toNat, e1, e2, e3, by omega, ?_, ?_⟩
    · rw [e1, nI_toInt (by omega)] at a2; omega
    · rw [e2, nI_toInt (by omega)] at b2; omega
  · rw [if_neg c2] at h; exact absurd h (by decide)
/-! answers of the class's calls -/
def depB (m : Mg) (j : Nat) (all : Bool) (q : Nat) : Bool := if all then decide (0 < (hbM m q j).toInt) else srcB m j q
def oV (b : Option Nat) (d : Int32) (f : Nat → Int32) : Int32 := match b with
  | none => d
  | some q => f q
def debV (m : Mg) (n f w : Nat) : Int32 := if w = 0 then nI f else if w = 1 then m 2 f else if w = 2 then nI (lenM m n f) else m 3 f
def sumV (m : Mg) (a k : Nat) : Int32 := forG (fun p (x : Int32) => x + valM m p) a k (nI 0)
def chkV (m : Mg) (n : Nat) : Int64 := forG (fun p (x : Int64) => x * 31 + (valM m p).toInt64) 0 n 17
def rowB (n : Nat) (a b l : Int32) : Bool := decide (1 ≤ l.toInt) && (decide (l.toInt ≤ (n : Int) - a.toInt) && decide (l.toInt ≤ (n : Int) - b.toInt))
def samB (m : Mg) (a b i : Nat) : Bool := !(valM m (a + i) == valM m (b + i))
def crdB (m : Mg) (n p : Nat) : Bool := anyG (srcB m p) 0 n
def stlB (m : Mg) (p : Nat) : Bool := !(m 1 p == valM m p)
def vlB (m : Mg) (v : Int32) (p : Nat) : Bool := valM m p == v
def bandN (m : Mg) : Nat := (m 5 0).toInt.toNat
def tikN (m : Mg) (k : Nat) : Nat := (k + bandN m - 1) / bandN m
/-- what a tick under a policy leaves -/
def polL (n : Nat) (m : Mg) (p : Nat) : Nat := sumG (hopsM (payK 1 n (min (1 * bandN m) (cntG (owb m) 0 n)) (setM m 2 (nI p)))) 0 n
def polS (n : Nat) (m : Mg) (p : Nat) (x : Nat × Nat) : Nat × Nat := if p = 0 ∨ polL n m p < x.2 then (p, polL n m p) else x
def polB (n : Nat) (m : Mg) : Nat := (forG (polS n m) 0 4 (0, 0)).1
def mhV (m : Mg) : UInt64 := if m 6 8 = 0 then 0 else FP.ddiv (FP.i2d (m 6 6)) (FP.i2d (m 6 8))
def isA (m : Mg) : Int32 := m 6 2 + m 6 3 + m 6 4
def isV (m : Mg) : UInt32 := if isA m = 0 then 0 else FP.fdiv (FP.i2f (m 6 2)) (FP.i2f (isA m))
/-- the text of a debt behind the text T -/
def dbT (m : Mg) (n j : Nat) (T : List Int32) : List Int32 := (if 0 < T.length then T ++ [nI 44] else T) ++ numL j ++ [nI 120] ++ numL (lenM m n j) ++ [nI 60] ++ numL (src m j)
def dbsS (m : Mg) (n j : Nat) (T : List Int32) : List Int32 := if startM m j then dbT m n j T else T
def dbsT (m : Mg) (n : Nat) : List Int32 := if (forG (dbsS m n) 0 n []).length = 0 then [nI 45] else forG (dbsS m n) 0 n []
def chnF : Nat → Mg → Nat → List Int32 → List Int32
  | 0, _, _, T => T
  | f + 1, m, p, T => if m 2 p = -1 then T else chnF f m (src m p) (T ++ [nI 60] ++ numL (src m p))
def chnT (m : Mg) (p : Nat) : List Int32 := chnF 96 m p (numL p) ++ [nI 61] ++ numL (tN (valM m p))
def lefA (f t l : Nat) : Nat := if t < f then max f (t + l) else f
def lefZ (f t l : Nat) : Nat := if f < t then min (f + l) t - 1 else f + l - 1
def movM (n f t l : Nat) (m : Mg) : Mg := if f = t then copyM n f t l m else (fillM n (lefA f t l) (lefZ f t l) 0 (copyM n f t l m)).2
def slkM (j : Nat) (b : Bool) (m : Mg) : Mg := if b then lockM j j m else lckM m j 0
def gsV (w : Nat) : Int := if w = 0 then 20 else if w = 1 then 96 else if w = 2 then 3 else 1
def lsV (w : Nat) : Int := if w = 0 then 1 else 0
/-! lengths of texts -/
theorem numL_len {v : Nat} (h : v < 100) : (numL v).length ≤ 2 := by
  unfold numL
  rw [if_neg (show ¬ 100 ≤ v by omega)]
  split <;> simp
theorem numL_len3 {v : Nat} : (numL v).length ≤ 3 := by
  unfold numL
  split <;> split <;> simp
theorem runM_le {m : Mg} {n : Nat} : ∀ (f j : Nat), runM m n f j ≤ n - j
  | 0, _ => Nat.zero_le _
  | f + 1, j => by
    have := runM_le (m := m) (n := n) f (j + 1)
    show (if decide (j < n) && contM m j then 1 + runM m n f (j + 1) else 0) ≤ n - j
    split
    · rename_i z
      simp only [Bool.and_eq_true, decide_eq_true_eq] at z
      omega
    · omega
theorem lenM_le {m : Mg} {n j : Nat} (h : j < n) : lenM m n j ≤ n - j := by
  have := runM_le (m := m) (n := n) 95 (j + 1)
  unfold lenM
  omega
theorem dbT_len {m : Mg} {n j : Nat} {T : List Int32} (hn : n ≤ 96) (hj : j < n) (hs : src m j < n) : (dbT m n j T).length ≤ T.length + 9 := by
  have h1 := numL_len (v := j) (by omega)
  have h2 := numL_len (v := lenM m n j) (by have := lenM_le (m := m) hj; omega)
  have h3 := numL_len (v := src m j) (by omega)
  unfold dbT
  split <;> simp only [List.length_append, List.length_cons, List.length_nil] <;> omega
theorem start_src {m : Mg} {n j : Nat} (hI : IM m n) (hj : j < n) (h : startM m j = true) : src m j < n ∧ m 2 j = nI (src m j) := by
  have : owb m j = true := by
    unfold startM at h
    simp only [Bool.and_eq_true] at h
    exact h.1
  exact IM_src hI hj (owb_t.mp this)
theorem band_ok {m : Mg} (h : SBo m) : m 5 0 = nI (bandN m) ∧ 1 ≤ bandN m ∧ bandN m ≤ 20 := by
  obtain ⟨w, lim, pol, h1, h2, h3, -⟩ := h
  have e : bandN m = w := by unfold bandN; rw [h1, nI_toInt (by omega)]; rfl
  rw [e]
  exact ⟨h1, h2, h3⟩
theorem lim_ok {m : Mg} (h : SBo m) : ∃ lim, m 5 1 = nI lim ∧ lim ≤ 96 := by
  obtain ⟨w, lim, pol, h1, h2, h3, h4, h5, -⟩ := h
  exact ⟨lim, h4, h5⟩

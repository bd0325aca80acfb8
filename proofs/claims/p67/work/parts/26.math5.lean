/-! reading: tokens -/
abbrev Tk : Type := Nat × Nat × Nat × Nat
abbrev St : Type := Tk × Nat × Nat
def runF (p : Nat → Bool) : Nat → Nat → Nat
  | 0, i => i
  | f + 1, i => if p i then runF p f (i + 1) else i
/-- the first place from i on, below n, where p does not hold; else n -/
def runB (p : Nat → Bool) (n i : Nat) : Nat := runF p (n - i) i
theorem runB_s {p : Nat → Bool} {n i : Nat} (h : i < n) : runB p n i = if p i then runB p n (i + 1) else i := by
  unfold runB
  rw [show n - i = (n - (i + 1)) + 1 by omega]
  rfl
theorem runB_0 {p : Nat → Bool} {n i : Nat} (h : n ≤ i) : runB p n i = i := by
  unfold runB
  rw [show n - i = 0 by omega]
  rfl
theorem runF_le {p : Nat → Bool} : ∀ (f i : Nat), i ≤ runF p f i ∧ runF p f i ≤ i + f
  | 0, i => ⟨Nat.le_refl _, Nat.le_refl _⟩
  | f + 1, i => by
    have := runF_le (p := p) f (i + 1)
    show i ≤ (if p i then runF p f (i + 1) else i) ∧ (if p i then runF p f (i + 1) else i) ≤ i + (f + 1)
    split <;> omega
theorem runB_le {p : Nat → Bool} {n i : Nat} (h : i ≤ n) : i ≤ runB p n i ∧ runB p n i ≤ n := by
  have := runF_le (p := p) (n - i) i
  unfold runB
  omega
def ltr (b : Nat → Int32) (len i : Nat) : Bool := decide (i < len) && (decide (97 ≤ (b i).toInt) && decide ((b i).toInt ≤ 122))
def dgt (b : Nat → Int32) (len i : Nat) : Bool := decide (i < len) && (decide (48 ≤ (b i).toInt) && decide ((b i).toInt ≤ 57))
def spc (b : Nat → Int32) (i : Nat) : Bool := b i == nI 32
def numG (b : Nat → Int32) : Nat → Nat → Nat → Nat
  | _, 0, acc => acc
  | i, k + 1, acc => numG b (i + 1) k (acc * 10 + (b i).toInt.toNat - 48)
def tok (b : Nat → Int32) (len e0 : Nat) : Tk :=
  if len ≤ runB (spc b) len e0 then (0, runB (spc b) len e0, runB (spc b) len e0, 0)
  else if b (runB (spc b) len e0) = nI 59 then (3, runB (spc b) len e0, runB (spc b) len e0 + 1, 0)
  else if ltr b len (runB (spc b) len e0) then (if 8 < runB (ltr b len) len (runB (spc b) len e0) - runB (spc b) len e0 then 4 else 1, runB (spc b) len e0, runB (ltr b len) len (runB (spc b) len e0), 0)
  else if dgt b len (runB (spc b) len e0) then (if 3 < runB (dgt b len) len (runB (spc b) len e0) - runB (spc b) len e0 then 4 else 2, runB (spc b) len e0, runB (dgt b len) len (runB (spc b) len e0), numG b (runB (spc b) len e0) (runB (dgt b len) len (runB (spc b) len e0) - runB (spc b) len e0) 0)
  else (4, runB (spc b) len e0, runB (spc b) len e0, 0)
theorem numG_last {b : Nat → Int32} : ∀ (k i acc : Nat), numG b i (k + 1) acc = numG b i k acc * 10 + (b (i + k)).toInt.toNat - 48
  | 0, _, _ => rfl
  | k + 1, i, acc => by
    show numG b (i + 1) (k + 1) (acc * 10 + (b i).toInt.toNat - 48) = _
    rw [numG_last k (i + 1), show i + 1 + k = i + (k + 1) by omega]
    rfl
theorem numG_lt {b : Nat → Int32} : ∀ (k i acc m : Nat), acc < 10 ^ m → (∀ j, i ≤ j → j < i + k → 48 ≤ (b j).toInt ∧ (b j).toInt ≤ 57) → numG b i k acc < 10 ^ (m + k)
  | 0, _, _, _, h, _ => h
  | k + 1, i, acc, m, h, hd => by
    have h1 := hd i (Nat.le_refl _) (by omega)
    have := numG_lt k (i + 1) (acc * 10 + (b i).toInt.toNat - 48) (m + 1) (by rw [Nat.pow_succ]; omega) (fun j a1 a2 => hd j (by omega) (by omega))
    rw [show m + (k + 1) = m + 1 + k by omega]
    exact this
theorem runF_all {p : Nat → Bool} : ∀ (f i j : Nat), i ≤ j → j < runF p f i → p j = true
  | 0, i, j, h1, h2 => absurd h2 (by show ¬ j < i; omega)
  | f + 1, i, j, h1, h2 => by
    have h2 : j < (if p i then runF p f (i + 1) else i) := h2
    by_cases e : p i = true
    · rw [if_pos e] at h2
      by_cases z : j = i
      · subst z; exact e
      · exact runF_all f (i + 1) j (by omega) h2
    · rw [if_neg e] at h2; omega
theorem tok_ok {b : Nat → Int32} {len e0 : Nat} (h : e0 ≤ len) : (tok b len e0).1 ≤ 4 ∧ e0 ≤ (tok b len e0).2.1 ∧ (tok b len e0).2.1 ≤ (tok b len e0).2.2.1 ∧ (tok b len e0).2.2.1 ≤ len ∧ ((tok b len e0).1 = 2 → (tok b len e0).2.2.2 < 1000) := by
  have h1 := runB_le (p := spc b) h
  generalize hs : runB (spc b) len e0 = s at h1
  have h2 := runB_le (p := ltr b len) (i := s) (n := len) (by omega)
  have h3 := runB_le (p := dgt b len) (i := s) (n := len) (by omega)
  unfold tok
  rw [hs]
  by_cases c1 : len ≤ s
  · rw [if_pos c1]; exact ⟨(Nat.le_of_ble_eq_true rfl), h1.1, Nat.le_refl _, h1.2, fun z => by cases z⟩
  rw [if_neg c1]
  by_cases c2 : b s = nI 59
  · rw [if_pos c2]; exact ⟨by show 3 ≤ 4; omega, h1.1, by show s ≤ s + 1; omega, by show s + 1 ≤ len; omega, fun z => by cases z⟩
  rw [if_neg c2]
  by_cases c3 : ltr b len s = true
  · rw [if_pos c3]
    refine ⟨by dsimp only; split <;> omega, h1.1, h2.1, h2.2, fun z => ?_⟩
    dsimp only at z
    split at z <;> cases z
  rw [if_neg c3]
  by_cases c4 : dgt b len s = true
  · rw [if_pos c4]
    refine ⟨by dsimp only; split <;> omega, h1.1, h3.1, h3.2, fun z => ?_⟩
    dsimp only at z ⊢
    by_cases c5 : 3 < runB (dgt b len) len s - s
    · rw [if_pos c5] at z; cases z
    · have hd : ∀ j, s ≤ j → j < s + (runB (dgt b len) len s - s) → 48 ≤ (b j).toInt ∧ (b j).toInt ≤ 57 := fun j a1 a2 => by
        have := runF_all (p := dgt b len) (len - s) s j a1 (by show j < runB (dgt b len) len s; omega)
        simp only [dgt, Bool.and_eq_true, decide_eq_true_eq] at this
        exact this.2
      have h4 := numG_lt (b := b) (runB (dgt b len) len s - s) s 0 0 (by decide) hd
      rw [Nat.zero_add] at h4
      exact Nat.lt_of_lt_of_le h4 (Nat.pow_le_pow_right (by decide) (by omega) : 10 ^ (runB (dgt b len) len s - s) ≤ 10 ^ 3)
  · rw [if_neg c4]; exact ⟨(Nat.le_of_ble_eq_true rfl), h1.1, Nat.le_refl _, h1.2, fun z => by cases z⟩
/-- sign j of the word is another one -/
def wrB (b : Nat → Int32) (s : Nat) (w : List Nat) (j : Nat) : Bool := !(b (s + j) == nI (w.getD j 0))
theorem wrB_f {b : Nat → Int32} {s j : Nat} {w : List Nat} (h : b (s + j) = nI (w.getD j 0)) : wrB b s w j = false := by unfold wrB; rw [h]; simp
theorem wrB_t {b : Nat → Int32} {s j : Nat} {w : List Nat} (h : ¬ b (s + j) = nI (w.getD j 0)) : wrB b s w j = true := by unfold wrB; rw [beq_eq_false_iff_ne.mpr h]; rfl
def isW (b : Nat → Int32) (w : List Nat) (t : Tk) : Bool := decide (t.1 = 1) && (decide (t.2.2.1 - t.2.1 = w.length) && !anyG (wrB b t.2.1 w) 0 w.length)
/-! steps of the reader -/
def advS (b : Nat → Int32) (len : Nat) (st : St) : St := if st.2.1 = 0 then (tok b len st.1.2.2.1, st.2) else st
def failS (c : Nat) (st : St) : St := if st.2.1 = 0 then (st.1, c, st.1.2.1) else st
def chkS (lo hi : Nat) (st : St) : St := if st.1.1 = 2 then (if st.1.2.2.2 < lo ∨ hi < st.1.2.2.2 then failS 2 st else st) else failS 1 st
/-- a number is read: the state, its value (the least one behind an error) -/
def numS (b : Nat → Int32) (len lo hi : Nat) (st : St) : St × Nat := (chkS lo hi (advS b len st), if (chkS lo hi (advS b len st)).2.1 = 0 then (chkS lo hi (advS b len st)).1.2.2.2 else lo)
def wrdS (b : Nat → Int32) (len : Nat) (w : List Nat) (st : St) : St := if isW b w (advS b len st).1 then advS b len st else failS 1 (advS b len st)
def namS (b : Nat → Int32) (len : Nat) (w : List Nat) (lo hi : Nat) (st : St) : St × Nat := numS b len lo hi (wrdS b len w st)
/-! the reader's numbers -/
def RT (t : Tk) (r : G) : Prop := r 0 6 = nI t.1 ∧ r 0 7 = nI t.2.1 ∧ r 0 8 = nI t.2.2.1 ∧ (t.1 = 2 → r 0 9 = nI t.2.2.2)
def TB (len : Nat) (t : Tk) : Prop := t.1 ≤ 4 ∧ t.2.1 ≤ t.2.2.1 ∧ t.2.2.1 ≤ len ∧ (t.1 = 2 → t.2.2.2 < 1000)
def ERR (p : Nat × Nat) (r : G) : Prop := p.1 ≤ 4 ∧ p.2 ≤ 700 ∧ r 0 3 = nI p.1 ∧ r 0 4 = if p.1 = 0 then -1 else nI p.2
/-- a token stands there -/
def RS (b : Nat → Int32) (len : Nat) (st : St) (r : G) : Prop := r 13 = b ∧ r 0 5 = nI len ∧ len ≤ 700 ∧ ERR st.2 r ∧ RT st.1 r ∧ TB len st.1
/-- so far was read -/
def RA (b : Nat → Int32) (len : Nat) (st : St) (r : G) : Prop := r 13 = b ∧ r 0 5 = nI len ∧ len ≤ 700 ∧ ERR st.2 r ∧ (r 0 8 = nI st.1.2.2.1 ∧ st.1.2.2.1 ≤ len) ∧ (¬ st.2.1 = 0 → RT st.1 r ∧ TB len st.1)
theorem RS.ra {b : Nat → Int32} {len : Nat} {st : St} {r : G} (h : RS b len st r) : RA b len st r := ⟨h.1, h.2.1, h.2.2.1, h.2.2.2.1, ⟨h.2.2.2.2.1.2.2.1, h.2.2.2.2.2.2.2.1⟩, fun _ => h.2.2.2.2⟩
/-- what reading leaves alone -/
def FA (r r2 : G) : Prop := r2 13 = r 13 ∧ ∀ k, ¬ (6 ≤ k ∧ k ≤ 9) → r2 0 k = r 0 k
def FB (r r2 : G) : Prop := r2 13 = r 13 ∧ r2 0 2 = r 0 2 ∧ r2 0 5 = r 0 5 ∧ r2 0 10 = r 0 10 ∧ r2 0 11 = r 0 11 ∧ r2 0 12 = r 0 12 ∧ r2 0 13 = r 0 13
theorem FA.fb {r r2 : G} (h : FA r r2) : FB r r2 := ⟨h.1, h.2 2 (by omega), h.2 5 (by omega), h.2 10 (by omega), h.2 11 (by omega), h.2 12 (by omega), h.2 13 (by omega)⟩
theorem FB.rf {r : G} : FB r r := ⟨rfl, rfl, rfl, rfl, rfl, rfl, rfl⟩
theorem FB.tr {a b c : G} (h : FB a b) (h2 : FB b c) : FB a c := ⟨h2.1.trans h.1, h2.2.1.trans h.2.1, h2.2.2.1.trans h.2.2.1, h2.2.2.2.1.trans h.2.2.2.1, h2.2.2.2.2.1.trans h.2.2.2.2.1, h2.2.2.2.2.2.1.trans h.2.2.2.2.2.1, h2.2.2.2.2.2.2.trans h.2.2.2.2.2.2⟩
/-- the four numbers of the token -/
def rW (r : G) (k s e v : Int32) : G := sG r 0 (upd (upd (upd (upd (r 0) 6 k) 7 s) 8 e) 9 v)
theorem rW_id {r : G} : rW r (r 0 6) (r 0 7) (r 0 8) (r 0 9) = r := by
  refine sG_id (funext fun i => ?_)
  unfold upd
  by_cases e9 : i = 9
  · subst e9; rfl
  by_cases e8 : i = 8
  · subst e8; rfl
  by_cases e7 : i = 7
  · subst e7; rfl
  by_cases e6 : i = 6
  · subst e6; rfl
  rw [if_neg e9, if_neg e8, if_neg e7, if_neg e6]
theorem rW_eq {r : G} {k s e v k2 s2 e2 v2 x : Int32} {j : Nat} (h : ∀ i, upd (upd (upd (upd (upd (r 0) 6 k) 7 s) 8 e) 9 v) j x i = upd (upd (upd (upd (r 0) 6 k2) 7 s2) 8 e2) 9 v2 i) : sG (rW r k s e v) 0 (upd ((rW r k s e v) 0) j x) = rW r k2 s2 e2 v2 := by
  unfold rW
  rw [sG_sG]
  exact congrArg _ (funext h)
theorem rW_6 {r : G} {k s e v x : Int32} : sG (rW r k s e v) 0 (upd ((rW r k s e v) 0) 6 x) = rW r x s e v := rW_eq fun i => by
  unfold upd
  by_cases e9 : i = 9 <;> by_cases e8 : i = 8 <;> by_cases e7 : i = 7 <;> by_cases e6 : i = 6 <;> simp [e9, e8, e7, e6] <;> omega
theorem rW_7 {r : G} {k s e v x : Int32} : sG (rW r k s e v) 0 (upd ((rW r k s e v) 0) 7 x) = rW r k x e v := rW_eq fun i => by
  unfold upd
  by_cases e9 : i = 9 <;> by_cases e8 : i = 8 <;> by_cases e7 : i = 7 <;> by_cases e6 : i = 6 <;> simp [e9, e8, e7, e6] <;> omega
theorem rW_8 {r : G} {k s e v x : Int32} : sG (rW r k s e v) 0 (upd ((rW r k s e v) 0) 8 x) = rW r k s x v := rW_eq fun i => by
  unfold upd
  by_cases e9 : i = 9 <;> by_cases e8 : i = 8 <;> by_cases e7 : i = 7 <;> by_cases e6 : i = 6 <;> simp [e9, e8, e7, e6] <;> omega
theorem rW_9 {r : G} {k s e v x : Int32} : sG (rW r k s e v) 0 (upd ((rW r k s e v) 0) 9 x) = rW r k s e x := rW_eq fun i => by
  unfold upd
  by_cases e9 : i = 9 <;> by_cases e8 : i = 8 <;> by_cases e7 : i = 7 <;> by_cases e6 : i = 6 <;> simp [e9, e8, e7, e6] <;> omega
theorem rW_FA {r : G} {k s e v : Int32} : FA r (rW r k s e v) := ⟨rfl, fun i hi => by
  show upd (upd (upd (upd (r 0) 6 k) 7 s) 8 e) 9 v i = r 0 i
  rw [upd_o (by omega), upd_o (by omega), upd_o (by omega), upd_o (by omega)]⟩
theorem ERR.fa {p : Nat × Nat} {r r2 : G} (h : ERR p r) (hf : FA r r2) : ERR p r2 := ⟨h.1, h.2.1, by rw [hf.2 3 (by omega)]; exact h.2.2.1, by rw [hf.2 4 (by omega)]; exact h.2.2.2⟩
theorem advS_ok {b : Nat → Int32} {len : Nat} {st : St} {r r2 : G} (h : RA b len st r) (h0 : st.2.1 = 0) (hf : FA r r2) (ht : RT (tok b len st.1.2.2.1) r2) : RS b len (advS b len st) r2 := by
  have e : advS b len st = (tok b len st.1.2.2.1, st.2) := if_pos h0
  rw [e]
  have hk := tok_ok (b := b) h.2.2.2.2.1.2
  exact ⟨by rw [hf.1]; exact h.1, by rw [hf.2 5 (by omega)]; exact h.2.1, h.2.2.1, h.2.2.2.1.fa hf, ht, hk.1, hk.2.2.1, hk.2.2.2.1, hk.2.2.2.2⟩
theorem advS_err {b : Nat → Int32} {len : Nat} {st : St} {r : G} (h : RA b len st r) (h0 : ¬ st.2.1 = 0) : RS b len (advS b len st) r := by
  have e : advS b len st = st := if_neg h0
  rw [e]
  exact ⟨h.1, h.2.1, h.2.2.1, h.2.2.2.1, h.2.2.2.2.2 h0⟩
theorem failS_t {c : Nat} {st : St} : (failS c st).1 = st.1 := by unfold failS; split <;> rfl

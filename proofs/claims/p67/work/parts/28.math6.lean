/-! reading: the lines -/
abbrev Cnt : Type := Nat × Nat × Nat × Nat
theorem chk_k2 {lo hi : Nat} {st : St} (h : (chkS lo hi st).2.1 = 0) : (chkS lo hi st).1.1 = 2 ∧ lo ≤ (chkS lo hi st).1.2.2.2 ∧ (chkS lo hi st).1.2.2.2 ≤ hi := by
  unfold chkS at h ⊢
  by_cases c1 : st.1.1 = 2
  · rw [if_pos c1] at h ⊢
    by_cases c2 : st.1.2.2.2 < lo ∨ hi < st.1.2.2.2
    · rw [if_pos c2] at h
      unfold failS at h
      by_cases c3 : st.2.1 = 0
      · rw [if_pos c3] at h; cases h
      · rw [if_neg c3] at h; exact absurd h c3
    · rw [if_neg c2]; exact ⟨c1, by omega, by omega⟩
  · rw [if_neg c1] at h
    unfold failS at h
    by_cases c3 : st.2.1 = 0
    · rw [if_pos c3] at h; cases h
    · rw [if_neg c3] at h; exact absurd h c3
theorem numS_rng {b : Nat → Int32} {len lo hi : Nat} {st : St} (h : lo ≤ hi) : lo ≤ (numS b len lo hi st).2 ∧ (numS b len lo hi st).2 ≤ hi := by
  show lo ≤ (if (chkS lo hi (advS b len st)).2.1 = 0 then (chkS lo hi (advS b len st)).1.2.2.2 else lo) ∧ (if (chkS lo hi (advS b len st)).2.1 = 0 then (chkS lo hi (advS b len st)).1.2.2.2 else lo) ≤ hi
  by_cases c : (chkS lo hi (advS b len st)).2.1 = 0
  · rw [if_pos c]; exact (chk_k2 c).2
  · rw [if_neg c]; exact ⟨Nat.le_refl _, h⟩
def setM (m : Mg) (k : Nat) (v : Int32) : Mg := sG m 5 (upd (m 5) k v)
def szM (m : Mg) (v : Int32) : Mg := sG m 0 (upd (m 0) 7 v)
def whenS (p : Bool) (c : Nat) (st : St) : St := if p then failS c st else st
def ok (st : St) : Bool := st.2.1 == 0
def putS (n p v : Nat) (st : St) (m : Mg) : St × Mg := (whenS (!decide (p < n)) 2 st, if ok (whenS (!decide (p < n)) 2 st) then byteM m p (nI v) else m)
def putF (b : Nat → Int32) (len n p : Nat) : Nat → Nat → St → Mg → St × Mg
  | 0, _, st, m => (st, m)
  | f + 1, k, st, m => if ok st && decide (st.1.1 = 2) then putF b len n p f (k + 1) (advS b len (putS n (p + k) st.1.2.2.2 (whenS (decide (255 < st.1.2.2.2)) 2 st) m).1) (putS n (p + k) st.1.2.2.2 (whenS (decide (255 < st.1.2.2.2)) 2 st) m).2 else (st, m)
def put1 (b : Nat → Int32) (len n : Nat) (st : St) (k : Cnt) : St × Nat := numS b len 0 (n - 1) (if 0 < k.2.2.1 then failS 1 st else whenS (decide (20 < k.1 + 1)) 4 st)
def put2 (b : Nat → Int32) (len n : Nat) (st : St) (k : Cnt) : St × Nat := numS b len 0 255 (put1 b len n st k).1
def put3 (b : Nat → Int32) (len n : Nat) (st : St) (m : Mg) (k : Cnt) : St × Mg := putS n (put1 b len n st k).2 (put2 b len n st k).2 (put2 b len n st k).1 m
def put4 (b : Nat → Int32) (len n : Nat) (st : St) (m : Mg) (k : Cnt) : St × Mg := putF b len n (put1 b len n st k).2 699 1 (advS b len (put3 b len n st m k).1) (put3 b len n st m k).2
abbrev RX : Type := St × Mg × Cnt
def lnPut (b : Nat → Int32) (len n : Nat) (x : RX) : RX := ((put4 b len n x.1 x.2.1 x.2.2).1, (put4 b len n x.1 x.2.1 x.2.2).2, (x.2.2.1 + 1, x.2.2.2))
def lok1 (b : Nat → Int32) (len n : Nat) (st : St) (k : Cnt) : St × Nat := numS b len 0 (n - 1) (whenS (decide (6 < k.2.1 + 1)) 4 st)
def lok2 (b : Nat → Int32) (len n : Nat) (st : St) (k : Cnt) : St × Nat := numS b len (lok1 b len n st k).2 (n - 1) (lok1 b len n st k).1
def lnLock (b : Nat → Int32) (len n : Nat) (x : RX) : RX := (advS b len (lok2 b len n x.1 x.2.2).1, if ok (lok2 b len n x.1 x.2.2).1 then lockM (lok1 b len n x.1 x.2.2).2 (lok2 b len n x.1 x.2.2).2 x.2.1 else x.2.1, (x.2.2.1, x.2.2.2.1 + 1, x.2.2.2.2))
def cop1 (b : Nat → Int32) (len n : Nat) (st : St) (k : Cnt) : St × Nat := numS b len 0 (n - 1) (whenS (decide (20 < k.2.2.1 + 1)) 4 st)
def cop2 (b : Nat → Int32) (len n : Nat) (st : St) (k : Cnt) : St × Nat := numS b len 0 (n - 1) (cop1 b len n st k).1
def cop3 (b : Nat → Int32) (len n : Nat) (st : St) (k : Cnt) : St × Nat := numS b len 1 n (cop2 b len n st k).1
def cop4 (b : Nat → Int32) (len n : Nat) (st : St) (m : Mg) (k : Cnt) : St := whenS (!(refM m n (nI (cop1 b len n st k).2) (nI (cop2 b len n st k).2) (nI (cop3 b len n st k).2) == 0)) 3 (cop3 b len n st k).1
def lnCopy (b : Nat → Int32) (len n : Nat) (x : RX) : RX := (advS b len (cop4 b len n x.1 x.2.1 x.2.2), if ok (cop4 b len n x.1 x.2.1 x.2.2) then copyM n (cop1 b len n x.1 x.2.2).2 (cop2 b len n x.1 x.2.2).2 (cop3 b len n x.1 x.2.2).2 x.2.1 else x.2.1, (x.2.2.1, x.2.2.2.1, x.2.2.2.2.1 + 1, x.2.2.2.2.2))
def fil1 (b : Nat → Int32) (len n : Nat) (st : St) (k : Cnt) : St × Nat := numS b len 0 (n - 1) (whenS (decide (6 < k.2.2.2 + 1)) 4 st)
def fil2 (b : Nat → Int32) (len n : Nat) (st : St) (k : Cnt) : St × Nat := numS b len (fil1 b len n st k).2 (n - 1) (fil1 b len n st k).1
def fil3 (b : Nat → Int32) (len n : Nat) (st : St) (k : Cnt) : St × Nat := numS b len 0 255 (fil2 b len n st k).1
def fil4 (b : Nat → Int32) (len n : Nat) (st : St) (m : Mg) (k : Cnt) : St := whenS (anyG (lockB m) (fil1 b len n st k).2 ((fil2 b len n st k).2 + 1 - (fil1 b len n st k).2)) 3 (fil3 b len n st k).1
def lnFill (b : Nat → Int32) (len n : Nat) (x : RX) : RX := (advS b len (fil4 b len n x.1 x.2.1 x.2.2), if ok (fil4 b len n x.1 x.2.1 x.2.2) then (fillM n (fil1 b len n x.1 x.2.2).2 (fil2 b len n x.1 x.2.2).2 (nI (fil3 b len n x.1 x.2.2).2) x.2.1).2 else x.2.1, (x.2.2.1, x.2.2.2.1, x.2.2.2.2.1, x.2.2.2.2.2 + 1))
def lnRule (b : Nat → Int32) (len k : Nat) (x : RX) : RX := (advS b len (whenS (x.2.1 5 k == nI 1) 3 x.1), setM x.2.1 k (nI 1), x.2.2)
def wd (i : Nat) : List Nat := match SS[i]? with
  | some q => q.2.2.2
  | none => []
theorem wd_q {i : Nat} {q : SQ} (h : SS[i]? = some q) : q.2.2.2 = wd i := by unfold wd; rw [h]
/-- a line's words, behind its first token -/
def lnAny (b : Nat → Int32) (len n : Nat) (x : RX) : RX :=
  if isW b (wd 4) x.1.1 then lnPut b len n x else if isW b (wd 5) x.1.1 then lnLock b len n x else if isW b (wd 6) x.1.1 then lnCopy b len n x else if isW b (wd 7) x.1.1 then lnFill b len n x
  else if isW b (wd 8) x.1.1 then lnRule b len 3 x else if isW b (wd 9) x.1.1 then lnRule b len 4 x else (failS 1 x.1, x.2)
def lnStep (b : Nat → Int32) (len n : Nat) (x : RX) : RX := lnAny b len n (advS b len (whenS (!decide (x.1.1.1 = 3)) 1 x.1), x.2)
def linesF (b : Nat → Int32) (len n : Nat) : Nat → RX → RX
  | 0, x => x
  | f + 1, x => if ok x.1 && !decide (x.1.1.1 = 0) then linesF b len n f (lnStep b len n x) else x
def st0 : St := ((0, 0, 0, 0), 0, 0)
def hd1 (b : Nat → Int32) (len : Nat) : St × Nat := namS b len (wd 0) 1 96 st0
def hd2 (b : Nat → Int32) (len : Nat) : St × Nat := namS b len (wd 1) 1 20 (hd1 b len).1
def hd3 (b : Nat → Int32) (len : Nat) : St × Nat := namS b len (wd 2) 0 96 (hd2 b len).1
def hd4 (b : Nat → Int32) (len : Nat) : St × Nat := namS b len (wd 3) 0 3 (hd3 b len).1
def hdM (b : Nat → Int32) (len : Nat) (m : Mg) : Mg := setM (setM (setM (szM m (nI (hd1 b len).2)) 0 (nI (hd2 b len).2)) 1 (nI (hd3 b len).2)) 2 (nI (hd4 b len).2)
def parS (b : Nat → Int32) (len : Nat) (ev : Nat → Int32) : RX := linesF b len (hd1 b len).2 700 (advS b len (hd4 b len).1, hdM b len (clrM ev), (0, 0, 0, 0))
/-! what the memory that is read keeps -/
def PI (n : Nat) (x : RX) : Prop := ∃ co, MI n co x.2.1 ∧ co ≤ x.2.2.2.2.1 ∧ co ≤ 20
theorem whenS_ok {p : Bool} {c : Nat} {st : St} (hc : ¬ c = 0) (h : ok (whenS p c st) = true) : p = false ∧ ok st = true := by
  cases p with
  | false => exact ⟨rfl, h⟩
  | true =>
    exfalso
    have h : ok (failS c st) = true := h
    unfold ok failS at h
    split at h
    · exact hc (by simpa using h)
    · rename_i h2
      exact h2 (by simpa using h)
theorem MI.set {n c k : Nat} {v : Int32} {m : Mg} (h : MI n c m) (hs : SBo (setM m k v)) : MI n c (setM m k v) := MI.of h rfl rfl rfl h.2.2.1 hs rfl (EvOK.of h.2.1 rfl) h.2.2.2.2.2.1
theorem MI.rule {n c k : Nat} {v : Int32} {m : Mg} (h : MI n c m) (hk : k = 3 ∨ k = 4) : MI n c (setM m k v) := by
  refine h.set ?_
  obtain ⟨w, lim, pol, h1, h2⟩ := h.2.2.2.2.1
  rcases hk with rfl | rfl <;> exact ⟨w, lim, pol, h1, h2⟩
theorem putS_MI {n c p v : Nat} {st : St} {m : Mg} (h : MI n c m) (hv : ok st = true → v < 256) : MI n c (putS n p v st m).2 := by
  show MI n c (if ok (whenS (!decide (p < n)) 2 st) then byteM m p (nI v) else m)
  by_cases e : ok (whenS (!decide (p < n)) 2 st) = true
  · rw [if_pos e]; exact h.byte (hv (whenS_ok (by decide) e).2)
  · rw [if_neg e]; exact h
theorem putF_MI {b : Nat → Int32} {len n c p : Nat} : ∀ (f k : Nat) (st : St) (m : Mg), MI n c m → MI n c (putF b len n p f k st m).2
  | 0, _, _, _, h => h
  | f + 1, k, st, m, h => by
    show MI n c (if ok st && decide (st.1.1 = 2) then putF b len n p f (k + 1) _ _ else (st, m)).2
    split
    · refine putF_MI f (k + 1) _ _ (putS_MI h (fun e => ?_))
      have := (whenS_ok (by decide) e).1
      simp at this
      omega
    · exact h
theorem PI.put {b : Nat → Int32} {len n : Nat} {x : RX} (h : PI n x) : PI n (lnPut b len n x) := by
  obtain ⟨co, h1, h2, h3⟩ := h
  refine ⟨co, ?_, h2, h3⟩
  exact putF_MI _ _ _ _ (putS_MI h1 (fun _ => by have := (numS_rng (b := b) (len := len) (lo := 0) (hi := 255) (st := (put1 b len n x.1 x.2.2).1) (by decide)).2; show (put2 b len n x.1 x.2.2).2 < 256; unfold put2; omega))
theorem PI.lock {b : Nat → Int32} {len n : Nat} {x : RX} (h : PI n x) : PI n (lnLock b len n x) := by
  obtain ⟨co, h1, h2, h3⟩ := h
  refine ⟨co, ?_, h2, h3⟩
  have hn := h1.2.2.2.1
  have r1 := numS_rng (b := b) (len := len) (lo := 0) (hi := n - 1) (st := whenS (decide (6 < x.2.2.2.1 + 1)) 4 x.1) (Nat.zero_le _)
  have r2 := numS_rng (b := b) (len := len) (lo := (lok1 b len n x.1 x.2.2).2) (hi := n - 1) (st := (lok1 b len n x.1 x.2.2).1) r1.2
  show MI n co (if ok (lok2 b len n x.1 x.2.2).1 then lockM (lok1 b len n x.1 x.2.2).2 (lok2 b len n x.1 x.2.2).2 x.2.1 else x.2.1)
  split
  · exact h1.lock r2.1 (by have := r2.2; show (lok2 b len n x.1 x.2.2).2 < n; unfold lok2; omega)
  · exact h1
theorem refM_0 {m : Mg} {n : Nat} {f t l : Nat} (hn : m 0 7 = nI n) (h96 : n ≤ 96) (hf : f ≤ 200) (ht : t ≤ 200) (hl : l ≤ 200) (h : refM m n (nI f) (nI t) (nI l) = 0) : 1 ≤ l ∧ f + l ≤ n ∧ t + l ≤ n := by
  unfold refM at h
  rw [isP_n hn h96 (by omega), isP_n hn h96 (by omega), nI_toInt (by omega), nI_toInt (by omega), nI_toInt (by omega)] at h
  by_cases c1 : (l : Int) < 1
  · rw [if_pos c1] at h; exact absurd h (by decide)
  rw [if_neg c1] at h
  by_cases c2 : ((decide (f < n) && decide ((l : Int) ≤ (n : Int) - (f : Int))) && (decide (t < n) && decide ((l : Int) ≤ (n : Int) - (t : Int)))) = true
  · simp only [Bool.and_eq_true, decide_eq_true_eq] at c2
    omega
  · rw [if_neg c2] at h; exact absurd h (by decide)
theorem ok_adv {b : Nat → Int32} {len : Nat} {st : St} (z : ok (advS b len st) = true) : ok st = true := by
  unfold advS at z
  split at z
  · rename_i z2; unfold ok; rw [z2]; rfl
  · exact z
theorem ok_fail {c : Nat} {st : St} (hc : ¬ c = 0) (h : ok (failS c st) = true) : False := by
  unfold ok failS at h
  split at h
  · exact hc (by simpa using h)
  · rename_i h2
    exact h2 (by simpa using h)
theorem ok_chk {lo hi : Nat} {st : St} (h : ok (chkS lo hi st) = true) : ok st = true := by
  unfold chkS at h
  split at h
  · split at h
    · exact (ok_fail (by decide) h).elim
    · exact h
  · exact (ok_fail (by decide) h).elim
theorem ok_num {b : Nat → Int32} {len lo hi : Nat} {st : St} (h : ok (numS b len lo hi st).1 = true) : ok st = true := ok_adv (ok_chk (lo := lo) (hi := hi) h)
theorem ok_cop {b : Nat → Int32} {len n : Nat} {st : St} {k : Cnt} (h : ok (cop3 b len n st k).1 = true) : k.2.2.1 + 1 ≤ 20 := by
  unfold cop3 at h
  have h := ok_num h
  unfold cop2 at h
  have h := ok_num h
  unfold cop1 at h
  have h := (whenS_ok (by decide) (ok_num h)).1
  simpa using h
theorem cop4_ok {b : Nat → Int32} {len n : Nat} {st : St} {m : Mg} {k : Cnt} (h : ok (cop4 b len n st m k) = true) : refM m n (nI (cop1 b len n st k).2) (nI (cop2 b len n st k).2) (nI (cop3 b len n st k).2) = 0 ∧ ok (cop3 b len n st k).1 = true := by
  unfold cop4 at h
  have h2 := whenS_ok (by decide) h
  exact ⟨by have := h2.1; rw [Bool.not_eq_false', beq_iff_eq] at this; exact this, h2.2⟩
theorem cop_rng {b : Nat → Int32} {len n : Nat} {st : St} {k : Cnt} (hn : 1 ≤ n) : (cop1 b len n st k).2 ≤ n - 1 ∧ (cop2 b len n st k).2 ≤ n - 1 ∧ (cop3 b len n st k).2 ≤ n := ⟨(numS_rng (Nat.zero_le _)).2, (numS_rng (Nat.zero_le _)).2, (numS_rng hn).2⟩
theorem refM_z {m : Mg} {n : Nat} {f t l : Nat} (hn : m 0 7 = nI n) (h96 : n ≤ 96) (h : f ≤ n - 1 ∧ t ≤ n - 1 ∧ l ≤ n) (h0 : refM m n (nI f) (nI t) (nI l) = 0) : 1 ≤ l ∧ f + l ≤ n ∧ t + l ≤ n := refM_0 hn h96 (by omega) (by omega) (by omega) h0
theorem PI_copy {n co : Nat} {x : RX} {y : Mg} (h1 : MI n co x.2.1) (h2 : co ≤ x.2.2.2.2.1) (h3 : co ≤ 20) {p : Bool} {f t l : Nat} (hp : p = true → 1 ≤ l ∧ f + l ≤ n ∧ t + l ≤ n ∧ x.2.2.2.2.1 + 1 ≤ 20) (e : y = if p then copyM n f t l x.2.1 else x.2.1) : ∃ co, MI n co y ∧ co ≤ x.2.2.2.2.1 + 1 ∧ co ≤ 20 := by
  subst e
  cases p with
  | false => exact ⟨co, h1, by omega, h3⟩
  | true =>
    obtain ⟨a1, a2, a3, a4⟩ := hp rfl
    exact ⟨co + 1, h1.copy a1 a2 a3, by omega, by omega⟩
theorem PI.copy {b : Nat → Int32} {len n : Nat} {x : RX} (h : PI n x) : PI n (lnCopy b len n x) := by
  obtain ⟨co, h1, h2, h3⟩ := h
  have hp : ok (cop4 b len n x.1 x.2.1 x.2.2) = true → 1 ≤ (cop3 b len n x.1 x.2.2).2 ∧ (cop1 b len n x.1 x.2.2).2 + (cop3 b len n x.1 x.2.2).2 ≤ n ∧ (cop2 b len n x.1 x.2.2).2 + (cop3 b len n x.1 x.2.2).2 ≤ n ∧ x.2.2.2.2.1 + 1 ≤ 20 := by
    intro hp
    have e := cop4_ok hp
    have a := refM_z h1.1.1 h1.1.2.1 (cop_rng h1.2.2.2.1) e.1
    exact ⟨a.1, a.2.1, a.2.2, ok_cop e.2⟩
  unfold lnCopy PI
  dsimp only
  generalize ok (cop4 b len n x.1 x.2.1 x.2.2) = q at hp ⊢
  generalize (cop3 b len n x.1 x.2.2).2 = l at hp ⊢
  generalize (cop2 b len n x.1 x.2.2).2 = t at hp ⊢
  generalize (cop1 b len n x.1 x.2.2).2 = f at hp ⊢
  exact PI_copy h1 h2 h3 hp rfl
theorem PI.fill {b : Nat → Int32} {len n : Nat} {x : RX} (h : PI n x) : PI n (lnFill b len n x) := by
  obtain ⟨co, h1, h2, h3⟩ := h
  refine ⟨co, ?_, h2, h3⟩
  have r3 := (numS_rng (b := b) (len := len) (lo := 0) (hi := 255) (st := (fil2 b len n x.1 x.2.2).1) (by decide)).2
  show MI n co (if ok (fil4 b len n x.1 x.2.1 x.2.2) then (fillM n (fil1 b len n x.1 x.2.2).2 (fil2 b len n x.1 x.2.2).2 (nI (fil3 b len n x.1 x.2.2).2) x.2.1).2 else x.2.1)
  split
  · exact h1.fill (by show (fil3 b len n x.1 x.2.2).2 < 256; unfold fil3; omega)
  · exact h1
theorem PI.rule {b : Nat → Int32} {len n k : Nat} {x : RX} (h : PI n x) (hk : k = 3 ∨ k = 4) : PI n (lnRule b len k x) := by
  obtain ⟨co, h1, h2, h3⟩ := h
  exact ⟨co, h1.rule hk, h2, h3⟩
theorem PI.any {b : Nat → Int32} {len n : Nat} {x : RX} (h : PI n x) : PI n (lnAny b len n x) := by
  unfold lnAny
  split
  · exact h.put
  split
  · exact h.lock
  split
  · exact h.copy
  split
  · exact h.fill
  split
  · exact h.rule (Or.inl rfl)
  split
  · exact h.rule (Or.inr rfl)
  · exact h
theorem PI.step {b : Nat → Int32} {len n : Nat} {x : RX} (h : PI n x) : PI n (lnStep b len n x) := PI.any (x := (advS b len (whenS (!decide (x.1.1.1 = 3)) 1 x.1), x.2)) h
theorem PI.lines {b : Nat → Int32} {len n : Nat} : ∀ (f : Nat) (x : RX), PI n x → PI n (linesF b len n f x)
  | 0, _, h => h
  | f + 1, x, h => by
    show PI n (if ok x.1 && !decide (x.1.1.1 = 0) then linesF b len n f (lnStep b len n x) else x)
    split
    · exact PI.lines f _ h.step
    · exact h
theorem PI.hd {b : Nat → Int32} {len : Nat} {ev : Nat → Int32} (st : St) : PI (hd1 b len).2 (st, hdM b len (clrM ev), (0, 0, 0, 0)) := by
  have r1 := numS_rng (b := b) (len := len) (lo := 1) (hi := 96) (st := wrdS b len (wd 0) st0) (by decide)
  have r2 := numS_rng (b := b) (len := len) (lo := 1) (hi := 20) (st := wrdS b len (wd 1) (hd1 b len).1) (by decide)
  have r3 := numS_rng (b := b) (len := len) (lo := 0) (hi := 96) (st := wrdS b len (wd 2) (hd2 b len).1) (by decide)
  have r4 := numS_rng (b := b) (len := len) (lo := 0) (hi := 3) (st := wrdS b len (wd 3) (hd3 b len).1) (by decide)
  have e2 : ∀ p, p < 96 → hdM b len (clrM ev) 2 p = -1 := fun p hp => if_pos hp
  have r1 : 1 ≤ (hd1 b len).2 ∧ (hd1 b len).2 ≤ 96 := r1
  refine ⟨0, ⟨⟨rfl, r1.2, fun p hp => Or.inl (e2 p (by omega)), fun _ => 0, fun p q hp hq e => ?_⟩, ⟨0, by decide, rfl⟩, fun p _ => ⟨false, rfl⟩, r1.1, ⟨(hd2 b len).2, (hd3 b len).2, (hd4 b len).2, rfl, r2.1, r2.2, rfl, r3.2, rfl, r4.2⟩, fun p _ => ⟨0, by decide, rfl⟩, rfl, fun p hp ho => ?_⟩, Nat.le_refl _, by decide⟩
  · have e : hdM b len (clrM ev) 2 p = nI q := e
    rw [e2 p (by omega)] at e
    exact absurd e.symm (nI_nm1 (by omega))
  · exact absurd (e2 p (by omega)) (owb_t.mp ho)
def KC (k : Cnt) (r : G) : Prop := r 0 10 = nI k.1 ∧ r 0 11 = nI k.2.1 ∧ r 0 12 = nI k.2.2.1 ∧ r 0 13 = nI k.2.2.2
def KB (k : Cnt) : Prop := k.1 ≤ 1000 ∧ k.2.1 ≤ 1000 ∧ k.2.2.1 ≤ 1000 ∧ k.2.2.2 ≤ 1000
theorem KC.fb {k : Cnt} {r r2 : G} (h : KC k r) (hf : FB r r2) : KC k r2 := ⟨hf.2.2.2.1.trans h.1, hf.2.2.2.2.1.trans h.2.1, hf.2.2.2.2.2.1.trans h.2.2.1, hf.2.2.2.2.2.2.trans h.2.2.2⟩
theorem RS.cnt {b : Nat → Int32} {len j : Nat} {st : St} {r : G} {v : Int32} (h : RS b len st r) (hj : 10 ≤ j) : RS b len st (sG r 0 (upd (r 0) j v)) := by
  obtain ⟨h1, h2, h3, ⟨e1, e2, e3, e4⟩, ⟨t1, t2, t3, t4⟩, hB⟩ := h
  have u : ∀ i, i < 10 → (sG r 0 (upd (r 0) j v)) 0 i = r 0 i := fun i hi => (show upd (r 0) j v i = r 0 i from upd_o (by omega))
  exact ⟨h1, (u 5 (by omega)).trans h2, h3, ⟨e1, e2, (u 3 (by omega)).trans e3, (u 4 (by omega)).trans e4⟩, ⟨(u 6 (by omega)).trans t1, (u 7 (by omega)).trans t2, (u 8 (by omega)).trans t3, fun z => (u 9 (by omega)).trans (t4 z)⟩, hB⟩
/-- the reader and its memory stand at x -/
def RXP (b : Nat → Int32) (len : Nat) (x : RX) (fl : Int32) (u : Rg) : Prop := RS b len x.1 u.1 ∧ KC x.2.2 u.1 ∧ u.1 0 2 = fl ∧ u.2.2 = x.2.1
theorem ok_z {st : St} (h : st.2.1 ≤ 4) (e : nI st.2.1 = 0) : ok st = true ∧ st.2.1 = 0 := by
  have : st.2.1 = 0 := nI_inj (b := 0) (by omega) (by omega) e
  exact ⟨by unfold ok; rw [this]; rfl, this⟩
theorem ok_n {st : St} (e : ¬ nI st.2.1 = 0) : ok st = false ∧ ¬ st.2.1 = 0 := by
  have : ¬ st.2.1 = 0 := fun z => e (by rw [z]; rfl)
  exact ⟨by unfold ok; exact beq_eq_false_iff_ne.mpr this, this⟩
theorem whenS_t {p : Bool} {c : Nat} {st : St} (h : p = true) : whenS p c st = failS c st := by rw [h]; rfl
theorem whenS_f {p : Bool} {c : Nat} {st : St} (h : p = false) : whenS p c st = st := by rw [h]; rfl

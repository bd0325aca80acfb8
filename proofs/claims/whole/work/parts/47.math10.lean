/-! the reader: what an error leaves alone -/
theorem ok_b {st : St} (h : ¬ st.2.1 = 0) : ok st = false := by unfold ok; exact beq_eq_false_iff_ne.mpr h
theorem ok_g {st : St} (h : ok st = true) : st.2.1 = 0 := by unfold ok at h; exact beq_iff_eq.mp h
theorem ok_gz {st : St} (h : st.2.1 = 0) : ok st = true := by unfold ok; exact beq_iff_eq.mpr h
theorem when_b {p : Bool} {c : Nat} {st : St} (h : ¬ st.2.1 = 0) : whenS p c st = st := by
  unfold whenS
  split
  · exact failS_n h
  · rfl
theorem adv_b {b : Nat → Int32} {len : Nat} {st : St} (h : ¬ st.2.1 = 0) : advS b len st = st := if_neg h
theorem num_b {b : Nat → Int32} {len lo hi : Nat} {st : St} (h : ¬ st.2.1 = 0) : (numS b len lo hi st).1 = st := by
  show chkS lo hi (advS b len st) = st
  rw [adv_b h]
  exact chk_err h
theorem putS_b {n p v : Nat} {st : St} {m : Mg} (h : ¬ st.2.1 = 0) : putS n p v st m = (st, m) := by
  unfold putS
  rw [when_b h, ok_b h, if_neg Bool.false_ne_true]
theorem putF_b {b : Nat → Int32} {len n p : Nat} {st : St} {m : Mg} (h : ¬ st.2.1 = 0) : ∀ f k, putF b len n p f k st m = (st, m)
  | 0, _ => rfl
  | f + 1, k => putF_e (by rw [ok_b h]; rfl)
/-- the state behind the first looks of a line -/
def wPut (k : Cnt) (st : St) : St := if 0 < k.2.2.1 then failS 1 st else whenS (decide (20 < k.1 + 1)) 4 st
theorem put1_w {b : Nat → Int32} {len n : Nat} {st : St} {k : Cnt} (h : ¬ (wPut k st).2.1 = 0) : (put1 b len n st k).1 = wPut k st := num_b h
theorem put2_w {b : Nat → Int32} {len n : Nat} {st : St} {k : Cnt} (h : ¬ (wPut k st).2.1 = 0) : (put2 b len n st k).1 = wPut k st := by
  have e := put1_w (b := b) (len := len) (n := n) h
  unfold put2
  rw [num_b (by rw [e]; exact h), e]
theorem put4_b {b : Nat → Int32} {len n : Nat} {st : St} {m : Mg} {k : Cnt} (h : ¬ (put2 b len n st k).1.2.1 = 0) : put4 b len n st m k = ((put2 b len n st k).1, m) := by
  have e3 : put3 b len n st m k = ((put2 b len n st k).1, m) := putS_b h
  unfold put4
  rw [e3]
  rw [adv_b h]
  exact putF_b h _ _
theorem lnPut_w {b : Nat → Int32} {len n : Nat} {x : RX} (h : ¬ (wPut x.2.2 x.1).2.1 = 0) : (lnPut b len n x).1 = wPut x.2.2 x.1 := by
  have e := put2_w (b := b) (len := len) (n := n) h
  show (put4 b len n x.1 x.2.1 x.2.2).1 = _
  rw [put4_b (by rw [e]; exact h)]
  exact e
theorem lnLock_w {b : Nat → Int32} {len n : Nat} {x : RX} (h : ¬ (whenS (decide (6 < x.2.2.2.1 + 1)) 4 x.1).2.1 = 0) : (lnLock b len n x).1 = whenS (decide (6 < x.2.2.2.1 + 1)) 4 x.1 := by
  have e1 : (lok1 b len n x.1 x.2.2).1 = whenS (decide (6 < x.2.2.2.1 + 1)) 4 x.1 := num_b h
  have e2 : (lok2 b len n x.1 x.2.2).1 = whenS (decide (6 < x.2.2.2.1 + 1)) 4 x.1 := by
    unfold lok2
    rw [num_b (by rw [e1]; exact h), e1]
  show advS b len (lok2 b len n x.1 x.2.2).1 = _
  rw [e2, adv_b h]
theorem lnCopy_1 {b : Nat → Int32} {len n : Nat} {x : RX} : (lnCopy b len n x).1 = advS b len (cop4 b len n x.1 x.2.1 x.2.2) := by
  unfold lnCopy
  dsimp only
theorem lnFill_1 {b : Nat → Int32} {len n : Nat} {x : RX} : (lnFill b len n x).1 = advS b len (fil4 b len n x.1 x.2.1 x.2.2) := by
  unfold lnFill
  dsimp only
theorem lnCopy_w {b : Nat → Int32} {len n : Nat} {x : RX} (h : ¬ (whenS (decide (20 < x.2.2.2.2.1 + 1)) 4 x.1).2.1 = 0) : (lnCopy b len n x).1 = whenS (decide (20 < x.2.2.2.2.1 + 1)) 4 x.1 := by
  have e1 : (cop1 b len n x.1 x.2.2).1 = whenS (decide (20 < x.2.2.2.2.1 + 1)) 4 x.1 := num_b h
  have e2 : (cop2 b len n x.1 x.2.2).1 = whenS (decide (20 < x.2.2.2.2.1 + 1)) 4 x.1 := by
    unfold cop2
    rw [num_b (by rw [e1]; exact h), e1]
  have e3 : (cop3 b len n x.1 x.2.2).1 = whenS (decide (20 < x.2.2.2.2.1 + 1)) 4 x.1 := by
    unfold cop3
    rw [num_b (by rw [e2]; exact h), e2]
  rw [lnCopy_1]
  unfold cop4
  rw [e3, when_b h, adv_b h]
theorem lnFill_w {b : Nat → Int32} {len n : Nat} {x : RX} (h : ¬ (whenS (decide (6 < x.2.2.2.2.2 + 1)) 4 x.1).2.1 = 0) : (lnFill b len n x).1 = whenS (decide (6 < x.2.2.2.2.2 + 1)) 4 x.1 := by
  have e1 : (fil1 b len n x.1 x.2.2).1 = whenS (decide (6 < x.2.2.2.2.2 + 1)) 4 x.1 := num_b h
  have e2 : (fil2 b len n x.1 x.2.2).1 = whenS (decide (6 < x.2.2.2.2.2 + 1)) 4 x.1 := by
    unfold fil2
    rw [num_b (by rw [e1]; exact h), e1]
  have e3 : (fil3 b len n x.1 x.2.2).1 = whenS (decide (6 < x.2.2.2.2.2 + 1)) 4 x.1 := by
    unfold fil3
    rw [num_b (by rw [e2]; exact h), e2]
  rw [lnFill_1]
  unfold fil4
  rw [e3, when_b h, adv_b h]
theorem wPut_b {k : Cnt} {st : St} (h : ¬ st.2.1 = 0) : wPut k st = st := by
  unfold wPut
  split
  · exact failS_n h
  · exact when_b h
theorem lnAny_b {b : Nat → Int32} {len n : Nat} {x : RX} (h : ¬ x.1.2.1 = 0) : (lnAny b len n x).1 = x.1 := by
  unfold lnAny
  split
  · rw [lnPut_w (by rw [wPut_b h]; exact h), wPut_b h]
  split
  · rw [lnLock_w (by rw [when_b h]; exact h), when_b h]
  split
  · rw [lnCopy_w (by rw [when_b h]; exact h), when_b h]
  split
  · rw [lnFill_w (by rw [when_b h]; exact h), when_b h]
  split
  · show advS b len (whenS (x.2.1 5 3 == nI 1) 3 x.1) = _
    rw [when_b h, adv_b h]
  split
  · show advS b len (whenS (x.2.1 5 4 == nI 1) 3 x.1) = _
    rw [when_b h, adv_b h]
  · exact failS_n h
theorem ok_imp {s t : St} (h : ¬ s.2.1 = 0 → t = s) (ht : ok t = true) : ok s = true := by
  by_cases z : s.2.1 = 0
  · exact ok_gz z
  · rw [h z] at ht; exact ht
/-! as long as there's no error there aren't too many lines -/
def KL (k : Cnt) : Prop := k.1 ≤ 20 ∧ k.2.1 ≤ 6 ∧ k.2.2.1 ≤ 20 ∧ k.2.2.2 ≤ 6
def KLp (x : RX) : Prop := ok x.1 = true → KL x.2.2
theorem wPut_ok {k : Cnt} {st : St} (h : ok (wPut k st) = true) : ok st = true ∧ k.1 + 1 ≤ 20 := by
  unfold wPut at h
  by_cases c : 0 < k.2.2.1
  · rw [if_pos c] at h
    have := ok_g h
    exfalso
    by_cases z : st.2.1 = 0
    · rw [failS_z z] at this; cases this
    · rw [failS_n z] at this; exact z this
  · rw [if_neg c] at h
    have h2 := whenS_ok (by decide) h
    exact ⟨h2.2, by have := of_decide_eq_false h2.1; omega⟩
theorem KLp.any {b : Nat → Int32} {len n : Nat} {x : RX} (h : KLp x) : KLp (lnAny b len n x) := by
  unfold lnAny
  split
  · intro z
    have w := wPut_ok (ok_imp (fun q => lnPut_w q) z)
    obtain ⟨a1, a2, a3, a4⟩ := h w.1
    exact ⟨w.2, a2, a3, a4⟩
  split
  · intro z
    have w := whenS_ok (by decide) (ok_imp (fun q => lnLock_w q) z)
    obtain ⟨a1, a2, a3, a4⟩ := h w.2
    exact ⟨a1, by have := of_decide_eq_false w.1; show x.2.2.2.1 + 1 ≤ 6; omega, a3, a4⟩
  split
  · intro z
    have w := whenS_ok (by decide) (ok_imp (fun q => lnCopy_w q) z)
    obtain ⟨a1, a2, a3, a4⟩ := h w.2
    exact ⟨a1, a2, by have := of_decide_eq_false w.1; show x.2.2.2.2.1 + 1 ≤ 20; omega, a4⟩
  split
  · intro z
    have w := whenS_ok (by decide) (ok_imp (fun q => lnFill_w q) z)
    obtain ⟨a1, a2, a3, a4⟩ := h w.2
    exact ⟨a1, a2, a3, by have := of_decide_eq_false w.1; show x.2.2.2.2.2 + 1 ≤ 6; omega⟩
  split
  · intro z
    exact h (whenS_ok (by decide) (ok_imp (fun q => adv_b q) (show ok (advS b len (whenS (x.2.1 5 3 == nI 1) 3 x.1)) = true from z))).2
  split
  · intro z
    exact h (whenS_ok (by decide) (ok_imp (fun q => adv_b q) (show ok (advS b len (whenS (x.2.1 5 4 == nI 1) 3 x.1)) = true from z))).2
  · intro z
    refine h (ok_imp (s := x.1) (fun q => failS_n (c := 1) q) z)
theorem KLp.step {b : Nat → Int32} {len n : Nat} {x : RX} (h : KLp x) : KLp (lnStep b len n x) := KLp.any (x := (advS b len (whenS (!decide (x.1.1.1 = 3)) 1 x.1), x.2)) (fun z => h (whenS_ok (by decide) (ok_imp (fun q => adv_b q) z)).2)
/-! reading goes on -/
def GTo (len : Nat) (t : Tk) : Prop := t.2.1 ≤ t.2.2.1 ∧ t.2.2.1 ≤ len ∧ (t.1 = 2 ∨ t.1 = 3 → t.2.1 < t.2.2.1) ∧ (¬ t.1 = 0 → t.2.1 < len)
theorem tok_G {b : Nat → Int32} {len e0 : Nat} (h : e0 ≤ len) : GTo len (tok b len e0) ∧ e0 ≤ (tok b len e0).2.1 := by
  have hk := tok_ok (b := b) h
  have h1 := runB_le (p := spc b) h
  generalize hs : runB (spc b) len e0 = s at h1
  have key : ((tok b len e0).1 = 2 ∨ (tok b len e0).1 = 3 → (tok b len e0).2.1 < (tok b len e0).2.2.1) ∧ (¬ (tok b len e0).1 = 0 → (tok b len e0).2.1 < len) := by
    by_cases c1 : len ≤ s
    · rw [tok_0 hs c1]
      refine ⟨fun z => ?_, fun z => absurd rfl z⟩
      rcases z with z | z <;> cases z
    by_cases c2 : b s = nI 59
    · rw [tok_3 hs (by omega) c2]
      exact ⟨fun _ => Nat.lt_succ_self s, fun _ => by show s < len; omega⟩
    by_cases c3 : ltr b len s = true
    · rw [tok_1 hs (by omega) c3 rfl]
      refine ⟨fun z => ?_, fun _ => by show s < len; omega⟩
      dsimp only at z
      exfalso
      rcases z with z | z <;> (split at z <;> cases z)
    have c3 : ltr b len s = false := by simpa using c3
    by_cases c4 : dgt b len s = true
    · rw [tok_2 hs (by omega) c3 c4 rfl]
      refine ⟨fun _ => ?_, fun _ => by show s < len; omega⟩
      show s < runB (dgt b len) len s
      rw [runB_s (by omega), if_pos c4]
      exact (runB_le (p := dgt b len) (i := s + 1) (n := len) (by omega)).1
    · rw [tok_4 hs (by omega) c2 c3 (by simpa using c4)]
      refine ⟨fun z => ?_, fun _ => by show s < len; omega⟩
      rcases z with z | z <;> cases z
  exact ⟨⟨hk.2.2.1, hk.2.2.2.1, key.1, key.2⟩, hk.2.1⟩
/-- from s to t reading went on (or there is an error) -/
def Le (len : Nat) (s t : St) : Prop := GTo len s.1 → GTo len t.1 ∧ (ok t = true → ok s = true ∧ s.1.2.1 ≤ t.1.2.1)
theorem Le.rf {len : Nat} {s : St} : Le len s s := fun h => ⟨h, fun z => ⟨z, Nat.le_refl _⟩⟩
theorem Le.tr {len : Nat} {a b c : St} (h : Le len a b) (h2 : Le len b c) : Le len a c := fun ha => by
  obtain ⟨b1, b2⟩ := h ha
  obtain ⟨c1, c2⟩ := h2 b1
  exact ⟨c1, fun z => by obtain ⟨q1, q2⟩ := c2 z; obtain ⟨r1, r2⟩ := b2 q1; exact ⟨r1, Nat.le_trans r2 q2⟩⟩
theorem Le.fail {len c : Nat} {s : St} : Le len s (failS c s) := fun h => by
  rw [failS_t]
  refine ⟨h, fun z => ⟨?_, Nat.le_refl _⟩⟩
  exact ok_imp (fun q => failS_n (c := c) q) z
theorem Le.when {len c : Nat} {p : Bool} {s : St} : Le len s (whenS p c s) := by
  unfold whenS
  split
  · exact Le.fail
  · exact Le.rf
theorem Le.chk {len lo hi : Nat} {s : St} : Le len s (chkS lo hi s) := by
  unfold chkS
  split
  · split
    · exact Le.fail
    · exact Le.rf
  · exact Le.fail
theorem Le.adv {b : Nat → Int32} {len : Nat} {s : St} : Le len s (advS b len s) := fun h => by
  unfold advS
  by_cases z : s.2.1 = 0
  · rw [if_pos z]
    have := tok_G (b := b) h.2.1
    exact ⟨this.1, fun _ => ⟨ok_gz z, Nat.le_trans h.1 this.2⟩⟩
  · rw [if_neg z]
    exact ⟨h, fun q => ⟨q, Nat.le_refl _⟩⟩
/-- a passed number or sign is at least one place long -/
theorem adv_lt {b : Nat → Int32} {len : Nat} {s : St} (h : GTo len s.1) (ho : ok s = true) (hk : s.1.1 = 2 ∨ s.1.1 = 3) : s.1.2.1 + 1 ≤ (advS b len s).1.2.1 := by
  unfold advS
  rw [if_pos (ok_g ho)]
  have := (tok_G (b := b) h.2.1).2
  have h2 := h.2.2.1 hk
  show s.1.2.1 + 1 ≤ (tok b len s.1.2.2.1).2.1
  omega
theorem Le.num {b : Nat → Int32} {len lo hi : Nat} {s : St} : Le len s (numS b len lo hi s).1 := Le.adv.tr Le.chk
theorem Le.putS {n len p v : Nat} {s : St} {m : Mg} : Le len s (putS n p v s m).1 := Le.when
theorem Le.putF {b : Nat → Int32} {len n p : Nat} : ∀ (f k : Nat) (s : St) (m : Mg), Le len s (putF b len n p f k s m).1
  | 0, _, _, _ => Le.rf
  | f + 1, k, s, m => by
    cases h : (ok s && decide (s.1.1 = 2))
    · rw [putF_e h]; exact Le.rf
    · rw [putF_t h]
      exact ((Le.when.tr Le.putS).tr Le.adv).tr (Le.putF f (k + 1) _ _)
theorem Le.any {b : Nat → Int32} {len n : Nat} {x : RX} : Le len x.1 (lnAny b len n x).1 := by
  unfold lnAny
  split
  · have w : Le len x.1 (wPut x.2.2 x.1) := by
      unfold wPut
      split
      · exact Le.fail
      · exact Le.when
    have h1 : Le len x.1 (put1 b len n x.1 x.2.2).1 := w.tr Le.num
    have h2 : Le len x.1 (put2 b len n x.1 x.2.2).1 := h1.tr Le.num
    have h3 : Le len x.1 (put3 b len n x.1 x.2.1 x.2.2).1 := h2.tr Le.putS
    exact (h3.tr Le.adv).tr (Le.putF _ _ _ _)
  split
  · have h1 : Le len x.1 (lok1 b len n x.1 x.2.2).1 := Le.when.tr Le.num
    have h2 : Le len x.1 (lok2 b len n x.1 x.2.2).1 := h1.tr Le.num
    exact h2.tr Le.adv
  split
  · have h1 : Le len x.1 (cop1 b len n x.1 x.2.2).1 := Le.when.tr Le.num
    have h2 : Le len x.1 (cop2 b len n x.1 x.2.2).1 := h1.tr Le.num
    have h3 : Le len x.1 (cop3 b len n x.1 x.2.2).1 := h2.tr Le.num
    rw [lnCopy_1]
    unfold cop4
    exact (h3.tr Le.when).tr Le.adv
  split
  · have h1 : Le len x.1 (fil1 b len n x.1 x.2.2).1 := Le.when.tr Le.num
    have h2 : Le len x.1 (fil2 b len n x.1 x.2.2).1 := h1.tr Le.num
    have h3 : Le len x.1 (fil3 b len n x.1 x.2.2).1 := h2.tr Le.num
    rw [lnFill_1]
    unfold fil4
    exact (h3.tr Le.when).tr Le.adv
  split
  · exact Le.when.tr Le.adv
  split
  · exact Le.when.tr Le.adv
  · exact Le.fail
/-- the loop of a put line: behind j numbers -/
def putW (b : Nat → Int32) (len n p j : Nat) (s : St) (m : Mg) : St × Mg := if j = 0 then (if ok s = true then putF b len n p 699 1 (advS b len (putS n p (chkVl 0 255 s) (chkS 0 255 s) m).1) (putS n p (chkVl 0 255 s) (chkS 0 255 s) m).2 else (s, m)) else putF b len n p (700 - j) j s m
theorem putW_b {b : Nat → Int32} {len n p j : Nat} {s : St} {m : Mg} (h : ¬ s.2.1 = 0) : putW b len n p j s m = (s, m) := by
  unfold putW
  split
  · rw [if_neg (by rw [ok_b h]; exact Bool.false_ne_true)]
  · exact putF_b h _ _
theorem putW_e {b : Nat → Int32} {len n p j : Nat} {s : St} {m : Mg} (hj : ¬ j = 0) (h : ¬ s.1.1 = 2) : putW b len n p j s m = (s, m) := by
  unfold putW
  rw [if_neg hj]
  cases h2 : 700 - j with
  | zero => rfl
  | succ f => exact putF_e (by rw [decide_eq_false h, Bool.and_false])
theorem putS_chk {n p : Nat} {s : St} {m : Mg} (hk : s.1.1 = 2) : putS n p s.1.2.2.2 (whenS (decide (255 < s.1.2.2.2)) 2 s) m = putS n p (chkVl 0 255 s) (chkS 0 255 s) m := by
  have e : chkS 0 255 s = whenS (decide (255 < s.1.2.2.2)) 2 s := by
    unfold chkS whenS
    rw [if_pos hk]
    by_cases c : 255 < s.1.2.2.2
    · rw [if_pos (Or.inr c), if_pos (decide_eq_true c)]
    · rw [if_neg (by omega), decide_eq_false c, if_neg Bool.false_ne_true]
  unfold chkVl
  rw [e]
  by_cases z : (whenS (decide (255 < s.1.2.2.2)) 2 s).2.1 = 0
  · rw [if_pos z, whenS_1]
  · rw [putS_b z, putS_b z]
theorem putW_s {b : Nat → Int32} {len n p j : Nat} {s : St} {m : Mg} (ho : ok s = true) (hj : j = 0 ∨ s.1.1 = 2) (h7 : j < 700) : putW b len n p j s m = putW b len n p (j + 1) (advS b len (putS n (p + j) (chkVl 0 255 s) (chkS 0 255 s) m).1) (putS n (p + j) (chkVl 0 255 s) (chkS 0 255 s) m).2 := by
  by_cases z : j = 0
  · subst z
    unfold putW
    rw [if_pos rfl, if_pos ho, if_neg (Nat.succ_ne_zero _)]
    rfl
  · have hk : s.1.1 = 2 := hj.resolve_left z
    unfold putW
    rw [if_neg z, if_neg (Nat.succ_ne_zero _), show 700 - j = (700 - (j + 1)) + 1 by omega, putF_t (by rw [ho, decide_eq_true hk]; rfl), putS_chk hk]
theorem put4_W {b : Nat → Int32} {len n : Nat} {st : St} {m : Mg} {k : Cnt} : putW b len n (put1 b len n st k).2 0 (advS b len (put1 b len n st k).1) m = put4 b len n st m k := by
  unfold putW
  rw [if_pos rfl]
  by_cases h : (advS b len (put1 b len n st k).1).2.1 = 0
  · rw [if_pos (ok_gz h)]
    rfl
  · rw [if_neg (by rw [ok_b h]; exact Bool.false_ne_true)]
    have e : (put2 b len n st k).1 = advS b len (put1 b len n st k).1 := chk_err h
    rw [put4_b (by rw [e]; exact h), e]

/-! the reference's loops and the class's -/
theorem acc_byte {m : Mg} {j k : Nat} {v x : Int32} : accM (byteM m j v) k x = byteM (accM m k x) j v := by
  unfold accM byteM
  rw [show sG m 1 (upd (m 1) j v) 6 = m 6 from rfl, show sG m 6 (upd (m 6) k (m 6 k + x)) 1 = m 1 from rfl]
  exact sG_comm (by decide)
theorem end_byte {m : Mg} {j p : Nat} {v : Int32} : endM (byteM m j v) p = byteM (endM m p) j v := by
  unfold endM prmM srcM byteM
  rw [show sG m 1 (upd (m 1) j v) 2 = m 2 from rfl, show sG (sG m 1 (upd (m 1) j v)) 2 (upd (m 2) p (-1)) 3 = m 3 from rfl, show sG m 2 (upd (m 2) p (-1)) 3 = m 3 from rfl, show sG (sG m 2 (upd (m 2) p (-1))) 3 (upd (m 3) p (-1)) 1 = m 1 from rfl]
  rw [sG_comm (a := 1) (b := 2) (by decide), sG_comm (a := 1) (b := 3) (by decide)]
theorem note_byte {m : Mg} {j : Nat} {v a b c : Int32} : noteM (byteM m j v) a b c = byteM (noteM m a b c) j v := by
  unfold noteM
  rw [show evN (byteM m j v) = evN m from rfl]
  split
  · unfold byteM
    rw [show sG m 1 (upd (m 1) j v) 7 = m 7 from rfl, show sG m 1 (upd (m 1) j v) 0 = m 0 from rfl, show sG (sG m 7 (upd (upd (upd (m 7) (evN m * 3) a) (evN m * 3 + 1) b) (evN m * 3 + 2) c)) 0 (upd (m 0) 8 (nI (evN m + 1))) 1 = m 1 from rfl]
    rw [sG_comm (a := 1) (b := 7) (by decide), sG_comm (a := 1) (b := 0) (by decide)]
  · rfl
theorem drop_byte {m : Mg} {i j : Nat} {v : Int32} : byteM (dropO m i) j v = dropO (byteM m j v) i := by
  unfold dropO
  rw [show owb (byteM m j v) i = owb m i from rfl]
  split
  · unfold dropM
    rw [show byteM m j v 3 i = m 3 i from rfl, acc_byte, note_byte, end_byte]
  · rfl
theorem fill_split {a k : Nat} {v : Int32} {m : Mg} : forG (fun p y => byteM (dropO y p) p v) a k m = setB v a k (forG (fun p y => dropO y p) a k m) :=
  forG_split (f := fun p y => dropO y p) (g := fun p y => byteM y p v) (fun _ _ _ _ => drop_byte) k a m
/-- a payment of another lock -/
theorem cp_lck {m : Mg} {q k : Nat} {v : Int32} : cpM (lckM m q v) k = lckM (cpM m k) q v := by
  have h : ∀ (y : Mg) (k : Nat) (x : Int32), accM (lckM y q v) k x = lckM (accM y k x) q v := fun y k x => by
    unfold accM lckM
    rw [show sG y 4 (upd (y 4) q v) 6 = y 6 from rfl, show sG y 6 (upd (y 6) k (y 6 k + x)) 4 = y 4 from rfl]
    exact sG_comm (by decide)
  unfold cpM
  split
  · rw [h, h]
  · split <;> rw [h, h]
theorem note_lck {m : Mg} {q : Nat} {v a b c : Int32} : noteM (lckM m q v) a b c = lckM (noteM m a b c) q v := by
  unfold noteM
  rw [show evN (lckM m q v) = evN m from rfl]
  split
  · unfold lckM
    rw [show sG m 4 (upd (m 4) q v) 7 = m 7 from rfl, show sG m 4 (upd (m 4) q v) 0 = m 0 from rfl, show sG (sG m 7 (upd (upd (upd (m 7) (evN m * 3) a) (evN m * 3 + 1) b) (evN m * 3 + 2) c)) 0 (upd (m 0) 8 (nI (evN m + 1))) 4 = m 4 from rfl]
    rw [sG_comm (a := 4) (b := 7) (by decide), sG_comm (a := 4) (b := 0) (by decide)]
  · rfl
theorem end_lck {m : Mg} {q p : Nat} {v : Int32} : endM (lckM m q v) p = lckM (endM m p) q v := by
  unfold endM prmM srcM lckM
  rw [show sG m 4 (upd (m 4) q v) 2 = m 2 from rfl, show sG (sG m 4 (upd (m 4) q v)) 2 (upd (m 2) p (-1)) 3 = m 3 from rfl, show sG m 2 (upd (m 2) p (-1)) 3 = m 3 from rfl, show sG (sG m 2 (upd (m 2) p (-1))) 3 (upd (m 3) p (-1)) 4 = m 4 from rfl]
  rw [sG_comm (a := 4) (b := 2) (by decide), sG_comm (a := 4) (b := 3) (by decide)]
theorem byte_lck {m : Mg} {q p : Nat} {v w : Int32} : byteM (lckM m q v) p w = lckM (byteM m p w) q v := by
  unfold byteM lckM
  exact sG_comm (by decide)
theorem pay_lck {m : Mg} {q p k : Nat} {v : Int32} : payM k (lckM m q v) p = lckM (payM k m p) q v := by
  unfold payM
  rw [show valM (lckM m q v) p = valM m p from valM_of rfl rfl p, byte_lck, end_lck, note_lck, cp_lck]
theorem payO_lck {m : Mg} {q p k : Nat} {v : Int32} : payO k (lckM m q v) p = lckM (payO k m p) q v := by
  unfold payO
  rw [show owb (lckM m q v) p = owb m p from rfl]
  split
  · exact pay_lck
  · rfl
theorem lock_split {a b : Nat} {m : Mg} : forG (fun p y => payO 2 (lckM y p (nI 1)) p) a (b + 1 - a) m = lockM a b m := by
  rw [forG_congr (g := fun p y => lckM (payO 2 y p) p (nI 1)) _ _ _ (fun j y _ _ => payO_lck)]
  exact forG_split (f := fun p y => payO 2 y p) (g := fun p y => lckM y p (nI 1)) (fun i j x _ => payO_lck.symm) _ _ _
/-! a copy in two loops -/
def copA (T : Nat → Bool) (fr to_ : Nat) (c : Nat → Int32) (i : Nat) (y : Mg) : Mg := if T (fr + i) then cpM (noteM (byteM y (to_ + i) (c i)) (nI 3) (nI (to_ + i)) (c i)) 3 else y
def copO (T : Nat → Bool) (fr to_ : Nat) (num : Int32) (i : Nat) (y : Mg) : Mg := if T (fr + i) then y else oweM y (to_ + i) (fr + i) num
theorem owe_byte {m : Mg} {j p q : Nat} {v w : Int32} : oweM (byteM m j v) p q w = byteM (oweM m p q w) j v := by
  unfold oweM
  rw [show byteM m j v 5 = m 5 from rfl, rootM_of (m := m) (m2 := byteM m j v) rfl]
  unfold prmM srcM byteM
  rw [show sG m 1 (upd (m 1) j v) 2 = m 2 from rfl, show ∀ z, sG (sG m 1 (upd (m 1) j v)) 2 (upd (m 2) p z) 3 = m 3 from fun _ => rfl, show ∀ z, sG m 2 (upd (m 2) p z) 3 = m 3 from fun _ => rfl, show ∀ z y, sG (sG m 2 (upd (m 2) p z)) 3 y 1 = m 1 from fun _ _ => rfl]
  rw [sG_comm (a := 1) (b := 2) (by decide), sG_comm (a := 1) (b := 3) (by decide)]
theorem owe_acc {m : Mg} {k p q : Nat} {x w : Int32} : oweM (accM m k x) p q w = accM (oweM m p q w) k x := by
  unfold oweM
  rw [show accM m k x 5 = m 5 from rfl, rootM_of (m := m) (m2 := accM m k x) rfl]
  unfold prmM srcM accM
  rw [show sG m 6 (upd (m 6) k (m 6 k + x)) 2 = m 2 from rfl, show ∀ z, sG (sG m 6 (upd (m 6) k (m 6 k + x))) 2 (upd (m 2) p z) 3 = m 3 from fun _ => rfl, show ∀ z, sG m 2 (upd (m 2) p z) 3 = m 3 from fun _ => rfl, show ∀ z y, sG (sG m 2 (upd (m 2) p z)) 3 y 6 = m 6 from fun _ _ => rfl]
  rw [sG_comm (a := 6) (b := 2) (by decide), sG_comm (a := 6) (b := 3) (by decide)]
theorem owe_cp {m : Mg} {k p q : Nat} {w : Int32} : oweM (cpM m k) p q w = cpM (oweM m p q w) k := by
  unfold cpM
  split
  · rw [owe_acc, owe_acc]
  · split <;> rw [owe_acc, owe_acc]
theorem owe_note {m : Mg} {p q : Nat} {w a b c : Int32} : oweM (noteM m a b c) p q w = noteM (oweM m p q w) a b c := by
  have e5 : noteM m a b c 5 = m 5 := noteM_c (by decide) (by decide)
  have e2 : noteM m a b c 2 = m 2 := noteM_c (by decide) (by decide)
  have e3 : noteM m a b c 3 = m 3 := noteM_c (by decide) (by decide)
  unfold oweM
  rw [e5, rootM_of (m := m) (m2 := noteM m a b c) e2]
  generalize nI (if m 5 3 = nI 1 then rootM m q else q) = z
  unfold prmM srcM
  rw [e2, show sG (noteM m a b c) 2 (upd (m 2) p z) 3 = m 3 from e3, show sG m 2 (upd (m 2) p z) 3 = m 3 from rfl]
  unfold noteM
  rw [show evN (sG (sG m 2 (upd (m 2) p z)) 3 (upd (m 3) p w)) = evN m from rfl]
  split
  · rw [show sG (sG m 2 (upd (m 2) p z)) 3 (upd (m 3) p w) 7 = m 7 from rfl, show sG (sG m 2 (upd (m 2) p z)) 3 (upd (m 3) p w) 0 = m 0 from rfl]
    rw [sG_comm (a := 0) (b := 2) (by decide), sG_comm (a := 7) (b := 2) (by decide), sG_comm (a := 0) (b := 3) (by decide), sG_comm (a := 7) (b := 3) (by decide)]
  · rfl
theorem cop_split {T : Nat → Bool} {fr to_ len : Nat} {num : Int32} {c : Nat → Int32} {m : Mg} : forG (copS T fr to_ num c) 0 len m = forG (copO T fr to_ num) 0 len (forG (copA T fr to_ c) 0 len m) := by
  rw [← forG_split (f := copA T fr to_ c) (g := copO T fr to_ num) (fun i j x _ => ?_)]
  · refine forG_congr _ _ _ (fun j y _ _ => ?_)
    unfold copS copO copA
    by_cases h : T (fr + j) = true
    · rw [if_pos h, if_pos h, if_pos h]
    · rw [if_neg h, if_neg h, if_neg h]
  · unfold copO copA
    by_cases h : T (fr + j) = true
    · rw [if_pos h, if_pos h]
    · rw [if_neg h, if_neg h]
      by_cases h2 : T (fr + i) = true
      · rw [if_pos h2, if_pos h2, owe_cp, owe_note, owe_byte]
      · rw [if_neg h2, if_neg h2]
theorem copA_ok {T : Nat → Bool} {n fr to_ i : Nat} {c : Nat → Int32} {y : Mg} (hI : IM y n) (hS : Sep T n y) (hE : EvOK y) : IM (copA T fr to_ c i y) n ∧ Sep T n (copA T fr to_ c i y) ∧ EvOK (copA T fr to_ c i y) ∧ copA T fr to_ c i y 5 = y 5 := by
  unfold copA
  by_cases h : T (fr + i) = true
  · rw [if_pos h]
    have e2 : cpM (noteM (byteM y (to_ + i) (c i)) (nI 3) (nI (to_ + i)) (c i)) 3 2 = y 2 := atM_c (by decide) (by decide) (by decide) (by decide)
    refine ⟨IM_of hI (by rw [cpM_c (by decide), noteM_07]; rfl) e2, Sep_of hS e2, EvOK.of (m := noteM (byteM y (to_ + i) (c i)) (nI 3) (nI (to_ + i)) (c i)) ?_ (by rw [cpM_c (by decide)]), atM_c (by decide) (by decide) (by decide) (by decide)⟩
    exact EvOK.note (m := byteM y (to_ + i) (c i)) (EvOK.of hE rfl) _ _ _
  · rw [if_neg h]; exact ⟨hI, hS, hE, rfl⟩
theorem copO_ok {T : Nat → Bool} {n fr to_ i : Nat} {num : Int32} {y : Mg} (hI : IM y n) (hS : Sep T n y) (hE : EvOK y) (hf : fr + i < n) (ht : to_ + i < n) (hT : T (to_ + i) = true) : IM (copO T fr to_ num i y) n ∧ Sep T n (copO T fr to_ num i y) ∧ EvOK (copO T fr to_ num i y) ∧ copO T fr to_ num i y 5 = y 5 := by
  unfold copO
  by_cases h : T (fr + i) = true
  · rw [if_pos h]; exact ⟨hI, hS, hE, rfl⟩
  · rw [if_neg h]
    have h2 := oweM_ok (v := num) hI hS ht hf hT (by simpa using h)
    exact ⟨h2.1, h2.2, EvOK.of hE rfl, rfl⟩
/-! two places exchanged -/
theorem drp_two {n a b : Nat} {m : Mg} (hab : ¬ a = b) (ha : a < n) (hb : b < n) : drpM (two a b) n m = dropO (dropO m (min a b)) (max a b) := by
  have h0 : ∀ k i (x : Mg), (∀ j, i ≤ j → j < i + k → two a b j = false) → forG (drpS (two a b)) i k x = x := by
    intro k
    induction k with
    | zero => intro i x _; rfl
    | succ k ih =>
      intro i x hq
      show forG (drpS (two a b)) (i + 1) k (drpS (two a b) i x) = x
      have : drpS (two a b) i x = x := by unfold drpS; rw [hq i (Nat.le_refl _) (by omega), if_neg Bool.false_ne_true]
      rw [this]
      exact ih (i + 1) x (fun j h1 h2 => hq j (by omega) (by omega))
  have hf : ∀ j, ¬ j = a → ¬ j = b → two a b j = false := fun j h1 h2 => by unfold two; exact decide_eq_false (by omega)
  have ht : ∀ j, (j = a ∨ j = b) → two a b j = true := fun j h => by unfold two; exact decide_eq_true h
  have h1 : ∀ j (x : Mg), (j = a ∨ j = b) → forG (drpS (two a b)) j 1 x = dropO x j := fun j x h => by
    show drpS (two a b) j x = _
    unfold drpS
    rw [ht j h, if_pos rfl]
  generalize hlo : min a b = lo
  generalize hhi : max a b = hi
  have hlh : lo < hi ∧ hi < n ∧ (lo = a ∨ lo = b) ∧ (hi = a ∨ hi = b) ∧ ∀ j, ¬ j = lo → ¬ j = hi → ¬ j = a ∧ ¬ j = b := ⟨by omega, by omega, by omega, by omega, fun j _ _ => ⟨by omega, by omega⟩⟩
  obtain ⟨l1, l2, l3, l4, l5⟩ := hlh
  unfold drpM
  rw [show n = lo + (1 + ((hi - lo - 1) + (1 + (n - hi - 1)))) by omega, forG_add, forG_add, forG_add, forG_add]
  rw [h0 lo 0 m (fun j h2 h3 => hf j (l5 j (by omega) (by omega)).1 (l5 j (by omega) (by omega)).2), Nat.zero_add, h1 lo m l3]
  rw [h0 (hi - lo - 1) _ _ (fun j h2 h3 => hf j (l5 j (by omega) (by omega)).1 (l5 j (by omega) (by omega)).2)]
  rw [show lo + 1 + (hi - lo - 1) = hi by omega, h1 hi _ l4]
  exact h0 (n - hi - 1) _ _ (fun j h2 h3 => hf j (l5 j (by omega) (by omega)).1 (l5 j (by omega) (by omega)).2)
/-! payments in a row -/
theorem payN_no {n k : Nat} {m : Mg} (h : cntG (owb m) 0 n = 0) : payN k n m = m := by
  unfold payN
  cases e : nextM m n (m 5 2) with
  | none => rfl
  | some q =>
    have h1 := (next_inv n).1 q e
    have := cntG_posI h1.2 n 0 (Nat.zero_le _) (by omega)
    omega
theorem payK_0 {n kind k : Nat} {m : Mg} (h : cntG (owb m) 0 n = 0) : payK kind n k m = m := by
  have := forG_inv (f := fun _ m => payN kind n m) (fun _ x => x = m) k 0 m rfl (fun j y _ _ hy => by rw [hy]; exact payN_no h)
  exact this
theorem payK_add {n kind a b : Nat} {m : Mg} : payK kind n (a + b) m = payK kind n b (payK kind n a m) := by
  unfold payK
  rw [forG_add]
  have h : ∀ (k i : Nat) (x : Mg), forG (fun (_ : Nat) m => payN kind n m) i k x = forG (fun (_ : Nat) m => payN kind n m) 0 k x := by
    intro k
    induction k with
    | zero => intro i x; rfl
    | succ k ih =>
      intro i x
      show forG _ (i + 1) k (payN kind n x) = forG _ (0 + 1) k (payN kind n x)
      rw [ih (i + 1), ih (0 + 1)]
  exact h b (0 + a) _
theorem payK_cap {n kind k : Nat} {m : Mg} (hI : IM m n) : payK kind n (min k (cntG (owb m) 0 n)) m = payK kind n k m := by
  by_cases h : k ≤ cntG (owb m) 0 n
  · rw [Nat.min_eq_left h]
  · rw [Nat.min_eq_right (by omega)]
    have e : k = cntG (owb m) 0 n + (k - cntG (owb m) 0 n) := by omega
    rw [e, payK_add]
    refine (payK_0 ?_).symm
    rw [(payK_ok hI).2]
    omega
theorem owb_pd {n p : Nat} {m m2 : Mg} (h : Pd n m m2) (hp : p < n) (ho : owb m p = false) : owb m2 p = false := by
  rw [owb_f] at ho ⊢
  rcases h.2 p hp with ⟨e, -⟩ | ⟨e, -, -⟩
  · exact e
  · rw [e, ho]
theorem payK_ss {kind n k : Nat} {m : Mg} : payK kind n (k + 1) m = payK kind n k (payN kind n m) := by
  rw [Nat.add_comm, payK_add]
  rfl
theorem unt_spec {n p : Nat} : ∀ (f : Nat) (m : Mg), IM m n → p < n → cntG (owb m) 0 n ≤ f → (∀ k, k < (untM n p f m).1 → owb (payK 1 n k m) p = true) ∧ owb (payK 1 n (untM n p f m).1 m) p = false
  | 0, m, hI, hp, hc => by
    refine ⟨fun k hk => absurd hk (Nat.not_lt_zero k), ?_⟩
    show owb m p = false
    cases h : owb m p with
    | false => rfl
    | true => have := cntG_posI h n 0 (Nat.zero_le _) (by omega); omega
  | f + 1, m, hI, hp, hc => by
    have e : untM n p (f + 1) m = if owb m p then ((untM n p f (payN 1 n m)).1 + 1, (untM n p f (payN 1 n m)).2) else (0, m) := rfl
    cases h : owb m p with
    | false =>
      rw [h, if_neg Bool.false_ne_true] at e
      rw [e]
      exact ⟨fun k hk => absurd hk (Nat.not_lt_zero k), h⟩
    | true =>
      rw [h, if_pos rfl] at e
      rw [e]
      have hpos := cntG_posI h n 0 (Nat.zero_le _) (by omega)
      have ih := unt_spec f (payN 1 n m) (payN_Pd.im hI) hp (by rw [payN_cnt]; omega)
      refine ⟨fun k hk => ?_, ?_⟩
      · cases k with
        | zero => exact h
        | succ k =>
          rw [payK_ss]
          exact ih.1 k (by have hk : k + 1 < (untM n p f (payN 1 n m)).1 + 1 := hk; omega)
      · show owb (payK 1 n ((untM n p f (payN 1 n m)).1 + 1) m) p = false
        rw [payK_ss]
        exact ih.2
/-- which payments come before p is paid -/
theorem unt_iff {n p k : Nat} {m : Mg} (hI : IM m n) (hp : p < n) : owb (payK 1 n k m) p = decide (k < (untM n p 96 m).1) := by
  have h := unt_spec 96 m hI hp (by have := cntG_le (f := owb m) n 0; have := hI.2.1; omega)
  by_cases c : k < (untM n p 96 m).1
  · rw [decide_eq_true c, h.1 k c]
  · rw [decide_eq_false c]
    have e : k = (untM n p 96 m).1 + (k - (untM n p 96 m).1) := by omega
    rw [e, payK_add]
    exact owb_pd (payK_ok ((payK_ok hI).1.im hI)).1 hp h.2
/-! how many payments a change forces -/
theorem dep_cnt {T : Nat → Bool} {n : Nat} {m : Mg} : (depM T n m).1 = cntG (fun q => !T q && (owb m q && T (src m q))) 0 n := by
  have key : ∀ (k i : Nat) (x : Nat × Mg), (∀ j, i ≤ j → x.2 2 j = m 2 j) → (forG (depS T) i k x).1 = x.1 + cntG (fun q => !T q && (owb m q && T (src m q))) i k := by
    intro k
    induction k with
    | zero => intro i x _; rfl
    | succ k ih =>
      intro i x hx
      have hi := hx i (Nat.le_refl _)
      have e1 : owb x.2 i = owb m i := by unfold owb; rw [hi]
      have e2 : src x.2 i = src m i := by unfold src; rw [hi]
      show (forG (depS T) (i + 1) k (depS T i x)).1 = x.1 + ((if (fun q => !T q && (owb m q && T (src m q))) i then 1 else 0) + cntG (fun q => !T q && (owb m q && T (src m q))) (i + 1) k)
      by_cases c : (!T i && (owb m i && T (src m i))) = true
      · have e3 : depS T i x = (x.1 + 1, payM 2 x.2 i) := by unfold depS; rw [e1, e2, if_pos c]
        rw [e3, ih (i + 1) _ (fun j hj => by show payM 2 x.2 i 2 j = m 2 j; rw [payM_2, upd_o (by omega)]; exact hx j (by omega)), if_pos c]
        show x.1 + 1 + _ = _
        omega
      · have e3 : depS T i x = x := by unfold depS; rw [e1, e2, if_neg c]
        rw [e3, ih (i + 1) _ (fun j hj => hx j (by omega)), if_neg c, Nat.zero_add]
  have := key n 0 (0, m) (fun _ _ => rfl)
  rw [Nat.zero_add] at this
  exact this
theorem no_self {m : Mg} {n p : Nat} (hI : IM m n) (hp : p < n) : ¬ m 2 p = nI p := by
  intro h
  obtain ⟨rk, hr⟩ := hI.2.2.2
  have := hr p p hp hp h
  omega
theorem dep_one {n p : Nat} {m : Mg} (hI : IM m n) (hp : p < n) : (depM (rowT p p) n m).1 = cntG (srcB m p) 0 n := by
  rw [dep_cnt]
  refine cntG_congr _ _ (fun q _ hq => ?_)
  have h96 := hI.2.1
  have hT : ∀ x, rowT p p x = decide (x = p) := fun x => by
    unfold rowT
    by_cases c : x = p
    · rw [decide_eq_true c, decide_eq_true (by omega)]
    · rw [decide_eq_false c, decide_eq_false (by omega)]
  show (!rowT p p q && (owb m q && rowT p p (src m q))) = (m 2 q == nI p)
  rw [hT, hT]
  rcases src_nI hI (p := q) (by omega) with ⟨h1, h2, h3⟩ | ⟨h1, h2⟩
  · rw [h1, Bool.true_and, h2]
    by_cases c : src m q = p
    · rw [decide_eq_true c, c, beq_self_eq_true]
      have : ¬ q = p := fun z => by
        subst z
        exact no_self hI hp (by rw [h2, c])
      rw [decide_eq_false this]
      rfl
    · rw [decide_eq_false c, Bool.and_false, beq_eq_false_iff_ne.mpr (fun z => c (nI_inj (by omega) (by omega) z))]
  · rw [h1, Bool.false_and, Bool.and_false, h2, beq_eq_false_iff_ne.mpr (fun z => nI_nm1 (by omega) z.symm)]

/-! what the engine does -/
theorem nI_min {a b : Nat} (ha : a < 2 ^ 31) (hb : b < 2 ^ 31) : (if nI b < nI a then nI b else nI a) = nI (min a b) := by
  by_cases h : nI b < nI a
  · rw [if_pos h]
    have := Int32.lt_iff_toInt_lt.mp h
    rw [nI_toInt ha, nI_toInt hb] at this
    exact congrArg nI (by omega)
  · rw [if_neg h]
    have h2 : ¬ b < a := fun z => h (Int32.lt_iff_toInt_lt.mpr (by rw [nI_toInt ha, nI_toInt hb]; omega))
    exact congrArg nI (by omega)
theorem nI_sub_toInt {a b : Nat} (ha : a < 2 ^ 30) (hb : b < 2 ^ 30) : (nI a - nI b).toInt = (a : Int) - b := by
  have a1 := nI_toInt (n := a) (by omega)
  have a2 := nI_toInt (n := b) (by omega)
  rw [Int32.toInt_sub, Int.bmod_eq_of_le] <;> omega
theorem nI_neg_toInt {a : Nat} (ha : a < 2 ^ 30) : (-(nI a)).toInt = -(a : Int) := by
  have a1 := nI_toInt (n := a) (by omega)
  rw [Int32.toInt_neg, Int.bmod_eq_of_le] <;> omega
theorem cntG_posI {f : Nat → Bool} {p : Nat} (hf : f p = true) : ∀ (k i : Nat), i ≤ p → p < i + k → 0 < cntG f i k
  | 0, i, h1, h2 => absurd h2 (by omega)
  | k + 1, i, h1, h2 => by
    show 0 < (if f i then 1 else 0) + cntG f (i + 1) k
    by_cases e : i = p
    · subst e; rw [hf, if_pos rfl]; omega
    · have := cntG_posI hf k (i + 1) (by omega) (by omega)
      omega
def rowT (a b p : Nat) : Bool := decide (a ≤ p ∧ p ≤ b)
def two (a b p : Nat) : Bool := decide (p = a ∨ p = b)
def depS (T : Nat → Bool) (p : Nat) (x : Nat × Mg) : Nat × Mg := if !T p && (owb x.2 p && T (src x.2 p)) then (x.1 + 1, payM 2 x.2 p) else x
/-- what stays outside of T and owes to a place in it is paid -/
def depM (T : Nat → Bool) (n : Nat) (m : Mg) : Nat × Mg := forG (depS T) 0 n (0, m)
def drpS (T : Nat → Bool) (p : Nat) (y : Mg) : Mg := if T p then dropO y p else y
def drpM (T : Nat → Bool) (n : Nat) (m : Mg) : Mg := forG (drpS T) 0 n m
def setB (v : Int32) (a k : Nat) (m : Mg) : Mg := forG (fun p y => byteM y p v) a k m
def fillM (n a b : Nat) (v : Int32) (m : Mg) : Nat × Mg := ((depM (rowT a b) n m).1, setB v a (b + 1 - a) (drpM (rowT a b) n (depM (rowT a b) n m).2))
def swapM (n a b : Nat) (m : Mg) : Nat × Mg := ((depM (two a b) n m).1, byteM (byteM (drpM (two a b) n (depM (two a b) n m).2) a (valM m b)) b (valM m a))
def oweM (m : Mg) (p q : Nat) (v : Int32) : Mg := prmM (srcM m p (nI (if m 5 3 = nI 1 then rootM m q else q))) p v
def limN (m : Mg) : Nat := (m 5 1).toInt.toNat
def klM (n : Nat) (m : Mg) : Mg := payK 2 n (cntG (owb m) 0 n - limN m) m
def copS (T : Nat → Bool) (fr to_ : Nat) (num : Int32) (c : Nat → Int32) (i : Nat) (y : Mg) : Mg := if T (fr + i) then cpM (noteM (byteM y (to_ + i) (c i)) (nI 3) (nI (to_ + i)) (c i)) 3 else oweM y (to_ + i) (fr + i) num
def cop0 (to_ len : Nat) (m : Mg) : Mg := noteM (accM (accM m 0 (nI 1)) 1 (nI len)) (nI 0) (nI to_) (nI len)
def copD (n to_ len : Nat) (m : Mg) : Mg := (depM (rowT to_ (to_ + len - 1)) n (cop0 to_ len m)).2
def copL (n fr to_ len : Nat) (m : Mg) : Mg := forG (copS (rowT to_ (to_ + len - 1)) fr to_ (m 6 0) (fun i => valM (copD n to_ len m) (fr + i))) 0 len (drpM (rowT to_ (to_ + len - 1)) n (copD n to_ len m))
def copyM (n fr to_ len : Nat) (m : Mg) : Mg := klM n (copL n fr to_ len m)
def fetM (p : Nat) (m : Mg) : Mg := accM (accM m 8 (nI 1)) 6 (nI (hopsM m p))
def fetchM (p : Nat) (m : Mg) : Mg := if m 5 4 = nI 1 then payO 2 (fetM p m) p else fetM p m
def rowM (a b : Nat) (m : Mg) : Mg := forG (fun p y => payO 2 y p) a (b + 1 - a) m
def setL (a k : Nat) (m : Mg) : Mg := forG (fun p y => lckM y p (nI 1)) a k m
def lockM (a b : Nat) (m : Mg) : Mg := setL a (b + 1 - a) (rowM a b m)
def untM (n p : Nat) : Nat → Mg → Nat × Mg
  | 0, m => (0, m)
  | f + 1, m => if owb m p then ((untM n p f (payN 1 n m)).1 + 1, (untM n p f (payN 1 n m)).2) else (0, m)
def sumG (f : Nat → Nat) : Nat → Nat → Nat
  | _, 0 => 0
  | i, k + 1 => f i + sumG f (i + 1) k
theorem sumG_s {f : Nat → Nat} {i b : Nat} (h : i < b) : sumG f i (b - i) = f i + sumG f (i + 1) (b - (i + 1)) := by
  rw [show b - i = (b - (i + 1)) + 1 by omega]; rfl
theorem sumG_0 {f : Nat → Nat} {i b : Nat} (h : b ≤ i) : sumG f i (b - i) = 0 := by rw [show b - i = 0 by omega]; rfl
/-! what drops and payments leave -/
theorem dropM_c {m : Mg} {p c : Nat} (h0 : ¬ c = 0) (h2 : ¬ c = 2) (h3 : ¬ c = 3) (h6 : ¬ c = 6) (h7 : ¬ c = 7) : dropM m p c = m c := by unfold dropM; rw [endM_c h2 h3, noteM_c h0 h7, accM_c h6]
theorem dropM_2 {m : Mg} {p : Nat} : dropM m p 2 = upd (m 2) p (-1) := by unfold dropM; rw [endM_2, noteM_c (by decide) (by decide), accM_c (by decide)]
theorem dropM_3 {m : Mg} {p : Nat} : dropM m p 3 = upd (m 3) p (-1) := by unfold dropM; rw [endM_3, noteM_c (by decide) (by decide), accM_c (by decide)]
theorem dropM_07 {m : Mg} {p : Nat} : dropM m p 0 7 = m 0 7 := by unfold dropM; rw [endM_c (by decide) (by decide), noteM_07]; rfl
theorem dropM_60 {m : Mg} {p : Nat} : dropM m p 6 0 = m 6 0 := by unfold dropM; rw [endM_c (by decide) (by decide), noteM_c (by decide) (by decide)]; rfl
theorem dropM_ev {m : Mg} {p : Nat} (h : EvOK m) : EvOK (dropM m p) := by
  unfold dropM
  refine EvOK.of (m := noteM (accM m 5 (nI 1)) (nI 4) (nI p) (m 3 p)) ?_ (by rw [endM_c (by decide) (by decide)])
  exact EvOK.note (m := accM m 5 (nI 1)) (EvOK.of h rfl) _ _ _
/-- some debts were dropped -/
def Dr (n : Nat) (m m2 : Mg) : Prop := Fr m m2 ∧ m2 1 = m 1 ∧ ∀ p, p < n → m2 2 p = -1 ∨ (m2 2 p = m 2 p ∧ m2 3 p = m 3 p)
theorem Dr.rf {n : Nat} {m : Mg} : Dr n m m := ⟨Fr.rfl, rfl, fun _ _ => Or.inr ⟨rfl, rfl⟩⟩
theorem Dr.tr {n : Nat} {a b c : Mg} (h : Dr n a b) (h2 : Dr n b c) : Dr n a c := by
  refine ⟨h.1.trans h2.1, h2.2.1.trans h.2.1, fun p hp => ?_⟩
  rcases h2.2.2 p hp with e | ⟨e1, e2⟩
  · exact Or.inl e
  · rw [e1, e2]; exact h.2.2 p hp
theorem dropO_Dr {n p : Nat} {m : Mg} : Dr n m (dropO m p) := by
  unfold dropO
  split
  · refine ⟨⟨dropM_07, dropM_c (by decide) (by decide) (by decide) (by decide) (by decide), dropM_c (by decide) (by decide) (by decide) (by decide) (by decide), dropM_60, dropM_ev⟩, dropM_c (by decide) (by decide) (by decide) (by decide) (by decide), fun q hq => ?_⟩
    rw [dropM_2, dropM_3]
    by_cases e : q = p
    · subst e; exact Or.inl upd_s
    · exact Or.inr ⟨upd_o e, upd_o e⟩
  · exact Dr.rf
theorem dropO_owb {p : Nat} {m : Mg} : owb (dropO m p) p = false := by
  unfold dropO
  by_cases h : owb m p = true
  · rw [if_pos h, owb_f, dropM_2]; exact upd_s
  · rw [if_neg h]; simpa using h
theorem Dr.im {n : Nat} {m m2 : Mg} (h : Dr n m m2) (hI : IM m n) : IM m2 n := IM_less hI h.1.1 (fun p hp => (h.2.2 p hp).imp id (fun x => x.1))
theorem Dr.no {n p : Nat} {m m2 : Mg} (h : Dr n m m2) (hp : p < n) (ho : owb m p = false) : owb m2 p = false := by
  rw [owb_f] at ho ⊢
  rcases h.2.2 p hp with e | ⟨e, -⟩
  · exact e
  · rw [e, ho]
theorem drpM_ok {T : Nat → Bool} {n : Nat} {m : Mg} : Dr n m (drpM T n m) ∧ ∀ p, p < n → T p = true → owb (drpM T n m) p = false := by
  have h := forG_inv (f := drpS T) (fun i y => Dr n m y ∧ ∀ p, p < n → p < i → T p = true → owb y p = false) n 0 m ⟨Dr.rf, fun p _ h => absurd h (by omega)⟩ (fun j y _ _ hy => by
    unfold drpS
    by_cases hT : T j = true
    · rw [if_pos hT]
      refine ⟨hy.1.tr dropO_Dr, fun p hn hp ht => ?_⟩
      by_cases e : p = j
      · subst e; exact dropO_owb
      · exact (dropO_Dr (n := n)).no hn (hy.2 p hn (by omega) ht)
    · rw [if_neg hT]
      refine ⟨hy.1, fun p hn hp ht => ?_⟩
      by_cases e : p = j
      · subst e; exact absurd ht hT
      · exact hy.2 p hn (by omega) ht)
  rw [Nat.zero_add] at h
  exact ⟨h.1, fun p hp ht => h.2 p hp hp ht⟩
theorem src_pay {k p q : Nat} {m : Mg} (h : ¬ q = p) : src (payM k m p) q = src m q := by unfold src; rw [payM_2, upd_o h]
theorem depM_ok {T : Nat → Bool} {n : Nat} {m : Mg} (hI : IM m n) : Pd n m (depM T n m).2 ∧ (depM T n m).1 ≤ n ∧ ∀ p, p < n → T p = false → owb (depM T n m).2 p = true → T (src (depM T n m).2 p) = false := by
  have h := forG_inv (f := depS T) (fun i x => Pd n m x.2 ∧ x.1 ≤ i ∧ ∀ p, p < i → T p = false → owb x.2 p = true → T (src x.2 p) = false) n 0 (0, m) ⟨Pd.rfl, Nat.le_refl _, fun p h => absurd h (by omega)⟩ (fun j x _ hj hx => by
    unfold depS
    by_cases hc : (!T j && (owb x.2 j && T (src x.2 j))) = true
    · rw [if_pos hc]
      refine ⟨(show Pd n m (payM 2 x.2 j) from hx.1.trans hI (payM_Pd (by omega))), by show x.1 + 1 ≤ j + 1; have := hx.2.1; omega, fun p hp ht ho => ?_⟩
      rw [owb_pay] at ho
      by_cases e : p = j
      · rw [if_pos e] at ho; cases ho
      · rw [if_neg e] at ho
        rw [src_pay e]
        exact hx.2.2 p (by omega) ht ho
    · rw [if_neg hc]
      refine ⟨hx.1, by have := hx.2.1; omega, fun p hp ht ho => ?_⟩
      by_cases e : p = j
      · subst e
        cases h2 : T (src x.2 p)
        · rfl
        · rw [ht, ho, h2] at hc; exact absurd rfl hc
      · exact hx.2.2 p (by omega) ht ho)
  rw [Nat.zero_add] at h
  exact ⟨h.1, h.2.1, h.2.2⟩
/-- nothing owes to a place of T -/
def Sep (T : Nat → Bool) (n : Nat) (y : Mg) : Prop := ∀ p, p < n → owb y p = true → T (src y p) = false
theorem sep_dep {T : Nat → Bool} {n : Nat} {m : Mg} (hI : IM m n) : Sep T n (drpM T n (depM T n m).2) := by
  intro p hp ho
  have h1 := depM_ok (T := T) hI
  have h2 := drpM_ok (T := T) (n := n) (m := (depM T n m).2)
  cases hT : T p with
  | true => rw [h2.2 p hp hT] at ho; cases ho
  | false =>
    rcases h2.1.2.2 p hp with e | ⟨e, -⟩
    · exact absurd e (owb_t.mp ho)
    · have e2 : src (drpM T n (depM T n m).2) p = src (depM T n m).2 p := by unfold src; rw [e]
      rw [e2]
      exact h1.2.2 p hp hT (by rw [owb_t, ← e]; exact owb_t.mp ho)
theorem root_sep {T : Nat → Bool} {n : Nat} {y : Mg} (hI : IM y n) (hS : Sep T n y) : ∀ p, p < n → T p = false → T (rootM y p) = false := by
  refine IM_ind hI (fun p hp ih hT => ?_)
  rw [root_eq hI hp]
  by_cases h : y 2 p = -1
  · rw [if_pos h]; exact hT
  · rw [if_neg h]; exact ih h (hS p hp (owb_t.mpr h))
theorem oweM_ok {T : Nat → Bool} {n p q : Nat} {y : Mg} {v : Int32} (hI : IM y n) (hS : Sep T n y) (hp : p < n) (hq : q < n) (hT : T p = true) (hT2 : T q = false) : IM (oweM y p q v) n ∧ Sep T n (oweM y p q v) := by
  have hr : (if y 5 3 = nI 1 then rootM y q else q) < n ∧ T (if y 5 3 = nI 1 then rootM y q else q) = false := by
    split
    · exact ⟨(root_end hI q hq).1, root_sep hI hS q hq hT2⟩
    · exact ⟨hq, hT2⟩
  unfold oweM
  generalize (if y 5 3 = nI 1 then rootM y q else q) = r at hr ⊢
  have h96 := hI.2.1
  have e2 : prmM (srcM y p (nI r)) p v 2 = upd (y 2) p (nI r) := rfl
  obtain ⟨rk, hk1, hk2⟩ := IM_rk hI
  constructor
  · refine ⟨hI.1, hI.2.1, fun a ha => ?_, fun a => if T a then n else rk a, fun a b ha hb e => ?_⟩
    · rw [e2]
      by_cases e : a = p
      · subst e; exact Or.inr ⟨r, hr.1, upd_s⟩
      · rw [upd_o e]; exact hI.2.2.1 a ha
    · rw [e2] at e
      by_cases e3 : a = p
      · subst e3
        rw [upd_s] at e
        have := nI_inj (by omega) (by omega) e
        subst this
        show (if T r then n else rk r) < (if T a then n else rk a)
        rw [if_pos hT, hr.2, if_neg Bool.false_ne_true]
        exact hk1 _ hb
      · rw [upd_o e3] at e
        have ho : ¬ y 2 a = -1 := by rw [e]; exact nI_nm1 (by omega)
        have es : src y a = b := by unfold src; rw [e, nI_toInt (by omega)]; rfl
        have h3 := hS a ha (owb_t.mpr ho)
        have h4 := hk2 a ha ho
        rw [es] at h3 h4
        show (if T b then n else rk b) < (if T a then n else rk a)
        rw [h3, if_neg Bool.false_ne_true]
        have := hk1 b hb
        split <;> omega
  · intro a ha ho
    have ho : ¬ prmM (srcM y p (nI r)) p v 2 a = -1 := owb_t.mp ho
    rw [e2] at ho
    by_cases e : a = p
    · subst e
      have es : src (prmM (srcM y a (nI r)) a v) a = r := by unfold src; rw [e2, upd_s, nI_toInt (by omega)]; rfl
      rw [es]; exact hr.2
    · have es : src (prmM (srcM y p (nI r)) p v) a = src y a := by unfold src; rw [e2, upd_o e]
      rw [upd_o e] at ho
      rw [es]; exact hS a ha (owb_t.mpr ho)
theorem atM_c {y : Mg} {p c : Nat} {v : Int32} (h0 : ¬ c = 0) (h1 : ¬ c = 1) (h6 : ¬ c = 6) (h7 : ¬ c = 7) : cpM (noteM (byteM y p v) (nI 3) (nI p) v) 3 c = y c := by
  rw [cpM_c h6, noteM_c h0 h7]; exact sG_o h1
theorem IM_of {m m2 : Mg} {n : Nat} (hI : IM m n) (h7 : m2 0 7 = m 0 7) (h2 : m2 2 = m 2) : IM m2 n := by unfold IM; rw [h7, h2]; exact hI
theorem Sep_of {T : Nat → Bool} {m m2 : Mg} {n : Nat} (hS : Sep T n m) (h2 : m2 2 = m 2) : Sep T n m2 := by
  intro p hp ho
  unfold owb at ho
  unfold src
  rw [h2] at ho ⊢
  exact hS p hp ho
/-- what a step of a copy leaves -/
theorem copS_ok {T : Nat → Bool} {n fr to_ i : Nat} {num : Int32} {c : Nat → Int32} {y : Mg} (hI : IM y n) (hS : Sep T n y) (hE : EvOK y) (hf : fr + i < n) (ht : to_ + i < n) (hT : T (to_ + i) = true) :
    IM (copS T fr to_ num c i y) n ∧ Sep T n (copS T fr to_ num c i y) ∧ EvOK (copS T fr to_ num c i y) ∧ copS T fr to_ num c i y 4 = y 4 ∧ copS T fr to_ num c i y 5 = y 5 := by
  unfold copS
  by_cases h : T (fr + i) = true
  · rw [if_pos h]
    have e7 : cpM (noteM (byteM y (to_ + i) (c i)) (nI 3) (nI (to_ + i)) (c i)) 3 0 7 = y 0 7 := by rw [cpM_c (by decide), noteM_07]; rfl
    have e2 : cpM (noteM (byteM y (to_ + i) (c i)) (nI 3) (nI (to_ + i)) (c i)) 3 2 = y 2 := atM_c (by decide) (by decide) (by decide) (by decide)
    refine ⟨IM_of hI e7 e2, Sep_of hS e2, EvOK.of (m := noteM (byteM y (to_ + i) (c i)) (nI 3) (nI (to_ + i)) (c i)) ?_ (by rw [cpM_c (by decide)]), atM_c (by decide) (by decide) (by decide) (by decide), atM_c (by decide) (by decide) (by decide) (by decide)⟩
    exact EvOK.note (m := byteM y (to_ + i) (c i)) (EvOK.of hE rfl) _ _ _
  · rw [if_neg h]
    have h2 := oweM_ok (v := num) hI hS ht hf hT (by simpa using h)
    exact ⟨h2.1, h2.2, EvOK.of hE rfl, rfl, rfl⟩
theorem klM_Pd {n : Nat} {m : Mg} (hI : IM m n) : Pd n m (klM n m) := (payK_ok hI).1
theorem cop0_ok {n to_ len : Nat} {m : Mg} (hI : IM m n) (hE : EvOK m) : IM (cop0 to_ len m) n ∧ EvOK (cop0 to_ len m) ∧ (∀ c, ¬ c = 0 → ¬ c = 6 → ¬ c = 7 → cop0 to_ len m c = m c) := by
  have hc : ∀ c, ¬ c = 0 → ¬ c = 6 → ¬ c = 7 → cop0 to_ len m c = m c := fun c h0 h6 h7 => by unfold cop0; rw [noteM_c h0 h7, accM_c h6, accM_c h6]
  refine ⟨IM_of hI (by unfold cop0; rw [noteM_07]; rfl) (hc 2 (by decide) (by decide) (by decide)), ?_, hc⟩
  unfold cop0
  exact EvOK.note (m := accM (accM m 0 (nI 1)) 1 (nI len)) (EvOK.of hE rfl) _ _ _
theorem st_mix {s : G} {c t : Nat} {f g : Nat → Int32} {v : Int32} (h : v = f t) : sG (sG s c (mix t f g)) c (upd (mix t f g) t v) = sG s c (mix (t + 1) f g) := by rw [sG_sG, h, mix_s]
theorem owb_of {m m2 : Mg} (h : m2 2 = m 2) (p : Nat) : owb m2 p = owb m p := by unfold owb; rw [h]
theorem src_of {m m2 : Mg} (h : m2 2 = m 2) (p : Nat) : src m2 p = src m p := by unfold src; rw [h]
theorem root_of {m m2 : Mg} (h : m2 2 = m 2) : ∀ (k p : Nat), rootF k m2 p = rootF k m p
  | 0, _ => rfl
  | k + 1, p => by
    show (if m2 2 p = -1 then p else rootF k m2 (src m2 p)) = (if m 2 p = -1 then p else rootF k m (src m p))
    rw [src_of h, root_of h k, h]
theorem rootM_of {m m2 : Mg} (h : m2 2 = m 2) (p : Nat) : rootM m2 p = rootM m p := root_of h 96 p
theorem hop_of {m m2 : Mg} (h : m2 2 = m 2) : ∀ (k p : Nat), hopF k m2 p = hopF k m p
  | 0, _ => rfl
  | k + 1, p => by
    show (if m2 2 p = -1 then 0 else hopF k m2 (src m2 p) + 1) = (if m 2 p = -1 then 0 else hopF k m (src m p) + 1)
    rw [src_of h, hop_of h k, h]
theorem hopsM_of {m m2 : Mg} (h : m2 2 = m 2) (p : Nat) : hopsM m2 p = hopsM m p := hop_of h 96 p
theorem valM_of {m m2 : Mg} (h : m2 2 = m 2) (h1 : m2 1 = m 1) (p : Nat) : valM m2 p = valM m p := by unfold valM; rw [rootM_of h, h1]
theorem pol_cases (x : Int32) : x = nI 0 ∨ x = nI 1 ∨ x = nI 2 ∨ x = nI 3 ∨ (x.toInt < 0 ∨ 3 < x.toInt) := by
  by_cases h : x.toInt < 0 ∨ 3 < x.toInt
  · exact Or.inr (Or.inr (Or.inr (Or.inr h)))
  · have h2 := (nI_of_nonneg (x := x) (by omega)).1
    have h3 : x.toInt.toNat = 0 ∨ x.toInt.toNat = 1 ∨ x.toInt.toNat = 2 ∨ x.toInt.toNat = 3 := by omega
    rcases h3 with e | e | e | e <;> rw [e] at h2 <;> simp [h2]
theorem oN_none {b : Option Nat} (h : oN b = -1) (hb : ∀ q, b = some q → q < 2 ^ 31) : b = none := by
  cases b with
  | none => rfl
  | some q => exact absurd h (nI_nm1 (hb q rfl))

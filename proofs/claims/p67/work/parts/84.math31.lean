/-! DEBTS, place by place -/
theorem cntG_e {f : Nat → Bool} : ∀ (k i : Nat), cntG f i (k + 1) = cntG f i k + (if f (i + k) then 1 else 0)
  | 0, i => by
    show (if f i then 1 else 0) + 0 = 0 + _
    rw [Nat.add_zero, Nat.zero_add, Nat.add_zero]
  | k + 1, i => by
    have ih := cntG_e (f := f) k (i + 1)
    show (if f i then 1 else 0) + cntG f (i + 1) (k + 1) = ((if f i then 1 else 0) + cntG f (i + 1) k) + _
    rw [ih, show i + 1 + k = i + (k + 1) by omega, Nat.add_assoc]
theorem cnt_e {f : Nat → Bool} {k : Nat} : cntG f 0 (k + 1) = cntG f 0 k + (if f k then 1 else 0) := by
  have h := cntG_e (f := f) k 0
  rw [Nat.zero_add] at h
  exact h
theorem for_e {α : Type} {f : Nat → α → α} {k : Nat} {x : α} : forG f 0 (k + 1) x = f k (forG f 0 k x) := by
  have h := forG_last (f := f) k 0 x
  rw [Nat.zero_add] at h
  exact h
theorem kth_i {f : Nat → Bool} : ∀ (j i L : Nat), f (i + j) = true → j < L → kthG f i L ((cntG f i j : Nat) : Int) = some (i + j)
  | 0, i, L, h, hL => by
    obtain ⟨L, rfl⟩ : ∃ M, L = M + 1 := ⟨L - 1, by omega⟩
    show (if f i then (if ((cntG f i 0 : Nat) : Int) = 0 then some i else _) else _) = _
    rw [if_pos (show f i = true from h), if_pos (show ((cntG f i 0 : Nat) : Int) = 0 from rfl)]
    rfl
  | j + 1, i, L, h, hL => by
    obtain ⟨L, rfl⟩ : ∃ M, L = M + 1 := ⟨L - 1, by omega⟩
    have ih := kth_i (f := f) j (i + 1) L (by rw [show i + 1 + j = i + (j + 1) by omega]; exact h) (by omega)
    rw [show i + 1 + j = i + (j + 1) by omega] at ih
    show (if f i then (if (((if f i then 1 else 0) + cntG f (i + 1) j : Nat) : Int) = 0 then some i else kthG f (i + 1) L ((((if f i then 1 else 0) + cntG f (i + 1) j : Nat) : Int) - 1)) else kthG f (i + 1) L (((if f i then 1 else 0) + cntG f (i + 1) j : Nat) : Int)) = _
    by_cases hf : f i = true
    · rw [if_pos hf, if_pos hf, if_neg (by omega), show (((1 + cntG f (i + 1) j : Nat) : Int) - 1) = ((cntG f (i + 1) j : Nat) : Int) by omega]
      exact ih
    · rw [if_neg hf, if_neg hf, Nat.zero_add]
      exact ih
theorem kth_at {f : Nat → Bool} {k n : Nat} (h : f k = true) (hk : k < n) : kthG f 0 n ((cntG f 0 k : Nat) : Int) = some k := by
  have z := kth_i (f := f) k 0 n (by rw [Nat.zero_add]; exact h) hk
  rw [Nat.zero_add] at z
  exact z
theorem kth_no {f : Nat → Bool} : ∀ (L i : Nat), kthG f i L ((cntG f i L : Nat) : Int) = none
  | 0, i => rfl
  | L + 1, i => by
    have ih := kth_no (f := f) L (i + 1)
    show (if f i then (if (((if f i then 1 else 0) + cntG f (i + 1) L : Nat) : Int) = 0 then some i else kthG f (i + 1) L ((((if f i then 1 else 0) + cntG f (i + 1) L : Nat) : Int) - 1)) else kthG f (i + 1) L (((if f i then 1 else 0) + cntG f (i + 1) L : Nat) : Int)) = _
    by_cases hf : f i = true
    · rw [if_pos hf, if_pos hf, if_neg (by omega), show (((1 + cntG f (i + 1) L : Nat) : Int) - 1) = ((cntG f (i + 1) L : Nat) : Int) by omega]
      exact ih
    · rw [if_neg hf, if_neg hf, Nat.zero_add]
      exact ih
theorem any_cnt {f : Nat → Bool} : ∀ (L i : Nat), anyG f i L = decide (0 < cntG f i L)
  | 0, i => rfl
  | L + 1, i => by
    have ih := any_cnt (f := f) L (i + 1)
    show (f i || anyG f (i + 1) L) = decide (0 < (if f i then 1 else 0) + cntG f (i + 1) L)
    rw [ih]
    cases hf : f i with
    | true => rw [if_pos rfl, decide_eq_true (show 0 < 1 + cntG f (i + 1) L by omega)]; rfl
    | false => rw [if_neg Bool.false_ne_true, Nat.zero_add]; rfl
theorem cd_db {n k q w : Nat} {m : Mg} (h1 : ¬ n = 0) (hk : k < 2 ^ 31) (hq : kthG (startM m) 0 n (k : Int) = some q) (hw : w < 4) : cdL [(decide (n = 0), 1), ((kthG (startM m) 0 n (nI k).toInt).isNone, 2), (!inB (nI w) 0 3, 3)] = 0 := by
  rw [nI_toInt hk, hq, cdL_f (decide_eq_false h1), cdL_f (b := (some q).isNone) rfl, cdL_f (by rw [inB_n (by omega) (by omega) (by omega)]; rfl)]
  rfl
theorem cd_dbx {n k : Nat} {m : Mg} {L : List (Bool × Nat)} (h1 : ¬ n = 0) (hk : k < 2 ^ 31) (hq : kthG (startM m) 0 n (k : Int) = none) : cdL ((decide (n = 0), 1) :: ((kthG (startM m) 0 n (nI k).toInt).isNone, 2) :: L) = 2 := by
  rw [nI_toInt hk, hq, cdL_f (decide_eq_false h1), cdL_t (b := (none : Option Nat).isNone) rfl]
theorem db_v {n k q w : Nat} {m : Mg} (hk : k < 2 ^ 31) (hq : kthG (startM m) 0 n (k : Int) = some q) (hw : w < 4) : oV (kthG (startM m) 0 n (nI k).toInt) 0 (fun f => debV m n f (tN (nI w))) = debV m n q w := by
  rw [nI_toInt hk, hq, tN_nI (by omega)]
  rfl
/-! who depends on whom -/
def srcO (m : Mg) (q : Nat) : Option Nat := if m 2 q = -1 then none else some (src m q)
theorem srcV_o {h : Nat → Nat} {m : Mg} {q : Nat} : srcV h m q = oH h (srcO m q) := by
  unfold srcV srcO
  by_cases ho : m 2 q = -1
  · rw [if_pos ho, if_pos ho]; rfl
  · rw [if_neg ho, if_neg ho]; rfl
theorem dep_src {h : Nat → Nat} {n k j : Nat} {m : Mg} (hI : IM m n) (hj : j < n) (hk : k < n) (hinj : ∀ i j, i < n → j < n → h (8 + i) = h (8 + j) → i = j) (e : srcV h m j = some (h (8 + k))) : depB m k false j = true := by
  obtain ⟨ho, he⟩ := srcV_yes e
  have hs := IM_src hI hj ho
  have hkq := hinj _ _ hk hs.1 he
  show (m 2 j == nI k) = true
  rw [hs.2, ← hkq]
  exact beq_self_eq_true _
theorem dep_nos {h : Nat → Nat} {n k j : Nat} {m : Mg} (hI : IM m n) (hj : j < n) (hk : k < n) (e : ¬ srcV h m j = some (h (8 + k))) : depB m k false j = false := by
  show (m 2 j == nI k) = false
  refine beq_eq_false_iff_ne.mpr (fun z => e ?_)
  have h96 := hI.2.1
  have ho : ¬ m 2 j = -1 := by rw [z]; exact nI_nm1 (by omega)
  have hs := IM_src hI hj ho
  have hq : src m j = k := nI_inj (by omega) (by omega) (hs.2.symm.trans z)
  rw [srcV_t ho, hq]
/-- whether the way from a comes to o -/
def rchF : Nat → Mg → Nat → Nat → Bool
  | 0, _, _, _ => false
  | f + 1, m, a, o => (a == o) || (if m 2 a = -1 then false else rchF f m (src m a) o)
theorem rch_s {f a o : Nat} {m : Mg} : rchF (f + 1) m a o = ((a == o) || (if m 2 a = -1 then false else rchF f m (src m a) o)) := rfl
theorem rch_rk {m : Mg} {n o : Nat} {rk : Nat → Nat} (hI : IM m n) (hr : Rk m n rk) : ∀ (f a : Nat), a < n → rchF f m a o = true → rk o ≤ rk a
  | 0, a, _, h => by cases h
  | f + 1, a, ha, h => by
    rw [rch_s] at h
    by_cases e : a = o
    · rw [e]; exact Nat.le_refl _
    · rw [beq_eq_false_iff_ne.mpr e, Bool.false_or] at h
      by_cases ho : m 2 a = -1
      · rw [if_pos ho] at h; cases h
      · rw [if_neg ho] at h
        have h1 := rch_rk hI hr f (src m a) (IM_src hI ha ho).1 h
        have h2 := hr.2 a ha ho
        omega
theorem hb_rch {m : Mg} {o : Nat} : ∀ (f k a : Nat), k + f < 1000 → decide (0 < (hbF f (k + 1) m a o).toInt) = rchF f m a o
  | 0, k, a, _ => rfl
  | f + 1, k, a, hk => by
    have ih := hb_rch (m := m) (o := o) f (k + 1) (src m a) (by omega)
    rw [hb_s, rch_s]
    by_cases e : a = o
    · rw [if_pos e, beq_iff_eq.mpr e, Bool.true_or, nI_toInt (by omega)]
      exact decide_eq_true (by omega)
    · rw [if_neg e, beq_eq_false_iff_ne.mpr e, Bool.false_or]
      by_cases ho : m 2 a = -1
      · rw [if_pos ho, if_pos ho]; rfl
      · rw [if_neg ho, if_neg ho]; exact ih
def WayR (m : Mg) (n o : Nat) (rk : Nat → Nat) (z B : Bool) : Option Nat → Prop
  | none => z = B
  | some a => a < n ∧ ∃ f, rk a < f ∧ (z || rchF f m a o) = B
theorem WayR.init {m : Mg} {n o q : Nat} {rk : Nat → Nat} (hI : IM m n) (hr : Rk m n rk) (hq : q < n) : WayR m n o rk false (depB m o true q) (srcO m q) := by
  have e : depB m o true q = decide (0 < (hbF (95 + 1) 0 m q o).toInt) := rfl
  rw [hb_s] at e
  have h96 := hI.2.1
  unfold srcO
  by_cases ho : m 2 q = -1
  · rw [if_pos ho]
    show false = _
    rw [e, if_pos ho]
    split <;> rfl
  · rw [if_neg ho]
    have hs := IM_src hI hq ho
    refine (show src m q < n ∧ ∃ f, rk (src m q) < f ∧ (false || rchF f m (src m q) o) = depB m o true q from ⟨hs.1, 95, by have := hr.1 q hq; have := hr.2 q hq ho; omega, ?_⟩)
    rw [e, if_neg ho, Bool.false_or]
    by_cases hqo : q = o
    · rw [if_pos hqo]
      cases h : rchF 95 m (src m q) o with
      | false => rfl
      | true =>
        have h1 := rch_rk hI hr 95 _ hs.1 h
        have h2 := hr.2 q hq ho
        rw [← hqo] at h1
        omega
    · rw [if_neg hqo]
      exact (hb_rch 95 0 (src m q) (by omega)).symm
theorem WayR.step {m : Mg} {n o a : Nat} {rk : Nat → Nat} {z B : Bool} (h : WayR m n o rk z B (some a)) (hI : IM m n) (hr : Rk m n rk) : WayR m n o rk (z || (a == o)) B (srcO m a) := by
  obtain ⟨ha, f, h1, h2⟩ := h
  obtain ⟨f, rfl⟩ : ∃ g, f = g + 1 := ⟨f - 1, by omega⟩
  rw [rch_s, ← Bool.or_assoc] at h2
  unfold srcO
  by_cases ho : m 2 a = -1
  · rw [if_pos ho]
    rw [if_pos ho, Bool.or_false] at h2
    exact h2
  · rw [if_neg ho]
    rw [if_neg ho] at h2
    exact (show src m a < n ∧ ∃ f, rk (src m a) < f ∧ ((z || (a == o)) || rchF f m (src m a) o) = B from ⟨(IM_src hI ha ho).1, f, by have := hr.2 a ha ho; omega, h2⟩)
theorem srcO_dec {m : Mg} {n a : Nat} {rk : Nat → Nat} (hr : Rk m n rk) (ha : a < n) : owM rk (srcO m a) < owM rk (some a) := by
  unfold srcO
  by_cases ho : m 2 a = -1
  · rw [if_pos ho]; exact Nat.succ_pos _
  · rw [if_neg ho]; exact Nat.succ_lt_succ (hr.2 a ha ho)
/-! where a debt goes on -/
theorem gon_cont {m : Mg} {n j : Nat} (hI : IM m n) (hj : j + 1 < n) : gonB m j (j + 1) = contM m (j + 1) := by
  have h96 := hI.2.1
  unfold gonB contM owb
  rw [show j + 1 - 1 = j by omega, decide_eq_true (show 0 < j + 1 by omega), Bool.true_and]
  by_cases h1 : m 2 (j + 1) = -1
  · rw [if_neg (fun z => z.1 h1), decide_eq_false (fun z => z h1), Bool.false_and]
  · by_cases h2 : m 2 j = -1
    · rw [if_neg (fun z => z.2.1 h2), decide_eq_false (p := m 2 j ≠ -1) (fun z => z h2), Bool.false_and, Bool.and_false]
    · rw [decide_eq_true h1, decide_eq_true (p := m 2 j ≠ -1) h2, Bool.true_and, Bool.true_and]
      have s1 := IM_src hI hj h1
      have s2 := IM_src hI (show j < n by omega) h2
      by_cases h3 : m 3 (j + 1) = m 3 j
      · rw [beq_iff_eq.mpr h3, Bool.true_and]
        have e2 : nI (src m j) + nI 1 = nI (src m j + 1) := by rw [nI_add]
        have e3 : (m 2 (j + 1) == m 2 j + nI 1) = decide (src m (j + 1) = src m j + 1) := by
          rw [s1.2, s2.2, e2]
          by_cases h4 : src m (j + 1) = src m j + 1
          · rw [decide_eq_true h4, h4]
            exact beq_self_eq_true _
          · rw [decide_eq_false h4]
            exact beq_eq_false_iff_ne.mpr (fun z => h4 (nI_inj (by omega) (by omega) z))
        rw [e3]
        by_cases h4 : src m (j + 1) = src m j + 1
        · rw [if_pos ⟨h1, h2, h3, h4⟩, decide_eq_true h4]
        · rw [if_neg (fun z => h4 z.2.2.2), decide_eq_false h4]
      · rw [if_neg (fun z => h3 z.2.2.1), beq_eq_false_iff_ne.mpr h3, Bool.false_and]
theorem run_s {m : Mg} {n f j : Nat} : runM m n (f + 1) j = if decide (j < n) && contM m j then 1 + runM m n f (j + 1) else 0 := rfl
/-- as long as the debt at k goes on to l -/
def RunI (m : Mg) (n k l : Nat) : Prop := k ≤ l ∧ l < n ∧ ∃ f, l - k + f = 95 ∧ lenM m n k = l - k + 1 + runM m n f (l + 1)
theorem RunI.init {m : Mg} {n k : Nat} (hk : k < n) : RunI m n k k := ⟨Nat.le_refl _, hk, 95, by omega, by unfold lenM; omega⟩
theorem RunI.step {m : Mg} {n k l : Nat} (h : RunI m n k l) (h14 : n ≤ 14) (hl : l + 1 < n) (hc : contM m (l + 1) = true) : RunI m n k (l + 1) := by
  obtain ⟨h1, h2, f, h3, h4⟩ := h
  obtain ⟨f, rfl⟩ : ∃ g, f = g + 1 := ⟨f - 1, by omega⟩
  rw [run_s, hc, decide_eq_true hl, if_pos (by rfl)] at h4
  exact ⟨by omega, hl, f, by omega, by omega⟩
theorem RunI.end {m : Mg} {n k l : Nat} (h : RunI m n k l) (h14 : n ≤ 14) (hc : l + 1 < n → contM m (l + 1) = false) : lenM m n k = l - k + 1 := by
  obtain ⟨h1, h2, f, h3, h4⟩ := h
  obtain ⟨f, rfl⟩ : ∃ g, f = g + 1 := ⟨f - 1, by omega⟩
  rw [run_s] at h4
  by_cases hl : l + 1 < n
  · rw [hc hl, Bool.and_false, if_neg Bool.false_ne_true] at h4
    exact h4
  · rw [decide_eq_false hl, Bool.false_and, if_neg Bool.false_ne_true] at h4
    exact h4
theorem start_f {m : Mg} {k : Nat} (ho : owb m k = false) : startM m k = false := by
  unfold startM
  rw [ho]
  rfl
theorem start_c {m : Mg} {k : Nat} (hc : contM m k = true) : startM m k = false := by
  unfold startM
  rw [hc]
  simp
theorem start_t {m : Mg} {k : Nat} (ho : owb m k = true) (hc : contM m k = false) : startM m k = true := by
  unfold startM
  rw [ho, hc]
  rfl
theorem cont_0 {m : Mg} : contM m 0 = false := by
  unfold contM
  simp
/-! texts of debts -/
theorem dbs_f {m : Mg} {n k : Nat} {T : List Int32} (h : startM m k = false) : dbsS m n k T = T := if_neg (by rw [h]; exact Bool.false_ne_true)
theorem dbs_t {m : Mg} {n k : Nat} {T : List Int32} (h : startM m k = true) : dbsS m n k T = dbT m n k T := if_pos h
theorem dbT_pos {m : Mg} {n k : Nat} {T : List Int32} : 0 < (dbT m n k T).length := by
  unfold dbT
  simp only [List.length_append, List.length_cons, List.length_nil]
  omega
theorem dbs_pos {m : Mg} {n : Nat} : ∀ k : Nat, 0 < (forG (dbsS m n) 0 k []).length ↔ 0 < cntG (startM m) 0 k
  | 0 => Iff.rfl
  | k + 1 => by
    have ih := dbs_pos (m := m) (n := n) k
    rw [for_e, cnt_e]
    cases h : startM m k with
    | true => rw [dbs_t h, if_pos rfl]; exact ⟨fun _ => by omega, fun _ => dbT_pos⟩
    | false => rw [dbs_f h, if_neg Bool.false_ne_true, Nat.add_zero]; exact ih
theorem dbs_all {m : Mg} {n : Nat} (h : ¬ cntG (startM m) 0 n = 0) : dbsT m n = forG (dbsS m n) 0 n [] := if_neg (fun z => h (by have := (dbs_pos (m := m) (n := n) n).mpr (by omega); omega))
theorem dbs_non {m : Mg} {n : Nat} (h : cntG (startM m) 0 n = 0) : dbsT m n = [nI 45] ∧ forG (dbsS m n) 0 n [] = [] := by
  have e : (forG (dbsS m n) 0 n []).length = 0 := by
    have := (dbs_pos (m := m) (n := n) n).mp
    omega
  exact ⟨if_pos e, List.eq_nil_of_length_eq_zero e⟩
theorem map_dbT {m : Mg} {n k L s : Nat} {T U : List Nat} {V : List Int32} (hT : T.map nI = V) (hU : U = if 0 < T.length then T ++ [44] else T) (hL : lenM m n k = L) (hs : src m k = s) (hk : k < 1000) (hl : L < 1000) (hs2 : s < 1000) : (((((U ++ digs k) ++ [120]) ++ digs L) ++ [60]) ++ digs s).map nI = dbT m n k V := by
  rw [map_c hs2, map_c hl, List.map_append, digs_num hk]
  unfold dbT
  rw [hL, hs, hU]
  have hlen : V.length = T.length := by rw [← hT, List.length_map]
  rw [hlen]
  by_cases h : 0 < T.length
  · rw [if_pos h, if_pos h, List.map_append, hT]; rfl
  · rw [if_neg h, if_neg h, hT]
/-! the deepest place -/
theorem rk_2 {m : Mg} {p : Nat} : rkM m (nI 2) p = -(hopsM m p : Int) := by
  unfold rkM
  rw [if_neg (show ¬ nI 2 = nI 0 by decide), if_pos rfl]
theorem nst_2t {m : Mg} {k q : Nat} (ho : owb m k = true) (h : hopsM m q < hopsM m k) : nstep m (nI 2) k (some q) = some k := by
  unfold nstep
  rw [if_pos ho]
  dsimp only
  rw [rk_2, rk_2, if_pos (by omega)]
theorem nst_2f {m : Mg} {k q : Nat} (ho : owb m k = true) (h : ¬ hopsM m q < hopsM m k) : nstep m (nI 2) k (some q) = some q := by
  unfold nstep
  rw [if_pos ho]
  dsimp only
  rw [rk_2, rk_2, if_neg (by omega)]
/-- the deepest so far is a place -/
theorem deep_in {m : Mg} {n : Nat} : ∀ (k : Nat), k ≤ n → ∀ q, forG (nstep m (nI 2)) 0 k none = some q → q < n
  | 0, _, q, h => by cases h
  | k + 1, hk, q, h => by
    have ih := deep_in (m := m) (n := n) k (by omega)
    rw [for_e] at h
    unfold nstep at h
    split at h
    · split at h
      · cases h; omega
      · rename_i p e
        split at h
        · cases h; omega
        · cases h; exact ih _ e
    · exact ih _ h
/-- the head of the loop over the places -/
def DBH (X : Cx) (g h e : Nat → Nat) (n : Nat) (m : Mg) (p : Int32) (sq k : Nat) : Prop := ∀ (u : Cg) (T : List Nat) (sv N K0 N0 : Nat), GU m u → SbOK N T → T.length ≤ 13 * k → T.map nI = forG (dbsS m n) 0 k [] → K0 ≤ 10 + 60 * k → N0 ≤ 100 + 8000 * k → V X iW 22 [some (.ref (g 0)), some (.ref (h 0)), some (.int (nI (cntG (startM m) 0 k))), some (.int (nI (cntG (stlB m) 0 k))), some (.int (nI (cntG (crdB m n) 0 k))), some (.ref sq), some (va_rf (oH h (forG (nstep m (nI 2)) 0 k none))), some (.int (nI k)), none, none, none, none, none, none, none, none, none] [] ((cS (xK X) g u ++ sbW (xK X) sq sv N T) ++ lmW (xK X) h n (m, e, p)) K0 N0
theorem db_w0 {m : Mg} {n k : Nat} : debV m n k 0 = nI k := rfl
theorem db_w1 {m : Mg} {n k : Nat} : debV m n k 1 = m 2 k := rfl
theorem db_w2 {m : Mg} {n k : Nat} : debV m n k 2 = nI (lenM m n k) := rfl
theorem db_w3 {m : Mg} {n k : Nat} : debV m n k 3 = m 3 k := rfl

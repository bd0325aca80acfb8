def forG {α : Type} (f : Nat → α → α) : Nat → Nat → α → α
  | _, 0, x => x
  | i, k + 1, x => forG f (i + 1) k (f i x)
theorem forG_s {α : Type} {f : Nat → α → α} {x : α} {i b : Nat} (h : i < b) : forG f i (b - i) x = forG f (i + 1) (b - (i + 1)) (f i x) := by
  rw [show b - i = (b - (i + 1)) + 1 by omega]; rfl
theorem forG_0 {α : Type} {f : Nat → α → α} {x : α} {i b : Nat} (h : b ≤ i) : forG f i (b - i) x = x := by rw [show b - i = 0 by omega]; rfl
theorem forG_inv {α : Type} {f : Nat → α → α} (P : Nat → α → Prop) : ∀ (k i : Nat) (x : α), P i x → (∀ j y, i ≤ j → j < i + k → P j y → P (j + 1) (f j y)) → P (i + k) (forG f i k x)
  | 0, _, _, h, _ => h
  | k + 1, i, x, h, hs => by
    have := forG_inv P k (i + 1) (f i x) (hs i x (Nat.le_refl _) (by omega) h) (fun j y h1 h2 => hs j y (by omega) (by omega))
    rw [show i + (k + 1) = i + 1 + k by omega]
    exact this
theorem forG_congr {α : Type} {f g : Nat → α → α} : ∀ (k i : Nat) (x : α), (∀ j y, i ≤ j → j < i + k → f j y = g j y) → forG f i k x = forG g i k x
  | 0, _, _, _ => rfl
  | k + 1, i, x, h => by
    show forG f (i + 1) k (f i x) = forG g (i + 1) k (g i x)
    rw [h i x (Nat.le_refl _) (by omega), forG_congr k (i + 1) _ (fun j y h1 h2 => h j y (by omega) (by omega))]
/-- as forG_congr, under something that holds along the way -/
theorem forG_congrP {α : Type} {f g : Nat → α → α} (P : Nat → α → Prop) : ∀ (k i : Nat) (x : α), P i x → (∀ j y, i ≤ j → j < i + k → P j y → f j y = g j y ∧ P (j + 1) (f j y)) → forG f i k x = forG g i k x
  | 0, _, _, _, _ => rfl
  | k + 1, i, x, h0, h => by
    show forG f (i + 1) k (f i x) = forG g (i + 1) k (g i x)
    have h1 := h i x (Nat.le_refl _) (by omega) h0
    rw [← h1.1, forG_congrP P k (i + 1) _ h1.2 (fun j y a1 a2 => h j y (by omega) (by omega))]
theorem forG_last {α : Type} {f : Nat → α → α} : ∀ (k i : Nat) (x : α), forG f i (k + 1) x = f (i + k) (forG f i k x)
  | 0, _, _ => rfl
  | k + 1, i, x => by
    show forG f (i + 1) (k + 1) (f i x) = _
    rw [forG_last k (i + 1) (f i x), show i + 1 + k = i + (k + 1) by omega]
    rfl
theorem forG_add {α : Type} {f : Nat → α → α} : ∀ (a b i : Nat) (x : α), forG f i (a + b) x = forG f (i + a) b (forG f i a x)
  | 0, b, i, x => by rw [Nat.zero_add]; rfl
  | a + 1, b, i, x => by
    rw [show a + 1 + b = (a + b) + 1 by omega]
    show forG f (i + 1) (a + b) (f i x) = _
    rw [forG_add a b (i + 1), show i + 1 + a = i + (a + 1) by omega]
    rfl
/-- something that goes through every step goes through the loop -/
theorem forG_comm {α β : Type} {f : Nat → α → α} {g : Nat → β → β} (φ : α → β) : ∀ (k i : Nat) (x : α), (∀ j y, i ≤ j → j < i + k → φ (f j y) = g j (φ y)) → φ (forG f i k x) = forG g i k (φ x)
  | 0, _, _, _ => rfl
  | k + 1, i, x, h => by
    show φ (forG f (i + 1) k (f i x)) = forG g (i + 1) k (g i (φ x))
    rw [forG_comm φ k (i + 1) _ (fun j y h1 h2 => h j y (by omega) (by omega)), h i x (Nat.le_refl _) (by omega)]
/-- one loop of two parts is two loops -/
theorem forG_split {α : Type} {f g : Nat → α → α} (hc : ∀ i j x, ¬ i = j → g j (f i x) = f i (g j x)) : ∀ (k i : Nat) (x : α), forG (fun j x => g j (f j x)) i k x = forG g i k (forG f i k x)
  | 0, _, _ => rfl
  | k + 1, i, x => by
    show forG (fun j x => g j (f j x)) (i + 1) k (g i (f i x)) = forG g (i + 1) k (g i (forG f (i + 1) k (f i x)))
    rw [forG_split hc k (i + 1)]
    rw [forG_comm (f := f) (g := f) (g i) k (i + 1) (f i x) (fun j y h1 _ => hc j i y (by omega))]
theorem sG_s {g : G} {c : Nat} {f : Nat → Int32} : sG g c f c = f := if_pos rfl
theorem sG_o {g : G} {c c2 : Nat} {f : Nat → Int32} (h : ¬ c2 = c) : sG g c f c2 = g c2 := if_neg h
theorem upd_s {f : Nat → Int32} {j : Nat} {x : Int32} : upd f j x j = x := if_pos rfl
theorem upd_o {f : Nat → Int32} {j i : Nat} {x : Int32} (h : ¬ i = j) : upd f j x i = f i := if_neg h
theorem endM_c {m : Mg} {p c : Nat} (h2 : ¬ c = 2) (h3 : ¬ c = 3) : endM m p c = m c := by unfold endM prmM srcM; rw [sG_o h3, sG_o h2]
theorem endM_2 {m : Mg} {p : Nat} : endM m p 2 = upd (m 2) p (-1) := rfl
theorem endM_3 {m : Mg} {p : Nat} : endM m p 3 = upd (m 3) p (-1) := rfl
theorem accM_c {m : Mg} {k c : Nat} {x : Int32} (h : ¬ c = 6) : accM m k x c = m c := sG_o h
theorem cpM_c {m : Mg} {k c : Nat} (h : ¬ c = 6) : cpM m k c = m c := by
  unfold cpM
  split
  · rw [accM_c h, accM_c h]
  · split <;> rw [accM_c h, accM_c h]
theorem cpM_60 {m : Mg} {k : Nat} : cpM m k 6 0 = m 6 0 := by
  unfold cpM
  split
  · rfl
  · split <;> rfl
theorem noteM_c {m : Mg} {k p v : Int32} {c : Nat} (h0 : ¬ c = 0) (h7 : ¬ c = 7) : noteM m k p v c = m c := by
  unfold noteM
  split
  · rw [sG_o h0, sG_o h7]
  · rfl
theorem noteM_07 {m : Mg} {k p v : Int32} : noteM m k p v 0 7 = m 0 7 := by
  unfold noteM
  split <;> rfl
theorem EvOK.note {m : Mg} (h : EvOK m) (k p v : Int32) : EvOK (noteM m k p v) := by
  obtain ⟨e, h1, h2⟩ := h
  unfold noteM
  split
  · rename_i h3
    rw [evN_eq h2 h1] at h3 ⊢
    exact ⟨e + 1, by omega, rfl⟩
  · exact ⟨e, h1, h2⟩
theorem EvOK.of {m m2 : Mg} (h : EvOK m) (e : m2 0 8 = m 0 8) : EvOK m2 := by unfold EvOK; rw [e]; exact h
theorem payM_1 {k p : Nat} {m : Mg} : payM k m p 1 = upd (m 1) p (valM m p) := by unfold payM; rw [cpM_c (by decide), noteM_c (by decide) (by decide), endM_c (by decide) (by decide)]; rfl
theorem payM_2 {k p : Nat} {m : Mg} : payM k m p 2 = upd (m 2) p (-1) := by unfold payM; rw [cpM_c (by decide), noteM_c (by decide) (by decide), endM_2]; rfl
theorem payM_3 {k p : Nat} {m : Mg} : payM k m p 3 = upd (m 3) p (-1) := by unfold payM; rw [cpM_c (by decide), noteM_c (by decide) (by decide), endM_3]; rfl
theorem payM_4 {k p : Nat} {m : Mg} : payM k m p 4 = m 4 := by unfold payM; rw [cpM_c (by decide), noteM_c (by decide) (by decide), endM_c (by decide) (by decide)]; rfl
theorem payM_5 {k p : Nat} {m : Mg} : payM k m p 5 = m 5 := by unfold payM; rw [cpM_c (by decide), noteM_c (by decide) (by decide), endM_c (by decide) (by decide)]; rfl
theorem payM_07 {k p : Nat} {m : Mg} : payM k m p 0 7 = m 0 7 := by unfold payM; rw [cpM_c (by decide), noteM_07]; rfl
theorem payM_60 {k p : Nat} {m : Mg} : payM k m p 6 0 = m 6 0 := by unfold payM; rw [cpM_60, noteM_c (by decide) (by decide)]; rfl
theorem payM_ev {k p : Nat} {m : Mg} (h : EvOK m) : EvOK (payM k m p) := by
  unfold payM
  refine EvOK.of (m := noteM (endM (byteM m p (valM m p)) p) (nI k) (nI p) (valM m p)) ?_ (by rw [cpM_c (by decide)])
  exact EvOK.note (m := endM (byteM m p (valM m p)) p) (EvOK.of h rfl) _ _ _
/-- debts are only taken away -/
theorem IM_less {m m2 : Mg} {n : Nat} (hI : IM m n) (h7 : m2 0 7 = m 0 7) (h : ∀ p, p < n → m2 2 p = -1 ∨ m2 2 p = m 2 p) : IM m2 n := by
  obtain ⟨a1, a2, a3, rk, a4⟩ := hI
  refine ⟨by rw [h7, a1], a2, fun p hp => ?_, rk, fun p q hp hq e => ?_⟩
  · rcases h p hp with e | e
    · exact Or.inl e
    · rw [e]; exact a3 p hp
  · rcases h p hp with e2 | e2
    · rw [e2] at e; exact absurd e.symm (nI_nm1 (by omega))
    · rw [e2] at e; exact a4 p q hp hq e
/-- what no payment changes -/
def Fr (m m2 : Mg) : Prop := m2 0 7 = m 0 7 ∧ m2 4 = m 4 ∧ m2 5 = m 5 ∧ m2 6 0 = m 6 0 ∧ (EvOK m → EvOK m2)
theorem Fr.rfl {m : Mg} : Fr m m := ⟨Eq.refl _, Eq.refl _, Eq.refl _, Eq.refl _, id⟩
theorem Fr.trans {a b c : Mg} (h : Fr a b) (h2 : Fr b c) : Fr a c := ⟨h2.1.trans h.1, h2.2.1.trans h.2.1, h2.2.2.1.trans h.2.2.1, h2.2.2.2.1.trans h.2.2.2.1, fun e => h2.2.2.2.2 (h.2.2.2.2 e)⟩
/-- some places of n were paid -/
def Pd (n : Nat) (m m2 : Mg) : Prop := Fr m m2 ∧ ∀ p, p < n → (m2 2 p = -1 ∧ m2 1 p = valM m p) ∨ (m2 2 p = m 2 p ∧ m2 1 p = m 1 p ∧ m2 3 p = m 3 p)
theorem Pd.rfl {n : Nat} {m : Mg} : Pd n m m := ⟨Fr.rfl, fun _ _ => Or.inr ⟨Eq.refl _, Eq.refl _, Eq.refl _⟩⟩
theorem Pd.im {n : Nat} {m m2 : Mg} (h : Pd n m m2) (hI : IM m n) : IM m2 n := IM_less hI h.1.1 (fun p hp => (h.2 p hp).imp (fun x => x.1) (fun x => x.1))
theorem val_eq {m : Mg} {n p : Nat} (hI : IM m n) (hp : p < n) : valM m p = if m 2 p = -1 then m 1 p else valM m (src m p) := by
  unfold valM
  rw [root_eq hI hp]
  split <;> rfl
theorem Pd.val {n : Nat} {m m2 : Mg} (h : Pd n m m2) (hI : IM m n) : ∀ q, q < n → valM m2 q = valM m q := by
  refine IM_ind hI (fun p hp ih => ?_)
  rw [val_eq (h.im hI) hp]
  rcases h.2 p hp with ⟨e1, e2⟩ | ⟨e1, e2, e3⟩
  · rw [if_pos e1, e2]
  · rw [val_eq hI hp, e1, e2]
    by_cases ho : m 2 p = -1
    · rw [if_pos ho, if_pos ho]
    · rw [if_neg ho, if_neg ho, show src m2 p = src m p by unfold src; rw [e1]]; exact ih ho
theorem Pd.trans {n : Nat} {a b c : Mg} (hI : IM a n) (h : Pd n a b) (h2 : Pd n b c) : Pd n a c := by
  refine ⟨h.1.trans h2.1, fun p hp => ?_⟩
  rcases h2.2 p hp with ⟨e1, e2⟩ | ⟨e1, e2, e3⟩
  · exact Or.inl ⟨e1, by rw [e2, h.val hI p hp]⟩
  · rw [e1, e2, e3]; exact h.2 p hp
theorem payM_Pd {n k p : Nat} {m : Mg} (hp : p < n) : Pd n m (payM k m p) := by
  refine ⟨⟨payM_07, payM_4, payM_5, payM_60, payM_ev⟩, fun q hq => ?_⟩
  rw [payM_1, payM_2, payM_3]
  by_cases e : q = p
  · subst e; exact Or.inl ⟨upd_s, upd_s⟩
  · exact Or.inr ⟨upd_o e, upd_o e, upd_o e⟩
theorem payO_Pd {n k p : Nat} {m : Mg} (hp : p < n) : Pd n m (payO k m p) := by
  unfold payO
  split
  · exact payM_Pd hp
  · exact Pd.rfl
theorem owb_pay {k p j : Nat} {m : Mg} : owb (payM k m p) j = if j = p then false else owb m j := by
  unfold owb
  rw [payM_2]
  split
  · rename_i e; subst e; rw [upd_s]; rfl
  · rename_i e; rw [upd_o e]
theorem cntG_del {f g : Nat → Bool} {p : Nat} (hg : ∀ j, g j = if j = p then false else f j) (hf : f p = true) : ∀ (k i : Nat), i ≤ p → p < i + k → cntG g i k + 1 = cntG f i k
  | 0, i, h1, h2 => absurd h2 (by omega)
  | k + 1, i, h1, h2 => by
    show (if g i then 1 else 0) + cntG g (i + 1) k + 1 = (if f i then 1 else 0) + cntG f (i + 1) k
    by_cases e : i = p
    · subst e
      rw [hg i, if_pos rfl, hf, cntG_congr k (i + 1) (fun j h3 _ => by rw [hg j, if_neg (by omega)])]
      simp only [Bool.false_eq_true, if_false, if_true]
      omega
    · have := cntG_del hg hf k (i + 1) (by omega) (by omega)
      rw [hg i, if_neg e]
      omega
theorem cnt_pay {n k p : Nat} {m : Mg} (hp : p < n) (ho : owb m p = true) : cntG (owb (payM k m p)) 0 n + 1 = cntG (owb m) 0 n := cntG_del (fun _ => owb_pay) ho n 0 (by omega) (by omega)
theorem cntG_pos {f : Nat → Bool} : ∀ (k i : Nat), 0 < cntG f i k → ∃ j, i ≤ j ∧ j < i + k ∧ f j = true
  | 0, _, h => absurd h (by show ¬ 0 < 0; omega)
  | k + 1, i, h => by
    by_cases e : f i = true
    · exact ⟨i, Nat.le_refl _, by omega, e⟩
    · have h : 0 < (if f i then 1 else 0) + cntG f (i + 1) k := h
      rw [if_neg e, Nat.zero_add] at h
      obtain ⟨j, h1, h2, h3⟩ := cntG_pos k (i + 1) h
      exact ⟨j, by omega, by omega, h3⟩
theorem cntG_none {f : Nat → Bool} : ∀ (k i : Nat), (∀ j, i ≤ j → j < i + k → f j = false) → cntG f i k = 0
  | 0, _, _ => rfl
  | k + 1, i, h => by
    show (if f i then 1 else 0) + cntG f (i + 1) k = 0
    rw [h i (Nat.le_refl _) (by omega), cntG_none k (i + 1) (fun j h1 h2 => h j (by omega) (by omega))]; rfl
/-! which place is paid next -/
def rkM (m : Mg) (pol : Int32) (p : Nat) : Int := if pol = nI 0 then (m 3 p).toInt else if pol = nI 2 then -(hopsM m p : Int) else if pol = nI 3 then (hopsM m p : Int) else 0
def nstep (m : Mg) (pol : Int32) (i : Nat) (b : Option Nat) : Option Nat := if owb m i then (match b with | none => some i | some q => if rkM m pol i < rkM m pol q then some i else some q) else b
def nextM (m : Mg) (n : Nat) (pol : Int32) : Option Nat := forG (nstep m pol) 0 n none
theorem next_inv {m : Mg} {pol : Int32} (n : Nat) : (∀ q, nextM m n pol = some q → q < n ∧ owb m q = true) ∧ (nextM m n pol = none → ∀ j, j < n → owb m j = false) := by
  have h := forG_inv (f := nstep m pol) (fun i b => (∀ q, b = some q → q < i ∧ owb m q = true) ∧ (b = none → ∀ j, j < i → owb m j = false)) n 0 none ⟨fun q h => (by cases h), fun _ j hj => (by omega)⟩ (fun j b _ _ hb => by
    unfold nstep
    by_cases ho : owb m j = true
    · rw [if_pos ho]
      cases b with
      | none => exact ⟨fun q e => by cases e; exact ⟨by omega, ho⟩, fun e => by cases e⟩
      | some q0 =>
        have h0 := hb.1 q0 rfl
        dsimp only
        split
        · exact ⟨fun q e => by cases e; exact ⟨by omega, ho⟩, fun e => by cases e⟩
        · exact ⟨fun q e => by cases e; exact ⟨by omega, h0.2⟩, fun e => by cases e⟩
    · rw [if_neg ho]
      refine ⟨fun q e => ⟨by have := (hb.1 q e).1; omega, (hb.1 q e).2⟩, fun e i hi => ?_⟩
      by_cases hij : i = j
      · subst hij; simpa using ho
      · exact hb.2 e i (by omega))
  rw [Nat.zero_add] at h
  exact h
theorem next_some {m : Mg} {n : Nat} {pol : Int32} (h : 0 < cntG (owb m) 0 n) : ∃ q, nextM m n pol = some q ∧ q < n ∧ owb m q = true := by
  cases e : nextM m n pol with
  | some q => exact ⟨q, rfl, (next_inv n).1 q e⟩
  | none =>
    obtain ⟨j, _, h2, h3⟩ := cntG_pos n 0 h
    rw [(next_inv n).2 e j (by omega)] at h3
    cases h3
def payN (kind n : Nat) (m : Mg) : Mg := match nextM m n (m 5 2) with | none => m | some p => payM kind m p
theorem payN_Pd {n k : Nat} {m : Mg} : Pd n m (payN k n m) := by
  unfold payN
  cases e : nextM m n (m 5 2) with
  | none => exact Pd.rfl
  | some p => exact payM_Pd ((next_inv n).1 p e).1
theorem payN_cnt {n k : Nat} {m : Mg} : cntG (owb (payN k n m)) 0 n = cntG (owb m) 0 n - 1 := by
  unfold payN
  cases e : nextM m n (m 5 2) with
  | none =>
    have := cntG_none (f := owb m) n 0 (fun j _ h => (next_inv n).2 e j (by omega))
    dsimp only
    omega
  | some p =>
    have h1 := (next_inv n).1 p e
    have := cnt_pay (k := k) h1.1 h1.2
    dsimp only
    omega
/-- k payments in a row -/
def payK (kind n k : Nat) (m : Mg) : Mg := forG (fun _ m => payN kind n m) 0 k m
theorem payK_ok {kind n k : Nat} {m : Mg} (hI : IM m n) : Pd n m (payK kind n k m) ∧ cntG (owb (payK kind n k m)) 0 n = cntG (owb m) 0 n - k := by
  have h := forG_inv (f := fun _ m => payN kind n m) (fun i x => Pd n m x ∧ cntG (owb x) 0 n = cntG (owb m) 0 n - i) k 0 m ⟨Pd.rfl, rfl⟩ (fun j x _ _ hx => ⟨hx.1.trans hI payN_Pd, by rw [payN_cnt, hx.2]; omega⟩)
  rw [Nat.zero_add] at h
  exact h

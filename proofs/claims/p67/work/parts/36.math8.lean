/-! the reference's row of 640 numbers and a memory -/
def RowR (m : Mg) (f : Nat → Int32) : Prop := (∀ p, p < 96 → f p = m 1 p ∧ f (96 + p) = m 2 p ∧ f (192 + p) = m 3 p ∧ f (288 + p) = m 4 p) ∧ (∀ k, k < 5 → f (384 + k) = m 5 k) ∧ f 389 = m 6 0 ∧ (∀ k, k < 9 → f (390 + k) = m 6 k) ∧ f 399 = m 0 8 ∧ ∀ i, i < 3 * evN m → f (400 + i) = m 7 i
theorem RowR.b {m : Mg} {f : Nat → Int32} (h : RowR m f) {p : Nat} (hp : p < 96) : f p = m 1 p := (h.1 p hp).1
theorem RowR.b0 {m : Mg} {f : Nat → Int32} (h : RowR m f) {p : Nat} (hp : p < 96) : f (0 + p) = m 1 p := by rw [Nat.zero_add]; exact (h.1 p hp).1
theorem RowR.s {m : Mg} {f : Nat → Int32} (h : RowR m f) {p : Nat} (hp : p < 96) : f (96 + p) = m 2 p := (h.1 p hp).2.1
theorem RowR.r {m : Mg} {f : Nat → Int32} (h : RowR m f) {p : Nat} (hp : p < 96) : f (192 + p) = m 3 p := (h.1 p hp).2.2.1
theorem RowR.l {m : Mg} {f : Nat → Int32} (h : RowR m f) {p : Nat} (hp : p < 96) : f (288 + p) = m 4 p := (h.1 p hp).2.2.2
theorem RowR.t {m : Mg} {f : Nat → Int32} (h : RowR m f) {k : Nat} (hk : k < 5) : f (384 + k) = m 5 k := h.2.1 k hk
theorem RowR.c {m : Mg} {f : Nat → Int32} (h : RowR m f) : f 389 = m 6 0 := h.2.2.1
theorem RowR.a {m : Mg} {f : Nat → Int32} (h : RowR m f) {k : Nat} (hk : k < 9) : f (390 + k) = m 6 k := h.2.2.2.1 k hk
theorem RowR.n {m : Mg} {f : Nat → Int32} (h : RowR m f) : f 399 = m 0 8 := h.2.2.2.2.1
theorem RowR.e {m : Mg} {f : Nat → Int32} (h : RowR m f) {i : Nat} (hi : i < 3 * evN m) : f (400 + i) = m 7 i := h.2.2.2.2.2 i hi
theorem evN_of {m m2 : Mg} (h : m2 0 8 = m 0 8) : evN m2 = evN m := by unfold evN; rw [h]
/-- rows that read alike -/
theorem RowR.mono {m : Mg} {f f2 : Nat → Int32} (h : RowR m f) (e : ∀ k, k < 640 → f2 k = f k) (hE : EvOK m) : RowR m f2 := by
  obtain ⟨h1, h2, h3, h4, h5, h6⟩ := h
  have h80 : evN m ≤ 80 := by
    obtain ⟨x, a, b⟩ := hE
    rw [evN_eq b a]
    exact a
  exact ⟨fun p hp => ⟨(e _ (by omega)).trans (h1 p hp).1, (e _ (by omega)).trans (h1 p hp).2.1, (e _ (by omega)).trans (h1 p hp).2.2.1, (e _ (by omega)).trans (h1 p hp).2.2.2⟩, fun k hk => (e _ (by omega)).trans (h2 k hk), (e _ (by omega)).trans h3, fun k hk => (e _ (by omega)).trans (h4 k hk), (e _ (by omega)).trans h5, fun i hi => (e _ (by omega)).trans (h6 i hi)⟩
theorem Row_byte {m : Mg} {f : Nat → Int32} {p : Nat} {v : Int32} (h : RowR m f) (hp : p < 96) : RowR (byteM m p v) (upd f p v) := by
  obtain ⟨h1, h2, h3, h4, h5, h6⟩ := h
  refine ⟨fun q hq => ⟨?_, by rw [upd_o (by omega)]; exact (h1 q hq).2.1, by rw [upd_o (by omega)]; exact (h1 q hq).2.2.1, by rw [upd_o (by omega)]; exact (h1 q hq).2.2.2⟩, fun k hk => by rw [upd_o (by omega)]; exact h2 k hk, by rw [upd_o (by omega)]; exact h3, fun k hk => by rw [upd_o (by omega)]; exact h4 k hk, by rw [upd_o (by omega)]; exact h5, fun i hi => by rw [upd_o (by omega)]; exact h6 i hi⟩
  show upd f p v q = upd (m 1) p v q
  by_cases e : q = p
  · subst e; rw [upd_s, upd_s]
  · rw [upd_o e, upd_o e]; exact (h1 q hq).1
theorem Row_src {m : Mg} {f : Nat → Int32} {p : Nat} {v : Int32} (h : RowR m f) (hp : p < 96) : RowR (srcM m p v) (upd f (96 + p) v) := by
  obtain ⟨h1, h2, h3, h4, h5, h6⟩ := h
  refine ⟨fun q hq => ⟨by rw [upd_o (by omega)]; exact (h1 q hq).1, ?_, by rw [upd_o (by omega)]; exact (h1 q hq).2.2.1, by rw [upd_o (by omega)]; exact (h1 q hq).2.2.2⟩, fun k hk => by rw [upd_o (by omega)]; exact h2 k hk, by rw [upd_o (by omega)]; exact h3, fun k hk => by rw [upd_o (by omega)]; exact h4 k hk, by rw [upd_o (by omega)]; exact h5, fun i hi => by rw [upd_o (by omega)]; exact h6 i hi⟩
  show upd f (96 + p) v (96 + q) = upd (m 2) p v q
  by_cases e : q = p
  · subst e; rw [upd_s, upd_s]
  · rw [upd_o (by omega), upd_o e]; exact (h1 q hq).2.1
theorem Row_prm {m : Mg} {f : Nat → Int32} {p : Nat} {v : Int32} (h : RowR m f) (hp : p < 96) : RowR (prmM m p v) (upd f (192 + p) v) := by
  obtain ⟨h1, h2, h3, h4, h5, h6⟩ := h
  refine ⟨fun q hq => ⟨by rw [upd_o (by omega)]; exact (h1 q hq).1, by rw [upd_o (by omega)]; exact (h1 q hq).2.1, ?_, by rw [upd_o (by omega)]; exact (h1 q hq).2.2.2⟩, fun k hk => by rw [upd_o (by omega)]; exact h2 k hk, by rw [upd_o (by omega)]; exact h3, fun k hk => by rw [upd_o (by omega)]; exact h4 k hk, by rw [upd_o (by omega)]; exact h5, fun i hi => by rw [upd_o (by omega)]; exact h6 i hi⟩
  show upd f (192 + p) v (192 + q) = upd (m 3) p v q
  by_cases e : q = p
  · subst e; rw [upd_s, upd_s]
  · rw [upd_o (by omega), upd_o e]; exact (h1 q hq).2.2.1
theorem Row_lck {m : Mg} {f : Nat → Int32} {p : Nat} {v : Int32} (h : RowR m f) (hp : p < 96) : RowR (lckM m p v) (upd f (288 + p) v) := by
  obtain ⟨h1, h2, h3, h4, h5, h6⟩ := h
  refine ⟨fun q hq => ⟨by rw [upd_o (by omega)]; exact (h1 q hq).1, by rw [upd_o (by omega)]; exact (h1 q hq).2.1, by rw [upd_o (by omega)]; exact (h1 q hq).2.2.1, ?_⟩, fun k hk => by rw [upd_o (by omega)]; exact h2 k hk, by rw [upd_o (by omega)]; exact h3, fun k hk => by rw [upd_o (by omega)]; exact h4 k hk, by rw [upd_o (by omega)]; exact h5, fun i hi => by rw [upd_o (by omega)]; exact h6 i hi⟩
  show upd f (288 + p) v (288 + q) = upd (m 4) p v q
  by_cases e : q = p
  · subst e; rw [upd_s, upd_s]
  · rw [upd_o (by omega), upd_o e]; exact (h1 q hq).2.2.2
theorem Row_set {m : Mg} {f : Nat → Int32} {k : Nat} {v : Int32} (h : RowR m f) (hk : k < 5) : RowR (setM m k v) (upd f (384 + k) v) := by
  obtain ⟨h1, h2, h3, h4, h5, h6⟩ := h
  refine ⟨fun q hq => ⟨by rw [upd_o (by omega)]; exact (h1 q hq).1, by rw [upd_o (by omega)]; exact (h1 q hq).2.1, by rw [upd_o (by omega)]; exact (h1 q hq).2.2.1, by rw [upd_o (by omega)]; exact (h1 q hq).2.2.2⟩, fun q hq => ?_, by rw [upd_o (by omega)]; exact h3, fun k hk => by rw [upd_o (by omega)]; exact h4 k hk, by rw [upd_o (by omega)]; exact h5, fun i hi => by rw [upd_o (by omega)]; exact h6 i hi⟩
  show upd f (384 + k) v (384 + q) = upd (m 5) k v q
  by_cases e : q = k
  · subst e; rw [upd_s, upd_s]
  · rw [upd_o (by omega), upd_o e]; exact h2 q hq
theorem Row_acc {m : Mg} {f : Nat → Int32} {k : Nat} {x : Int32} (h : RowR m f) (hk : k < 9) (h0 : 0 < k) : RowR (accM m k x) (upd f (390 + k) (m 6 k + x)) := by
  obtain ⟨h1, h2, h3, h4, h5, h6⟩ := h
  refine ⟨fun q hq => ⟨by rw [upd_o (by omega)]; exact (h1 q hq).1, by rw [upd_o (by omega)]; exact (h1 q hq).2.1, by rw [upd_o (by omega)]; exact (h1 q hq).2.2.1, by rw [upd_o (by omega)]; exact (h1 q hq).2.2.2⟩, fun q hq => by rw [upd_o (by omega)]; exact h2 q hq, ?_, fun q hq => ?_, by rw [upd_o (by omega)]; exact h5, fun i hi => by rw [upd_o (by omega)]; exact h6 i hi⟩
  · rw [upd_o (by omega)]
    show f 389 = upd (m 6) k (m 6 k + x) 0
    rw [upd_o (by omega)]
    exact h3
  · show upd f (390 + k) (m 6 k + x) (390 + q) = upd (m 6) k (m 6 k + x) q
    by_cases e : q = k
    · subst e; rw [upd_s, upd_s]
    · rw [upd_o (by omega), upd_o e]; exact h4 q hq
theorem Row_acc0 {m : Mg} {f : Nat → Int32} {x y z : Int32} (h : RowR m f) (hy : y = m 6 0 + x) (hz : z = m 6 0 + x) : RowR (accM m 0 x) (upd (upd f 389 y) 390 z) := by
  obtain ⟨h1, h2, h3, h4, h5, h6⟩ := h
  subst hy hz
  refine ⟨fun q hq => ⟨by rw [upd_o (by omega), upd_o (by omega)]; exact (h1 q hq).1, by rw [upd_o (by omega), upd_o (by omega)]; exact (h1 q hq).2.1, by rw [upd_o (by omega), upd_o (by omega)]; exact (h1 q hq).2.2.1, by rw [upd_o (by omega), upd_o (by omega)]; exact (h1 q hq).2.2.2⟩, fun q hq => by rw [upd_o (by omega), upd_o (by omega)]; exact h2 q hq, ?_, fun q hq => ?_, by rw [upd_o (by omega), upd_o (by omega)]; exact h5, fun i hi => by rw [upd_o (by omega), upd_o (by omega)]; exact h6 i hi⟩
  · rw [upd_o (by omega), upd_s]
    show m 6 0 + x = upd (m 6) 0 (m 6 0 + x) 0
    rw [upd_s]
  · show upd (upd f 389 _) 390 (m 6 0 + x) (390 + q) = upd (m 6) 0 (m 6 0 + x) q
    by_cases e : q = 0
    · subst e; rw [upd_s, upd_s]
    · rw [upd_o (by omega), upd_o (by omega), upd_o e]; exact h4 q hq
theorem Row_note {m : Mg} {f : Nat → Int32} {e : Nat} {k p v : Int32} (h : RowR m f) (h8 : m 0 8 = nI e) (he : e < 80) : RowR (noteM m k p v) (upd (upd (upd (upd f (400 + 3 * e) k) (400 + 3 * e + 1) p) (400 + 3 * e + 2) v) 399 (nI (e + 1))) := by
  have hev := evN_eq h8 (by omega)
  obtain ⟨h1, h2, h3, h4, h5, h6⟩ := h
  unfold noteM
  rw [hev, if_pos he]
  have u : ∀ j, j < 400 → ¬ j = 399 → upd (upd (upd (upd f (400 + 3 * e) k) (400 + 3 * e + 1) p) (400 + 3 * e + 2) v) 399 (nI (e + 1)) j = f j := fun j hj h9 => by
    rw [upd_o h9, upd_o (by omega), upd_o (by omega), upd_o (by omega)]
  refine ⟨fun q hq => ⟨(u _ (by omega) (by omega)).trans (h1 q hq).1, (u _ (by omega) (by omega)).trans (h1 q hq).2.1, (u _ (by omega) (by omega)).trans (h1 q hq).2.2.1, (u _ (by omega) (by omega)).trans (h1 q hq).2.2.2⟩, fun q hq => (u _ (by omega) (by omega)).trans (h2 q hq), (u _ (by omega) (by omega)).trans h3, fun q hq => (u _ (by omega) (by omega)).trans (h4 q hq), upd_s, fun i hi => ?_⟩
  have hi : i < 3 * (e + 1) := by
    have z : evN (sG (sG m 7 (upd (upd (upd (m 7) (e * 3) k) (e * 3 + 1) p) (e * 3 + 2) v)) 0 (upd (m 0) 8 (nI (e + 1)))) = e + 1 := evN_eq (show upd (m 0) 8 (nI (e + 1)) 8 = nI (e + 1) from upd_s) (by omega)
    rw [← z]
    exact hi
  rw [upd_o (by omega)]
  show upd (upd (upd f (400 + 3 * e) k) (400 + 3 * e + 1) p) (400 + 3 * e + 2) v (400 + i) = upd (upd (upd (m 7) (e * 3) k) (e * 3 + 1) p) (e * 3 + 2) v i
  by_cases c2 : i = e * 3 + 2
  · subst c2; rw [show 400 + (e * 3 + 2) = 400 + 3 * e + 2 by omega, upd_s, upd_s]
  rw [upd_o (by omega), upd_o c2]
  by_cases c1 : i = e * 3 + 1
  · subst c1; rw [show 400 + (e * 3 + 1) = 400 + 3 * e + 1 by omega, upd_s, upd_s]
  rw [upd_o (by omega), upd_o c1]
  by_cases c0 : i = e * 3
  · subst c0; rw [show 400 + e * 3 = 400 + 3 * e by omega, upd_s, upd_s]
  rw [upd_o (by omega), upd_o c0]
  exact h6 i (by rw [hev]; omega)
theorem Row_note80 {m : Mg} {f : Nat → Int32} {k p v : Int32} (h : RowR m f) (h8 : m 0 8 = nI 80) : RowR (noteM m k p v) f := by
  have hev := evN_eq h8 (by omega)
  unfold noteM
  rw [hev, if_neg (by omega)]
  exact h
theorem sG_comm {g : G} {a b : Nat} {x y : Nat → Int32} (h : ¬ a = b) : sG (sG g a x) b y = sG (sG g b y) a x := by
  funext c
  unfold sG
  by_cases e : c = b
  · subst e
    rw [if_pos rfl, if_neg (fun z => h z.symm), if_pos rfl]
  · rw [if_neg e]
    by_cases e2 : c = a
    · rw [if_pos e2, if_pos e2]
    · rw [if_neg e2, if_neg e2, if_neg e]
theorem note_acc {m : Mg} {k : Nat} {x a b c : Int32} : noteM (accM m k x) a b c = accM (noteM m a b c) k x := by
  unfold noteM
  have e : evN (accM m k x) = evN m := rfl
  rw [e]
  split
  · show sG (sG (sG m 6 (upd (m 6) k (m 6 k + x))) 7 (upd (upd (upd (m 7) (evN m * 3) a) (evN m * 3 + 1) b) (evN m * 3 + 2) c)) 0 (upd (m 0) 8 (nI (evN m + 1))) = sG (sG (sG m 7 (upd (upd (upd (m 7) (evN m * 3) a) (evN m * 3 + 1) b) (evN m * 3 + 2) c)) 0 (upd (m 0) 8 (nI (evN m + 1)))) 6 (upd (m 6) k (m 6 k + x))
    rw [sG_comm (a := 6) (b := 7) (by decide), sG_comm (a := 6) (b := 0) (by decide)]
  · rfl
theorem note_cp {m : Mg} {k : Nat} {a b c : Int32} : noteM (cpM m k) a b c = cpM (noteM m a b c) k := by
  unfold cpM
  split
  · rw [note_acc, note_acc]
  · split <;> rw [note_acc, note_acc]
theorem Row_cp {m : Mg} {f : Nat → Int32} {k : Nat} (h : RowR m f) (hk : k = 1 ∨ k = 2 ∨ k = 3) : RowR (cpM m k) (upd (upd f (391 + k) (m 6 (k + 1) + nI 1)) 397 (m 6 7 + (if k = 1 then nI 1 else if k = 2 then nI 3 else nI 2))) := by
  rcases hk with rfl | rfl | rfl
  · exact Row_acc (k := 7) (Row_acc (k := 2) h (by decide) (by decide)) (by decide) (by decide)
  · exact Row_acc (k := 7) (Row_acc (k := 3) h (by decide) (by decide)) (by decide) (by decide)
  · exact Row_acc (k := 7) (Row_acc (k := 4) h (by decide) (by decide)) (by decide) (by decide)
/-! ranges -/
theorem anyG_set {f g : Nat → Bool} (k i : Nat) (h : ∀ j, i ≤ j → j < i + k → f j = g j) : anyG f i k = anyG g i k := anyG_congr k i h
/-- a loop over all places that does something inside a range alone is a loop over the range -/
theorem forG_range {α : Type} {f : Nat → α → α} {g : Nat → α → α} {a b n : Nat} (hab : a ≤ b + 1) (hb : b < n) (hin : ∀ j x, a ≤ j → j ≤ b → f j x = g j x) (hout : ∀ j x, (j < a ∨ b < j) → f j x = x) (x : α) : forG f 0 n x = forG g a (b + 1 - a) x := by
  have h0 : ∀ k i (x : α), (∀ j, i ≤ j → j < i + k → (j < a ∨ b < j)) → forG f i k x = x := by
    intro k
    induction k with
    | zero => intro i x _; rfl
    | succ k ih =>
      intro i x hq
      show forG f (i + 1) k (f i x) = x
      rw [hout i x (hq i (Nat.le_refl _) (by omega))]
      exact ih (i + 1) x (fun j h1 h2 => hq j (by omega) (by omega))
  rw [show n = a + ((b + 1 - a) + (n - (b + 1))) by omega, forG_add, forG_add, h0 a 0 x (fun j h1 h2 => Or.inl (by omega)), Nat.zero_add]
  rw [h0 (n - (b + 1)) _ _ (fun j h1 h2 => Or.inr (by omega))]
  exact forG_congr _ _ _ (fun j y h1 h2 => hin j y h1 (by omega))
theorem drp_row {n a b : Nat} {m : Mg} (hab : a ≤ b + 1) (hb : b < n) : drpM (rowT a b) n m = forG (fun p y => dropO y p) a (b + 1 - a) m := by
  refine forG_range hab hb (fun j x h1 h2 => ?_) (fun j x h => ?_) m
  · unfold drpS
    rw [if_pos (by unfold rowT; exact decide_eq_true ⟨h1, h2⟩)]
  · unfold drpS
    rw [if_neg (by unfold rowT; rw [decide_eq_false (by omega)]; exact Bool.false_ne_true)]
theorem src_nI {m : Mg} {n p : Nat} (hI : IM m n) (hp : p < n) : (owb m p = true ∧ m 2 p = nI (src m p) ∧ src m p < n) ∨ (owb m p = false ∧ m 2 p = -1) := by
  by_cases h : m 2 p = -1
  · exact Or.inr ⟨owb_f.mpr h, h⟩
  · obtain ⟨h1, h2⟩ := IM_src hI hp h
    exact Or.inl ⟨owb_t.mpr h, h2, h1⟩

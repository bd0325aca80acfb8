/-! THE CLASS'S OBJECT BESIDE THE LAW'S MEMORY -/
/-- the object stands at memory m -/
def GU (m : Mg) (u : Cg) : Prop := ∃ (s : G) (ex : G × Mg) (rr : Rg) (hh : Hg) (sl : Nat → Mg) (tx : G) (L : List Mg), u = ((s, m), ex, rr, hh, sl, tx) ∧ HS L hh
/-- .. and its text is T -/
def GT (m : Mg) (T : List Int32) (u : Cg) : Prop := ∃ (s : G) (ex : G × Mg) (rr : Rg) (hh : Hg) (sl : Nat → Mg) (tx : G) (L : List Mg), u = ((s, m), ex, rr, hh, sl, tx) ∧ HS L hh ∧ TX T tx
theorem GT.gu {m : Mg} {T : List Int32} {u : Cg} (h : GT m T u) : GU m u := by
  obtain ⟨s, ex, rr, hh, sl, tx, L, e, h1, -⟩ := h
  exact ⟨s, ex, rr, hh, sl, tx, L, e, h1⟩
theorem cS_0 {κ : Kp} {h : Nat → Nat} {u : Cg} : (cS κ h u)[0]? = some (h 0, .inr (5, [.ref (h 1), .ref (h 13), .ref (h 25), .ref (h 39), .ref (h 105), .ref (h 122)])) := rfl
theorem no3 {e : String} {cd : List (Bool × Nat)} (h : cdL cd = 0) (z : Th3 e (cdL cd)) : False := by
  rw [h] at z
  rcases z with ⟨-, z⟩ | ⟨-, z⟩ | ⟨-, z⟩ <;> cases z
theorem noA {e : String} {cd : List (Bool × Nat)} (h : cdL cd = 0) (z : ThA e (cdL cd)) : False := by
  rw [h] at z
  rcases z with ⟨-, z⟩ | ⟨-, z⟩ <;> cases z
theorem noU {e : String} {cd : List (Bool × Nat)} (h : cdL cd = 0) (z : ThU e (cdL cd)) : False := by
  rw [h] at z
  cases z.2
theorem noO {e : String} {cd : List (Bool × Nat)} (h : cdL cd = 0) (z : ThO e (cdL cd)) : False := by
  rw [h] at z
  cases z.2
theorem cd_0 {n : Nat} (h1 : ¬ n = 0) : cdL [(decide (n = 0), 1)] = 0 := by rw [cdL_f (decide_eq_false h1)]; rfl
theorem cd_p {n p k : Nat} (h1 : ¬ n = 0) (hp : p < n) (h31 : n < 2 ^ 31) : cdL [(decide (n = 0), 1), (!plB n (nI p), k)] = 0 := by
  rw [cdL_f (decide_eq_false h1), cdL_f (by rw [pl_n (by omega), decide_eq_true hp]; rfl)]
  rfl
theorem inB_n {j : Nat} {a b : Int} (h1 : a ≤ j) (h2 : (j : Int) ≤ b) (h3 : j < 2 ^ 31) : inB (nI j) a b = true := inB_mk (by rw [nI_toInt h3]; exact h1) (by rw [nI_toInt h3]; exact h2)
theorem cd_i {n j k : Nat} {a b : Int} (h1 : ¬ n = 0) (ha : a ≤ j) (hb : (j : Int) ≤ b) (h3 : j < 2 ^ 31) : cdL [(decide (n = 0), 1), (!inB (nI j) a b, k)] = 0 := by
  rw [cdL_f (decide_eq_false h1), cdL_f (by rw [inB_n ha hb h3]; rfl)]
  rfl
/-- the source as the class says it -/
theorem src_at {m : Mg} {n j : Nat} (hI : IM m n) (hj : j < n) (ho : ¬ m 2 j = -1) : m 2 j = nI (src m j) := by
  rcases hI.2.2.1 j hj with h | ⟨q, hq, e⟩
  · exact absurd h ho
  · unfold src
    rw [e, nI_toInt (by have := hI.2.1; omega)]
    rfl
theorem exN_S : EIS = EIS := rfl
theorem ts_E {e : String} {k : Nat} (z : Th3 e k) : e = EIS ∨ e = EIO ∨ e = EIA := by
  rcases z with ⟨h, -⟩ | ⟨h, -⟩ | ⟨h, -⟩
  · exact Or.inl h
  · exact Or.inr (Or.inl h)
  · exact Or.inr (Or.inr h)
theorem tA_E {e : String} {k : Nat} (z : ThA e k) : e = EIS ∨ e = EIO ∨ e = EIA := by
  rcases z with ⟨h, -⟩ | ⟨h, -⟩
  · exact Or.inl h
  · exact Or.inr (Or.inr h)
theorem tU_E {e : String} {k : Nat} (z : ThU e k) : e = EIS ∨ e = EIO ∨ e = EIA := Or.inl z.1
theorem tO_E {e : String} {k : Nat} (z : ThO e k) : e = EIS ∨ e = EIO ∨ e = EIA := Or.inr (Or.inl z.1)
theorem map_getD {T : List Nat} {j : Nat} : (T.map nI).getD j 0 = nI (T.getD j 0) := by
  rw [List.getD_eq_getElem?_getD, List.getD_eq_getElem?_getD, List.getElem?_map]
  cases T[j]? <;> rfl

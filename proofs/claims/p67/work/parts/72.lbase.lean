/-! THE CLASS'S OBJECT BESIDE THE LAW'S MEMORY -/
/-- the object stands at memory m -/
def GU (m : Mg) (u : Cg) : Prop := ∃ (s : G) (ex : G × Mg) (rr : Rg) (hh : Hg) (sl : Nat → Mg) (tx : G) (L : List Mg), u = ((s, m), ex, rr, hh, sl, tx) ∧ HS L hh
/-- .. and its text is T -/
def GT (m : Mg) (T : List Int32) (u : Cg) : Prop := ∃ (s : G) (ex : G × Mg) (rr : Rg) (hh : Hg) (sl : Nat → Mg) (tx : G) (L : List Mg), u = ((s, m), ex, rr, hh, sl, tx) ∧ HS L hh ∧ TX T tx
theorem GT.gu {m : Mg} {T : List Int32} {u : Cg} (h : GT m T u) : GU m u := by
  obtain ⟨s, ex, rr, hh, sl, tx, L, e, h1, -⟩ := h
  exact ⟨s, ex, rr, hh, sl, tx, L, e, h1⟩
theorem cS_0 {κ : Kp} {h : Nat → Nat} {u : Cg} : (cS κ h u)[0]? = some (h 0, .inr (5, [.ref (h 1), .ref (h 13), .ref (h 25), .ref (h 39), .ref (h 105), .ref (h 122)])) := rfl
theorem no3 {e : String} {cd : List (Bool × Nat)} (h : cdL cd = 0) (z : Th3 e (cdL cd)) : False := by
  rw [h] at z
  rcases z with ⟨-, z⟩ | ⟨-, z⟩ | ⟨-, z⟩ <;> cases z
theorem noA {e : String} {cd : List (Bool × Nat)} (h : cdL cd = 0) (z : ThA e (cdL cd)) : False := by
  rw [h] at z
  rcases z with ⟨-, z⟩ | ⟨-, z⟩ <;> cases z
theorem noU {e : String} {cd : List (Bool × Nat)} (h : cdL cd = 0) (z : ThU e (cdL cd)) : False := by
  rw [h] at z
  cases z.2
theorem noO {e : String} {cd : List (Bool × Nat)} (h : cdL cd = 0) (z : ThO e (cdL cd)) : False := by
  rw [h] at z
  cases z.2
theorem cd_0 {n : Nat} (h1 : ¬ n = 0) : cdL [(decide (n = 0), 1)] = 0 := by rw [cdL_f (decide_eq_false h1)]; rfl
theorem cd_p {n p k : Nat} (h1 : ¬ n = 0) (hp : p < n) (h31 : n < 2 ^ 31) : cdL [(decide (n = 0), 1), (!plB n (nI p), k)] = 0 := by
  rw [cdL_f (decide_eq_false h1), cdL_f (by rw [pl_n (by omega), decide_eq_true hp]; rfl)]
  rfl
theorem inB_n {j : Nat} {a b : Int} (h1 : a ≤ j) (h2 : (j : Int) ≤ b) (h3 : j < 2 ^ 31) : inB (nI j) a b = true := inB_mk (by rw [nI_toInt h3]; exact h1) (by rw [nI_toInt h3]; exact h2)
theorem cd_i {n j k : Nat} {a b : Int} (h1 : ¬ n = 0) (ha : a ≤ j) (hb : (j : Int) ≤ b) (h3 : j < 2 ^ 31) : cdL [(decide (n = 0), 1), (!inB (nI j) a b, k)] = 0 := by
  rw [cdL_f (decide_eq_false h1), cdL_f (by rw [inB_n ha hb h3]; rfl)]
  rfl
/-- the source as the class says it -/
theorem src_at {m : Mg} {n j : Nat} (hI : IM m n) (hj : j < n) (ho : ¬ m 2 j = -1) : m 2 j = nI (src m j) := by
  rcases hI.2.2.1 j hj with h | ⟨q, hq, e⟩
  · exact absurd h ho
  · unfold src
    rw [e, nI_toInt (by have := hI.2.1; omega)]
    rfl
theorem exN_S : EIS = EIS := rfl
theorem ts_E {e : String} {k : Nat} (z : Th3 e k) : e = EIS ∨ e = EIO ∨ e = EIA := by
  rcases z with ⟨h, -⟩ | ⟨h, -⟩ | ⟨h, -⟩
  · exact Or.inl h
  · exact Or.inr (Or.inl h)
  · exact Or.inr (Or.inr h)
theorem tA_E {e : String} {k : Nat} (z : ThA e k) : e = EIS ∨ e = EIO ∨ e = EIA := by
  rcases z with ⟨h, -⟩ | ⟨h, -⟩
  · exact Or.inl h
  · exact Or.inr (Or.inr h)
theorem tU_E {e : String} {k : Nat} (z : ThU e k) : e = EIS ∨ e = EIO ∨ e = EIA := Or.inl z.1
theorem tO_E {e : String} {k : Nat} (z : ThO e k) : e = EIS ∨ e = EIO ∨ e = EIA := Or.inr (Or.inl z.1)
theorem map_getD {T : List Nat} {j : Nat} : (T.map nI).getD j 0 = nI (T.getD j 0) := by
  rw [List.getD_eq_getElem?_getD, List.getD_eq_getElem?_getD, List.getElem?_map]
  cases T[j]? <;> rfl
theorem cd_r {n a b : Nat} (h1 : ¬ n = 0) (hab : a ≤ b) (hb : b < n) (h31 : n < 2 ^ 31) : cdL [(decide (n = 0), 1), (!plB n (nI a), 2), (!plB n (nI b), 2), (decide ((nI b).toInt < (nI a).toInt), 3)] = 0 := by
  rw [cdL_f (decide_eq_false h1), cdL_f (by rw [pl_n (by omega), decide_eq_true (by omega)]; rfl), cdL_f (by rw [pl_n (by omega), decide_eq_true hb]; rfl), cdL_f (by rw [nI_toInt (by omega), nI_toInt (by omega)]; exact decide_eq_false (by omega))]
  rfl
theorem cd_f {n a b v : Nat} {z : Bool} (h1 : ¬ n = 0) (hab : a ≤ b) (hb : b < n) (h31 : n < 2 ^ 31) (hv : v < 256) : cdL [(decide (n = 0), 1), (!plB n (nI a), 2), (!plB n (nI b), 2), (decide ((nI b).toInt < (nI a).toInt), 3), (!inB (nI v) 0 255, 3), (z, 3)] = if z then 3 else 0 := by
  rw [cdL_f (decide_eq_false h1), cdL_f (by rw [pl_n (by omega), decide_eq_true (by omega)]; rfl), cdL_f (by rw [pl_n (by omega), decide_eq_true hb]; rfl), cdL_f (by rw [nI_toInt (by omega), nI_toInt (by omega)]; exact decide_eq_false (by omega)), cdL_f (by rw [inB_n (by omega) (by omega) (by omega)]; rfl)]
  rfl
theorem owb_payN {k p q : Nat} {m : Mg} (h : ¬ q = p) : owb (payM k m p) q = owb m q := by
  rw [owb_pay, if_neg h]
theorem LI.pd {n : Nat} {m m2 : Mg} (h : LI n m) (hp : Pd n m m2) : LI n m2 := by
  obtain ⟨h14, ⟨c, hM, hc⟩, h3, h4⟩ := h
  have e5 : m2 5 = m 5 := hp.1.2.2.1
  exact ⟨h14, ⟨c, hM.pd hp, hc⟩, by rw [e5]; exact h3, by rw [e5]; exact h4⟩
theorem LI.fill {n a b v : Nat} {m : Mg} (h : LI n m) (hv : v < 256) : LI n (fillM n a b (nI v) m).2 := by
  obtain ⟨h14, ⟨c, hM, hc⟩, h3, h4⟩ := h
  have e5 := (fill_5 (a := a) (b := b) (v := nI v) hM.1).1
  exact ⟨h14, ⟨c, hM.fill hv, hc⟩, by rw [e5]; exact h3, by rw [e5]; exact h4⟩
theorem payO_t {k p : Nat} {m : Mg} (h : owb m p = true) : payO k m p = payM k m p := if_pos h
theorem payO_f {k p : Nat} {m : Mg} (h : owb m p = false) : payO k m p = m := if_neg (by rw [h]; exact Bool.false_ne_true)
theorem cd_Fs {n a b v : Nat} {m : Mg} {z : Bool} (h1 : ¬ n = 0) (hab : a ≤ b) (hb : b < n) (h31 : n < 2 ^ 31) (hv : v < 256) (hz : anyG (lockB m) a (b + 1 - a) = z) : cdL [(decide (n = 0), 1), (!plB n (nI a), 2), (!plB n (nI b), 2), (decide ((nI b).toInt < (nI a).toInt), 3), (!inB (nI v) 0 255, 3), (anyG (lockB m) (tN (nI a)) (tN (nI b) + 1 - tN (nI a)), 3)] = if z then 3 else 0 := by
  rw [tN_nI (by omega), tN_nI (by omega), hz]
  exact cd_f h1 hab hb h31 hv
theorem cd_Ft {n a b v : Nat} {m : Mg} (h1 : ¬ n = 0) (hab : a ≤ b) (hb : b < n) (h31 : n < 2 ^ 31) (hv : v < 256) (hz : anyG (lockB m) a (b + 1 - a) = true) : cdL [(decide (n = 0), 1), (!plB n (nI a), 2), (!plB n (nI b), 2), (decide ((nI b).toInt < (nI a).toInt), 3), (!inB (nI v) 0 255, 3), (anyG (lockB m) (tN (nI a)) (tN (nI b) + 1 - tN (nI a)), 3)] = 3 := (cd_Fs h1 hab hb h31 hv hz).trans rfl
theorem cd_Ff {n a b v : Nat} {m : Mg} (h1 : ¬ n = 0) (hab : a ≤ b) (hb : b < n) (h31 : n < 2 ^ 31) (hv : v < 256) (hz : anyG (lockB m) a (b + 1 - a) = false) : cdL [(decide (n = 0), 1), (!plB n (nI a), 2), (!plB n (nI b), 2), (decide ((nI b).toInt < (nI a).toInt), 3), (!inB (nI v) 0 255, 3), (anyG (lockB m) (tN (nI a)) (tN (nI b) + 1 - tN (nI a)), 3)] = 0 := (cd_Fs h1 hab hb h31 hv hz).trans rfl

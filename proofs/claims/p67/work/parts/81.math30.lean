/-! READS OF VALUES: shares and means, events, texts, rows -/
theorem fp_0n : Jvm.FP.Core.val64 0 ≠ .nan := (Jvm.FP.Core.ne_nan 0).mpr (by decide)
theorem fp_dn {a b : Int32} (h : ¬ b = 0) : Jvm.FP.Core.val64 (FP.ddiv (FP.i2d a) (FP.i2d b)) ≠ .nan := by
  show Jvm.FP.Core.val64 (Jvm.FP.Core.ddiv (Jvm.FP.Core.i2d a) (Jvm.FP.Core.i2d b)) ≠ .nan
  rw [Jvm.FP.Core.val64_ddiv]
  intro z
  rw [Jvm.FP.Core.quotient_nan] at z
  obtain ⟨s1, c1, q1, e1⟩ := Jvm.FP.Core.i2d_fin a
  obtain ⟨s2, c2, q2, e2⟩ := Jvm.FP.Core.i2d_fin b
  rcases z with z | z | ⟨s, t, z, _⟩ | ⟨s, t, q, r, _, z⟩
  · rw [e1] at z; cases z
  · rw [e2] at z; cases z
  · rw [e1] at z; cases z
  · exact Jvm.FP.Core.i2d_ne_zero h ((Jvm.FP.Core.zero_bits2 _).mp ⟨t, r, z⟩)
theorem dcmp_same {x : UInt64} {op : CmpOp} (h : Jvm.FP.Core.val64 x ≠ .nan) : Op.cmpValue (FP.dcmp x x) op = 0 := by
  have e : FP.dcmp x x = some .eq := Jvm.FP.Core.dcmp_self h
  rw [e]
  rfl
theorem fcmp_same {x : UInt32} {op : CmpOp} (h : Jvm.FP.Core.val32 x ≠ .nan) : Op.cmpValue (FP.fcmp x x) op = 0 := by
  have e : FP.fcmp x x = some .eq := Jvm.FP.Core.fcmp_self h
  rw [e]
  rfl
theorem isv_0 {m : Mg} {op : CmpOp} (h : isA m = 0) : Op.cmpValue (FP.fcmp (isV m) 0) op = 0 := by
  have e : isV m = 0 := if_pos h
  rw [e]
  exact fcmp_same fp_0
theorem isv_d {m : Mg} {op : CmpOp} (h : ¬ isA m = 0) : Op.cmpValue (FP.fcmp (isV m) (FP.fdiv (FP.i2f (m 6 2)) (FP.i2f (isA m)))) op = 0 := by
  have e : isV m = FP.fdiv (FP.i2f (m 6 2)) (FP.i2f (isA m)) := if_neg h
  rw [e]
  exact fcmp_same (fp_fn h)
theorem mhv_0 {m : Mg} {op : CmpOp} (h : m 6 8 = 0) : Op.cmpValue (FP.dcmp (mhV m) 0) op = 0 := by
  have e : mhV m = 0 := if_pos h
  rw [e]
  exact dcmp_same fp_0n
theorem mhv_d {m : Mg} {op : CmpOp} (h : ¬ m 6 8 = 0) : Op.cmpValue (FP.dcmp (mhV m) (FP.ddiv (FP.i2d (m 6 6)) (FP.i2d (m 6 8)))) op = 0 := by
  have e : mhV m = FP.ddiv (FP.i2d (m 6 6)) (FP.i2d (m 6 8)) := if_neg h
  rw [e]
  exact dcmp_same (fp_dn h)
theorem ev_80 {m : Mg} (h : EvOK m) : evN m ≤ 80 ∧ m 0 8 = nI (evN m) := by
  obtain ⟨e, he, h8⟩ := h
  rw [evN_eq h8 he]
  exact ⟨he, h8⟩
theorem cd_ev0 {n k w : Nat} {m : Mg} (h1 : ¬ n = 0) (hk : k < evN m) (h80 : evN m ≤ 80) (hw : w < 3) : cdL [(decide (n = 0), 1), (!inB (nI k) 0 ((evN m : Int) - 1), 2), (!inB (nI w) 0 2, 3)] = 0 := by
  rw [cdL_f (decide_eq_false h1), cdL_f (by rw [inB_n (by omega) (by omega) (by omega)]; rfl), cdL_f (by rw [inB_n (by omega) (by omega) (by omega)]; rfl)]
  rfl
theorem cd_ev2 {n : Nat} {m : Mg} {L : List (Bool × Nat)} (h1 : ¬ n = 0) (h80 : evN m ≤ 80) : cdL ((decide (n = 0), 1) :: (!inB (nI (evN m)) 0 ((evN m : Int) - 1), 2) :: L) = 2 := by
  rw [cdL_f (decide_eq_false h1), cdL_t (by rw [inB_no (by rw [nI_toInt (by omega)]; omega)]; rfl)]
theorem ev_get {m : Mg} {k w : Nat} (hw : w < 3) : ev3 (m 7 (k * 3)) (m 7 (k * 3 + 1)) (m 7 (k * 3 + 2)) w = m 7 (k * 3 + w) := by
  unfold ev3
  rcases (show w = 0 ∨ w = 1 ∨ w = 2 by omega) with rfl | rfl | rfl
  · rw [upd_o (by decide), upd_o (by decide), upd_s]; rfl
  · rw [upd_o (by decide), upd_s]
  · rw [upd_s]
/-- numbers as texts -/
theorem digs_num {x : Nat} (h : x < 1000) : (digs x).map nI = numL x := by
  unfold digs numL
  by_cases h1 : x < 10
  · rw [if_pos h1, if_neg (show ¬ 100 ≤ x by omega), if_neg (show ¬ 10 ≤ x by omega)]; rfl
  · by_cases h2 : x < 100
    · rw [if_neg h1, if_pos h2, if_neg (show ¬ 100 ≤ x by omega), if_pos (show 10 ≤ x by omega), show x / 10 % 10 = x / 10 by omega]; rfl
    · rw [if_neg h1, if_neg h2, if_pos (show 100 ≤ x by omega), if_pos (show 10 ≤ x by omega), show x / 100 % 10 = x / 100 by omega, show x % 100 / 10 = x / 10 % 10 by omega, show x % 100 % 10 = x % 10 by omega]; rfl
theorem map_c {T : List Nat} {c x : Nat} (hx : x < 1000) : ((T ++ [c]) ++ digs x).map nI = T.map nI ++ [nI c] ++ numL x := by
  rw [List.map_append, List.map_append, digs_num hx]
  rfl
/-! rows that are alike -/
theorem nI_max {a b : Nat} (ha : a < 2 ^ 31) (hb : b < 2 ^ 31) : (if nI a < nI b then nI b else nI a) = nI (max a b) := by
  rw [mx_n ha hb]
  congr 1
  split <;> omega
theorem bI_and1 {z : Bool} : bI z &&& nI 1 = bI z := by cases z <;> decide
theorem bI_and0 {z : Bool} : bI z &&& nI 0 = bI false := by cases z <;> decide
theorem rowB_n {n a b k : Nat} (ha : a < 2 ^ 31) (hb : b < 2 ^ 31) (hk : k < 2 ^ 31) : rowB n (nI a) (nI b) (nI k) = decide (1 ≤ k ∧ a + k ≤ n ∧ b + k ≤ n) := by
  unfold rowB
  rw [nI_toInt ha, nI_toInt hb, nI_toInt hk, Bool.eq_iff_iff]
  simp only [Bool.and_eq_true, decide_eq_true_eq]
  omega
theorem cd_sm {n a b k : Nat} {c : Nat} (h1 : ¬ n = 0) (ha : a < n) (hb : b < n) (h31 : n < 2 ^ 31) (hk : k < 2 ^ 31) (hc : (if 1 ≤ k ∧ a + k ≤ n ∧ b + k ≤ n then 0 else 3) = c) : cdL [(decide (n = 0), 1), (!plB n (nI a), 2), (!plB n (nI b), 2), (!rowB n (nI a) (nI b) (nI k), 3)] = c := by
  rw [cd_h h1 ha h31, cdL_f (by rw [pl_n (by omega), decide_eq_true hb]; rfl), rowB_n (by omega) (by omega) hk]
  by_cases h : 1 ≤ k ∧ a + k ≤ n ∧ b + k ≤ n
  · rw [decide_eq_true h, ← hc, if_pos h]; rfl
  · rw [decide_eq_false h, ← hc, if_neg h]; rfl
theorem sam_s {m : Mg} {a b k K : Nat} {z : Bool} (h : k < K) : (z && !anyG (samB m a b) k (K - k)) = ((z && (valM m (a + k) == valM m (b + k))) && !anyG (samB m a b) (k + 1) (K - (k + 1))) := by
  rw [anyG_s h]
  unfold samB
  cases z <;> cases (valM m (a + k) == valM m (b + k)) <;> cases anyG _ _ _ <;> rfl
/-! a filling's forced payments -/
def crs (m : Mg) (a c q : Nat) : Bool := !rowT a c q && (owb m q && rowT a c (src m q))
theorem fil_crs {n a b : Nat} {v : Int32} {m : Mg} : (fillM n a b v m).1 = cntG (crs m a b) 0 n := dep_cnt
theorem crs_d {m : Mg} {a c q : Nat} (ho : owb m q = true) : crs m a c q = decide ((q < a ∨ c < q) ∧ a ≤ src m q ∧ src m q ≤ c) := by
  unfold crs rowT
  rw [ho, Bool.true_and, Bool.eq_iff_iff]
  simp only [Bool.and_eq_true, Bool.not_eq_true', decide_eq_false_iff_not, decide_eq_true_eq]
  omega
theorem crs_n {m : Mg} {a c q : Nat} (ho : owb m q = false) : crs m a c q = false := by
  unfold crs
  rw [ho]
  simp
theorem cd_g {n a b : Nat} {m : Mg} {z : Bool} (h1 : ¬ n = 0) (hab : a ≤ b) (hb : b < n) (h31 : n < 2 ^ 31) (hz : anyG (lockB m) a (b + 1 - a) = z) : cdL [(decide (n = 0), 1), (!plB n (nI a), 2), (!plB n (nI b), 2), (decide ((nI b).toInt < (nI a).toInt), 3), (anyG (lockB m) (tN (nI a)) (tN (nI b) + 1 - tN (nI a)), 3)] = if z then 3 else 0 := by
  rw [tN_nI (by omega), tN_nI (by omega), hz, cdL_f (decide_eq_false h1), cdL_f (by rw [pl_n (by omega), decide_eq_true (by omega)]; rfl), cdL_f (by rw [pl_n (by omega), decide_eq_true hb]; rfl), cdL_f (by rw [nI_toInt (by omega), nI_toInt (by omega)]; exact decide_eq_false (by omega))]
  rfl
theorem cd_g0 {n a b : Nat} {m : Mg} (h1 : ¬ n = 0) (hab : a ≤ b) (hb : b < n) (h31 : n < 2 ^ 31) (hz : anyG (lockB m) a (b + 1 - a) = false) : cdL [(decide (n = 0), 1), (!plB n (nI a), 2), (!plB n (nI b), 2), (decide ((nI b).toInt < (nI a).toInt), 3), (anyG (lockB m) (tN (nI a)) (tN (nI b) + 1 - tN (nI a)), 3)] = 0 := (cd_g h1 hab hb h31 hz).trans rfl
theorem cd_g3 {n a b : Nat} {m : Mg} (h1 : ¬ n = 0) (hab : a ≤ b) (hb : b < n) (h31 : n < 2 ^ 31) (hz : anyG (lockB m) a (b + 1 - a) = true) : cdL [(decide (n = 0), 1), (!plB n (nI a), 2), (!plB n (nI b), 2), (decide ((nI b).toInt < (nI a).toInt), 3), (anyG (lockB m) (tN (nI a)) (tN (nI b) + 1 - tN (nI a)), 3)] = 3 := (cd_g h1 hab hb h31 hz).trans rfl
theorem cd_d {n a b : Nat} (h1 : ¬ n = 0) (ha : a < n) (hb : b < n) (h31 : n < 2 ^ 31) : cdL [(decide (n = 0), 1), (!plB n (nI a), 2), (!plB n (nI b), 2)] = 0 := by
  rw [cd_h h1 ha h31, cdL_f (by rw [pl_n (by omega), decide_eq_true hb]; rfl)]
  rfl
/-! the oldest promise -/
theorem rk_0 {m : Mg} {p : Nat} : rkM m (nI 0) p = (m 3 p).toInt := if_pos rfl
theorem old_min {m : Mg} {j q : Nat} (ho : owb m j = true) : (if m 3 j < m 3 q then m 3 j else m 3 q) = oV (nstep m (nI 0) j (some q)) (-1) (fun q => m 3 q) := by
  unfold nstep
  rw [if_pos ho]
  dsimp only
  rw [rk_0, rk_0]
  by_cases h : m 3 j < m 3 q
  · rw [if_pos h, if_pos (Int32.lt_iff_toInt_lt.mp h)]; rfl
  · rw [if_neg h, if_neg (fun z => h (Int32.lt_iff_toInt_lt.mpr z))]; rfl
theorem old_in {m : Mg} {n j q p : Nat} (hj : j < n) (ho : owb m j = true) (hq : q < n ∧ owb m q = true) (h : nstep m (nI 0) j (some q) = some p) : p < n ∧ owb m p = true := by
  unfold nstep at h
  rw [if_pos ho] at h
  dsimp only at h
  split at h
  · cases h; exact ⟨hj, ho⟩
  · cases h; exact hq
theorem nst_n {m : Mg} {pol : Int32} {j : Nat} (ho : owb m j = true) : nstep m pol j none = some j := by
  unfold nstep
  rw [if_pos ho]
theorem nst_f {m : Mg} {pol : Int32} {j : Nat} {b : Option Nat} (ho : owb m j = false) : nstep m pol j b = b := by
  unfold nstep
  rw [if_neg (by rw [ho]; exact Bool.false_ne_true)]
theorem LI.pr {n p : Nat} {m : Mg} (h : LI n m) (hp : p < n) (ho : owb m p = true) : ∃ v, v < 1000 ∧ m 3 p = nI v := by
  obtain ⟨-, ⟨c, hM, hc⟩, -⟩ := h
  obtain ⟨-, -, -, -, -, -, -, hP⟩ := hM
  obtain ⟨v, hv, e⟩ := hP p hp ho
  exact ⟨v, by omega, e⟩
theorem LI.by {n p : Nat} {m : Mg} (h : LI n m) (hp : p < n) : ∃ v, v < 256 ∧ valM m p = nI v := by
  obtain ⟨-, ⟨c, hM, hc⟩, -⟩ := h
  obtain ⟨h1, -, -, -, -, h6, -⟩ := hM
  exact val_by h1 h6 hp
/-! the way from a place -/
theorem hb_s {m : Mg} {f k p o : Nat} : hbF (f + 1) k m p o = if p = o then nI k else if m 2 p = -1 then -1 else hbF f (k + 1) m (src m p) o := rfl
/-- so far on the way -/
def WayI (m : Mg) (n c Q k : Nat) (rk : Nat → Nat) : Option Nat → Prop
  | none => hbM m c Q = -1
  | some p => p < n ∧ ∃ f, rk p < f ∧ hbF f k m p Q = hbM m c Q
theorem WayI.yes {m : Mg} {n c Q k p : Nat} {rk : Nat → Nat} (h : WayI m n c Q k rk (some p)) (e : p = Q) : hbM m c Q = nI k := by
  obtain ⟨-, f, h1, h2⟩ := h
  obtain ⟨f, rfl⟩ : ∃ g, f = g + 1 := ⟨f - 1, by omega⟩
  rw [← h2, hb_s, if_pos e]
theorem WayI.end {m : Mg} {n c Q k p : Nat} {rk : Nat → Nat} (h : WayI m n c Q k rk (some p)) (e : ¬ p = Q) (ho : m 2 p = -1) : WayI m n c Q (k + 1) rk none := by
  obtain ⟨-, f, h1, h2⟩ := h
  obtain ⟨f, rfl⟩ : ∃ g, f = g + 1 := ⟨f - 1, by omega⟩
  show hbM m c Q = -1
  rw [← h2, hb_s, if_neg e, if_pos ho]
theorem WayI.step {m : Mg} {n c Q k p : Nat} {rk : Nat → Nat} (h : WayI m n c Q k rk (some p)) (hI : IM m n) (hr : Rk m n rk) (e : ¬ p = Q) (ho : ¬ m 2 p = -1) : WayI m n c Q (k + 1) rk (some (src m p)) := by
  obtain ⟨hp, f, h1, h2⟩ := h
  obtain ⟨f, rfl⟩ : ∃ g, f = g + 1 := ⟨f - 1, by omega⟩
  have h3 := hr.2 p hp ho
  exact ⟨(IM_src hI hp ho).1, f, by omega, by rw [← h2, hb_s, if_neg e, if_neg ho]⟩
def owM (rk : Nat → Nat) : Option Nat → Nat
  | none => 0
  | some p => rk p + 1

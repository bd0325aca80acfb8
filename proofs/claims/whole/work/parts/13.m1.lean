section IDE
variable {κ : Kp} {h : Nat → Nat}
theorem Seg.idn {σ : Type} {Wd : σ → va_W} : Seg Wd Wd (fun g => g) (fun _ u => u) 0 := ⟨fun _ => [], fun _ => [], fun g => by simp, fun _ => rfl, fun g u => by simp⟩
theorem emb_id_mS : Emb (mS κ h) (mS κ h) (fun g => g) (fun _ u => u) (List.range' 0 8) := Seg.emb Seg.idn fix_mS len_mS
theorem emb_id_eS : Emb (eS κ h) (eS κ h) (fun g => g) (fun _ u => u) (List.range' 0 12) := Seg.emb Seg.idn fix_eS len_eS
theorem emb_id_tS : Emb (tS κ h) (tS κ h) (fun g => g) (fun _ u => u) (List.range' 0 2) := Seg.emb Seg.idn fix_tS len_tS
theorem emb_id_rS : Emb (rS κ h) (rS κ h) (fun g => g) (fun _ u => u) (List.range' 0 14) := Seg.emb Seg.idn fix_rS len_rS
theorem len_cS (u : Cg) : (cS κ h u).length = 124 := by simp [cS, len_mS, len_eS, len_rS, len_hS, len_tS]
theorem len_qS (u : G) : (qS κ h u).length = 7 := rfl
theorem emb_id_cS : Emb (cS κ h) (cS κ h) (fun g => g) (fun _ u => u) (List.range' 0 124) := Seg.emb Seg.idn fix_cS len_cS
theorem emb_id_qS : Emb (qS κ h) (qS κ h) (fun g => g) (fun _ u => u) (List.range' 0 7) := Seg.emb Seg.idn fix_qS len_qS
end IDE
theorem sub_toInt {x y : Int32} {n p : Int} (h : 0 ≤ y.toInt ∧ y.toInt < x.toInt) (hx : x.toInt = n) : (x - y).toInt = n - y.toInt := by
  have a1 := Int32.toInt_lt x
  rw [Int32.toInt_sub, Int.bmod_eq_of_le] <;> omega
theorem sub1_toInt {n : Nat} (h : n < 2 ^ 31) : (nI n - nI 1).toInt = (n : Int) - 1 := by
  have a1 := nI_toInt h
  have a2 : (nI 1).toInt = 1 := by decide
  rw [Int32.toInt_sub, Int.bmod_eq_of_le] <;> omega
/-! what the methods compute, as functions of the cells -/
theorem bI_t {b : Bool} (h : b = true) : nI 1 = bI b := by rw [h]; rfl
theorem bI_f {b : Bool} (h : b = false) : nI 0 = bI b := by rw [h]; rfl
def cntG (f : Nat → Bool) : Nat → Nat → Nat
  | _, 0 => 0
  | i, k + 1 => (if f i then 1 else 0) + cntG f (i + 1) k
def anyG (f : Nat → Bool) : Nat → Nat → Bool
  | _, 0 => false
  | i, k + 1 => f i || anyG f (i + 1) k
def fstG (f : Nat → Bool) : Nat → Nat → Option Nat
  | _, 0 => none
  | i, k + 1 => if f i then some i else fstG f (i + 1) k
theorem cntG_s {f : Nat → Bool} {i b : Nat} (h : i < b) : cntG f i (b - i) = (if f i then 1 else 0) + cntG f (i + 1) (b - (i + 1)) := by
  rw [show b - i = (b - (i + 1)) + 1 by omega]; rfl
theorem anyG_s {f : Nat → Bool} {i b : Nat} (h : i < b) : anyG f i (b - i) = (f i || anyG f (i + 1) (b - (i + 1))) := by
  rw [show b - i = (b - (i + 1)) + 1 by omega]; rfl
theorem fstG_s {f : Nat → Bool} {i b : Nat} (h : i < b) : fstG f i (b - i) = (if f i then some i else fstG f (i + 1) (b - (i + 1))) := by
  rw [show b - i = (b - (i + 1)) + 1 by omega]; rfl
theorem cntG_0 {f : Nat → Bool} {i b : Nat} (h : b ≤ i) : cntG f i (b - i) = 0 := by rw [show b - i = 0 by omega]; rfl
theorem anyG_0 {f : Nat → Bool} {i b : Nat} (h : b ≤ i) : anyG f i (b - i) = false := by rw [show b - i = 0 by omega]; rfl
theorem fstG_0 {f : Nat → Bool} {i b : Nat} (h : b ≤ i) : fstG f i (b - i) = none := by rw [show b - i = 0 by omega]; rfl
theorem cntG_le {f : Nat → Bool} : ∀ (k i : Nat), cntG f i k ≤ k
  | 0, _ => Nat.le_refl 0
  | k + 1, i => by
    have := cntG_le (f := f) k (i + 1)
    show (if f i then 1 else 0) + cntG f (i + 1) k ≤ k + 1
    split <;> omega
theorem cntG_congr {f f2 : Nat → Bool} : ∀ (k i : Nat), (∀ j, i ≤ j → j < i + k → f j = f2 j) → cntG f i k = cntG f2 i k
  | 0, _, _ => rfl
  | k + 1, i, h => by
    show (if f i then 1 else 0) + _ = (if f2 i then 1 else 0) + _
    rw [h i (Nat.le_refl _) (by omega), cntG_congr k (i + 1) (fun j h1 h2 => h j (by omega) (by omega))]
theorem anyG_congr {f f2 : Nat → Bool} : ∀ (k i : Nat), (∀ j, i ≤ j → j < i + k → f j = f2 j) → anyG f i k = anyG f2 i k
  | 0, _, _ => rfl
  | k + 1, i, h => by
    show (f i || _) = (f2 i || _)
    rw [h i (Nat.le_refl _) (by omega), anyG_congr k (i + 1) (fun j h1 h2 => h j (by omega) (by omega))]
theorem fstG_congr {f f2 : Nat → Bool} : ∀ (k i : Nat), (∀ j, i ≤ j → j < i + k → f j = f2 j) → fstG f i k = fstG f2 i k
  | 0, _, _ => rfl
  | k + 1, i, h => by
    show (if f i then _ else _) = (if f2 i then _ else _)
    rw [h i (Nat.le_refl _) (by omega), fstG_congr k (i + 1) (fun j h1 h2 => h j (by omega) (by omega))]
theorem fstG_some {f : Nat → Bool} {r : Nat} : ∀ (k i : Nat), fstG f i k = some r → i ≤ r ∧ r < i + k ∧ f r = true
  | 0, _, h => by cases h
  | k + 1, i, h => by
    have h : (if f i then some i else fstG f (i + 1) k) = some r := h
    split at h
    · cases h; exact ⟨Nat.le_refl _, by omega, by assumption⟩
    · obtain ⟨a, b, c⟩ := fstG_some k (i + 1) h
      exact ⟨by omega, by omega, c⟩
/-! memories -/
def isP (m : Mg) (p : Int32) : Bool := decide (0 ≤ p.toInt ∧ p.toInt < (m 0 7).toInt)
def owb (m : Mg) (j : Nat) : Bool := decide (m 2 j ≠ -1)
def owP (m : Mg) (p : Int32) : Bool := isP m p && owb m p.toInt.toNat
/-- a memory of n places: every source is a place; ranks fall along the chains -/
def IM (m : Mg) (n : Nat) : Prop := m 0 7 = nI n ∧ n ≤ 96 ∧ (∀ p, p < n → m 2 p = -1 ∨ ∃ q, q < n ∧ m 2 p = nI q) ∧ ∃ rk : Nat → Nat, ∀ p q, p < n → q < n → m 2 p = nI q → rk q < rk p
theorem isP_n {m : Mg} {n j : Nat} (h : m 0 7 = nI n) (hn : n ≤ 96) (hj : j < 2 ^ 31) : isP m (nI j) = decide (j < n) := by
  unfold isP
  rw [h, nI_toInt hj, nI_toInt (by omega)]
  simp
theorem owP_n {m : Mg} {n j : Nat} (h : m 0 7 = nI n) (hn : n ≤ 96) (hj : j < 2 ^ 31) : owP m (nI j) = (decide (j < n) && owb m j) := by
  unfold owP
  rw [isP_n h hn hj, nI_toInt hj]
  rfl
def rootF : Nat → Mg → Nat → Nat
  | 0, _, p => p
  | k + 1, m, p => if m 2 p = -1 then p else rootF k m (m 2 p).toInt.toNat
def rootM (m : Mg) (p : Nat) : Nat := rootF 96 m p
def hbF : Nat → Nat → Mg → Nat → Nat → Int32
  | 0, _, _, _, _ => -1
  | f + 1, k, m, p, o => if p = o then nI k else if m 2 p = -1 then -1 else hbF f (k + 1) m (m 2 p).toInt.toNat o
/-- how many hops lead from p to o; -1 if none do -/
def hbM (m : Mg) (p o : Nat) : Int32 := hbF 96 0 m p o
theorem rootF_lt {m : Mg} {n : Nat} (hI : IM m n) : ∀ (k p : Nat), p < n → rootF k m p < n
  | 0, p, h => h
  | k + 1, p, h => by
    show (if m 2 p = -1 then p else _) < n
    split
    · exact h
    · rcases hI.2.2.1 p h with h1 | ⟨q, h1, h2⟩
      · contradiction
      · rw [h2, nI_toInt (by have := hI.2.1; omega)]
        exact rootF_lt hI k q h1
def valM (m : Mg) (p : Nat) : Int32 := m 1 (rootM m p)
def lockB (m : Mg) (j : Nat) : Bool := !(m 4 j == 0)
def srcB (m : Mg) (p j : Nat) : Bool := m 2 j == nI p
/-- 0 if a copy is possible -/
def refM (m : Mg) (n : Nat) (from_ to_ len : Int32) : Int32 := if len.toInt < 1 then nI 1 else if (isP m from_ && decide (len.toInt ≤ (n : Int) - from_.toInt)) && (isP m to_ && decide (len.toInt ≤ (n : Int) - to_.toInt)) then (if anyG (lockB m) to_.toInt.toNat len.toInt.toNat then nI 3 else nI 0) else nI 2
def contM (m : Mg) (j : Nat) : Bool := owb m j && (decide (0 < j) && (owb m (j - 1) && (m 3 j == m 3 (j - 1) && m 2 j == m 2 (j - 1) + 1)))
def startM (m : Mg) (j : Nat) : Bool := owb m j && !contM m j
/-- how many places from j on (f at most) go on with the debt -/
def runM (m : Mg) (n : Nat) : Nat → Nat → Nat
  | 0, _ => 0
  | f + 1, j => if decide (j < n) && contM m j then 1 + runM m n f (j + 1) else 0
def fodF (m : Mg) (number : Int32) : Nat → Nat → Int32 → Int32
  | 0, _, _ => -1
  | k + 1, i, c => if startM m i then (if c = number then nI i else fodF m number k (i + 1) (c + 1)) else fodF m number k (i + 1) c
def endM (m : Mg) (j : Nat) : Mg := sG (sG m 2 (upd (m 2) j (-1))) 3 (upd (m 3) j (-1))
def accM (m : Mg) (k : Nat) (x : Int32) : Mg := sG m 6 (upd (m 6) k (m 6 k + x))
/-- a payment counts: kind 1 idle, 2 forced, else at once -/
def cpM (m : Mg) (kind : Nat) : Mg := if kind = 1 then accM (accM m 2 (nI 1)) 7 (nI 1) else if kind = 2 then accM (accM m 3 (nI 1)) 7 (nI 3) else accM (accM m 4 (nI 1)) 7 (nI 2)
def noteM (m : Mg) (e : Nat) (kind p v : Int32) : Mg := if e < 80 then sG (sG m 7 (upd (upd (upd (m 7) (e * 3) kind) (e * 3 + 1) p) (e * 3 + 2) v)) 0 (upd (m 0) 8 (nI (e + 1))) else m

set_option maxHeartbeats 4000000 in
theorem c_X2_isPlace {l : Launch} (hl : l.stackTraces = false) {κ : Kp} {h : Nat → Nat} {g : Mg} {p : Int32}  : Ct SS MM l κ yX2_isPlace cX2_isPlace 2 (some FieldType.boolean) 0 0 0 [.ref (h 0), .int p] (mS κ h) g ri (fun r u => r = bI (isP g p) ∧ u = g) (fun _ _ => False) := by
  refine Ct.of (own := RX2) (by decide) rfl hl (by intro v hv; simp only [List.mem_cons, List.not_mem_nil, or_false] at hv; first | (rcases hv with rfl | rfl | rfl | rfl | rfl | rfl <;> rfl) | (rcases hv with rfl | rfl | rfl | rfl | rfl <;> rfl) | (rcases hv with rfl | rfl | rfl | rfl <;> rfl) | (rcases hv with rfl | rfl | rfl <;> rfl) | (rcases hv with rfl | rfl <;> rfl) | (subst hv; rfl) | exact hv.elim) (Nat.le_of_ble_eq_true rfl) (fun X hxl hxk C F N => ?_)
  subst hxl hxk
  show V X (mS (xK X) h) 0 [some (.ref (h 0)), some (.int p)] [] g 0 0
  refine v_iload_n C dX2_isPlace_0 rfl ?_
  refine v_if_lt C 16 dX2_isPlace_1 (by decide) (fun c1 => ?_) (fun c1 => ?_)
  · refine v_iconst (v := nI 0) C dX2_isPlace_16 (by decide) ?_
    refine v_iret C F (by first | rfl | exact bI_nar _) dX2_isPlace_17 (Nat.le_of_ble_eq_true rfl) (Nat.le_of_ble_eq_true rfl) ?_
    exact ⟨by first | (refine bI_t ?_; simp [isP]; omega) | (refine bI_f ?_; simp [isP]; omega), rfl⟩
  · refine v_iload_n C dX2_isPlace_4 rfl ?_
    refine v_aload_n C dX2_isPlace_5 rfl ?_
    refine v_geti C fl_X2_40 oi_mS_0_7 dX2_isPlace_6 ?_
    refine v_icmp_ge C 16 dX2_isPlace_9 (by decide) (fun c9 => ?_) (fun c9 => ?_)
    · refine v_iconst (v := nI 0) C dX2_isPlace_16 (by decide) ?_
      refine v_iret C F (by first | rfl | exact bI_nar _) dX2_isPlace_17 (Nat.le_of_ble_eq_true rfl) (Nat.le_of_ble_eq_true rfl) ?_
      exact ⟨by first | (refine bI_t ?_; simp [isP]; omega) | (refine bI_f ?_; simp [isP]; omega), rfl⟩
    · refine v_iconst (v := nI 1) C dX2_isPlace_12 (by decide) ?_
      refine v_goto C 17 dX2_isPlace_13 (by decide) ?_
      refine v_iret C F (by first | rfl | exact bI_nar _) dX2_isPlace_17 (Nat.le_of_ble_eq_true rfl) (Nat.le_of_ble_eq_true rfl) ?_
      exact ⟨by first | (refine bI_t ?_; simp [isP]; omega) | (refine bI_f ?_; simp [isP]; omega), rfl⟩
set_option maxHeartbeats 4000000 in
theorem c_X2_hasRow {l : Launch} (hl : l.stackTraces = false) {κ : Kp} {h : Nat → Nat} {g : Mg} {p q : Int32} {n : Nat} (hn : g 0 7 = nI n) (h96 : n ≤ 96) : Ct SS MM l κ yX2_hasRow cX2_hasRow 3 (some FieldType.boolean) 1 0 0 [.ref (h 0), .int p, .int q] (mS κ h) g ri (fun r u => r = bI (isP g p && decide (q.toInt ≤ (n : Int) - p.toInt)) ∧ u = g) (fun _ _ => False) := by
  refine Ct.of (own := RX2) (by decide) rfl hl (by intro v hv; simp only [List.mem_cons, List.not_mem_nil, or_false] at hv; first | (rcases hv with rfl | rfl | rfl | rfl | rfl | rfl <;> rfl) | (rcases hv with rfl | rfl | rfl | rfl | rfl <;> rfl) | (rcases hv with rfl | rfl | rfl | rfl <;> rfl) | (rcases hv with rfl | rfl | rfl <;> rfl) | (rcases hv with rfl | rfl <;> rfl) | (subst hv; rfl) | exact hv.elim) (Nat.le_of_ble_eq_true rfl) (fun X hxl hxk C F N => ?_)
  subst hxl hxk
  show V X (mS (xK X) h) 0 [some (.ref (h 0)), some (.int p), some (.int q)] [] g 0 0
  refine v_aload_n C dX2_hasRow_0 rfl ?_
  refine v_iload_n C dX2_hasRow_1 rfl ?_
  refine v_callVi C (c_X2_isPlace hl) ym_X2_isPlace ml_X2_53 emb_id_mS rfl rfl rfl rfl rfl dX2_hasRow_2 (Nat.le_of_ble_eq_true rfl) (Nat.le_of_ble_eq_true rfl) (Nat.le_of_ble_eq_true rfl) (Nat.le_of_ble_eq_true rfl) (fun _ _ hu => hu.elim) (fun r u hu => ?_)
  obtain ⟨rfl, rfl⟩ := hu
  refine v_if_eq C 22 dX2_hasRow_5 (by decide) (fun c5 => ?_) (fun c5 => ?_)
  · rw [bI_eq] at c5
    refine v_iconst (v := nI 0) C dX2_hasRow_22 (by decide) ?_
    refine v_iret C F (by first | rfl | exact bI_nar _) dX2_hasRow_23 (Nat.le_of_ble_eq_true rfl) (Nat.le_of_ble_eq_true rfl) ?_
    exact ⟨by first | (refine bI_f ?_; rw [c5]; rfl) | (have e1 : (g 0 7 - p).toInt = (n : Int) - p.toInt := (by simp [isP] at c5; have := nI_toInt (n := n) (by omega); rw [hn, this] at c5; exact sub_toInt (by rw [hn, this]; omega) (by rw [hn]; exact this)); first | (refine bI_t ?_; rw [c5]; simp; omega) | (refine bI_f ?_; rw [c5]; simp; omega)), rfl⟩
  · rw [bI_eq, Bool.not_eq_false] at c5
    refine v_iload_n C dX2_hasRow_8 rfl ?_
    refine v_aload_n C dX2_hasRow_9 rfl ?_
    refine v_geti C fl_X2_40 oi_mS_0_7 dX2_hasRow_10 ?_
    refine v_iload_n C dX2_hasRow_13 rfl ?_
    refine v_isub C dX2_hasRow_14 ?_
    refine v_icmp_gt C 22 dX2_hasRow_15 (by decide) (fun c15 => ?_) (fun c15 => ?_)
    · refine v_iconst (v := nI 0) C dX2_hasRow_22 (by decide) ?_
      refine v_iret C F (by first | rfl | exact bI_nar _) dX2_hasRow_23 (Nat.le_of_ble_eq_true rfl) (Nat.le_of_ble_eq_true rfl) ?_
      exact ⟨by first | (refine bI_f ?_; rw [c5]; rfl) | (have e1 : (g 0 7 - p).toInt = (n : Int) - p.toInt := (by simp [isP] at c5; have := nI_toInt (n := n) (by omega); rw [hn, this] at c5; exact sub_toInt (by rw [hn, this]; omega) (by rw [hn]; exact this)); first | (refine bI_t ?_; rw [c5]; simp; omega) | (refine bI_f ?_; rw [c5]; simp; omega)), rfl⟩
    · refine v_iconst (v := nI 1) C dX2_hasRow_18 (by decide) ?_
      refine v_goto C 23 dX2_hasRow_19 (by decide) ?_
      refine v_iret C F (by first | rfl | exact bI_nar _) dX2_hasRow_23 (Nat.le_of_ble_eq_true rfl) (Nat.le_of_ble_eq_true rfl) ?_
      exact ⟨by first | (refine bI_f ?_; rw [c5]; rfl) | (have e1 : (g 0 7 - p).toInt = (n : Int) - p.toInt := (by simp [isP] at c5; have := nI_toInt (n := n) (by omega); rw [hn, this] at c5; exact sub_toInt (by rw [hn, this]; omega) (by rw [hn]; exact this)); first | (refine bI_t ?_; rw [c5]; simp; omega) | (refine bI_f ?_; rw [c5]; simp; omega)), rfl⟩
set_option maxHeartbeats 4000000 in
theorem c_X2_owes {l : Launch} (hl : l.stackTraces = false) {κ : Kp} {h : Nat → Nat} {g : Mg} {p : Int32} {n : Nat} (hn : g 0 7 = nI n) (h96 : n ≤ 96) : Ct SS MM l κ yX2_owes cX2_owes 2 (some FieldType.boolean) 0 0 0 [.ref (h 0), .int p] (mS κ h) g ri (fun r u => r = bI (owP g p) ∧ u = g) (fun _ _ => False) := by
  refine Ct.of (own := RX2) (by decide) rfl hl (by intro v hv; simp only [List.mem_cons, List.not_mem_nil, or_false] at hv; first | (rcases hv with rfl | rfl | rfl | rfl | rfl | rfl <;> rfl) | (rcases hv with rfl | rfl | rfl | rfl | rfl <;> rfl) | (rcases hv with rfl | rfl | rfl | rfl <;> rfl) | (rcases hv with rfl | rfl | rfl <;> rfl) | (rcases hv with rfl | rfl <;> rfl) | (subst hv; rfl) | exact hv.elim) (Nat.le_of_ble_eq_true rfl) (fun X hxl hxk C F N => ?_)
  subst hxl hxk
  show V X (mS (xK X) h) 0 [some (.ref (h 0)), some (.int p)] [] g 0 0
  have en := nI_toInt (n := n) (by omega)
  rw [← hn] at en
  refine v_iload_n C dX2_owes_0 rfl ?_
  refine v_if_lt C 26 dX2_owes_1 (by decide) (fun c1 => ?_) (fun c1 => ?_)
  · refine v_iconst (v := nI 0) C dX2_owes_26 (by decide) ?_
    refine v_iret C F (by first | rfl | exact bI_nar _) dX2_owes_27 (Nat.le_of_ble_eq_true rfl) (Nat.le_of_ble_eq_true rfl) ?_
    exact ⟨by first | (refine bI_t ?_; simp [owP, owb, isP]; exact ⟨by omega, c19⟩) | (refine bI_f ?_; simp [owP, owb, isP]; omega) | (refine bI_f ?_; simp only [owP, owb, c19]; simp), rfl⟩
  · refine v_iload_n C dX2_owes_4 rfl ?_
    refine v_aload_n C dX2_owes_5 rfl ?_
    refine v_geti C fl_X2_40 oi_mS_0_7 dX2_owes_6 ?_
    refine v_icmp_ge C 26 dX2_owes_9 (by decide) (fun c9 => ?_) (fun c9 => ?_)
    · refine v_iconst (v := nI 0) C dX2_owes_26 (by decide) ?_
      refine v_iret C F (by first | rfl | exact bI_nar _) dX2_owes_27 (Nat.le_of_ble_eq_true rfl) (Nat.le_of_ble_eq_true rfl) ?_
      exact ⟨by first | (refine bI_t ?_; simp [owP, owb, isP]; exact ⟨by omega, c19⟩) | (refine bI_f ?_; simp [owP, owb, isP]; omega) | (refine bI_f ?_; simp only [owP, owb, c19]; simp), rfl⟩
    · refine v_aload_n C dX2_owes_12 rfl ?_
      refine v_getr C fl_X2_15 or_mS_0_1 dX2_owes_13 ?_
      refine v_iload_n C dX2_owes_16 rfl ?_
      refine v_iald C ar_mS_2 (by decide) p.toInt.toNat ?_ (nI_of_nonneg (by omega)).1 dX2_owes_17 ?_
      · omega
      refine v_iconst (v := (-1)) C dX2_owes_18 (by decide) ?_
      refine v_icmp_eq C 26 dX2_owes_19 (by decide) (fun c19 => ?_) (fun c19 => ?_)
      · refine v_iconst (v := nI 0) C dX2_owes_26 (by decide) ?_
        refine v_iret C F (by first | rfl | exact bI_nar _) dX2_owes_27 (Nat.le_of_ble_eq_true rfl) (Nat.le_of_ble_eq_true rfl) ?_
        exact ⟨by first | (refine bI_t ?_; simp [owP, owb, isP]; exact ⟨by omega, c19⟩) | (refine bI_f ?_; simp [owP, owb, isP]; omega) | (refine bI_f ?_; simp only [owP, owb, c19]; simp), rfl⟩
      · refine v_iconst (v := nI 1) C dX2_owes_22 (by decide) ?_
        refine v_goto C 27 dX2_owes_23 (by decide) ?_
        refine v_iret C F (by first | rfl | exact bI_nar _) dX2_owes_27 (Nat.le_of_ble_eq_true rfl) (Nat.le_of_ble_eq_true rfl) ?_
        exact ⟨by first | (refine bI_t ?_; simp [owP, owb, isP]; exact ⟨by omega, c19⟩) | (refine bI_f ?_; simp [owP, owb, isP]; omega) | (refine bI_f ?_; simp only [owP, owb, c19]; simp), rfl⟩
set_option maxHeartbeats 4000000 in
theorem c_X2_rootOf {l : Launch} (hl : l.stackTraces = false) {κ : Kp} {h : Nat → Nat} {g : Mg} {j n : Nat} (hI : IM g n) (hj : j < n) : Ct SS MM l κ yX2_rootOf cX2_rootOf 4 (some FieldType.int) 0 0 0 [.ref (h 0), .int (nI j)] (mS κ h) g ri (fun r u => r = nI (rootM g j) ∧ u = g) (fun _ _ => False) := by
  refine Ct.of (own := RX2) (by decide) rfl hl (by intro v hv; simp only [List.mem_cons, List.not_mem_nil, or_false] at hv; first | (rcases hv with rfl | rfl | rfl | rfl | rfl | rfl <;> rfl) | (rcases hv with rfl | rfl | rfl | rfl | rfl <;> rfl) | (rcases hv with rfl | rfl | rfl | rfl <;> rfl) | (rcases hv with rfl | rfl | rfl <;> rfl) | (rcases hv with rfl | rfl <;> rfl) | (subst hv; rfl) | exact hv.elim) (Nat.le_of_ble_eq_true rfl) (fun X hxl hxk C F N => ?_)
  subst hxl hxk
  show V X (mS (xK X) h) 0 [some (.ref (h 0)), some (.int (nI j)), none, none] [] g 0 0
  have h96 := hI.2.1
  refine v_iload_n C dX2_rootOf_0 rfl ?_
  refine v_istore_n C (lo2 := [some _, some _, some _, none]) dX2_rootOf_1 rfl (Nat.le_of_ble_eq_true rfl) rfl ?_
  refine v_iconst (v := nI 0) C dX2_rootOf_2 (by decide) ?_
  refine v_istore_n C (lo2 := [some _, some _, some _, some _]) dX2_rootOf_3 rfl (Nat.le_of_ble_eq_true rfl) rfl ?_
  have L4 : ∀ (t : Nat × Nat), (fun t => t.1 ≤ 96 ∧ t.2 < n ∧ rootF (96 - t.1) g t.2 = rootM g j) t → (fun t : Nat × Nat => V X (mS (xK X) h) 4 [some (.ref (h 0)), some (.int (nI j)), some (.int (nI t.2)), some (.int (nI t.1))] [] g 0 0) t := by
    refine v_ind (fun t : Nat × Nat => 96 - t.1) ?_
    rintro ⟨k, a⟩ ih4 hI4
    dsimp only at hI4 ⊢
    obtain ⟨i1, i2, i3⟩ := hI4
    have ek := nI_toInt (n := k) (by omega)
    have e96 : (nI 96).toInt = 96 := by decide
    refine v_iload_n C dX2_rootOf_4 rfl ?_
    refine v_bipush (v := nI 96) C dX2_rootOf_5 (by decide) ?_
    refine v_icmp_ge C 33 dX2_rootOf_7 (by decide) (fun c7 => ?_) (fun c7 => ?_)
    · refine v_iload_n C dX2_rootOf_33 rfl ?_
      refine v_iret C F (by first | rfl | exact bI_nar _) dX2_rootOf_34 (Nat.le_of_ble_eq_true rfl) (Nat.le_of_ble_eq_true rfl) ?_
      refine ⟨?_, rfl⟩
      rw [← i3]
      first | (rw [show 96 - k = 0 by omega]; rfl) | (rw [show 96 - k = (96 - (k + 1)) + 1 by omega]; show nI a = nI (if g 2 a = -1 then a else _); rw [if_pos c17])
    · refine v_aload_n C dX2_rootOf_10 rfl ?_
      refine v_getr C fl_X2_15 or_mS_0_1 dX2_rootOf_11 ?_
      refine v_iload_n C dX2_rootOf_14 rfl ?_
      refine v_iald C ar_mS_2 (by decide) _ ?_ rfl dX2_rootOf_15 ?_
      · omega
      refine v_iconst (v := (-1)) C dX2_rootOf_16 (by decide) ?_
      refine v_icmp_eq C 33 dX2_rootOf_17 (by decide) (fun c17 => ?_) (fun c17 => ?_)
      · refine v_iload_n C dX2_rootOf_33 rfl ?_
        refine v_iret C F (by first | rfl | exact bI_nar _) dX2_rootOf_34 (Nat.le_of_ble_eq_true rfl) (Nat.le_of_ble_eq_true rfl) ?_
        refine ⟨?_, rfl⟩
        rw [← i3]
        first | (rw [show 96 - k = 0 by omega]; rfl) | (rw [show 96 - k = (96 - (k + 1)) + 1 by omega]; show nI a = nI (if g 2 a = -1 then a else _); rw [if_pos c17])
      · obtain ⟨q, hq, hq2⟩ := (hI.2.2.1 a i2).resolve_left c17
        refine v_aload_n C dX2_rootOf_20 rfl ?_
        refine v_getr C fl_X2_15 or_mS_0_1 dX2_rootOf_21 ?_
        refine v_iload_n C dX2_rootOf_24 rfl ?_
        refine v_iald C ar_mS_2 (by decide) _ ?_ rfl dX2_rootOf_25 ?_
        · omega
        rw [hq2]
        refine v_istore_n C (lo2 := [some _, some _, some _, some _]) dX2_rootOf_26 rfl (Nat.le_of_ble_eq_true rfl) rfl ?_
        first | refine v_iinc1 C (lo2 := [some _, some _, some _, some _]) dX2_rootOf_27 rfl rfl rfl ?_ | refine v_iinc C (lo2 := [some _, some _, some _, some _]) dX2_rootOf_27 rfl rfl rfl rfl ?_
        refine v_goto C 4 dX2_rootOf_30 (by decide) ?_
        exact ih4 (k + 1, q) (by show 96 - (k + 1) < 96 - k; omega) ⟨by omega, hq, by
          rw [← i3]
          show rootF (96 - (k + 1)) g q = rootF (96 - k) g a
          rw [show 96 - k = (96 - (k + 1)) + 1 by omega]
          show _ = if g 2 a = -1 then a else rootF (96 - (k + 1)) g (g 2 a).toInt.toNat
          rw [if_neg c17, hq2, nI_toInt (by omega)]
          rfl⟩
  exact L4 (0, j) ⟨by omega, hj, rfl⟩
set_option maxHeartbeats 4000000 in
theorem c_X2_hopsBetween {l : Launch} (hl : l.stackTraces = false) {κ : Kp} {h : Nat → Nat} {g : Mg} {j o n : Nat} (hI : IM g n) (hj : j < n) (ho : o < n) : Ct SS MM l κ yX2_hopsBetween cX2_hopsBetween 5 (some FieldType.int) 1 0 0 [.ref (h 0), .int (nI j), .int (nI o)] (mS κ h) g ri (fun r u => r = hbM g j o ∧ u = g) (fun _ _ => False) := by
  refine Ct.of (own := RX2) (by decide) rfl hl (by intro v hv; simp only [List.mem_cons, List.not_mem_nil, or_false] at hv; first | (rcases hv with rfl | rfl | rfl | rfl | rfl | rfl <;> rfl) | (rcases hv with rfl | rfl | rfl | rfl | rfl <;> rfl) | (rcases hv with rfl | rfl | rfl | rfl <;> rfl) | (rcases hv with rfl | rfl | rfl <;> rfl) | (rcases hv with rfl | rfl <;> rfl) | (subst hv; rfl) | exact hv.elim) (Nat.le_of_ble_eq_true rfl) (fun X hxl hxk C F N => ?_)
  subst hxl hxk
  show V X (mS (xK X) h) 0 [some (.ref (h 0)), some (.int (nI j)), some (.int (nI o)), none, none] [] g 0 0
  have h96 := hI.2.1
  refine v_iload_n C dX2_hopsBetween_0 rfl ?_
  refine v_istore_n C (lo2 := [some _, some _, some _, some _, none]) dX2_hopsBetween_1 rfl (Nat.le_of_ble_eq_true rfl) rfl ?_
  refine v_iconst (v := nI 0) C dX2_hopsBetween_2 (by decide) ?_
  refine v_istore C (lo2 := [some _, some _, some _, some _, some _]) dX2_hopsBetween_3 rfl (Nat.le_of_ble_eq_true rfl) rfl ?_
  have L5 : ∀ (t : Nat × Nat), (fun t => t.1 ≤ 96 ∧ t.2 < n ∧ hbF (96 - t.1) t.1 g t.2 o = hbM g j o) t → (fun t : Nat × Nat => V X (mS (xK X) h) 5 [some (.ref (h 0)), some (.int (nI j)), some (.int (nI o)), some (.int (nI t.2)), some (.int (nI t.1))] [] g 0 0) t := by
    refine v_ind (fun t : Nat × Nat => 96 - t.1) ?_
    rintro ⟨k, a⟩ ih5 hI5
    dsimp only at hI5 ⊢
    obtain ⟨i1, i2, i3⟩ := hI5
    have ek := nI_toInt (n := k) (by omega)
    have e96 : (nI 96).toInt = 96 := by decide
    refine v_iload C dX2_hopsBetween_5 rfl ?_
    refine v_bipush (v := nI 96) C dX2_hopsBetween_7 (by decide) ?_
    refine v_icmp_ge C 43 dX2_hopsBetween_9 (by decide) (fun c9 => ?_) (fun c9 => ?_)
    · refine v_iconst (v := (-1)) C dX2_hopsBetween_43 (by decide) ?_
      refine v_iret C F (by first | rfl | exact bI_nar _) dX2_hopsBetween_44 (Nat.le_of_ble_eq_true rfl) (Nat.le_of_ble_eq_true rfl) ?_
      refine ⟨?_, rfl⟩
      rw [← i3, show 96 - k = 0 by omega]
      rfl
    · refine v_iload_n C dX2_hopsBetween_12 rfl ?_
      refine v_iload_n C dX2_hopsBetween_13 rfl ?_
      refine v_icmp_ne C 20 dX2_hopsBetween_14 (by decide) (fun c14 => ?_) (fun c14 => ?_)
      · have hao : ¬ a = o := fun z => c14 (by rw [z])
        refine v_aload_n C dX2_hopsBetween_20 rfl ?_
        refine v_iload_n C dX2_hopsBetween_21 rfl ?_
        refine v_callVi C (c_X2_owes hl ?_ ?_) ym_X2_owes ml_X2_65 emb_id_mS rfl rfl rfl rfl rfl dX2_hopsBetween_22 (Nat.le_of_ble_eq_true rfl) (Nat.le_of_ble_eq_true rfl) (Nat.le_of_ble_eq_true rfl) (Nat.le_of_ble_eq_true rfl) (fun _ _ hu => hu.elim) (fun r u hu => ?_)
        · exact hI.1
        · exact h96
        obtain ⟨rfl, rfl⟩ := hu
        rw [owP_n hI.1 h96 (by omega)]
        refine v_if_ne C 30 dX2_hopsBetween_25 (by decide) (fun c25 => ?_) (fun c25 => ?_)
        · have hs : ¬ g 2 a = -1 := by
            rw [bI_ne] at c25
            simp [i2, owb] at c25
            exact c25
          obtain ⟨q, hq, hq2⟩ := (hI.2.2.1 a i2).resolve_left hs
          refine v_aload_n C dX2_hopsBetween_30 rfl ?_
          refine v_getr C fl_X2_15 or_mS_0_1 dX2_hopsBetween_31 ?_
          refine v_iload_n C dX2_hopsBetween_34 rfl ?_
          refine v_iald C ar_mS_2 (by decide) _ ?_ rfl dX2_hopsBetween_35 ?_
          · omega
          rw [hq2]
          refine v_istore_n C (lo2 := [some _, some _, some _, some _, some _]) dX2_hopsBetween_36 rfl (Nat.le_of_ble_eq_true rfl) rfl ?_
          first | refine v_iinc1 C (lo2 := [some _, some _, some _, some _, some _]) dX2_hopsBetween_37 rfl rfl rfl ?_ | refine v_iinc C (lo2 := [some _, some _, some _, some _, some _]) dX2_hopsBetween_37 rfl rfl rfl rfl ?_
          refine v_goto C 5 dX2_hopsBetween_40 (by decide) ?_
          exact ih5 (k + 1, q) (by show 96 - (k + 1) < 96 - k; omega) ⟨by omega, hq, by
            rw [← i3]
            show hbF (96 - (k + 1)) (k + 1) g q o = hbF (96 - k) k g a o
            rw [show 96 - k = (96 - (k + 1)) + 1 by omega]
            show _ = if a = o then nI k else if g 2 a = -1 then -1 else hbF (96 - (k + 1)) (k + 1) g (g 2 a).toInt.toNat o
            rw [if_neg hao, if_neg hs, hq2, nI_toInt (by omega)]
            rfl⟩
        · have hs : g 2 a = -1 := by
            rw [bI_eq] at c25
            simp [i2, owb] at c25
            exact c25
          refine v_iconst (v := (-1)) C dX2_hopsBetween_28 (by decide) ?_
          refine v_iret C F (by first | rfl | exact bI_nar _) dX2_hopsBetween_29 (Nat.le_of_ble_eq_true rfl) (Nat.le_of_ble_eq_true rfl) ?_
          refine ⟨?_, rfl⟩
          rw [← i3, show 96 - k = (96 - (k + 1)) + 1 by omega]
          show -1 = if a = o then nI k else if g 2 a = -1 then -1 else _
          rw [if_neg hao, if_pos hs]
      · refine v_iload C dX2_hopsBetween_17 rfl ?_
        refine v_iret C F (by first | rfl | exact bI_nar _) dX2_hopsBetween_19 (Nat.le_of_ble_eq_true rfl) (Nat.le_of_ble_eq_true rfl) ?_
        refine ⟨?_, rfl⟩
        have hao : a = o := nI_inj (by omega) (by omega) c14
        rw [← i3, show 96 - k = (96 - (k + 1)) + 1 by omega]
        show nI k = if a = o then nI k else _
        rw [if_pos hao]
  exact L5 (0, j) ⟨by omega, hj, rfl⟩
set_option maxHeartbeats 4000000 in
theorem c_X2_countOwedIn {l : Launch} (hl : l.stackTraces = false) {κ : Kp} {h : Nat → Nat} {g : Mg} {a b : Nat} {q : Int32} (hq : q.toInt = (b : Int) - 1) (hb : b ≤ 96) (ha : a ≤ 96) : Ct SS MM l κ yX2_countOwedIn cX2_countOwedIn 5 (some FieldType.int) 0 0 0 [.ref (h 0), .int (nI a), .int q] (mS κ h) g ri (fun r u => r = nI (cntG (owb g) a (b - a)) ∧ u = g) (fun _ _ => False) := by
  refine Ct.of (own := RX2) (by decide) rfl hl (by intro v hv; simp only [List.mem_cons, List.not_mem_nil, or_false] at hv; first | (rcases hv with rfl | rfl | rfl | rfl | rfl | rfl <;> rfl) | (rcases hv with rfl | rfl | rfl | rfl | rfl <;> rfl) | (rcases hv with rfl | rfl | rfl | rfl <;> rfl) | (rcases hv with rfl | rfl | rfl <;> rfl) | (rcases hv with rfl | rfl <;> rfl) | (subst hv; rfl) | exact hv.elim) (Nat.le_of_ble_eq_true rfl) (fun X hxl hxk C F N => ?_)
  subst hxl hxk
  show V X (mS (xK X) h) 0 [some (.ref (h 0)), some (.int (nI a)), some (.int q), none, none] [] g 0 0
  refine v_iconst (v := nI 0) C dX2_countOwedIn_0 (by decide) ?_
  refine v_istore_n C (lo2 := [some _, some _, some _, some _, none]) dX2_countOwedIn_1 rfl (Nat.le_of_ble_eq_true rfl) rfl ?_
  refine v_iload_n C dX2_countOwedIn_2 rfl ?_
  refine v_istore C (lo2 := [some _, some _, some _, some _, some _]) dX2_countOwedIn_3 rfl (Nat.le_of_ble_eq_true rfl) rfl ?_
  have L5 : ∀ (t : Nat × Nat), (fun t => a ≤ t.1 ∧ t.1 ≤ 96 ∧ t.2 + cntG (owb g) t.1 (b - t.1) = cntG (owb g) a (b - a)) t → (fun t : Nat × Nat => V X (mS (xK X) h) 5 [some (.ref (h 0)), some (.int (nI a)), some (.int q), some (.int (nI t.2)), some (.int (nI t.1))] [] g 0 0) t := by
    refine v_ind (fun t : Nat × Nat => b - t.1) ?_
    rintro ⟨i, f⟩ ih5 hI5
    dsimp only at hI5 ⊢
    obtain ⟨i1, i2, i3⟩ := hI5
    have ei := nI_toInt (n := i) (by omega)
    refine v_iload C dX2_countOwedIn_5 rfl ?_
    refine v_iload_n C dX2_countOwedIn_7 rfl ?_
    refine v_icmp_gt C 31 dX2_countOwedIn_8 (by decide) (fun c8 => ?_) (fun c8 => ?_)
    · refine v_iload_n C dX2_countOwedIn_31 rfl ?_
      refine v_iret C F (by first | rfl | exact bI_nar _) dX2_countOwedIn_32 (Nat.le_of_ble_eq_true rfl) (Nat.le_of_ble_eq_true rfl) ?_
      refine ⟨?_, rfl⟩
      rw [cntG_0 (by omega)] at i3
      rw [← i3]
      rfl
    · refine v_aload_n C dX2_countOwedIn_11 rfl ?_
      refine v_getr C fl_X2_15 or_mS_0_1 dX2_countOwedIn_12 ?_
      refine v_iload C dX2_countOwedIn_15 rfl ?_
      refine v_iald C ar_mS_2 (by decide) _ ?_ rfl dX2_countOwedIn_17 ?_
      · omega
      refine v_iconst (v := (-1)) C dX2_countOwedIn_18 (by decide) ?_
      refine v_icmp_eq C 25 dX2_countOwedIn_19 (by decide) (fun c19 => ?_) (fun c19 => ?_)
      · first | refine v_iinc1 C (lo2 := [some _, some _, some _, some _, some _]) dX2_countOwedIn_25 rfl rfl rfl ?_ | refine v_iinc C (lo2 := [some _, some _, some _, some _, some _]) dX2_countOwedIn_25 rfl rfl rfl rfl ?_
        refine v_goto C 5 dX2_countOwedIn_28 (by decide) ?_
        have hib : i < b := by omega
        rw [cntG_s hib] at i3
        first | exact ih5 (i + 1, f + 1) (by show b - (i + 1) < b - i; omega) ⟨by show a ≤ i + 1; omega, by show i + 1 ≤ 96; omega, by have hw : owb g i = true := (by simp [owb]; exact c19); rw [hw] at i3; simp only [if_true] at i3; show f + 1 + _ = _; omega⟩ | exact ih5 (i + 1, f) (by show b - (i + 1) < b - i; omega) ⟨by show a ≤ i + 1; omega, by show i + 1 ≤ 96; omega, by have hw : owb g i = false := (by simp [owb]; exact c19); rw [hw] at i3; simp at i3; exact i3⟩
      · first | refine v_iinc1 C (lo2 := [some _, some _, some _, some _, some _]) dX2_countOwedIn_22 rfl rfl rfl ?_ | refine v_iinc C (lo2 := [some _, some _, some _, some _, some _]) dX2_countOwedIn_22 rfl rfl rfl rfl ?_
        first | refine v_iinc1 C (lo2 := [some _, some _, some _, some _, some _]) dX2_countOwedIn_25 rfl rfl rfl ?_ | refine v_iinc C (lo2 := [some _, some _, some _, some _, some _]) dX2_countOwedIn_25 rfl rfl rfl rfl ?_
        refine v_goto C 5 dX2_countOwedIn_28 (by decide) ?_
        have hib : i < b := by omega
        rw [cntG_s hib] at i3
        first | exact ih5 (i + 1, f + 1) (by show b - (i + 1) < b - i; omega) ⟨by show a ≤ i + 1; omega, by show i + 1 ≤ 96; omega, by have hw : owb g i = true := (by simp [owb]; exact c19); rw [hw] at i3; simp only [if_true] at i3; show f + 1 + _ = _; omega⟩ | exact ih5 (i + 1, f) (by show b - (i + 1) < b - i; omega) ⟨by show a ≤ i + 1; omega, by show i + 1 ≤ 96; omega, by have hw : owb g i = false := (by simp [owb]; exact c19); rw [hw] at i3; simp at i3; exact i3⟩
  exact L5 (a, 0) ⟨Nat.le_refl _, ha, by simp⟩
set_option maxHeartbeats 4000000 in
theorem c_X2_countOwed {l : Launch} (hl : l.stackTraces = false) {κ : Kp} {h : Nat → Nat} {g : Mg} {n : Nat} (hn : g 0 7 = nI n) (h96 : n ≤ 96) : Ct SS MM l κ yX2_countOwed cX2_countOwed 1 (some FieldType.int) 1 0 0 [.ref (h 0)] (mS κ h) g ri (fun r u => r = nI (cntG (owb g) 0 n) ∧ u = g) (fun _ _ => False) := by
  refine Ct.of (own := RX2) (by decide) rfl hl (by intro v hv; simp only [List.mem_cons, List.not_mem_nil, or_false] at hv; first | (rcases hv with rfl | rfl | rfl | rfl | rfl | rfl <;> rfl) | (rcases hv with rfl | rfl | rfl | rfl | rfl <;> rfl) | (rcases hv with rfl | rfl | rfl | rfl <;> rfl) | (rcases hv with rfl | rfl | rfl <;> rfl) | (rcases hv with rfl | rfl <;> rfl) | (subst hv; rfl) | exact hv.elim) (Nat.le_of_ble_eq_true rfl) (fun X hxl hxk C F N => ?_)
  subst hxl hxk
  show V X (mS (xK X) h) 0 [some (.ref (h 0))] [] g 0 0
  refine v_aload_n C dX2_countOwed_0 rfl ?_
  refine v_iconst (v := nI 0) C dX2_countOwed_1 (by decide) ?_
  refine v_aload_n C dX2_countOwed_2 rfl ?_
  refine v_geti C fl_X2_40 oi_mS_0_7 dX2_countOwed_3 ?_
  refine v_iconst (v := nI 1) C dX2_countOwed_6 (by decide) ?_
  refine v_isub C dX2_countOwed_7 ?_
  refine v_callVi C (c_X2_countOwedIn hl ?_ ?_ ?_) ym_X2_countOwedIn ml_X2_68 emb_id_mS rfl rfl rfl rfl rfl dX2_countOwed_8 (Nat.le_of_ble_eq_true rfl) (Nat.le_of_ble_eq_true rfl) (Nat.le_of_ble_eq_true rfl) (Nat.le_of_ble_eq_true rfl) (fun _ _ hu => hu.elim) (fun r u hu => ?_)
  · rw [hn]; exact sub1_toInt (by omega)
  · exact h96
  · omega
  obtain ⟨rfl, rfl⟩ := hu
  refine v_iret C F (by first | rfl | exact bI_nar _) dX2_countOwed_11 (Nat.le_of_ble_eq_true rfl) (Nat.le_of_ble_eq_true rfl) ?_
  exact ⟨rfl, rfl⟩

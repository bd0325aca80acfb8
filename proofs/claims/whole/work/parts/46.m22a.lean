/-! the reference's reader -/
def seeB (b : Nat → Int32) (len k : Nat) : Int32 := if k < len then b k else -1
theorem seeB_lt {b : Nat → Int32} {len k : Nat} (h : k < len) : seeB b len k = b k := if_pos h
theorem seeB_ge {b : Nat → Int32} {len k : Nat} (h : len ≤ k) : seeB b len k = -1 := if_neg (by omega)
def letB (c : Int32) : Bool := decide (97 ≤ c.toInt) && decide (c.toInt ≤ 122)
def digB (c : Int32) : Bool := decide (48 ≤ c.toInt) && decide (c.toInt ≤ 57)
theorem let_see {b : Nat → Int32} {len k : Nat} : letB (seeB b len k) = ltr b len k := by
  unfold ltr
  by_cases h : k < len
  · rw [seeB_lt h, decide_eq_true h]; rfl
  · rw [seeB_ge (by omega), decide_eq_false h, Bool.false_and]; decide
theorem dig_see {b : Nat → Int32} {len k : Nat} : digB (seeB b len k) = dgt b len k := by
  unfold dgt
  by_cases h : k < len
  · rw [seeB_lt h, decide_eq_true h]; rfl
  · rw [seeB_ge (by omega), decide_eq_false h, Bool.false_and]; decide
/-- bytes are no negative numbers -/
def BN0 (b : Nat → Int32) : Prop := ∀ i, 0 ≤ (b i).toInt
theorem see_m1 {b : Nat → Int32} {len k : Nat} (hb : BN0 b) (h : seeB b len k = -1) : len ≤ k := by
  refine Classical.byContradiction fun c => ?_
  rw [seeB_lt (by omega)] at h
  have := hb k
  rw [h] at this
  revert this
  decide
theorem see_n1 {b : Nat → Int32} {len k : Nat} (h : ¬ seeB b len k = -1) : k < len := Classical.byContradiction fun c => h (seeB_ge (by omega))
/-- the reader's four numbers: next, from, sort, number -/
def rX (g : G) (nx fr so nu : Int32) : G := sG g 0 (upd (upd (upd (upd (g 0) 12 nx) 13 fr) 14 so) 15 nu)
theorem rX_id {g : G} {x : Int32} (h : g 0 12 = x) : rX g x (g 0 13) (g 0 14) (g 0 15) = g := by
  subst h
  refine sG_id (funext fun i => ?_)
  unfold upd
  by_cases e15 : i = 15
  · subst e15; rfl
  by_cases e14 : i = 14
  · subst e14; rfl
  by_cases e13 : i = 13
  · subst e13; rfl
  by_cases e12 : i = 12
  · subst e12; rfl
  rw [if_neg e15, if_neg e14, if_neg e13, if_neg e12]
theorem rX_eq {g : G} {a b c d a2 b2 c2 d2 x : Int32} {j : Nat} (h : ∀ i, upd (upd (upd (upd (upd (g 0) 12 a) 13 b) 14 c) 15 d) j x i = upd (upd (upd (upd (g 0) 12 a2) 13 b2) 14 c2) 15 d2 i) : sG (rX g a b c d) 0 (upd ((rX g a b c d) 0) j x) = rX g a2 b2 c2 d2 := by
  unfold rX
  rw [sG_sG]
  exact congrArg _ (funext h)
theorem rX_12 {g : G} {a b c d x : Int32} : sG (rX g a b c d) 0 (upd ((rX g a b c d) 0) 12 x) = rX g x b c d := rX_eq fun i => by
  unfold upd
  by_cases e9 : i = 15 <;> by_cases e8 : i = 14 <;> by_cases e7 : i = 13 <;> by_cases e6 : i = 12 <;> simp [e9, e8, e7, e6] <;> omega
theorem rX_13 {g : G} {a b c d x : Int32} : sG (rX g a b c d) 0 (upd ((rX g a b c d) 0) 13 x) = rX g a x c d := rX_eq fun i => by
  unfold upd
  by_cases e9 : i = 15 <;> by_cases e8 : i = 14 <;> by_cases e7 : i = 13 <;> by_cases e6 : i = 12 <;> simp [e9, e8, e7, e6] <;> omega
theorem rX_14 {g : G} {a b c d x : Int32} : sG (rX g a b c d) 0 (upd ((rX g a b c d) 0) 14 x) = rX g a b x d := rX_eq fun i => by
  unfold upd
  by_cases e9 : i = 15 <;> by_cases e8 : i = 14 <;> by_cases e7 : i = 13 <;> by_cases e6 : i = 12 <;> simp [e9, e8, e7, e6] <;> omega
theorem rX_15 {g : G} {a b c d x : Int32} : sG (rX g a b c d) 0 (upd ((rX g a b c d) 0) 15 x) = rX g a b c x := rX_eq fun i => by
  unfold upd
  by_cases e9 : i = 15 <;> by_cases e8 : i = 14 <;> by_cases e7 : i = 13 <;> by_cases e6 : i = 12 <;> simp [e9, e8, e7, e6] <;> omega
/-- what reading leaves alone -/
def FQ (g u : G) : Prop := (∀ c, ¬ c = 0 → u c = g c) ∧ ∀ k, ¬ (12 ≤ k ∧ k ≤ 17) → u 0 k = g 0 k
def FT (g u : G) : Prop := (∀ c, ¬ c = 0 → u c = g c) ∧ ∀ k, ¬ (12 ≤ k ∧ k ≤ 15) → u 0 k = g 0 k
theorem FT.fq {g u : G} (h : FT g u) : FQ g u := ⟨h.1, fun k hk => h.2 k (by omega)⟩
theorem FQ.rf {g : G} : FQ g g := ⟨fun _ _ => rfl, fun _ _ => rfl⟩
theorem FQ.tr {a b c : G} (h : FQ a b) (h2 : FQ b c) : FQ a c := ⟨fun i hi => (h2.1 i hi).trans (h.1 i hi), fun k hk => (h2.2 k hk).trans (h.2 k hk)⟩
theorem rX_FT {g : G} {a b c d : Int32} : FT g (rX g a b c d) := ⟨fun i hi => if_neg hi, fun k hk => by
  show upd (upd (upd (upd (g 0) 12 a) 13 b) 14 c) 15 d k = g 0 k
  rw [upd_o (by omega), upd_o (by omega), upd_o (by omega), upd_o (by omega)]⟩
/-- the token stands in the reference -/
def TTk (t : Tk) (u : G) : Prop := u 0 14 = nI t.1 ∧ u 0 13 = nI t.2.1 ∧ (¬ t.1 = 4 → u 0 12 = nI t.2.2.1) ∧ (t.1 = 2 → u 0 15 = nI t.2.2.2)
theorem TT_mk {t : Tk} {g : G} {a b c d : Int32} (h1 : c = nI t.1) (h2 : b = nI t.2.1) (h3 : ¬ t.1 = 4 → a = nI t.2.2.1) (h4 : t.1 = 2 → d = nI t.2.2.2) : TTk t (rX g a b c d) := ⟨h1, h2, h3, h4⟩
theorem tok_0 {b : Nat → Int32} {len e0 i : Nat} (hs : runB (spc b) len e0 = i) (h : len ≤ i) : tok b len e0 = (0, i, i, 0) := by
  unfold tok
  rw [hs, if_pos h]
theorem tok_3 {b : Nat → Int32} {len e0 i : Nat} (hs : runB (spc b) len e0 = i) (h : i < len) (h2 : b i = nI 59) : tok b len e0 = (3, i, i + 1, 0) := by
  unfold tok
  rw [hs, if_neg (by omega), if_pos h2]
theorem tok_1 {b : Nat → Int32} {len e0 i q : Nat} (hs : runB (spc b) len e0 = i) (h : i < len) (h2 : ltr b len i = true) (hq : runB (ltr b len) len i = q) : tok b len e0 = (if 8 < q - i then 4 else 1, i, q, 0) := by
  have h3 : ¬ b i = nI 59 := fun z => by
    simp only [ltr, Bool.and_eq_true, decide_eq_true_eq] at h2
    rw [z] at h2
    revert h2
    have : (nI 59).toInt = 59 := by decide
    rw [this]
    omega
  unfold tok
  rw [hs, if_neg (by omega), if_neg h3, if_pos h2, hq]
theorem tok_2 {b : Nat → Int32} {len e0 i q : Nat} (hs : runB (spc b) len e0 = i) (h : i < len) (h1 : ltr b len i = false) (h2 : dgt b len i = true) (hq : runB (dgt b len) len i = q) : tok b len e0 = (if 3 < q - i then 4 else 2, i, q, numG b i (q - i) 0) := by
  have h3 : ¬ b i = nI 59 := fun z => by
    simp only [dgt, Bool.and_eq_true, decide_eq_true_eq] at h2
    rw [z] at h2
    revert h2
    have : (nI 59).toInt = 59 := by decide
    rw [this]
    omega
  unfold tok
  rw [hs, if_neg (by omega), if_neg h3, if_neg (by rw [h1]; exact Bool.false_ne_true), if_pos h2, hq]
theorem tok_4 {b : Nat → Int32} {len e0 i : Nat} (hs : runB (spc b) len e0 = i) (h : i < len) (h3 : ¬ b i = nI 59) (h1 : ltr b len i = false) (h2 : dgt b len i = false) : tok b len e0 = (4, i, i, 0) := by
  unfold tok
  rw [hs, if_neg (by omega), if_neg h3, if_neg (by rw [h1]; exact Bool.false_ne_true), if_neg (by rw [h2]; exact Bool.false_ne_true)]
set_option maxHeartbeats 16000000 in
theorem c_X6_seen {l : Launch} (hl : l.stackTraces = false) {κ : Kp} {h : Nat → Nat} {g : G} {b : Nat → Int32} {len k : Nat} (h4 : g 4 = b) (h11 : g 0 11 = nI len) (h7 : len ≤ 700) (hk : k < 2 ^ 31) : Ct SS MM l κ yX6_seen cX6_seen 2 (some FieldType.int) 0 0 0 [.ref (h 0), .int (nI k)] (qS κ h) g ri (fun r u => r = seeB b len k ∧ u = g) (fun _ _ => False) := by
  refine Ct.of (own := RX6) (by decide) rfl hl (by intro v hv; simp only [List.mem_cons, List.not_mem_nil, or_false] at hv; first | (rcases hv with rfl | rfl | rfl | rfl | rfl | rfl <;> rfl) | (rcases hv with rfl | rfl | rfl | rfl | rfl <;> rfl) | (rcases hv with rfl | rfl | rfl | rfl <;> rfl) | (rcases hv with rfl | rfl | rfl <;> rfl) | (rcases hv with rfl | rfl <;> rfl) | (subst hv; rfl) | exact hv.elim) (Nat.le_of_ble_eq_true rfl) (fun X hxl hxk C F N => ?_)
  subst hxl hxk
  show V X (qS (xK X) h) 0 [some (.ref (h 0)), some (.int (nI k))] [] g 0 0
  refine v_iload_n C dX6_seen_0 rfl ?_
  refine v_aload_n C dX6_seen_1 rfl ?_
  refine v_getiQ (x := nI len) C fl_X6_50 oi_qS_0_11 (h11) dX6_seen_2 ?_
  first | refine v_icmp_geN C 17 dX6_seen_5 (by decide) (by omega) (by omega) (fun c5 => ?_) (fun c5 => ?_) | refine v_icmp_ge C 17 dX6_seen_5 (by decide) (fun c5 => ?_) (fun c5 => ?_)
  · refine v_iconst (v := (-1)) C dX6_seen_17 (by decide) ?_
    refine v_iret C F (by first | rfl | exact bI_nar _) dX6_seen_18 (Nat.le_of_ble_eq_true rfl) (Nat.le_of_ble_eq_true rfl) ?_
    first
    | exact ⟨(seeB_lt (by omega)).symm, rfl⟩
    | exact ⟨(seeB_ge (by omega)).symm, rfl⟩
  · refine v_aload_n C dX6_seen_8 rfl ?_
    refine v_getr C fl_X6_20 or_qS_0_7 dX6_seen_9 ?_
    refine v_iload_n C dX6_seen_12 rfl ?_
    refine v_ialdQ (x := b k) C ar_qS_4 (by decide) _ (congrFun h4 k) ?_ rfl dX6_seen_13 ?_
    · omega
    refine v_goto C 18 dX6_seen_14 (by decide) ?_
    refine v_iret C F (by first | rfl | exact bI_nar _) dX6_seen_18 (Nat.le_of_ble_eq_true rfl) (Nat.le_of_ble_eq_true rfl) ?_
    first
    | exact ⟨(seeB_lt (by omega)).symm, rfl⟩
    | exact ⟨(seeB_ge (by omega)).symm, rfl⟩
set_option maxHeartbeats 16000000 in
theorem c_X6_isLetter {l : Launch} (hl : l.stackTraces = false) {κ : Kp} {c : Int32}  : Ct SS MM l κ yX6_isLetter cX6_isLetter 1 (some FieldType.boolean) 0 0 0 [.int c] nS () ri (fun r _ => r = bI (letB c)) (fun _ _ => False) := by
  refine Ct.of (own := RX6) (by decide) rfl hl (by intro v hv; simp only [List.mem_cons, List.not_mem_nil, or_false] at hv; first | (rcases hv with rfl | rfl | rfl | rfl | rfl | rfl <;> rfl) | (rcases hv with rfl | rfl | rfl | rfl | rfl <;> rfl) | (rcases hv with rfl | rfl | rfl | rfl <;> rfl) | (rcases hv with rfl | rfl | rfl <;> rfl) | (rcases hv with rfl | rfl <;> rfl) | (subst hv; rfl) | exact hv.elim) (Nat.le_of_ble_eq_true rfl) (fun X hxl hxk C F N => ?_)
  subst hxl hxk
  show V X nS 0 [some (.int c)] [] () 0 0
  have e1 : (nI 97).toInt = 97 := by decide
  have e2 : (nI 122).toInt = 122 := by decide
  refine v_iload_n C dX6_isLetter_0 rfl ?_
  refine v_bipush (v := nI 97) C dX6_isLetter_1 (by decide) ?_
  refine v_icmp_lt C 16 dX6_isLetter_3 (by decide) (fun c3 => ?_) (fun c3 => ?_)
  · refine v_iconst (v := nI 0) C dX6_isLetter_16 (by decide) ?_
    refine v_iret C F (by first | rfl | exact bI_nar _) dX6_isLetter_17 (Nat.le_of_ble_eq_true rfl) (Nat.le_of_ble_eq_true rfl) ?_
    unfold letB
    first
    | (refine bI_t ?_; rw [decide_eq_true (by omega), decide_eq_true (by omega)]; rfl)
    | (refine bI_f ?_; rw [decide_eq_false (show ¬ (97 : Int) ≤ c.toInt by omega), Bool.false_and])
    | (refine bI_f ?_; rw [decide_eq_false (show ¬ c.toInt ≤ (122 : Int) by omega), Bool.and_false])
  · refine v_iload_n C dX6_isLetter_6 rfl ?_
    refine v_bipush (v := nI 122) C dX6_isLetter_7 (by decide) ?_
    refine v_icmp_gt C 16 dX6_isLetter_9 (by decide) (fun c9 => ?_) (fun c9 => ?_)
    · refine v_iconst (v := nI 0) C dX6_isLetter_16 (by decide) ?_
      refine v_iret C F (by first | rfl | exact bI_nar _) dX6_isLetter_17 (Nat.le_of_ble_eq_true rfl) (Nat.le_of_ble_eq_true rfl) ?_
      unfold letB
      first
      | (refine bI_t ?_; rw [decide_eq_true (by omega), decide_eq_true (by omega)]; rfl)
      | (refine bI_f ?_; rw [decide_eq_false (show ¬ (97 : Int) ≤ c.toInt by omega), Bool.false_and])
      | (refine bI_f ?_; rw [decide_eq_false (show ¬ c.toInt ≤ (122 : Int) by omega), Bool.and_false])
    · refine v_iconst (v := nI 1) C dX6_isLetter_12 (by decide) ?_
      refine v_goto C 17 dX6_isLetter_13 (by decide) ?_
      refine v_iret C F (by first | rfl | exact bI_nar _) dX6_isLetter_17 (Nat.le_of_ble_eq_true rfl) (Nat.le_of_ble_eq_true rfl) ?_
      unfold letB
      first
      | (refine bI_t ?_; rw [decide_eq_true (by omega), decide_eq_true (by omega)]; rfl)
      | (refine bI_f ?_; rw [decide_eq_false (show ¬ (97 : Int) ≤ c.toInt by omega), Bool.false_and])
      | (refine bI_f ?_; rw [decide_eq_false (show ¬ c.toInt ≤ (122 : Int) by omega), Bool.and_false])
set_option maxHeartbeats 16000000 in
theorem c_X6_isDigit {l : Launch} (hl : l.stackTraces = false) {κ : Kp} {c : Int32}  : Ct SS MM l κ yX6_isDigit cX6_isDigit 1 (some FieldType.boolean) 0 0 0 [.int c] nS () ri (fun r _ => r = bI (digB c)) (fun _ _ => False) := by
  refine Ct.of (own := RX6) (by decide) rfl hl (by intro v hv; simp only [List.mem_cons, List.not_mem_nil, or_false] at hv; first | (rcases hv with rfl | rfl | rfl | rfl | rfl | rfl <;> rfl) | (rcases hv with rfl | rfl | rfl | rfl | rfl <;> rfl) | (rcases hv with rfl | rfl | rfl | rfl <;> rfl) | (rcases hv with rfl | rfl | rfl <;> rfl) | (rcases hv with rfl | rfl <;> rfl) | (subst hv; rfl) | exact hv.elim) (Nat.le_of_ble_eq_true rfl) (fun X hxl hxk C F N => ?_)
  subst hxl hxk
  show V X nS 0 [some (.int c)] [] () 0 0
  have e1 : (nI 48).toInt = 48 := by decide
  have e2 : (nI 57).toInt = 57 := by decide
  refine v_iload_n C dX6_isDigit_0 rfl ?_
  refine v_bipush (v := nI 48) C dX6_isDigit_1 (by decide) ?_
  refine v_icmp_lt C 16 dX6_isDigit_3 (by decide) (fun c3 => ?_) (fun c3 => ?_)
  · refine v_iconst (v := nI 0) C dX6_isDigit_16 (by decide) ?_
    refine v_iret C F (by first | rfl | exact bI_nar _) dX6_isDigit_17 (Nat.le_of_ble_eq_true rfl) (Nat.le_of_ble_eq_true rfl) ?_
    unfold digB
    first
    | (refine bI_t ?_; rw [decide_eq_true (by omega), decide_eq_true (by omega)]; rfl)
    | (refine bI_f ?_; rw [decide_eq_false (show ¬ (48 : Int) ≤ c.toInt by omega), Bool.false_and])
    | (refine bI_f ?_; rw [decide_eq_false (show ¬ c.toInt ≤ (57 : Int) by omega), Bool.and_false])
  · refine v_iload_n C dX6_isDigit_6 rfl ?_
    refine v_bipush (v := nI 57) C dX6_isDigit_7 (by decide) ?_
    refine v_icmp_gt C 16 dX6_isDigit_9 (by decide) (fun c9 => ?_) (fun c9 => ?_)
    · refine v_iconst (v := nI 0) C dX6_isDigit_16 (by decide) ?_
      refine v_iret C F (by first | rfl | exact bI_nar _) dX6_isDigit_17 (Nat.le_of_ble_eq_true rfl) (Nat.le_of_ble_eq_true rfl) ?_
      unfold digB
      first
      | (refine bI_t ?_; rw [decide_eq_true (by omega), decide_eq_true (by omega)]; rfl)
      | (refine bI_f ?_; rw [decide_eq_false (show ¬ (48 : Int) ≤ c.toInt by omega), Bool.false_and])
      | (refine bI_f ?_; rw [decide_eq_false (show ¬ c.toInt ≤ (57 : Int) by omega), Bool.and_false])
    · refine v_iconst (v := nI 1) C dX6_isDigit_12 (by decide) ?_
      refine v_goto C 17 dX6_isDigit_13 (by decide) ?_
      refine v_iret C F (by first | rfl | exact bI_nar _) dX6_isDigit_17 (Nat.le_of_ble_eq_true rfl) (Nat.le_of_ble_eq_true rfl) ?_
      unfold digB
      first
      | (refine bI_t ?_; rw [decide_eq_true (by omega), decide_eq_true (by omega)]; rfl)
      | (refine bI_f ?_; rw [decide_eq_false (show ¬ (48 : Int) ≤ c.toInt by omega), Bool.false_and])
      | (refine bI_f ?_; rw [decide_eq_false (show ¬ c.toInt ≤ (57 : Int) by omega), Bool.and_false])
set_option maxHeartbeats 16000000 in
theorem c_X6_token {l : Launch} (hl : l.stackTraces = false) {κ : Kp} {h : Nat → Nat} {g : G} {b : Nat → Int32} {len e0 : Nat} (h4 : g 4 = b) (h11 : g 0 11 = nI len) (h7 : len ≤ 700) (h12 : g 0 12 = nI e0) (he : e0 ≤ len) (hb : BN0 b) : Ct SS MM l κ yX6_token cX6_token 2 none 1 0 0 [.ref (h 0)] (qS κ h) g rv (fun _ u => TTk (tok b len e0) u ∧ FT g u) (fun _ _ => False) := by
  refine Ct.of (own := RX6) (by decide) rfl hl (by intro v hv; simp only [List.mem_cons, List.not_mem_nil, or_false] at hv; first | (rcases hv with rfl | rfl | rfl | rfl | rfl | rfl <;> rfl) | (rcases hv with rfl | rfl | rfl | rfl | rfl <;> rfl) | (rcases hv with rfl | rfl | rfl | rfl <;> rfl) | (rcases hv with rfl | rfl | rfl <;> rfl) | (rcases hv with rfl | rfl <;> rfl) | (subst hv; rfl) | exact hv.elim) (Nat.le_of_ble_eq_true rfl) (fun X hxl hxk C F N => ?_)
  subst hxl hxk
  show V X (qS (xK X) h) 0 [some (.ref (h 0)), none] [] g 0 0
  obtain ⟨fr, hF⟩ : ∃ x, x = g 0 13 := ⟨_, rfl⟩
  obtain ⟨so, hS⟩ : ∃ x, x = g 0 14 := ⟨_, rfl⟩
  obtain ⟨nm, hN⟩ : ∃ x, x = g 0 15 := ⟨_, rfl⟩
  refine V.stt (g2 := rX g (nI e0) fr so nm) (by rw [hF, hS, hN, rX_id h12]) ?_
  have L0 : ∀ (t : Nat), (fun t => e0 ≤ t ∧ t ≤ len ∧ runB (spc b) len t = runB (spc b) len e0) t → (fun t : Nat => V X (qS (xK X) h) 0 [some (.ref (h 0)), none] [] (rX g (nI t) (fr) (so) (nm)) 0 0) t := by
    refine v_ind (fun t : Nat => len - t) ?_
    rintro i ih0 hI0
    try dsimp only at hI0 ⊢
    obtain ⟨i0, i1, i3⟩ := hI0
    refine v_aload_n C dX6_token_0 rfl ?_
    refine v_aload_n C dX6_token_1 rfl ?_
    refine v_getiQ (x := nI i) C fl_X6_53 oi_qS_0_12 (rfl) dX6_token_2 ?_
    refine v_callVi C (c_X6_seen hl (g := (rX g (nI i) (fr) (so) (nm))) (b := b) (len := len) (k := i) h4 h11 h7 (by omega)) ym_X6_seen ml_X6_56 emb_id_qS rfl rfl rfl rfl rfl dX6_token_5 (Nat.le_of_ble_eq_true rfl) (Nat.le_of_ble_eq_true rfl) (Nat.le_of_ble_eq_true rfl) (Nat.le_of_ble_eq_true rfl) (fun _ _ hu => hu.elim) (fun r u hu => ?_)
    obtain ⟨rfl, hu⟩ := hu
    subst u
    refine V.stt (g2 := (rX g (nI i) (fr) (so) (nm))) (rfl) ?_
    refine v_bipush (v := nI 32) C dX6_token_8 (by decide) ?_
    refine v_icmp_ne C 26 dX6_token_10 (by decide) (fun c10 => ?_) (fun c10 => ?_)
    · have hsi : runB (spc b) len e0 = i := by
        rw [← i3]
        by_cases z : i < len
        · rw [runB_s z, if_neg (fun w => c10 (by rw [seeB_lt z]; exact beq_iff_eq.mp w))]
        · exact runB_0 (by omega)
      refine v_aload_n C dX6_token_26 rfl ?_
      refine v_aload_n C dX6_token_27 rfl ?_
      refine v_getiQ (x := nI i) C fl_X6_53 oi_qS_0_12 (rfl) dX6_token_28 ?_
      refine v_puti C fl_X6_60 fw_X6_13 oi_qS_0_13 ⟨rfl, rfl⟩ dX6_token_31 ?_
      refine V.stt (g2 := (rX g (nI i) (nI i) (so) (nm))) (rX_13) ?_
      refine v_aload_n C dX6_token_34 rfl ?_
      refine v_aload_n C dX6_token_35 rfl ?_
      refine v_getiQ (x := nI i) C fl_X6_53 oi_qS_0_12 (rfl) dX6_token_36 ?_
      refine v_callVi C (c_X6_seen hl (g := (rX g (nI i) (nI i) (so) (nm))) (b := b) (len := len) (k := i) h4 h11 h7 (by omega)) ym_X6_seen ml_X6_56 emb_id_qS rfl rfl rfl rfl rfl dX6_token_39 (Nat.le_of_ble_eq_true rfl) (Nat.le_of_ble_eq_true rfl) (Nat.le_of_ble_eq_true rfl) (Nat.le_of_ble_eq_true rfl) (fun _ _ hu => hu.elim) (fun r u hu => ?_)
      obtain ⟨rfl, hu⟩ := hu
      subst u
      refine V.stt (g2 := (rX g (nI i) (nI i) (so) (nm))) (rfl) ?_
      refine v_istore_n C (lo2 := [some _, some _]) dX6_token_42 rfl (Nat.le_of_ble_eq_true rfl) rfl ?_
      refine v_iload_n C dX6_token_43 rfl ?_
      refine v_iconst (v := (-1)) C dX6_token_44 (by decide) ?_
      refine v_icmp_ne C 56 dX6_token_45 (by decide) (fun c45 => ?_) (fun c45 => ?_)
      · have hil := see_n1 c45
        refine v_iload_n C dX6_token_56 rfl ?_
        refine v_callSi C (c_X6_isLetter hl) ys_X6_isLetter rfl ml_X6_66 (emb_n fix_qS) rfl rfl rfl dX6_token_57 (Nat.le_of_ble_eq_true rfl) (Nat.le_of_ble_eq_true rfl) (Nat.le_of_ble_eq_true rfl) (Nat.le_of_ble_eq_true rfl) (fun _ _ hu => hu.elim) (fun r u hu => ?_)
        subst r
        rw [let_see]
        refine v_if_eqB C 116 dX6_token_60 (by decide) (fun c60 => ?_) (fun c60 => ?_)
        · refine v_iload_n C dX6_token_116 rfl ?_
          refine v_callSi C (c_X6_isDigit hl) ys_X6_isDigit rfl ml_X6_70 (emb_n fix_qS) rfl rfl rfl dX6_token_117 (Nat.le_of_ble_eq_true rfl) (Nat.le_of_ble_eq_true rfl) (Nat.le_of_ble_eq_true rfl) (Nat.le_of_ble_eq_true rfl) (fun _ _ hu => hu.elim) (fun r u hu => ?_)
          subst r
          rw [dig_see]
          refine v_if_eqB C 220 dX6_token_120 (by decide) (fun c120 => ?_) (fun c120 => ?_)
          · refine v_aload_n C dX6_token_220 rfl ?_
            refine v_iload_n C dX6_token_221 rfl ?_
            refine v_bipush (v := nI 59) C dX6_token_222 (by decide) ?_
            refine v_icmp_ne C 231 dX6_token_224 (by decide) (fun c224 => ?_) (fun c224 => ?_)
            · have hz := tok_4 hsi hil (fun z => c224 (by rw [seeB_lt hil]; exact z)) c60 c120
              refine v_iconst (v := nI 4) C dX6_token_231 (by decide) ?_
              refine v_puti C fl_X6_63 fw_X6_14 oi_qS_0_14 ⟨rfl, rfl⟩ dX6_token_232 ?_
              first
              | (refine V.stt (g2 := (rX g (nI i) (nI i) (nI 3) (nm))) rX_14 ?_)
              | (refine V.stt (g2 := (rX g (nI i) (nI i) (nI 4) (nm))) rX_14 ?_)
              refine v_aload_n C dX6_token_235 rfl ?_
              refine v_dup C dX6_token_236 rfl ?_
              refine v_getiQ (x := nI i) C fl_X6_53 oi_qS_0_12 (rfl) dX6_token_237 ?_
              refine v_iconst (v := nI 1) C dX6_token_240 (by decide) ?_
              first | refine v_iaddN C dX6_token_241 ?_ | refine v_iadd C dX6_token_241 ?_
              refine v_puti C fl_X6_53 fw_X6_12 oi_qS_0_12 ⟨rfl, rfl⟩ dX6_token_242 ?_
              first
              | (refine V.stt (g2 := (rX g (nI (i + 1)) (nI i) (nI 3) (nm))) rX_12 ?_)
              | (refine V.stt (g2 := (rX g (nI (i + 1)) (nI i) (nI 4) (nm))) rX_12 ?_)
              refine v_vret C F dX6_token_245 (Nat.le_of_ble_eq_true rfl) (Nat.le_of_ble_eq_true rfl) ?_
              rw [hz]
              refine ⟨?_, rX_FT⟩
              first
              | (refine TT_mk rfl rfl (fun _ => rfl) (fun z => ?_); cases z; done)
              | (rw [if_pos (by omega)]; exact TT_mk rfl rfl (fun z => absurd rfl z) (fun z => by cases z))
              | (rw [if_neg (by omega)]; exact TT_mk rfl rfl (fun _ => rfl) (fun _ => (k3 (by omega)).1))
              | (rw [if_neg (by omega)]; exact TT_mk rfl rfl (fun _ => rfl) (fun z => by cases z))
              | exact TT_mk rfl rfl (fun z => absurd rfl z) (fun z => by cases z)
            · have hz := tok_3 hsi hil ((show seeB b len i = b i from seeB_lt hil).symm.trans c224)
              refine v_iconst (v := nI 3) C dX6_token_227 (by decide) ?_
              refine v_goto C 232 dX6_token_228 (by decide) ?_
              refine v_puti C fl_X6_63 fw_X6_14 oi_qS_0_14 ⟨rfl, rfl⟩ dX6_token_232 ?_
              first
              | (refine V.stt (g2 := (rX g (nI i) (nI i) (nI 3) (nm))) rX_14 ?_)
              | (refine V.stt (g2 := (rX g (nI i) (nI i) (nI 4) (nm))) rX_14 ?_)
              refine v_aload_n C dX6_token_235 rfl ?_
              refine v_dup C dX6_token_236 rfl ?_
              refine v_getiQ (x := nI i) C fl_X6_53 oi_qS_0_12 (rfl) dX6_token_237 ?_
              refine v_iconst (v := nI 1) C dX6_token_240 (by decide) ?_
              first | refine v_iaddN C dX6_token_241 ?_ | refine v_iadd C dX6_token_241 ?_
              refine v_puti C fl_X6_53 fw_X6_12 oi_qS_0_12 ⟨rfl, rfl⟩ dX6_token_242 ?_
              first
              | (refine V.stt (g2 := (rX g (nI (i + 1)) (nI i) (nI 3) (nm))) rX_12 ?_)
              | (refine V.stt (g2 := (rX g (nI (i + 1)) (nI i) (nI 4) (nm))) rX_12 ?_)
              refine v_vret C F dX6_token_245 (Nat.le_of_ble_eq_true rfl) (Nat.le_of_ble_eq_true rfl) ?_
              rw [hz]
              refine ⟨?_, rX_FT⟩
              first
              | (refine TT_mk rfl rfl (fun _ => rfl) (fun z => ?_); cases z; done)
              | (rw [if_pos (by omega)]; exact TT_mk rfl rfl (fun z => absurd rfl z) (fun z => by cases z))
              | (rw [if_neg (by omega)]; exact TT_mk rfl rfl (fun _ => rfl) (fun _ => (k3 (by omega)).1))
              | (rw [if_neg (by omega)]; exact TT_mk rfl rfl (fun _ => rfl) (fun z => by cases z))
              | exact TT_mk rfl rfl (fun z => absurd rfl z) (fun z => by cases z)
          · refine v_aload_n C dX6_token_123 rfl ?_
            refine v_iconst (v := nI 0) C dX6_token_124 (by decide) ?_
            refine v_puti C fl_X6_73 fw_X6_15 oi_qS_0_15 ⟨rfl, rfl⟩ dX6_token_125 ?_
            refine V.stt (g2 := (rX g (nI i) (nI i) (so) (nI 0))) (rX_15) ?_
            have L128 : ∀ (t : Nat × Int32), (fun t => i ≤ t.1 ∧ t.1 ≤ len ∧ runB (dgt b len) len t.1 = runB (dgt b len) len i ∧ (t.1 - i ≤ 3 → t.2 = nI (numG b i (t.1 - i) 0) ∧ numG b i (t.1 - i) 0 < 10 ^ (t.1 - i))) t → (fun t : Nat × Int32 => V X (qS (xK X) h) 128 [some (.ref (h 0)), some (.int (seeB b len i))] [] (rX g (nI t.1) (nI i) (so) (t.2)) 0 0) t := by
              refine v_ind (fun t : Nat × Int32 => len - t.1) ?_
              rintro ⟨q, nu⟩ ih128 hI128
              try dsimp only at hI128 ⊢
              obtain ⟨k0, k1, k4, k3⟩ := hI128
              have k0 : i ≤ q := k0
              have k1 : q ≤ len := k1
              refine v_aload_n C dX6_token_128 rfl ?_
              refine v_aload_n C dX6_token_129 rfl ?_
              refine v_getiQ (x := nI q) C fl_X6_53 oi_qS_0_12 (rfl) dX6_token_130 ?_
              refine v_callVi C (c_X6_seen hl (g := (rX g (nI q) (nI i) (so) (nu))) (b := b) (len := len) (k := q) h4 h11 h7 (by omega)) ym_X6_seen ml_X6_56 emb_id_qS rfl rfl rfl rfl rfl dX6_token_133 (Nat.le_of_ble_eq_true rfl) (Nat.le_of_ble_eq_true rfl) (Nat.le_of_ble_eq_true rfl) (Nat.le_of_ble_eq_true rfl) (fun _ _ hu => hu.elim) (fun r u hu => ?_)
              obtain ⟨rfl, hu⟩ := hu
              subst u
              refine V.stt (g2 := (rX g (nI q) (nI i) (so) (nu))) (rfl) ?_
              refine v_callSi C (c_X6_isDigit hl) ys_X6_isDigit rfl ml_X6_70 (emb_n fix_qS) rfl rfl rfl dX6_token_136 (Nat.le_of_ble_eq_true rfl) (Nat.le_of_ble_eq_true rfl) (Nat.le_of_ble_eq_true rfl) (Nat.le_of_ble_eq_true rfl) (fun _ _ hu => hu.elim) (fun r u hu => ?_)
              subst r
              rw [dig_see]
              refine v_if_eqB C 195 dX6_token_139 (by decide) (fun c139 => ?_) (fun c139 => ?_)
              · have hqe : runB (dgt b len) len i = q := by
                  rw [← k4]
                  by_cases z : q < len
                  · rw [runB_s z, if_neg (by rw [c139]; exact Bool.false_ne_true)]
                  · exact runB_0 (by omega)
                have hz := tok_2 hsi hil c60 c120 hqe
                refine v_aload_n C dX6_token_195 rfl ?_
                refine v_aload_n C dX6_token_196 rfl ?_
                refine v_getiQ (x := nI q) C fl_X6_53 oi_qS_0_12 (rfl) dX6_token_197 ?_
                refine v_aload_n C dX6_token_200 rfl ?_
                refine v_getiQ (x := nI i) C fl_X6_60 oi_qS_0_13 (rfl) dX6_token_201 ?_
                first | refine v_isubN C dX6_token_204 (by omega) ?_ | refine v_isub C dX6_token_204 ?_
                refine v_iconst (v := nI 3) C dX6_token_205 (by decide) ?_
                first | refine v_icmp_leN C 213 dX6_token_206 (by decide) (by omega) (by omega) (fun c206 => ?_) (fun c206 => ?_) | refine v_icmp_le C 213 dX6_token_206 (by decide) (fun c206 => ?_) (fun c206 => ?_)
                · refine v_iconst (v := nI 2) C dX6_token_213 (by decide) ?_
                  refine v_puti C fl_X6_63 fw_X6_14 oi_qS_0_14 ⟨rfl, rfl⟩ dX6_token_214 ?_
                  first
                  | (refine V.stt (g2 := (rX g (nI q) (nI i) (nI 4) (nu))) rX_14 ?_)
                  | (refine V.stt (g2 := (rX g (nI q) (nI i) (nI 2) (nu))) rX_14 ?_)
                  refine v_goto C 245 dX6_token_217 (by decide) ?_
                  refine v_vret C F dX6_token_245 (Nat.le_of_ble_eq_true rfl) (Nat.le_of_ble_eq_true rfl) ?_
                  rw [hz]
                  refine ⟨?_, rX_FT⟩
                  first
                  | (refine TT_mk rfl rfl (fun _ => rfl) (fun z => ?_); cases z; done)
                  | (rw [if_pos (by omega)]; exact TT_mk rfl rfl (fun z => absurd rfl z) (fun z => by cases z))
                  | (rw [if_neg (by omega)]; exact TT_mk rfl rfl (fun _ => rfl) (fun _ => (k3 (by omega)).1))
                  | (rw [if_neg (by omega)]; exact TT_mk rfl rfl (fun _ => rfl) (fun z => by cases z))
                  | exact TT_mk rfl rfl (fun z => absurd rfl z) (fun z => by cases z)
                · refine v_iconst (v := nI 4) C dX6_token_209 (by decide) ?_
                  refine v_goto C 214 dX6_token_210 (by decide) ?_
                  refine v_puti C fl_X6_63 fw_X6_14 oi_qS_0_14 ⟨rfl, rfl⟩ dX6_token_214 ?_
                  first
                  | (refine V.stt (g2 := (rX g (nI q) (nI i) (nI 4) (nu))) rX_14 ?_)
                  | (refine V.stt (g2 := (rX g (nI q) (nI i) (nI 2) (nu))) rX_14 ?_)
                  refine v_goto C 245 dX6_token_217 (by decide) ?_
                  refine v_vret C F dX6_token_245 (Nat.le_of_ble_eq_true rfl) (Nat.le_of_ble_eq_true rfl) ?_
                  rw [hz]
                  refine ⟨?_, rX_FT⟩
                  first
                  | (refine TT_mk rfl rfl (fun _ => rfl) (fun z => ?_); cases z; done)
                  | (rw [if_pos (by omega)]; exact TT_mk rfl rfl (fun z => absurd rfl z) (fun z => by cases z))
                  | (rw [if_neg (by omega)]; exact TT_mk rfl rfl (fun _ => rfl) (fun _ => (k3 (by omega)).1))
                  | (rw [if_neg (by omega)]; exact TT_mk rfl rfl (fun _ => rfl) (fun z => by cases z))
                  | exact TT_mk rfl rfl (fun z => absurd rfl z) (fun z => by cases z)
              · have hqd : q < len ∧ 48 ≤ (b q).toInt ∧ (b q).toInt ≤ 57 := by
                  have z := c139
                  simp only [dgt, Bool.and_eq_true, decide_eq_true_eq] at z
                  exact z
                have hq1 := hqd.1
                obtain ⟨ev, hev⟩ := nI_of_nonneg (x := b q) (by omega)
                obtain ⟨v, hv⟩ : ∃ v, v = (b q).toInt.toNat := ⟨_, rfl⟩
                rw [← hv] at ev hev
                have hv48 : 48 ≤ v ∧ v ≤ 57 := by omega
                have hng : numG b i (q + 1 - i) 0 = numG b i (q - i) 0 * 10 + v - 48 := by
                  rw [show q + 1 - i = (q - i) + 1 by omega, numG_last, show i + (q - i) = q by omega, hv]
                refine v_aload_n C dX6_token_142 rfl ?_
                refine v_aload_n C dX6_token_143 rfl ?_
                refine v_getiQ (x := nI q) C fl_X6_53 oi_qS_0_12 (rfl) dX6_token_144 ?_
                refine v_aload_n C dX6_token_147 rfl ?_
                refine v_getiQ (x := nI i) C fl_X6_60 oi_qS_0_13 (rfl) dX6_token_148 ?_
                first | refine v_isubN C dX6_token_151 (by omega) ?_ | refine v_isub C dX6_token_151 ?_
                refine v_iconst (v := nI 3) C dX6_token_152 (by decide) ?_
                first | refine v_icmp_geN C 178 dX6_token_153 (by decide) (by omega) (by omega) (fun c153 => ?_) (fun c153 => ?_) | refine v_icmp_ge C 178 dX6_token_153 (by decide) (fun c153 => ?_) (fun c153 => ?_)
                · refine v_iconst (v := nI 0) C dX6_token_178 (by decide) ?_
                  refine v_puti C fl_X6_73 fw_X6_15 oi_qS_0_15 ⟨rfl, rfl⟩ dX6_token_179 ?_
                  obtain ⟨nu2, hst, hnu2⟩ : ∃ nu2, sG (rX g (nI q) (nI i) (so) (nu)) 0 (upd ((rX g (nI q) (nI i) (so) (nu)) 0) 15 (nI 0)) = rX g (nI q) (nI i) so nu2 ∧ (q + 1 - i ≤ 3 → nu2 = nI (numG b i (q + 1 - i) 0) ∧ numG b i (q + 1 - i) 0 < 10 ^ (q + 1 - i)) := ⟨_, rX_15, fun z => absurd z (by omega)⟩
                  refine V.stt (g2 := rX g (nI q) (nI i) so nu2) hst ?_
                  refine v_aload_n C dX6_token_182 rfl ?_
                  refine v_dup C dX6_token_183 rfl ?_
                  refine v_getiQ (x := nI q) C fl_X6_53 oi_qS_0_12 (rfl) dX6_token_184 ?_
                  refine v_iconst (v := nI 1) C dX6_token_187 (by decide) ?_
                  first | refine v_iaddN C dX6_token_188 ?_ | refine v_iadd C dX6_token_188 ?_
                  refine v_puti C fl_X6_53 fw_X6_12 oi_qS_0_12 ⟨rfl, rfl⟩ dX6_token_189 ?_
                  refine V.stt (g2 := (rX g (nI (q + 1)) (nI i) (so) (nu2))) (rX_12) ?_
                  refine v_goto C 128 dX6_token_192 (by decide) ?_
                  rw [runB_s hq1, if_pos c139] at k4
                  exact ih128 (q + 1, nu2) (by show len - (q + 1) < len - q; omega) ⟨by show i ≤ q + 1; omega, by show q + 1 ≤ len; omega, k4, hnu2⟩
                · have hnu := k3 (by omega)
                  have hp3 : 10 ^ (q - i) ≤ 100 := Nat.le_trans (Nat.pow_le_pow_right (by decide) (show q - i ≤ 2 by omega)) (by decide)
                  refine v_bipush (v := nI 10) C dX6_token_156 (by decide) ?_
                  refine v_aload_n C dX6_token_158 rfl ?_
                  refine v_getiQ (x := nI (numG b i (q - i) 0)) C fl_X6_73 oi_qS_0_15 (hnu.1) dX6_token_159 ?_
                  first | refine v_imulN C dX6_token_162 ?_ | refine v_imul C dX6_token_162 ?_
                  refine v_aload_n C dX6_token_163 rfl ?_
                  refine v_aload_n C dX6_token_164 rfl ?_
                  refine v_getiQ (x := nI q) C fl_X6_53 oi_qS_0_12 (rfl) dX6_token_165 ?_
                  refine v_callVi C (c_X6_seen hl (g := (rX g (nI q) (nI i) (so) (nu))) (b := b) (len := len) (k := q) h4 h11 h7 (by omega)) ym_X6_seen ml_X6_56 emb_id_qS rfl rfl rfl rfl rfl dX6_token_168 (Nat.le_of_ble_eq_true rfl) (Nat.le_of_ble_eq_true rfl) (Nat.le_of_ble_eq_true rfl) (Nat.le_of_ble_eq_true rfl) (fun _ _ hu => hu.elim) (fun r u hu => ?_)
                  obtain ⟨rfl, hu⟩ := hu
                  subst u
                  rw [seeB_lt hq1, ev]
                  refine V.stt (g2 := (rX g (nI q) (nI i) (so) (nu))) (rfl) ?_
                  first | refine v_iaddN C dX6_token_171 ?_ | refine v_iadd C dX6_token_171 ?_
                  refine v_bipush (v := nI 48) C dX6_token_172 (by decide) ?_
                  first | refine v_isubN C dX6_token_174 (by omega) ?_ | refine v_isub C dX6_token_174 ?_
                  refine v_goto C 179 dX6_token_175 (by decide) ?_
                  refine v_puti C fl_X6_73 fw_X6_15 oi_qS_0_15 ⟨rfl, rfl⟩ dX6_token_179 ?_
                  obtain ⟨nu2, hst, hnu2⟩ : ∃ nu2, sG (rX g (nI q) (nI i) (so) (nu)) 0 (upd ((rX g (nI q) (nI i) (so) (nu)) 0) 15 (nI (10 * numG b i (q - i) 0 + v - 48))) = rX g (nI q) (nI i) so nu2 ∧ (q + 1 - i ≤ 3 → nu2 = nI (numG b i (q + 1 - i) 0) ∧ numG b i (q + 1 - i) 0 < 10 ^ (q + 1 - i)) := ⟨_, rX_15, fun _ => by rw [hng]; exact ⟨congrArg nI (by omega), by rw [show q + 1 - i = (q - i) + 1 by omega, Nat.pow_succ]; have := hnu.2; omega⟩⟩
                  refine V.stt (g2 := rX g (nI q) (nI i) so nu2) hst ?_
                  refine v_aload_n C dX6_token_182 rfl ?_
                  refine v_dup C dX6_token_183 rfl ?_
                  refine v_getiQ (x := nI q) C fl_X6_53 oi_qS_0_12 (rfl) dX6_token_184 ?_
                  refine v_iconst (v := nI 1) C dX6_token_187 (by decide) ?_
                  first | refine v_iaddN C dX6_token_188 ?_ | refine v_iadd C dX6_token_188 ?_
                  refine v_puti C fl_X6_53 fw_X6_12 oi_qS_0_12 ⟨rfl, rfl⟩ dX6_token_189 ?_
                  refine V.stt (g2 := (rX g (nI (q + 1)) (nI i) (so) (nu2))) (rX_12) ?_
                  refine v_goto C 128 dX6_token_192 (by decide) ?_
                  rw [runB_s hq1, if_pos c139] at k4
                  exact ih128 (q + 1, nu2) (by show len - (q + 1) < len - q; omega) ⟨by show i ≤ q + 1; omega, by show q + 1 ≤ len; omega, k4, hnu2⟩
            exact L128 (i, nI 0) ⟨Nat.le_refl _, by show i ≤ len; omega, rfl, fun _ => by rw [show (i, nI 0).1 - i = 0 from Nat.sub_self i]; exact ⟨rfl, Nat.one_pos⟩⟩
        · have L63 : ∀ (t : Nat), (fun t => i ≤ t ∧ t ≤ len ∧ runB (ltr b len) len t = runB (ltr b len) len i) t → (fun t : Nat => V X (qS (xK X) h) 63 [some (.ref (h 0)), some (.int (seeB b len i))] [] (rX g (nI t) (nI i) (so) (nm)) 0 0) t := by
            refine v_ind (fun t : Nat => len - t) ?_
            rintro q ih63 hI63
            try dsimp only at hI63 ⊢
            obtain ⟨k0, k1, k4⟩ := hI63
            refine v_aload_n C dX6_token_63 rfl ?_
            refine v_aload_n C dX6_token_64 rfl ?_
            refine v_getiQ (x := nI q) C fl_X6_53 oi_qS_0_12 (rfl) dX6_token_65 ?_
            refine v_callVi C (c_X6_seen hl (g := (rX g (nI q) (nI i) (so) (nm))) (b := b) (len := len) (k := q) h4 h11 h7 (by omega)) ym_X6_seen ml_X6_56 emb_id_qS rfl rfl rfl rfl rfl dX6_token_68 (Nat.le_of_ble_eq_true rfl) (Nat.le_of_ble_eq_true rfl) (Nat.le_of_ble_eq_true rfl) (Nat.le_of_ble_eq_true rfl) (fun _ _ hu => hu.elim) (fun r u hu => ?_)
            obtain ⟨rfl, hu⟩ := hu
            subst u
            refine V.stt (g2 := (rX g (nI q) (nI i) (so) (nm))) (rfl) ?_
            refine v_callSi C (c_X6_isLetter hl) ys_X6_isLetter rfl ml_X6_66 (emb_n fix_qS) rfl rfl rfl dX6_token_71 (Nat.le_of_ble_eq_true rfl) (Nat.le_of_ble_eq_true rfl) (Nat.le_of_ble_eq_true rfl) (Nat.le_of_ble_eq_true rfl) (fun _ _ hu => hu.elim) (fun r u hu => ?_)
            subst r
            rw [let_see]
            refine v_if_eqB C 90 dX6_token_74 (by decide) (fun c74 => ?_) (fun c74 => ?_)
            · have hqe : runB (ltr b len) len i = q := by
                rw [← k4]
                by_cases z : q < len
                · rw [runB_s z, if_neg (by rw [c74]; exact Bool.false_ne_true)]
                · exact runB_0 (by omega)
              have hz := tok_1 hsi hil c60 hqe
              refine v_aload_n C dX6_token_90 rfl ?_
              refine v_aload_n C dX6_token_91 rfl ?_
              refine v_getiQ (x := nI q) C fl_X6_53 oi_qS_0_12 (rfl) dX6_token_92 ?_
              refine v_aload_n C dX6_token_95 rfl ?_
              refine v_getiQ (x := nI i) C fl_X6_60 oi_qS_0_13 (rfl) dX6_token_96 ?_
              first | refine v_isubN C dX6_token_99 (by omega) ?_ | refine v_isub C dX6_token_99 ?_
              refine v_bipush (v := nI 8) C dX6_token_100 (by decide) ?_
              first | refine v_icmp_leN C 109 dX6_token_102 (by decide) (by omega) (by omega) (fun c102 => ?_) (fun c102 => ?_) | refine v_icmp_le C 109 dX6_token_102 (by decide) (fun c102 => ?_) (fun c102 => ?_)
              · refine v_iconst (v := nI 1) C dX6_token_109 (by decide) ?_
                refine v_puti C fl_X6_63 fw_X6_14 oi_qS_0_14 ⟨rfl, rfl⟩ dX6_token_110 ?_
                first
                | (refine V.stt (g2 := (rX g (nI q) (nI i) (nI 4) (nm))) rX_14 ?_)
                | (refine V.stt (g2 := (rX g (nI q) (nI i) (nI 1) (nm))) rX_14 ?_)
                refine v_goto C 245 dX6_token_113 (by decide) ?_
                refine v_vret C F dX6_token_245 (Nat.le_of_ble_eq_true rfl) (Nat.le_of_ble_eq_true rfl) ?_
                rw [hz]
                refine ⟨?_, rX_FT⟩
                first
                | (refine TT_mk rfl rfl (fun _ => rfl) (fun z => ?_); cases z; done)
                | (rw [if_pos (by omega)]; exact TT_mk rfl rfl (fun z => absurd rfl z) (fun z => by cases z))
                | (rw [if_neg (by omega)]; exact TT_mk rfl rfl (fun _ => rfl) (fun _ => (k3 (by omega)).1))
                | (rw [if_neg (by omega)]; exact TT_mk rfl rfl (fun _ => rfl) (fun z => by cases z))
                | exact TT_mk rfl rfl (fun z => absurd rfl z) (fun z => by cases z)
              · refine v_iconst (v := nI 4) C dX6_token_105 (by decide) ?_
                refine v_goto C 110 dX6_token_106 (by decide) ?_
                refine v_puti C fl_X6_63 fw_X6_14 oi_qS_0_14 ⟨rfl, rfl⟩ dX6_token_110 ?_
                first
                | (refine V.stt (g2 := (rX g (nI q) (nI i) (nI 4) (nm))) rX_14 ?_)
                | (refine V.stt (g2 := (rX g (nI q) (nI i) (nI 1) (nm))) rX_14 ?_)
                refine v_goto C 245 dX6_token_113 (by decide) ?_
                refine v_vret C F dX6_token_245 (Nat.le_of_ble_eq_true rfl) (Nat.le_of_ble_eq_true rfl) ?_
                rw [hz]
                refine ⟨?_, rX_FT⟩
                first
                | (refine TT_mk rfl rfl (fun _ => rfl) (fun z => ?_); cases z; done)
                | (rw [if_pos (by omega)]; exact TT_mk rfl rfl (fun z => absurd rfl z) (fun z => by cases z))
                | (rw [if_neg (by omega)]; exact TT_mk rfl rfl (fun _ => rfl) (fun _ => (k3 (by omega)).1))
                | (rw [if_neg (by omega)]; exact TT_mk rfl rfl (fun _ => rfl) (fun z => by cases z))
                | exact TT_mk rfl rfl (fun z => absurd rfl z) (fun z => by cases z)
            · have hq1 : q < len := by
                have z := c74
                simp only [ltr, Bool.and_eq_true, decide_eq_true_eq] at z
                exact z.1
              refine v_aload_n C dX6_token_77 rfl ?_
              refine v_dup C dX6_token_78 rfl ?_
              refine v_getiQ (x := nI q) C fl_X6_53 oi_qS_0_12 (rfl) dX6_token_79 ?_
              refine v_iconst (v := nI 1) C dX6_token_82 (by decide) ?_
              first | refine v_iaddN C dX6_token_83 ?_ | refine v_iadd C dX6_token_83 ?_
              refine v_puti C fl_X6_53 fw_X6_12 oi_qS_0_12 ⟨rfl, rfl⟩ dX6_token_84 ?_
              refine V.stt (g2 := (rX g (nI (q + 1)) (nI i) (so) (nm))) (rX_12) ?_
              refine v_goto C 63 dX6_token_87 (by decide) ?_
              rw [runB_s hq1, if_pos c74] at k4
              exact ih63 (q + 1) (by show len - (q + 1) < len - q; omega) ⟨by omega, by omega, k4⟩
          exact L63 i ⟨Nat.le_refl _, by omega, rfl⟩
      · have hz := tok_0 hsi (see_m1 hb c45)
        refine v_aload_n C dX6_token_48 rfl ?_
        refine v_iconst (v := nI 0) C dX6_token_49 (by decide) ?_
        refine v_puti C fl_X6_63 fw_X6_14 oi_qS_0_14 ⟨rfl, rfl⟩ dX6_token_50 ?_
        refine V.stt (g2 := (rX g (nI i) (nI i) (nI 0) (nm))) (rX_14) ?_
        refine v_goto C 245 dX6_token_53 (by decide) ?_
        refine v_vret C F dX6_token_245 (Nat.le_of_ble_eq_true rfl) (Nat.le_of_ble_eq_true rfl) ?_
        rw [hz]
        refine ⟨?_, rX_FT⟩
        first
        | (refine TT_mk rfl rfl (fun _ => rfl) (fun z => ?_); cases z; done)
        | (rw [if_pos (by omega)]; exact TT_mk rfl rfl (fun z => absurd rfl z) (fun z => by cases z))
        | (rw [if_neg (by omega)]; exact TT_mk rfl rfl (fun _ => rfl) (fun _ => (k3 (by omega)).1))
        | (rw [if_neg (by omega)]; exact TT_mk rfl rfl (fun _ => rfl) (fun z => by cases z))
        | exact TT_mk rfl rfl (fun z => absurd rfl z) (fun z => by cases z)
    · have hil : i < len := see_n1 (fun z => by rw [z] at c10; revert c10; decide)
      have hsp : spc b i = true := beq_iff_eq.mpr ((show seeB b len i = b i from seeB_lt hil).symm.trans c10)
      refine v_aload_n C dX6_token_13 rfl ?_
      refine v_dup C dX6_token_14 rfl ?_
      refine v_getiQ (x := nI i) C fl_X6_53 oi_qS_0_12 (rfl) dX6_token_15 ?_
      refine v_iconst (v := nI 1) C dX6_token_18 (by decide) ?_
      first | refine v_iaddN C dX6_token_19 ?_ | refine v_iadd C dX6_token_19 ?_
      refine v_puti C fl_X6_53 fw_X6_12 oi_qS_0_12 ⟨rfl, rfl⟩ dX6_token_20 ?_
      refine V.stt (g2 := (rX g (nI (i + 1)) (fr) (so) (nm))) (rX_12) ?_
      refine v_goto C 0 dX6_token_23 (by decide) ?_
      rw [runB_s hil, if_pos hsp] at i3
      exact ih0 (i + 1) (by show len - (i + 1) < len - i; omega) ⟨by omega, by omega, i3⟩
  exact L0 e0 ⟨Nat.le_refl _, he, rfl⟩

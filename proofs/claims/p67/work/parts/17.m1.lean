set_option maxHeartbeats 16000000 in
theorem c_X2_isPlace {l : Launch} (hl : l.stackTraces = false) {κ : Kp} {h : Nat → Nat} {g : Mg} {p : Int32}  : Ct SS MM l κ yX2_isPlace cX2_isPlace 2 (some FieldType.boolean) 0 0 0 [.ref (h 0), .int p] (mS κ h) g ri (fun r u => r = bI (isP g p) ∧ u = g) (fun _ _ => False) := by
  refine Ct.of (own := RX2) (by decide) rfl hl (by intro v hv; simp only [List.mem_cons, List.not_mem_nil, or_false] at hv; first | (rcases hv with rfl | rfl | rfl | rfl | rfl | rfl <;> rfl) | (rcases hv with rfl | rfl | rfl | rfl | rfl <;> rfl) | (rcases hv with rfl | rfl | rfl | rfl <;> rfl) | (rcases hv with rfl | rfl | rfl <;> rfl) | (rcases hv with rfl | rfl <;> rfl) | (subst hv; rfl) | exact hv.elim) (Nat.le_of_ble_eq_true rfl) (fun X hxl hxk C F N => ?_)
  subst hxl hxk
  show V X (mS (xK X) h) 0 [some (.ref (h 0)), some (.int p)] [] g 0 0
  refine v_iload_n C dX2_isPlace_0 rfl ?_
  refine v_if_lt C 16 dX2_isPlace_1 (by decide) (fun c1 => ?_) (fun c1 => ?_)
  · refine v_iconst (v := nI 0) C dX2_isPlace_16 (by decide) ?_
    refine v_iret C F (by first | rfl | exact bI_nar _) dX2_isPlace_17 (Nat.le_of_ble_eq_true rfl) (Nat.le_of_ble_eq_true rfl) ?_
    exact ⟨by first | (refine bI_t ?_; simp [isP]; omega) | (refine bI_f ?_; simp [isP]; omega), rfl⟩
  · refine v_iload_n C dX2_isPlace_4 rfl ?_
    refine v_aload_n C dX2_isPlace_5 rfl ?_
    refine v_geti C fl_X2_40 oi_mS_0_7 dX2_isPlace_6 ?_
    first | refine v_icmp_geN C 16 dX2_isPlace_9 (by decide) (by omega) (by omega) (fun c9 => ?_) (fun c9 => ?_) | refine v_icmp_ge C 16 dX2_isPlace_9 (by decide) (fun c9 => ?_) (fun c9 => ?_)
    · refine v_iconst (v := nI 0) C dX2_isPlace_16 (by decide) ?_
      refine v_iret C F (by first | rfl | exact bI_nar _) dX2_isPlace_17 (Nat.le_of_ble_eq_true rfl) (Nat.le_of_ble_eq_true rfl) ?_
      exact ⟨by first | (refine bI_t ?_; simp [isP]; omega) | (refine bI_f ?_; simp [isP]; omega), rfl⟩
    · refine v_iconst (v := nI 1) C dX2_isPlace_12 (by decide) ?_
      refine v_goto C 17 dX2_isPlace_13 (by decide) ?_
      refine v_iret C F (by first | rfl | exact bI_nar _) dX2_isPlace_17 (Nat.le_of_ble_eq_true rfl) (Nat.le_of_ble_eq_true rfl) ?_
      exact ⟨by first | (refine bI_t ?_; simp [isP]; omega) | (refine bI_f ?_; simp [isP]; omega), rfl⟩
set_option maxHeartbeats 16000000 in
theorem c_X2_hasRow {l : Launch} (hl : l.stackTraces = false) {κ : Kp} {h : Nat → Nat} {g : Mg} {p q : Int32} {n : Nat} (hn : g 0 7 = nI n) (h96 : n ≤ 96) : Ct SS MM l κ yX2_hasRow cX2_hasRow 3 (some FieldType.boolean) 1 0 0 [.ref (h 0), .int p, .int q] (mS κ h) g ri (fun r u => r = bI (isP g p && decide (q.toInt ≤ (n : Int) - p.toInt)) ∧ u = g) (fun _ _ => False) := by
  refine Ct.of (own := RX2) (by decide) rfl hl (by intro v hv; simp only [List.mem_cons, List.not_mem_nil, or_false] at hv; first | (rcases hv with rfl | rfl | rfl | rfl | rfl | rfl <;> rfl) | (rcases hv with rfl | rfl | rfl | rfl | rfl <;> rfl) | (rcases hv with rfl | rfl | rfl | rfl <;> rfl) | (rcases hv with rfl | rfl | rfl <;> rfl) | (rcases hv with rfl | rfl <;> rfl) | (subst hv; rfl) | exact hv.elim) (Nat.le_of_ble_eq_true rfl) (fun X hxl hxk C F N => ?_)
  subst hxl hxk
  show V X (mS (xK X) h) 0 [some (.ref (h 0)), some (.int p), some (.int q)] [] g 0 0
  refine v_aload_n C dX2_hasRow_0 rfl ?_
  refine v_iload_n C dX2_hasRow_1 rfl ?_
  refine v_callVi C (c_X2_isPlace hl) ym_X2_isPlace ml_X2_53 emb_id_mS rfl rfl rfl rfl rfl dX2_hasRow_2 (Nat.le_of_ble_eq_true rfl) (Nat.le_of_ble_eq_true rfl) (Nat.le_of_ble_eq_true rfl) (Nat.le_of_ble_eq_true rfl) (fun _ _ hu => hu.elim) (fun r u hu => ?_)
  obtain ⟨rfl, hu⟩ := hu
  subst u
  refine v_if_eqB C 22 dX2_hasRow_5 (by decide) (fun c5 => ?_) (fun c5 => ?_)
  · refine v_iconst (v := nI 0) C dX2_hasRow_22 (by decide) ?_
    refine v_iret C F (by first | rfl | exact bI_nar _) dX2_hasRow_23 (Nat.le_of_ble_eq_true rfl) (Nat.le_of_ble_eq_true rfl) ?_
    exact ⟨by first | (refine bI_f ?_; rw [c5]; rfl) | (have e1 : (g 0 7 - p).toInt = (n : Int) - p.toInt := (by simp [isP] at c5; have := nI_toInt (n := n) (by omega); rw [hn, this] at c5; exact sub_toInt (by rw [hn, this]; omega) (by rw [hn]; exact this)); first | (refine bI_t ?_; rw [c5]; simp; omega) | (refine bI_f ?_; rw [c5]; simp; omega)), rfl⟩
  · refine v_iload_n C dX2_hasRow_8 rfl ?_
    refine v_aload_n C dX2_hasRow_9 rfl ?_
    refine v_geti C fl_X2_40 oi_mS_0_7 dX2_hasRow_10 ?_
    refine v_iload_n C dX2_hasRow_13 rfl ?_
    first | refine v_isubN C dX2_hasRow_14 (by omega) ?_ | refine v_isub C dX2_hasRow_14 ?_
    first | refine v_icmp_gtN C 22 dX2_hasRow_15 (by decide) (by omega) (by omega) (fun c15 => ?_) (fun c15 => ?_) | refine v_icmp_gt C 22 dX2_hasRow_15 (by decide) (fun c15 => ?_) (fun c15 => ?_)
    · refine v_iconst (v := nI 0) C dX2_hasRow_22 (by decide) ?_
      refine v_iret C F (by first | rfl | exact bI_nar _) dX2_hasRow_23 (Nat.le_of_ble_eq_true rfl) (Nat.le_of_ble_eq_true rfl) ?_
      exact ⟨by first | (refine bI_f ?_; rw [c5]; rfl) | (have e1 : (g 0 7 - p).toInt = (n : Int) - p.toInt := (by simp [isP] at c5; have := nI_toInt (n := n) (by omega); rw [hn, this] at c5; exact sub_toInt (by rw [hn, this]; omega) (by rw [hn]; exact this)); first | (refine bI_t ?_; rw [c5]; simp; omega) | (refine bI_f ?_; rw [c5]; simp; omega)), rfl⟩
    · refine v_iconst (v := nI 1) C dX2_hasRow_18 (by decide) ?_
      refine v_goto C 23 dX2_hasRow_19 (by decide) ?_
      refine v_iret C F (by first | rfl | exact bI_nar _) dX2_hasRow_23 (Nat.le_of_ble_eq_true rfl) (Nat.le_of_ble_eq_true rfl) ?_
      exact ⟨by first | (refine bI_f ?_; rw [c5]; rfl) | (have e1 : (g 0 7 - p).toInt = (n : Int) - p.toInt := (by simp [isP] at c5; have := nI_toInt (n := n) (by omega); rw [hn, this] at c5; exact sub_toInt (by rw [hn, this]; omega) (by rw [hn]; exact this)); first | (refine bI_t ?_; rw [c5]; simp; omega) | (refine bI_f ?_; rw [c5]; simp; omega)), rfl⟩
set_option maxHeartbeats 16000000 in
theorem c_X2_owes {l : Launch} (hl : l.stackTraces = false) {κ : Kp} {h : Nat → Nat} {g : Mg} {p : Int32} {n : Nat} (hn : g 0 7 = nI n) (h96 : n ≤ 96) : Ct SS MM l κ yX2_owes cX2_owes 2 (some FieldType.boolean) 0 0 0 [.ref (h 0), .int p] (mS κ h) g ri (fun r u => r = bI (owP g p) ∧ u = g) (fun _ _ => False) := by
  refine Ct.of (own := RX2) (by decide) rfl hl (by intro v hv; simp only [List.mem_cons, List.not_mem_nil, or_false] at hv; first | (rcases hv with rfl | rfl | rfl | rfl | rfl | rfl <;> rfl) | (rcases hv with rfl | rfl | rfl | rfl | rfl <;> rfl) | (rcases hv with rfl | rfl | rfl | rfl <;> rfl) | (rcases hv with rfl | rfl | rfl <;> rfl) | (rcases hv with rfl | rfl <;> rfl) | (subst hv; rfl) | exact hv.elim) (Nat.le_of_ble_eq_true rfl) (fun X hxl hxk C F N => ?_)
  subst hxl hxk
  show V X (mS (xK X) h) 0 [some (.ref (h 0)), some (.int p)] [] g 0 0
  have en := nI_toInt (n := n) (by omega)
  rw [← hn] at en
  refine v_iload_n C dX2_owes_0 rfl ?_
  refine v_if_lt C 26 dX2_owes_1 (by decide) (fun c1 => ?_) (fun c1 => ?_)
  · refine v_iconst (v := nI 0) C dX2_owes_26 (by decide) ?_
    refine v_iret C F (by first | rfl | exact bI_nar _) dX2_owes_27 (Nat.le_of_ble_eq_true rfl) (Nat.le_of_ble_eq_true rfl) ?_
    exact ⟨by first | (refine bI_t ?_; simp [owP, owb, isP]; exact ⟨by omega, c19⟩) | (refine bI_f ?_; simp [owP, owb, isP]; omega) | (refine bI_f ?_; simp only [owP, owb, c19]; simp), rfl⟩
  · refine v_iload_n C dX2_owes_4 rfl ?_
    refine v_aload_n C dX2_owes_5 rfl ?_
    refine v_geti C fl_X2_40 oi_mS_0_7 dX2_owes_6 ?_
    refine v_icmp_ge C 26 dX2_owes_9 (by decide) (fun c9 => ?_) (fun c9 => ?_)
    · refine v_iconst (v := nI 0) C dX2_owes_26 (by decide) ?_
      refine v_iret C F (by first | rfl | exact bI_nar _) dX2_owes_27 (Nat.le_of_ble_eq_true rfl) (Nat.le_of_ble_eq_true rfl) ?_
      exact ⟨by first | (refine bI_t ?_; simp [owP, owb, isP]; exact ⟨by omega, c19⟩) | (refine bI_f ?_; simp [owP, owb, isP]; omega) | (refine bI_f ?_; simp only [owP, owb, c19]; simp), rfl⟩
    · refine v_aload_n C dX2_owes_12 rfl ?_
      refine v_getr C fl_X2_15 or_mS_0_1 dX2_owes_13 ?_
      refine v_iload_n C dX2_owes_16 rfl ?_
      refine v_iald C ar_mS_2 (by decide) p.toInt.toNat ?_ (nI_of_nonneg (by omega)).1 dX2_owes_17 ?_
      · omega
      refine v_iconst (v := (-1)) C dX2_owes_18 (by decide) ?_
      refine v_icmp_eq C 26 dX2_owes_19 (by decide) (fun c19 => ?_) (fun c19 => ?_)
      · refine v_iconst (v := nI 0) C dX2_owes_26 (by decide) ?_
        refine v_iret C F (by first | rfl | exact bI_nar _) dX2_owes_27 (Nat.le_of_ble_eq_true rfl) (Nat.le_of_ble_eq_true rfl) ?_
        exact ⟨by first | (refine bI_t ?_; simp [owP, owb, isP]; exact ⟨by omega, c19⟩) | (refine bI_f ?_; simp [owP, owb, isP]; omega) | (refine bI_f ?_; simp only [owP, owb, c19]; simp), rfl⟩
      · refine v_iconst (v := nI 1) C dX2_owes_22 (by decide) ?_
        refine v_goto C 27 dX2_owes_23 (by decide) ?_
        refine v_iret C F (by first | rfl | exact bI_nar _) dX2_owes_27 (Nat.le_of_ble_eq_true rfl) (Nat.le_of_ble_eq_true rfl) ?_
        exact ⟨by first | (refine bI_t ?_; simp [owP, owb, isP]; exact ⟨by omega, c19⟩) | (refine bI_f ?_; simp [owP, owb, isP]; omega) | (refine bI_f ?_; simp only [owP, owb, c19]; simp), rfl⟩
theorem c_X2_owesN {l : Launch} (hl : l.stackTraces = false) {κ : Kp} {h : Nat → Nat} {g : Mg} {j n : Nat} (hn : g 0 7 = nI n) (h96 : n ≤ 96) (hj : j < n) : Ct SS MM l κ yX2_owes cX2_owes 2 (some FieldType.boolean) 0 0 0 [.ref (h 0), .int (nI j)] (mS κ h) g ri (fun r u => r = bI (owb g j) ∧ u = g) (fun _ _ => False) := by
  have H := c_X2_owes hl (κ := κ) (h := h) (p := nI j) hn h96
  rw [owP_n hn h96 (by omega), decide_eq_true hj, Bool.true_and] at H
  exact H
theorem c_X2_owesW {l : Launch} (hl : l.stackTraces = false) {κ : Kp} {h : Nat → Nat} {g : Mg} {j n : Nat} (hn : g 0 7 = nI n) (h96 : n ≤ 96) (hj : j < 2 ^ 31) : Ct SS MM l κ yX2_owes cX2_owes 2 (some FieldType.boolean) 0 0 0 [.ref (h 0), .int (nI j)] (mS κ h) g ri (fun r u => r = bI (decide (j < n) && owb g j) ∧ u = g) (fun _ _ => False) := by
  have H := c_X2_owes hl (κ := κ) (h := h) (p := nI j) hn h96
  rw [owP_n hn h96 (by omega)] at H
  exact H
set_option maxHeartbeats 16000000 in
theorem c_X2_rootOf {l : Launch} (hl : l.stackTraces = false) {κ : Kp} {h : Nat → Nat} {g : Mg} {j n : Nat} (hI : IM g n) (hj : j < n) : Ct SS MM l κ yX2_rootOf cX2_rootOf 4 (some FieldType.int) 0 0 0 [.ref (h 0), .int (nI j)] (mS κ h) g ri (fun r u => r = nI (rootM g j) ∧ u = g) (fun _ _ => False) := by
  refine Ct.of (own := RX2) (by decide) rfl hl (by intro v hv; simp only [List.mem_cons, List.not_mem_nil, or_false] at hv; first | (rcases hv with rfl | rfl | rfl | rfl | rfl | rfl <;> rfl) | (rcases hv with rfl | rfl | rfl | rfl | rfl <;> rfl) | (rcases hv with rfl | rfl | rfl | rfl <;> rfl) | (rcases hv with rfl | rfl | rfl <;> rfl) | (rcases hv with rfl | rfl <;> rfl) | (subst hv; rfl) | exact hv.elim) (Nat.le_of_ble_eq_true rfl) (fun X hxl hxk C F N => ?_)
  subst hxl hxk
  show V X (mS (xK X) h) 0 [some (.ref (h 0)), some (.int (nI j)), none, none] [] g 0 0
  have h96 := hI.2.1
  refine v_iload_n C dX2_rootOf_0 rfl ?_
  refine v_istore_n C (lo2 := [some _, some _, some _, none]) dX2_rootOf_1 rfl (Nat.le_of_ble_eq_true rfl) rfl ?_
  refine v_iconst (v := nI 0) C dX2_rootOf_2 (by decide) ?_
  refine v_istore_n C (lo2 := [some _, some _, some _, some _]) dX2_rootOf_3 rfl (Nat.le_of_ble_eq_true rfl) rfl ?_
  have L4 : ∀ (t : Nat × Nat), (fun t => t.1 ≤ 96 ∧ t.2 < n ∧ rootF (96 - t.1) g t.2 = rootM g j) t → (fun t : Nat × Nat => V X (mS (xK X) h) 4 [some (.ref (h 0)), some (.int (nI j)), some (.int (nI t.2)), some (.int (nI t.1))] [] g 0 0) t := by
    refine v_ind (fun t : Nat × Nat => 96 - t.1) ?_
    rintro ⟨k, a⟩ ih4 hI4
    try dsimp only at hI4 ⊢
    obtain ⟨i1, i2, i3⟩ := hI4
    refine v_iload_n C dX2_rootOf_4 rfl ?_
    refine v_bipush (v := nI 96) C dX2_rootOf_5 (by decide) ?_
    first | refine v_icmp_geN C 33 dX2_rootOf_7 (by decide) (by omega) (by omega) (fun c7 => ?_) (fun c7 => ?_) | refine v_icmp_ge C 33 dX2_rootOf_7 (by decide) (fun c7 => ?_) (fun c7 => ?_)
    · refine v_iload_n C dX2_rootOf_33 rfl ?_
      refine v_iret C F (by first | rfl | exact bI_nar _) dX2_rootOf_34 (Nat.le_of_ble_eq_true rfl) (Nat.le_of_ble_eq_true rfl) ?_
      refine ⟨?_, rfl⟩
      rw [← i3]
      first | (rw [show 96 - k = 0 by omega]; rfl) | (rw [show 96 - k = (96 - (k + 1)) + 1 by omega]; show nI a = nI (if g 2 a = -1 then a else _); rw [if_pos c17])
    · refine v_aload_n C dX2_rootOf_10 rfl ?_
      refine v_getr C fl_X2_15 or_mS_0_1 dX2_rootOf_11 ?_
      refine v_iload_n C dX2_rootOf_14 rfl ?_
      refine v_iald C ar_mS_2 (by decide) _ ?_ rfl dX2_rootOf_15 ?_
      · omega
      refine v_iconst (v := (-1)) C dX2_rootOf_16 (by decide) ?_
      first | refine v_icmp_eqN C 33 dX2_rootOf_17 (by decide) (by omega) (by omega) (fun c17 => ?_) (fun c17 => ?_) | refine v_icmp_eq C 33 dX2_rootOf_17 (by decide) (fun c17 => ?_) (fun c17 => ?_)
      · refine v_iload_n C dX2_rootOf_33 rfl ?_
        refine v_iret C F (by first | rfl | exact bI_nar _) dX2_rootOf_34 (Nat.le_of_ble_eq_true rfl) (Nat.le_of_ble_eq_true rfl) ?_
        refine ⟨?_, rfl⟩
        rw [← i3]
        first | (rw [show 96 - k = 0 by omega]; rfl) | (rw [show 96 - k = (96 - (k + 1)) + 1 by omega]; show nI a = nI (if g 2 a = -1 then a else _); rw [if_pos c17])
      · have hs := IM_src hI i2 c17
        refine v_aload_n C dX2_rootOf_20 rfl ?_
        refine v_getr C fl_X2_15 or_mS_0_1 dX2_rootOf_21 ?_
        refine v_iload_n C dX2_rootOf_24 rfl ?_
        refine v_iald C ar_mS_2 (by decide) _ ?_ rfl dX2_rootOf_25 ?_
        · omega
        rw [hs.2]
        refine v_istore_n C (lo2 := [some _, some _, some _, some _]) dX2_rootOf_26 rfl (Nat.le_of_ble_eq_true rfl) rfl ?_
        first | refine v_iinc1 C (lo2 := [some _, some _, some _, some _]) dX2_rootOf_27 rfl rfl rfl ?_ | refine v_iinc C (lo2 := [some _, some _, some _, some _]) dX2_rootOf_27 rfl rfl rfl rfl ?_
        refine v_goto C 4 dX2_rootOf_30 (by decide) ?_
        refine ih4 (k + 1, src g a) (by show 96 - (k + 1) < 96 - k; omega) ⟨by omega, hs.1, ?_⟩
        rw [← i3]
        show rootF (96 - (k + 1)) g (src g a) = rootF (96 - k) g a
        rw [show 96 - k = (96 - (k + 1)) + 1 by omega]
        show _ = if g 2 a = -1 then a else rootF (96 - (k + 1)) g (src g a)
        rw [if_neg c17]
  exact L4 (0, j) ⟨by omega, hj, rfl⟩
set_option maxHeartbeats 16000000 in
theorem c_X2_hopsBetween {l : Launch} (hl : l.stackTraces = false) {κ : Kp} {h : Nat → Nat} {g : Mg} {j o n : Nat} (hI : IM g n) (hj : j < n) (ho : o < n) : Ct SS MM l κ yX2_hopsBetween cX2_hopsBetween 5 (some FieldType.int) 1 0 0 [.ref (h 0), .int (nI j), .int (nI o)] (mS κ h) g ri (fun r u => r = hbM g j o ∧ u = g) (fun _ _ => False) := by
  refine Ct.of (own := RX2) (by decide) rfl hl (by intro v hv; simp only [List.mem_cons, List.not_mem_nil, or_false] at hv; first | (rcases hv with rfl | rfl | rfl | rfl | rfl | rfl <;> rfl) | (rcases hv with rfl | rfl | rfl | rfl | rfl <;> rfl) | (rcases hv with rfl | rfl | rfl | rfl <;> rfl) | (rcases hv with rfl | rfl | rfl <;> rfl) | (rcases hv with rfl | rfl <;> rfl) | (subst hv; rfl) | exact hv.elim) (Nat.le_of_ble_eq_true rfl) (fun X hxl hxk C F N => ?_)
  subst hxl hxk
  show V X (mS (xK X) h) 0 [some (.ref (h 0)), some (.int (nI j)), some (.int (nI o)), none, none] [] g 0 0
  have h96 := hI.2.1
  have hn := hI.1
  refine v_iload_n C dX2_hopsBetween_0 rfl ?_
  refine v_istore_n C (lo2 := [some _, some _, some _, some _, none]) dX2_hopsBetween_1 rfl (Nat.le_of_ble_eq_true rfl) rfl ?_
  refine v_iconst (v := nI 0) C dX2_hopsBetween_2 (by decide) ?_
  refine v_istore C (lo2 := [some _, some _, some _, some _, some _]) dX2_hopsBetween_3 rfl (Nat.le_of_ble_eq_true rfl) rfl ?_
  have L5 : ∀ (t : Nat × Nat), (fun t => t.1 ≤ 96 ∧ t.2 < n ∧ hbF (96 - t.1) t.1 g t.2 o = hbM g j o) t → (fun t : Nat × Nat => V X (mS (xK X) h) 5 [some (.ref (h 0)), some (.int (nI j)), some (.int (nI o)), some (.int (nI t.2)), some (.int (nI t.1))] [] g 0 0) t := by
    refine v_ind (fun t : Nat × Nat => 96 - t.1) ?_
    rintro ⟨k, a⟩ ih5 hI5
    try dsimp only at hI5 ⊢
    obtain ⟨i1, i2, i3⟩ := hI5
    refine v_iload C dX2_hopsBetween_5 rfl ?_
    refine v_bipush (v := nI 96) C dX2_hopsBetween_7 (by decide) ?_
    first | refine v_icmp_geN C 43 dX2_hopsBetween_9 (by decide) (by omega) (by omega) (fun c9 => ?_) (fun c9 => ?_) | refine v_icmp_ge C 43 dX2_hopsBetween_9 (by decide) (fun c9 => ?_) (fun c9 => ?_)
    · refine v_iconst (v := (-1)) C dX2_hopsBetween_43 (by decide) ?_
      refine v_iret C F (by first | rfl | exact bI_nar _) dX2_hopsBetween_44 (Nat.le_of_ble_eq_true rfl) (Nat.le_of_ble_eq_true rfl) ?_
      refine ⟨?_, rfl⟩
      rw [← i3, show 96 - k = 0 by omega]
      rfl
    · refine v_iload_n C dX2_hopsBetween_12 rfl ?_
      refine v_iload_n C dX2_hopsBetween_13 rfl ?_
      first | refine v_icmp_neN C 20 dX2_hopsBetween_14 (by decide) (by omega) (by omega) (fun c14 => ?_) (fun c14 => ?_) | refine v_icmp_ne C 20 dX2_hopsBetween_14 (by decide) (fun c14 => ?_) (fun c14 => ?_)
      · refine v_aload_n C dX2_hopsBetween_20 rfl ?_
        refine v_iload_n C dX2_hopsBetween_21 rfl ?_
        refine v_callVi C (c_X2_owesN hl (n := n) ?_ ?_ ?_) ym_X2_owes ml_X2_65 emb_id_mS rfl rfl rfl rfl rfl dX2_hopsBetween_22 (Nat.le_of_ble_eq_true rfl) (Nat.le_of_ble_eq_true rfl) (Nat.le_of_ble_eq_true rfl) (Nat.le_of_ble_eq_true rfl) (fun _ _ hu => hu.elim) (fun r u hu => ?_)
        · first | assumption | omega
        · first | assumption | omega
        · first | assumption | omega
        obtain ⟨rfl, hu⟩ := hu
        subst u
        refine v_if_neB C 30 dX2_hopsBetween_25 (by decide) (fun c25 => ?_) (fun c25 => ?_)
        · have hs := IM_src hI i2 (owb_t.mp c25)
          refine v_aload_n C dX2_hopsBetween_30 rfl ?_
          refine v_getr C fl_X2_15 or_mS_0_1 dX2_hopsBetween_31 ?_
          refine v_iload_n C dX2_hopsBetween_34 rfl ?_
          refine v_iald C ar_mS_2 (by decide) _ ?_ rfl dX2_hopsBetween_35 ?_
          · omega
          rw [hs.2]
          refine v_istore_n C (lo2 := [some _, some _, some _, some _, some _]) dX2_hopsBetween_36 rfl (Nat.le_of_ble_eq_true rfl) rfl ?_
          first | refine v_iinc1 C (lo2 := [some _, some _, some _, some _, some _]) dX2_hopsBetween_37 rfl rfl rfl ?_ | refine v_iinc C (lo2 := [some _, some _, some _, some _, some _]) dX2_hopsBetween_37 rfl rfl rfl rfl ?_
          refine v_goto C 5 dX2_hopsBetween_40 (by decide) ?_
          refine ih5 (k + 1, src g a) (by show 96 - (k + 1) < 96 - k; omega) ⟨by omega, hs.1, ?_⟩
          rw [← i3]
          show hbF (96 - (k + 1)) (k + 1) g (src g a) o = hbF (96 - k) k g a o
          rw [show 96 - k = (96 - (k + 1)) + 1 by omega]
          show _ = if a = o then nI k else if g 2 a = -1 then -1 else hbF (96 - (k + 1)) (k + 1) g (src g a) o
          rw [if_neg c14, if_neg (owb_t.mp c25)]
        · refine v_iconst (v := (-1)) C dX2_hopsBetween_28 (by decide) ?_
          refine v_iret C F (by first | rfl | exact bI_nar _) dX2_hopsBetween_29 (Nat.le_of_ble_eq_true rfl) (Nat.le_of_ble_eq_true rfl) ?_
          refine ⟨?_, rfl⟩
          rw [← i3, show 96 - k = (96 - (k + 1)) + 1 by omega]
          show -1 = if a = o then nI k else if g 2 a = -1 then -1 else _
          rw [if_neg c14, if_pos (owb_f.mp c25)]
      · refine v_iload C dX2_hopsBetween_17 rfl ?_
        refine v_iret C F (by first | rfl | exact bI_nar _) dX2_hopsBetween_19 (Nat.le_of_ble_eq_true rfl) (Nat.le_of_ble_eq_true rfl) ?_
        refine ⟨?_, rfl⟩
        rw [← i3, show 96 - k = (96 - (k + 1)) + 1 by omega]
        show nI k = if a = o then nI k else _
        rw [if_pos c14]
  exact L5 (0, j) ⟨by omega, hj, rfl⟩
set_option maxHeartbeats 16000000 in
theorem c_X2_countOwedIn {l : Launch} (hl : l.stackTraces = false) {κ : Kp} {h : Nat → Nat} {g : Mg} {a b : Nat} {q : Int32} (hq : q.toInt = (b : Int) - 1) (hb : b ≤ 96) (ha : a ≤ 96) : Ct SS MM l κ yX2_countOwedIn cX2_countOwedIn 5 (some FieldType.int) 0 0 0 [.ref (h 0), .int (nI a), .int q] (mS κ h) g ri (fun r u => r = nI (cntG (owb g) a (b - a)) ∧ u = g) (fun _ _ => False) := by
  refine Ct.of (own := RX2) (by decide) rfl hl (by intro v hv; simp only [List.mem_cons, List.not_mem_nil, or_false] at hv; first | (rcases hv with rfl | rfl | rfl | rfl | rfl | rfl <;> rfl) | (rcases hv with rfl | rfl | rfl | rfl | rfl <;> rfl) | (rcases hv with rfl | rfl | rfl | rfl <;> rfl) | (rcases hv with rfl | rfl | rfl <;> rfl) | (rcases hv with rfl | rfl <;> rfl) | (subst hv; rfl) | exact hv.elim) (Nat.le_of_ble_eq_true rfl) (fun X hxl hxk C F N => ?_)
  subst hxl hxk
  show V X (mS (xK X) h) 0 [some (.ref (h 0)), some (.int (nI a)), some (.int q), none, none] [] g 0 0
  refine v_iconst (v := nI 0) C dX2_countOwedIn_0 (by decide) ?_
  refine v_istore_n C (lo2 := [some _, some _, some _, some _, none]) dX2_countOwedIn_1 rfl (Nat.le_of_ble_eq_true rfl) rfl ?_
  refine v_iload_n C dX2_countOwedIn_2 rfl ?_
  refine v_istore C (lo2 := [some _, some _, some _, some _, some _]) dX2_countOwedIn_3 rfl (Nat.le_of_ble_eq_true rfl) rfl ?_
  have L5 : ∀ (t : Nat × Nat), (fun t => a ≤ t.1 ∧ t.1 ≤ 200 ∧ t.2 ≤ t.1 ∧ t.2 + cntG (owb g) t.1 (b - t.1) = cntG (owb g) a (b - a)) t → (fun t : Nat × Nat => V X (mS (xK X) h) 5 [some (.ref (h 0)), some (.int (nI a)), some (.int q), some (.int (nI t.2)), some (.int (nI t.1))] [] g 0 0) t := by
    refine v_ind (fun t : Nat × Nat => b - t.1) ?_
    rintro ⟨i, f⟩ ih5 hI5
    try dsimp only at hI5 ⊢
    obtain ⟨i1, i2, i4, i3⟩ := hI5
    have ei := nI_toInt (n := i) (by omega)
    refine v_iload C dX2_countOwedIn_5 rfl ?_
    refine v_iload_n C dX2_countOwedIn_7 rfl ?_
    refine v_icmp_gt C 31 dX2_countOwedIn_8 (by decide) (fun c8 => ?_) (fun c8 => ?_)
    · refine v_iload_n C dX2_countOwedIn_31 rfl ?_
      refine v_iret C F (by first | rfl | exact bI_nar _) dX2_countOwedIn_32 (Nat.le_of_ble_eq_true rfl) (Nat.le_of_ble_eq_true rfl) ?_
      rw [cntG_0 (by omega), Nat.add_zero] at i3
      exact ⟨by rw [← i3], rfl⟩
    · refine v_aload_n C dX2_countOwedIn_11 rfl ?_
      refine v_getr C fl_X2_15 or_mS_0_1 dX2_countOwedIn_12 ?_
      refine v_iload C dX2_countOwedIn_15 rfl ?_
      refine v_iald C ar_mS_2 (by decide) _ ?_ rfl dX2_countOwedIn_17 ?_
      · omega
      refine v_iconst (v := (-1)) C dX2_countOwedIn_18 (by decide) ?_
      refine v_icmp_eq C 25 dX2_countOwedIn_19 (by decide) (fun c19 => ?_) (fun c19 => ?_)
      · first | refine v_iinc1 C (lo2 := [some _, some _, some _, some _, some _]) dX2_countOwedIn_25 rfl rfl rfl ?_ | refine v_iinc C (lo2 := [some _, some _, some _, some _, some _]) dX2_countOwedIn_25 rfl rfl rfl rfl ?_
        refine v_goto C 5 dX2_countOwedIn_28 (by decide) ?_
        have hib : i < b := by omega
        rw [cntG_s hib] at i3
        first
        | (have hw : (owb g) i = true := by
            exact owb_t.mpr c19
           rw [hw, if_pos rfl] at i3
           exact ih5 (i + 1, f + 1) (by show b - (i + 1) < b - i; omega) ⟨by omega, by omega, by omega, by show f + 1 + cntG (owb g) (i + 1) (b - (i + 1)) = _; omega⟩)
        | (have hw : (owb g) i = false := by
            exact owb_f.mpr c19
           rw [hw, if_neg Bool.false_ne_true, Nat.zero_add] at i3
           exact ih5 (i + 1, f) (by show b - (i + 1) < b - i; omega) ⟨by omega, by omega, by omega, i3⟩)
      · first | refine v_iinc1 C (lo2 := [some _, some _, some _, some _, some _]) dX2_countOwedIn_22 rfl rfl rfl ?_ | refine v_iinc C (lo2 := [some _, some _, some _, some _, some _]) dX2_countOwedIn_22 rfl rfl rfl rfl ?_
        first | refine v_iinc1 C (lo2 := [some _, some _, some _, some _, some _]) dX2_countOwedIn_25 rfl rfl rfl ?_ | refine v_iinc C (lo2 := [some _, some _, some _, some _, some _]) dX2_countOwedIn_25 rfl rfl rfl rfl ?_
        refine v_goto C 5 dX2_countOwedIn_28 (by decide) ?_
        have hib : i < b := by omega
        rw [cntG_s hib] at i3
        first
        | (have hw : (owb g) i = true := by
            exact owb_t.mpr c19
           rw [hw, if_pos rfl] at i3
           exact ih5 (i + 1, f + 1) (by show b - (i + 1) < b - i; omega) ⟨by omega, by omega, by omega, by show f + 1 + cntG (owb g) (i + 1) (b - (i + 1)) = _; omega⟩)
        | (have hw : (owb g) i = false := by
            exact owb_f.mpr c19
           rw [hw, if_neg Bool.false_ne_true, Nat.zero_add] at i3
           exact ih5 (i + 1, f) (by show b - (i + 1) < b - i; omega) ⟨by omega, by omega, by omega, i3⟩)
  exact L5 (a, 0) ⟨Nat.le_refl _, by omega, by omega, Nat.zero_add _⟩
theorem c_X2_countOwedN {l : Launch} (hl : l.stackTraces = false) {κ : Kp} {h : Nat → Nat} {g : Mg} {a b : Nat} (hb : b < 96) (ha : a ≤ 96) : Ct SS MM l κ yX2_countOwedIn cX2_countOwedIn 5 (some FieldType.int) 0 0 0 [.ref (h 0), .int (nI a), .int (nI b)] (mS κ h) g ri (fun r u => r = nI (cntG (owb g) a (b + 1 - a)) ∧ u = g) (fun _ _ => False) := by
  exact c_X2_countOwedIn hl (by rw [nI_toInt (by omega)]; omega) (by omega) ha
set_option maxHeartbeats 16000000 in
theorem c_X2_countOwed {l : Launch} (hl : l.stackTraces = false) {κ : Kp} {h : Nat → Nat} {g : Mg} {n : Nat} (hn : g 0 7 = nI n) (h96 : n ≤ 96) : Ct SS MM l κ yX2_countOwed cX2_countOwed 1 (some FieldType.int) 1 0 0 [.ref (h 0)] (mS κ h) g ri (fun r u => r = nI (cntG (owb g) 0 n) ∧ u = g) (fun _ _ => False) := by
  refine Ct.of (own := RX2) (by decide) rfl hl (by intro v hv; simp only [List.mem_cons, List.not_mem_nil, or_false] at hv; first | (rcases hv with rfl | rfl | rfl | rfl | rfl | rfl <;> rfl) | (rcases hv with rfl | rfl | rfl | rfl | rfl <;> rfl) | (rcases hv with rfl | rfl | rfl | rfl <;> rfl) | (rcases hv with rfl | rfl | rfl <;> rfl) | (rcases hv with rfl | rfl <;> rfl) | (subst hv; rfl) | exact hv.elim) (Nat.le_of_ble_eq_true rfl) (fun X hxl hxk C F N => ?_)
  subst hxl hxk
  show V X (mS (xK X) h) 0 [some (.ref (h 0))] [] g 0 0
  refine v_aload_n C dX2_countOwed_0 rfl ?_
  refine v_iconst (v := nI 0) C dX2_countOwed_1 (by decide) ?_
  refine v_aload_n C dX2_countOwed_2 rfl ?_
  refine v_geti C fl_X2_40 oi_mS_0_7 dX2_countOwed_3 ?_
  refine v_iconst (v := nI 1) C dX2_countOwed_6 (by decide) ?_
  first | refine v_isubN C dX2_countOwed_7 (by omega) ?_ | refine v_isub C dX2_countOwed_7 ?_
  refine v_callVi C (c_X2_countOwedIn hl (b := n) ?_ ?_ ?_) ym_X2_countOwedIn ml_X2_68 emb_id_mS rfl rfl rfl rfl rfl dX2_countOwed_8 (Nat.le_of_ble_eq_true rfl) (Nat.le_of_ble_eq_true rfl) (Nat.le_of_ble_eq_true rfl) (Nat.le_of_ble_eq_true rfl) (fun _ _ hu => hu.elim) (fun r u hu => ?_)
  · rw [hn]; exact sub1_toInt (by omega)
  · exact h96
  · omega
  obtain ⟨rfl, hu⟩ := hu
  subst u
  refine v_iret C F (by first | rfl | exact bI_nar _) dX2_countOwed_11 (Nat.le_of_ble_eq_true rfl) (Nat.le_of_ble_eq_true rfl) ?_
  first | exact rfl | exact ⟨rfl, rfl⟩
set_option maxHeartbeats 16000000 in
theorem c_X2_hopsOf {l : Launch} (hl : l.stackTraces = false) {κ : Kp} {h : Nat → Nat} {g : Mg} {j n : Nat} (hI : IM g n) (hj : j < n) : Ct SS MM l κ yX2_hopsOf cX2_hopsOf 2 (some FieldType.int) 2 0 0 [.ref (h 0), .int (nI j)] (mS κ h) g ri (fun r u => r = nI (hopsM g j) ∧ u = g) (fun _ _ => False) := by
  refine Ct.of (own := RX2) (by decide) rfl hl (by intro v hv; simp only [List.mem_cons, List.not_mem_nil, or_false] at hv; first | (rcases hv with rfl | rfl | rfl | rfl | rfl | rfl <;> rfl) | (rcases hv with rfl | rfl | rfl | rfl | rfl <;> rfl) | (rcases hv with rfl | rfl | rfl | rfl <;> rfl) | (rcases hv with rfl | rfl | rfl <;> rfl) | (rcases hv with rfl | rfl <;> rfl) | (subst hv; rfl) | exact hv.elim) (Nat.le_of_ble_eq_true rfl) (fun X hxl hxk C F N => ?_)
  subst hxl hxk
  show V X (mS (xK X) h) 0 [some (.ref (h 0)), some (.int (nI j))] [] g 0 0
  refine v_aload_n C dX2_hopsOf_0 rfl ?_
  refine v_iload_n C dX2_hopsOf_1 rfl ?_
  refine v_aload_n C dX2_hopsOf_2 rfl ?_
  refine v_iload_n C dX2_hopsOf_3 rfl ?_
  refine v_callVi C (c_X2_rootOf hl hI hj) ym_X2_rootOf ml_X2_57 emb_id_mS rfl rfl rfl rfl rfl dX2_hopsOf_4 (Nat.le_of_ble_eq_true rfl) (Nat.le_of_ble_eq_true rfl) (Nat.le_of_ble_eq_true rfl) (Nat.le_of_ble_eq_true rfl) (fun _ _ hu => hu.elim) (fun r u hu => ?_)
  obtain ⟨rfl, hu⟩ := hu
  subst u
  refine v_callVi C (c_X2_hopsBetween hl hI hj (root_end hI j hj).1) ym_X2_hopsBetween ml_X2_61 emb_id_mS rfl rfl rfl rfl rfl dX2_hopsOf_7 (Nat.le_of_ble_eq_true rfl) (Nat.le_of_ble_eq_true rfl) (Nat.le_of_ble_eq_true rfl) (Nat.le_of_ble_eq_true rfl) (fun _ _ hu => hu.elim) (fun r u hu => ?_)
  obtain ⟨rfl, hu⟩ := hu
  subst u
  refine v_iret C F (by first | rfl | exact bI_nar _) dX2_hopsOf_10 (Nat.le_of_ble_eq_true rfl) (Nat.le_of_ble_eq_true rfl) ?_
  exact ⟨hbM_root hI hj, rfl⟩
set_option maxHeartbeats 16000000 in
theorem c_X2_valueOf {l : Launch} (hl : l.stackTraces = false) {κ : Kp} {h : Nat → Nat} {g : Mg} {j n : Nat} (hI : IM g n) (hj : j < n) : Ct SS MM l κ yX2_valueOf cX2_valueOf 2 (some FieldType.int) 1 0 0 [.ref (h 0), .int (nI j)] (mS κ h) g ri (fun r u => r = valM g j ∧ u = g) (fun _ _ => False) := by
  refine Ct.of (own := RX2) (by decide) rfl hl (by intro v hv; simp only [List.mem_cons, List.not_mem_nil, or_false] at hv; first | (rcases hv with rfl | rfl | rfl | rfl | rfl | rfl <;> rfl) | (rcases hv with rfl | rfl | rfl | rfl | rfl <;> rfl) | (rcases hv with rfl | rfl | rfl | rfl <;> rfl) | (rcases hv with rfl | rfl | rfl <;> rfl) | (rcases hv with rfl | rfl <;> rfl) | (subst hv; rfl) | exact hv.elim) (Nat.le_of_ble_eq_true rfl) (fun X hxl hxk C F N => ?_)
  subst hxl hxk
  show V X (mS (xK X) h) 0 [some (.ref (h 0)), some (.int (nI j))] [] g 0 0
  have h96 := hI.2.1
  have hr := (root_end hI j hj).1
  refine v_aload_n C dX2_valueOf_0 rfl ?_
  refine v_getr C fl_X2_9 or_mS_0_0 dX2_valueOf_1 ?_
  refine v_aload_n C dX2_valueOf_4 rfl ?_
  refine v_iload_n C dX2_valueOf_5 rfl ?_
  refine v_callVi C (c_X2_rootOf hl (n := n) ?_ ?_) ym_X2_rootOf ml_X2_57 emb_id_mS rfl rfl rfl rfl rfl dX2_valueOf_6 (Nat.le_of_ble_eq_true rfl) (Nat.le_of_ble_eq_true rfl) (Nat.le_of_ble_eq_true rfl) (Nat.le_of_ble_eq_true rfl) (fun _ _ hu => hu.elim) (fun r u hu => ?_)
  · first | assumption | omega
  · first | assumption | omega
  obtain ⟨rfl, hu⟩ := hu
  subst u
  refine v_iald C ar_mS_1 (by decide) _ ?_ rfl dX2_valueOf_9 ?_
  · omega
  refine v_iret C F (by first | rfl | exact bI_nar _) dX2_valueOf_10 (Nat.le_of_ble_eq_true rfl) (Nat.le_of_ble_eq_true rfl) ?_
  first | exact rfl | exact ⟨rfl, rfl⟩
set_option maxHeartbeats 16000000 in
theorem c_X2_isSource {l : Launch} (hl : l.stackTraces = false) {κ : Kp} {h : Nat → Nat} {g : Mg} {j n : Nat} (hn : g 0 7 = nI n) (h96 : n ≤ 96) : Ct SS MM l κ yX2_isSource cX2_isSource 3 (some FieldType.boolean) 0 0 0 [.ref (h 0), .int (nI j)] (mS κ h) g ri (fun r u => r = bI (anyG (srcB g j) 0 n) ∧ u = g) (fun _ _ => False) := by
  refine Ct.of (own := RX2) (by decide) rfl hl (by intro v hv; simp only [List.mem_cons, List.not_mem_nil, or_false] at hv; first | (rcases hv with rfl | rfl | rfl | rfl | rfl | rfl <;> rfl) | (rcases hv with rfl | rfl | rfl | rfl | rfl <;> rfl) | (rcases hv with rfl | rfl | rfl | rfl <;> rfl) | (rcases hv with rfl | rfl | rfl <;> rfl) | (rcases hv with rfl | rfl <;> rfl) | (subst hv; rfl) | exact hv.elim) (Nat.le_of_ble_eq_true rfl) (fun X hxl hxk C F N => ?_)
  subst hxl hxk
  show V X (mS (xK X) h) 0 [some (.ref (h 0)), some (.int (nI j)), none] [] g 0 0
  refine v_iconst (v := nI 0) C dX2_isSource_0 (by decide) ?_
  refine v_istore_n C (lo2 := [some _, some _, some _]) dX2_isSource_1 rfl (Nat.le_of_ble_eq_true rfl) rfl ?_
  have L2 : ∀ (t : Nat), (fun t => 0 ≤ t ∧ t ≤ 200 ∧ anyG (srcB g j) t (n - t) = anyG (srcB g j) 0 (n - 0)) t → (fun t : Nat => V X (mS (xK X) h) 2 [some (.ref (h 0)), some (.int (nI j)), some (.int (nI t))] [] g 0 0) t := by
    refine v_ind (fun t : Nat => n - t) ?_
    rintro i ih2 hI2
    try dsimp only at hI2 ⊢
    obtain ⟨i1, i2, i3⟩ := hI2
    refine v_iload_n C dX2_isSource_2 rfl ?_
    refine v_aload_n C dX2_isSource_3 rfl ?_
    refine v_geti C fl_X2_40 oi_mS_0_7 dX2_isSource_4 ?_
    rw [hn]
    first | refine v_icmp_geN C 28 dX2_isSource_7 (by decide) (by omega) (by omega) (fun c7 => ?_) (fun c7 => ?_) | refine v_icmp_ge C 28 dX2_isSource_7 (by decide) (fun c7 => ?_) (fun c7 => ?_)
    · refine v_iconst (v := nI 0) C dX2_isSource_28 (by decide) ?_
      refine v_iret C F (by first | rfl | exact bI_nar _) dX2_isSource_29 (Nat.le_of_ble_eq_true rfl) (Nat.le_of_ble_eq_true rfl) ?_
      rw [anyG_0 (by omega)] at i3
      exact ⟨bI_f i3.symm, rfl⟩
    · refine v_aload_n C dX2_isSource_10 rfl ?_
      refine v_getr C fl_X2_15 or_mS_0_1 dX2_isSource_11 ?_
      refine v_iload_n C dX2_isSource_14 rfl ?_
      refine v_iald C ar_mS_2 (by decide) _ ?_ rfl dX2_isSource_15 ?_
      · omega
      refine v_iload_n C dX2_isSource_16 rfl ?_
      refine v_icmp_ne C 22 dX2_isSource_17 (by decide) (fun c17 => ?_) (fun c17 => ?_)
      · first | refine v_iinc1 C (lo2 := [some _, some _, some _]) dX2_isSource_22 rfl rfl rfl ?_ | refine v_iinc C (lo2 := [some _, some _, some _]) dX2_isSource_22 rfl rfl rfl rfl ?_
        refine v_goto C 2 dX2_isSource_25 (by decide) ?_
        have hib : i < n := by omega
        have hf : (srcB g j) i = false := by
          simp [srcB, c17]
        rw [anyG_s hib, hf, Bool.false_or] at i3
        exact ih2 (i + 1) (by show n - (i + 1) < n - i; omega) ⟨by omega, by omega, i3⟩
      · refine v_iconst (v := nI 1) C dX2_isSource_20 (by decide) ?_
        refine v_iret C F (by first | rfl | exact bI_nar _) dX2_isSource_21 (Nat.le_of_ble_eq_true rfl) (Nat.le_of_ble_eq_true rfl) ?_
        have hib : i < n := by omega
        have hf : (srcB g j) i = true := by
          simp [srcB, c17]
        rw [anyG_s hib, hf, Bool.true_or] at i3
        exact ⟨bI_t i3.symm, rfl⟩
  exact L2 (0) ⟨Nat.le_refl _, by omega, rfl⟩
set_option maxHeartbeats 16000000 in
theorem c_X2_hasLockIn {l : Launch} (hl : l.stackTraces = false) {κ : Kp} {h : Nat → Nat} {g : Mg} {a b n : Nat} (hn : g 0 7 = nI n) (h96 : n ≤ 96) (hb : b < n) (ha : a ≤ 96) : Ct SS MM l κ yX2_hasLockIn cX2_hasLockIn 4 (some FieldType.boolean) 1 0 0 [.ref (h 0), .int (nI a), .int (nI b)] (mS κ h) g ri (fun r u => r = bI (anyG (lockB g) a (b + 1 - a)) ∧ u = g) (fun _ _ => False) := by
  refine Ct.of (own := RX2) (by decide) rfl hl (by intro v hv; simp only [List.mem_cons, List.not_mem_nil, or_false] at hv; first | (rcases hv with rfl | rfl | rfl | rfl | rfl | rfl <;> rfl) | (rcases hv with rfl | rfl | rfl | rfl | rfl <;> rfl) | (rcases hv with rfl | rfl | rfl | rfl <;> rfl) | (rcases hv with rfl | rfl | rfl <;> rfl) | (rcases hv with rfl | rfl <;> rfl) | (subst hv; rfl) | exact hv.elim) (Nat.le_of_ble_eq_true rfl) (fun X hxl hxk C F N => ?_)
  subst hxl hxk
  show V X (mS (xK X) h) 0 [some (.ref (h 0)), some (.int (nI a)), some (.int (nI b)), none] [] g 0 0
  refine v_iload_n C dX2_hasLockIn_0 rfl ?_
  refine v_istore_n C (lo2 := [some _, some _, some _, some _]) dX2_hasLockIn_1 rfl (Nat.le_of_ble_eq_true rfl) rfl ?_
  have L2 : ∀ (t : Nat), (fun t => a ≤ t ∧ t ≤ 200 ∧ anyG (lockB g) t ((b + 1) - t) = anyG (lockB g) a ((b + 1) - a)) t → (fun t : Nat => V X (mS (xK X) h) 2 [some (.ref (h 0)), some (.int (nI a)), some (.int (nI b)), some (.int (nI t))] [] g 0 0) t := by
    refine v_ind (fun t : Nat => (b + 1) - t) ?_
    rintro i ih2 hI2
    try dsimp only at hI2 ⊢
    obtain ⟨i1, i2, i3⟩ := hI2
    refine v_iload_n C dX2_hasLockIn_2 rfl ?_
    refine v_iload_n C dX2_hasLockIn_3 rfl ?_
    first | refine v_icmp_gtN C 32 dX2_hasLockIn_4 (by decide) (by omega) (by omega) (fun c4 => ?_) (fun c4 => ?_) | refine v_icmp_gt C 32 dX2_hasLockIn_4 (by decide) (fun c4 => ?_) (fun c4 => ?_)
    · refine v_iconst (v := nI 0) C dX2_hasLockIn_32 (by decide) ?_
      refine v_iret C F (by first | rfl | exact bI_nar _) dX2_hasLockIn_33 (Nat.le_of_ble_eq_true rfl) (Nat.le_of_ble_eq_true rfl) ?_
      rw [anyG_0 (by omega)] at i3
      exact ⟨bI_f i3.symm, rfl⟩
    · refine v_aload_n C dX2_hasLockIn_7 rfl ?_
      refine v_iload_n C dX2_hasLockIn_8 rfl ?_
      refine v_callVi C (c_X2_isPlace hl) ym_X2_isPlace ml_X2_53 emb_id_mS rfl rfl rfl rfl rfl dX2_hasLockIn_9 (Nat.le_of_ble_eq_true rfl) (Nat.le_of_ble_eq_true rfl) (Nat.le_of_ble_eq_true rfl) (Nat.le_of_ble_eq_true rfl) (fun _ _ hu => hu.elim) (fun r u hu => ?_)
      obtain ⟨rfl, hu⟩ := hu
      subst u
      rw [isP_n hn h96 (by omega), decide_eq_true (show i < n by omega)]
      refine v_if_eqB C 26 dX2_hasLockIn_12 (by decide) (fun c12 => ?_) (fun c12 => ?_)
      · cases c12
      · refine v_aload_n C dX2_hasLockIn_15 rfl ?_
        refine v_getr C fl_X2_21 or_mS_0_3 dX2_hasLockIn_16 ?_
        refine v_iload_n C dX2_hasLockIn_19 rfl ?_
        refine v_zald C ar_mS_4 (by decide) _ ?_ rfl dX2_hasLockIn_20 ?_
        · omega
        refine v_if_eq C 26 dX2_hasLockIn_21 (by decide) (fun c21 => ?_) (fun c21 => ?_)
        · first | refine v_iinc1 C (lo2 := [some _, some _, some _, some _]) dX2_hasLockIn_26 rfl rfl rfl ?_ | refine v_iinc C (lo2 := [some _, some _, some _, some _]) dX2_hasLockIn_26 rfl rfl rfl rfl ?_
          refine v_goto C 2 dX2_hasLockIn_29 (by decide) ?_
          have hib : i < (b + 1) := by omega
          have hf : (lockB g) i = false := by
            simp [lockB, c21]
          rw [anyG_s hib, hf, Bool.false_or] at i3
          exact ih2 (i + 1) (by show (b + 1) - (i + 1) < (b + 1) - i; omega) ⟨by omega, by omega, i3⟩
        · refine v_iconst (v := nI 1) C dX2_hasLockIn_24 (by decide) ?_
          refine v_iret C F (by first | rfl | exact bI_nar _) dX2_hasLockIn_25 (Nat.le_of_ble_eq_true rfl) (Nat.le_of_ble_eq_true rfl) ?_
          have hib : i < (b + 1) := by omega
          have hf : (lockB g) i = true := by
            simp [lockB, c21]
          rw [anyG_s hib, hf, Bool.true_or] at i3
          exact ⟨bI_t i3.symm, rfl⟩
  exact L2 (a) ⟨Nat.le_refl _, by omega, rfl⟩

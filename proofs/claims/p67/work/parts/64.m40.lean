set_option maxHeartbeats 16000000 in
theorem c_X8_root_s {l : Launch} (hl : l.stackTraces = false) {κ : Kp} {h : Nat → Nat} {n : Nat} {m : Mg} {e : Nat → Nat} {p : Int32} {d j : Nat} (hI : IM m n) (hj : j < n) (hrec : ¬ m 2 j = -1 → CtG SS MM l κ yX8_root cX8_root 1 (some (FieldType.object "CopyDebtsLaw$Place")) d 0 0 [.ref (h (8 + src m j))] (lmW κ h n (m, e, p)) rr (fun r w => r = h (8 + rootM m (src m j)) ∧ w = lmW κ h n (m, e, p)) (fun _ _ => False)) : CtG SS MM l κ yX8_root cX8_root 1 (some (FieldType.object "CopyDebtsLaw$Place")) (d + 1) 0 0 [.ref (h (8 + j))] (lmW κ h n (m, e, p)) rr (fun r w => r = h (8 + rootM m j) ∧ w = lmW κ h n (m, e, p)) (fun _ _ => False) := by
  refine CtG.of (own := RX8) (by decide) rfl hl (by intro v hv; simp only [List.mem_cons, List.not_mem_nil, or_false] at hv; first | (rcases hv with rfl | rfl | rfl | rfl | rfl | rfl <;> rfl) | (rcases hv with rfl | rfl | rfl | rfl | rfl <;> rfl) | (rcases hv with rfl | rfl | rfl | rfl <;> rfl) | (rcases hv with rfl | rfl | rfl <;> rfl) | (rcases hv with rfl | rfl <;> rfl) | (subst hv; rfl) | exact hv.elim) (Nat.le_of_ble_eq_true rfl) (fun X hxl hxk C F NH hnm => ?_)
  subst hxl hxk
  show V X iW 0 [some (.ref (h (8 + j)))] [] (lmW (xK X) h n (m, e, p)) 0 0
  refine v_aload_n C dX8_root_0 rfl ?_
  refine v_gF (K := fun w => w) C Cxt.id (v := va_rf (srcV h m j)) (5 + j) fl_X8_16 (plc_at hj) rfl dX8_root_1 ?_
  refine v_ifnonnull C (x := (srcV h m j)) 11 dX8_root_4 (by decide) (fun a4 c4 => ?_) (fun c4 => ?_)
  · have hno := (srcV_yes c4).1
    have hsr := IM_src hI hj hno
    refine v_aload_n C dX8_root_11 rfl ?_
    refine v_gF (K := fun w => w) C Cxt.id (v := va_rf (srcV h m j)) (5 + j) fl_X8_16 (plc_at hj) rfl dX8_root_12 ?_
    rw [srcV_t hno]
    refine v_gVr (K := fun w => w) C Cxt.id (5 + (src m j)) (hrec hno) ym_X8_root ml_X8_20 (plc_at hsr.1) rfl rfl rfl dX8_root_15 (by first | exact Nat.le_of_ble_eq_true rfl | omega) (by first | exact Nat.le_of_ble_eq_true rfl | omega) (by first | exact Nat.le_of_ble_eq_true rfl | omega) (Nat.le_of_ble_eq_true rfl) (fun _ _ hu => hu.elim) (fun r u hu => ?_)
    obtain ⟨rfl, rfl⟩ := hu
    refine v_aretG C (x := (some (h (8 + (rootM m (src m j)))))) F (Or.inl ⟨_, rfl⟩) dX8_root_18 (by first | exact Nat.le_of_ble_eq_true rfl | omega) (by first | exact Nat.le_of_ble_eq_true rfl | omega) rfl (List.Perm.refl _) ?_
    first | exact ⟨by rw [root_eq hI hj, if_pos (srcV_no.mp c4)], rfl⟩ | exact ⟨by rw [root_eq hI hj, if_neg hno], rfl⟩
  · refine v_aload_n C dX8_root_7 rfl ?_
    refine v_goto C 18 dX8_root_8 (by decide) ?_
    refine v_aretG C (x := (some (h (8 + j)))) F (Or.inl ⟨_, rfl⟩) dX8_root_18 (by first | exact Nat.le_of_ble_eq_true rfl | omega) (by first | exact Nat.le_of_ble_eq_true rfl | omega) rfl (List.Perm.refl _) ?_
    first | exact ⟨by rw [root_eq hI hj, if_pos (srcV_no.mp c4)], rfl⟩ | exact ⟨by rw [root_eq hI hj, if_neg hno], rfl⟩
theorem c_X8_rootF {l : Launch} (hl : l.stackTraces = false) {κ : Kp} {h : Nat → Nat} {n : Nat} {m : Mg} {e : Nat → Nat} {p : Int32} (hI : IM m n) : ∀ (f j : Nat), j < n → hopsM m j ≤ f → CtG SS MM l κ yX8_root cX8_root 1 (some (FieldType.object "CopyDebtsLaw$Place")) (f + 1) 0 0 [.ref (h (8 + j))] (lmW κ h n (m, e, p)) rr (fun r w => r = h (8 + rootM m j) ∧ w = lmW κ h n (m, e, p)) (fun _ _ => False)
  | 0, j, hj, hf => c_X8_root_s hl (d := 0) hI hj (fun ho => by have h2 := hops_eq hI hj; rw [if_neg ho] at h2; omega)
  | f + 1, j, hj, hf => c_X8_root_s hl (d := f + 1) hI hj (fun ho => c_X8_rootF hl hI f (src m j) (IM_src hI hj ho).1 (by have h2 := hops_eq hI hj; rw [if_neg ho] at h2; omega))
theorem c_X8_root {l : Launch} (hl : l.stackTraces = false) {κ : Kp} {h : Nat → Nat} {n : Nat} {m : Mg} {e : Nat → Nat} {p : Int32} {j : Nat} (hI : IM m n) (h14 : n ≤ 14) (hj : j < n) : CtG SS MM l κ yX8_root cX8_root 1 (some (FieldType.object "CopyDebtsLaw$Place")) 14 0 0 [.ref (h (8 + j))] (lmW κ h n (m, e, p)) rr (fun r w => r = h (8 + rootM m j) ∧ w = lmW κ h n (m, e, p)) (fun _ _ => False) := c_X8_rootF hl hI 13 j hj (by have := hops_lt hI hj; omega)
set_option maxHeartbeats 16000000 in
theorem c_X8_hops_s {l : Launch} (hl : l.stackTraces = false) {κ : Kp} {h : Nat → Nat} {n : Nat} {m : Mg} {e : Nat → Nat} {p : Int32} {d j : Nat} (hI : IM m n) (hj : j < n) (hrec : ¬ m 2 j = -1 → CtG SS MM l κ yX8_hops cX8_hops 1 (some FieldType.int) d 0 0 [.ref (h (8 + src m j))] (lmW κ h n (m, e, p)) ri (fun r w => r = nI (hopsM m (src m j)) ∧ w = lmW κ h n (m, e, p)) (fun _ _ => False)) : CtG SS MM l κ yX8_hops cX8_hops 1 (some FieldType.int) (d + 1) 0 0 [.ref (h (8 + j))] (lmW κ h n (m, e, p)) ri (fun r w => r = nI (hopsM m j) ∧ w = lmW κ h n (m, e, p)) (fun _ _ => False) := by
  refine CtG.of (own := RX8) (by decide) rfl hl (by intro v hv; simp only [List.mem_cons, List.not_mem_nil, or_false] at hv; first | (rcases hv with rfl | rfl | rfl | rfl | rfl | rfl <;> rfl) | (rcases hv with rfl | rfl | rfl | rfl | rfl <;> rfl) | (rcases hv with rfl | rfl | rfl | rfl <;> rfl) | (rcases hv with rfl | rfl | rfl <;> rfl) | (rcases hv with rfl | rfl <;> rfl) | (subst hv; rfl) | exact hv.elim) (Nat.le_of_ble_eq_true rfl) (fun X hxl hxk C F NH hnm => ?_)
  subst hxl hxk
  show V X iW 0 [some (.ref (h (8 + j)))] [] (lmW (xK X) h n (m, e, p)) 0 0
  refine v_aload_n C dX8_hops_0 rfl ?_
  refine v_gF (K := fun w => w) C Cxt.id (v := va_rf (srcV h m j)) (5 + j) fl_X8_16 (plc_at hj) rfl dX8_hops_1 ?_
  refine v_ifnonnull C (x := (srcV h m j)) 11 dX8_hops_4 (by decide) (fun a4 c4 => ?_) (fun c4 => ?_)
  · have hno := (srcV_yes c4).1
    have hsr := IM_src hI hj hno
    refine v_iconst (v := nI 1) C dX8_hops_11 (by decide) ?_
    refine v_aload_n C dX8_hops_12 rfl ?_
    refine v_gF (K := fun w => w) C Cxt.id (v := va_rf (srcV h m j)) (5 + j) fl_X8_16 (plc_at hj) rfl dX8_hops_13 ?_
    rw [srcV_t hno]
    refine v_gVi (K := fun w => w) C Cxt.id (5 + (src m j)) (hrec hno) ym_X8_hops ml_X8_24 (plc_at hsr.1) rfl rfl rfl dX8_hops_16 (by first | exact Nat.le_of_ble_eq_true rfl | omega) (by first | exact Nat.le_of_ble_eq_true rfl | omega) (by first | exact Nat.le_of_ble_eq_true rfl | omega) (Nat.le_of_ble_eq_true rfl) (fun _ _ hu => hu.elim) (fun r u hu => ?_)
    obtain ⟨rfl, rfl⟩ := hu
    first | refine v_iaddN C dX8_hops_19 ?_ | refine v_iadd C dX8_hops_19 ?_
    refine v_iretG C F (by first | rfl | exact bI_nar _) dX8_hops_20 (by first | exact Nat.le_of_ble_eq_true rfl | omega) (by first | exact Nat.le_of_ble_eq_true rfl | omega) rfl (List.Perm.refl _) ?_
    first | exact ⟨by rw [hops_eq hI hj, if_pos (srcV_no.mp c4)], rfl⟩ | exact ⟨by rw [hops_eq hI hj, if_neg hno, Nat.add_comm 1], rfl⟩
  · refine v_iconst (v := nI 0) C dX8_hops_7 (by decide) ?_
    refine v_goto C 20 dX8_hops_8 (by decide) ?_
    refine v_iretG C F (by first | rfl | exact bI_nar _) dX8_hops_20 (by first | exact Nat.le_of_ble_eq_true rfl | omega) (by first | exact Nat.le_of_ble_eq_true rfl | omega) rfl (List.Perm.refl _) ?_
    first | exact ⟨by rw [hops_eq hI hj, if_pos (srcV_no.mp c4)], rfl⟩ | exact ⟨by rw [hops_eq hI hj, if_neg hno, Nat.add_comm 1], rfl⟩
theorem c_X8_hopsF {l : Launch} (hl : l.stackTraces = false) {κ : Kp} {h : Nat → Nat} {n : Nat} {m : Mg} {e : Nat → Nat} {p : Int32} (hI : IM m n) : ∀ (f j : Nat), j < n → hopsM m j ≤ f → CtG SS MM l κ yX8_hops cX8_hops 1 (some FieldType.int) (f + 1) 0 0 [.ref (h (8 + j))] (lmW κ h n (m, e, p)) ri (fun r w => r = nI (hopsM m j) ∧ w = lmW κ h n (m, e, p)) (fun _ _ => False)
  | 0, j, hj, hf => c_X8_hops_s hl (d := 0) hI hj (fun ho => by have h2 := hops_eq hI hj; rw [if_neg ho] at h2; omega)
  | f + 1, j, hj, hf => c_X8_hops_s hl (d := f + 1) hI hj (fun ho => c_X8_hopsF hl hI f (src m j) (IM_src hI hj ho).1 (by have h2 := hops_eq hI hj; rw [if_neg ho] at h2; omega))
theorem c_X8_hops {l : Launch} (hl : l.stackTraces = false) {κ : Kp} {h : Nat → Nat} {n : Nat} {m : Mg} {e : Nat → Nat} {p : Int32} {j : Nat} (hI : IM m n) (h14 : n ≤ 14) (hj : j < n) : CtG SS MM l κ yX8_hops cX8_hops 1 (some FieldType.int) 14 0 0 [.ref (h (8 + j))] (lmW κ h n (m, e, p)) ri (fun r w => r = nI (hopsM m j) ∧ w = lmW κ h n (m, e, p)) (fun _ _ => False) := c_X8_hopsF hl hI 13 j hj (by have := hops_lt hI hj; omega)
set_option maxHeartbeats 16000000 in
theorem c_X8_value {l : Launch} (hl : l.stackTraces = false) {κ : Kp} {h : Nat → Nat} {n : Nat} {m : Mg} {e : Nat → Nat} {p : Int32} {j : Nat} (hI : IM m n) (h14 : n ≤ 14) (hj : j < n) : CtG SS MM l κ yX8_value cX8_value 1 (some FieldType.int) 15 0 0 [.ref (h (8 + j))] (lmW κ h n (m, e, p)) ri (fun r w => r = valM m j ∧ w = lmW κ h n (m, e, p)) (fun _ _ => False) := by
  refine CtG.of (own := RX8) (by decide) rfl hl (by intro v hv; simp only [List.mem_cons, List.not_mem_nil, or_false] at hv; first | (rcases hv with rfl | rfl | rfl | rfl | rfl | rfl <;> rfl) | (rcases hv with rfl | rfl | rfl | rfl | rfl <;> rfl) | (rcases hv with rfl | rfl | rfl | rfl <;> rfl) | (rcases hv with rfl | rfl | rfl <;> rfl) | (rcases hv with rfl | rfl <;> rfl) | (subst hv; rfl) | exact hv.elim) (Nat.le_of_ble_eq_true rfl) (fun X hxl hxk C F NH hnm => ?_)
  subst hxl hxk
  show V X iW 0 [some (.ref (h (8 + j)))] [] (lmW (xK X) h n (m, e, p)) 0 0
  refine v_aload_n C dX8_value_0 rfl ?_
  refine v_gVr (K := fun w => w) C Cxt.id (5 + j) (c_X8_root hl hI h14 hj) ym_X8_root ml_X8_20 (plc_at hj) rfl rfl rfl dX8_value_1 (by first | exact Nat.le_of_ble_eq_true rfl | omega) (by first | exact Nat.le_of_ble_eq_true rfl | omega) (by first | exact Nat.le_of_ble_eq_true rfl | omega) (Nat.le_of_ble_eq_true rfl) (fun _ _ hu => hu.elim) (fun r u hu => ?_)
  obtain ⟨rfl, rfl⟩ := hu
  refine v_gF (K := fun w => w) C Cxt.id (v := .int (m 1 (rootM m j))) (5 + (rootM m j)) fl_X8_28 (plc_at (root_end hI j hj).1) rfl dX8_value_4 ?_
  refine v_iretG C F (by first | rfl | exact bI_nar _) dX8_value_7 (by first | exact Nat.le_of_ble_eq_true rfl | omega) (by first | exact Nat.le_of_ble_eq_true rfl | omega) rfl (List.Perm.refl _) ?_
  first | exact rfl | exact ⟨rfl, rfl⟩
set_option maxHeartbeats 16000000 in
theorem c_X7_isLocked {l : Launch} (hl : l.stackTraces = false) {κ : Kp} {h : Nat → Nat} {n : Nat} {m : Mg} {e : Nat → Nat} {p : Int32} {a c : Nat} {b : Int32} (hac : a ≤ c) (hb : b.toInt = (c : Int) - 1) (hc : c ≤ n) (h14 : n ≤ 14) (hL : ∀ q, q < n → m 4 q = bI (lockB m q)) : CtG SS MM l κ yX7_isLocked cX7_isLocked 5 (some FieldType.boolean) 0 0 0 [.ref (h 0), .int (nI a), .int b] (lmW κ h n (m, e, p)) ri (fun r w => r = bI (anyG (lockB m) a (c - a)) ∧ w = lmW κ h n (m, e, p)) (fun _ _ => False) := by
  refine CtG.of (own := RX7) (by decide) rfl hl (by intro v hv; simp only [List.mem_cons, List.not_mem_nil, or_false] at hv; first | (rcases hv with rfl | rfl | rfl | rfl | rfl | rfl <;> rfl) | (rcases hv with rfl | rfl | rfl | rfl | rfl <;> rfl) | (rcases hv with rfl | rfl | rfl | rfl <;> rfl) | (rcases hv with rfl | rfl | rfl <;> rfl) | (rcases hv with rfl | rfl <;> rfl) | (subst hv; rfl) | exact hv.elim) (Nat.le_of_ble_eq_true rfl) (fun X hxl hxk C F NH hnm => ?_)
  subst hxl hxk
  show V X iW 0 [some (.ref (h 0)), some (.int (nI a)), some (.int b), none, none] [] (lmW (xK X) h n (m, e, p)) 0 0
  refine v_iconst (v := nI 0) C dX7_isLocked_0 (by decide) ?_
  refine v_istore_n C (lo2 := [some _, some _, some _, some _, none]) dX7_isLocked_1 rfl (Nat.le_of_ble_eq_true rfl) rfl ?_
  refine v_iload_n C dX7_isLocked_2 rfl ?_
  refine v_istore C (lo2 := [some _, some _, some _, some _, some _]) dX7_isLocked_3 rfl (Nat.le_of_ble_eq_true rfl) rfl ?_
  have L5 : ∀ (t : Nat × Bool), (fun t => a ≤ t.1 ∧ t.1 ≤ c ∧ (t.2 || anyG (lockB m) t.1 (c - t.1)) = anyG (lockB m) a (c - a)) t → (fun t : Nat × Bool => V X iW 5 [some (.ref (h 0)), some (.int (nI a)), some (.int b), some (.int (bI t.2)), some (.int (nI t.1))] [] (lmW (xK X) h n (m, e, p)) 0 0) t := by
    refine v_ind (fun t : Nat × Bool => c - t.1) ?_
    rintro ⟨i, s⟩ ih5 hI5
    try dsimp only at hI5 ⊢
    obtain ⟨i1, i2, i3⟩ := hI5
    refine v_iload C dX7_isLocked_5 rfl ?_
    refine v_iload_n C dX7_isLocked_7 rfl ?_
    refine v_icmp_gt C 30 dX7_isLocked_8 (by decide) (fun c8 => ?_) (fun c8 => ?_)
    · have hic : c ≤ i := by rw [nI_toInt (by omega)] at c8; omega
      refine v_iload_n C dX7_isLocked_30 rfl ?_
      refine v_iretG C F (by first | rfl | exact bI_nar _) dX7_isLocked_31 (by first | exact Nat.le_of_ble_eq_true rfl | omega) (by first | exact Nat.le_of_ble_eq_true rfl | omega) rfl (List.Perm.refl _) ?_
      exact ⟨by rw [← i3, anyG_0 hic, Bool.or_false], rfl⟩
    · have hic : i < c := by rw [nI_toInt (by omega)] at c8; omega
      refine v_iload_n C dX7_isLocked_11 rfl ?_
      refine v_aload_n C dX7_isLocked_12 rfl ?_
      refine v_gF (K := fun w => w) C Cxt.id (v := .ref (h 1)) 0 fl_X7_40 lm_0 rfl dX7_isLocked_13 ?_
      refine v_iload C dX7_isLocked_16 rfl ?_
      refine v_gP (K := fun w => w) C Cxt.id (x := (some (h (8 + i)))) 1 lm_1 (by first | decide | omega) i (if_pos (by omega)) ?_ rfl dX7_isLocked_18 ?_
      · omega
      refine v_gFN (K := fun w => w) C Cxt.id (v := .int (m 4 i)) (5 + i) fln_X7_80 (plc_at (by omega)) rfl dX7_isLocked_19 ?_
      rw [hL i (by omega)]
      refine v_ior C dX7_isLocked_22 ?_
      rw [bI_or]
      refine v_istore_n C (lo2 := [some _, some _, some _, some _, some _]) dX7_isLocked_23 rfl (Nat.le_of_ble_eq_true rfl) rfl ?_
      first | refine v_iinc1 C (lo2 := [some _, some _, some _, some _, some _]) dX7_isLocked_24 rfl rfl rfl ?_ | refine v_iinc C (lo2 := [some _, some _, some _, some _, some _]) dX7_isLocked_24 rfl rfl rfl rfl ?_
      refine v_goto C 5 dX7_isLocked_27 (by decide) ?_
      exact ih5 (i + 1, s || lockB m i) (by show c - (i + 1) < c - i; omega) ⟨by show a ≤ i + 1; omega, by show i + 1 ≤ c; omega, by rw [← i3, anyG_s (by omega : i < c), Bool.or_assoc]⟩
  exact L5 (a, false) ⟨Nat.le_refl _, hac, by rw [Bool.false_or]⟩
set_option maxHeartbeats 16000000 in
theorem c_X7_owed {l : Launch} (hl : l.stackTraces = false) {κ : Kp} {h : Nat → Nat} {n : Nat} {m : Mg} {e : Nat → Nat} {p : Int32} (h14 : n ≤ 14) : CtG SS MM l κ yX7_owed cX7_owed 6 (some FieldType.int) 0 0 0 [.ref (h 0)] (lmW κ h n (m, e, p)) ri (fun r w => r = nI (cntG (owb m) 0 n) ∧ w = lmW κ h n (m, e, p)) (fun _ _ => False) := by
  refine CtG.of (own := RX7) (by decide) rfl hl (by intro v hv; simp only [List.mem_cons, List.not_mem_nil, or_false] at hv; first | (rcases hv with rfl | rfl | rfl | rfl | rfl | rfl <;> rfl) | (rcases hv with rfl | rfl | rfl | rfl | rfl <;> rfl) | (rcases hv with rfl | rfl | rfl | rfl <;> rfl) | (rcases hv with rfl | rfl | rfl <;> rfl) | (rcases hv with rfl | rfl <;> rfl) | (subst hv; rfl) | exact hv.elim) (Nat.le_of_ble_eq_true rfl) (fun X hxl hxk C F NH hnm => ?_)
  subst hxl hxk
  show V X iW 0 [some (.ref (h 0)), none, none, none, none, none] [] (lmW (xK X) h n (m, e, p)) 0 0
  refine v_iconst (v := nI 0) C dX7_owed_0 (by decide) ?_
  refine v_istore_n C (lo2 := [some _, some _, none, none, none, none]) dX7_owed_1 rfl (Nat.le_of_ble_eq_true rfl) rfl ?_
  refine v_aload_n C dX7_owed_2 rfl ?_
  refine v_gF (K := fun w => w) C Cxt.id (v := .ref (h 1)) 0 fl_X7_40 lm_0 rfl dX7_owed_3 ?_
  refine v_astore_n C (lo2 := [some _, some _, some _, none, none, none]) dX7_owed_6 rfl (Nat.le_of_ble_eq_true rfl) rfl ?_
  refine v_aload_n C dX7_owed_7 rfl ?_
  refine v_lenA (K := fun w => w) C Cxt.id (N := n) 3 1 rfl lm_1 rfl dX7_owed_8 ?_
  refine v_istore_n C (lo2 := [some _, some _, some _, some _, none, none]) dX7_owed_9 rfl (Nat.le_of_ble_eq_true rfl) rfl ?_
  refine v_iconst (v := nI 0) C dX7_owed_10 (by decide) ?_
  refine v_istore C (lo2 := [some _, some _, some _, some _, some _, none]) dX7_owed_11 rfl (Nat.le_of_ble_eq_true rfl) rfl ?_
  have L13 : ∀ (t : Nat × Nat), (fun t => t.1 ≤ n ∧ t.2 + cntG (owb m) t.1 (n - t.1) = cntG (owb m) 0 n) t → (fun t : Nat × Nat => V X iW 13 [some (.ref (h 0)), some (.int (nI t.2)), some (.ref (h 1)), some (.int (nI n)), some (.int (nI t.1)), none] [] (lmW (xK X) h n (m, e, p)) 0 0) t := by
    refine v_ind (fun t : Nat × Nat => n - t.1) ?_
    rintro ⟨i, s⟩ ih13 hI13
    try dsimp only at hI13 ⊢
    obtain ⟨i1, i2⟩ := hI13
    refine v_iload C dX7_owed_13 rfl ?_
    refine v_iload_n C dX7_owed_15 rfl ?_
    first | refine v_icmp_geN C 47 dX7_owed_16 (by decide) (by omega) (by omega) (fun c16 => ?_) (fun c16 => ?_) | refine v_icmp_ge C 47 dX7_owed_16 (by decide) (fun c16 => ?_) (fun c16 => ?_)
    · refine v_iload_n C dX7_owed_47 rfl ?_
      refine v_iretG C F (by first | rfl | exact bI_nar _) dX7_owed_48 (by first | exact Nat.le_of_ble_eq_true rfl | omega) (by first | exact Nat.le_of_ble_eq_true rfl | omega) rfl (List.Perm.refl _) ?_
      exact ⟨by rw [← i2, cntG_0 (by omega)]; rfl, rfl⟩
    · refine v_aload_n C dX7_owed_19 rfl ?_
      refine v_iload C dX7_owed_20 rfl ?_
      refine v_gP (K := fun w => w) C Cxt.id (x := (some (h (8 + i)))) 1 lm_1 (by first | decide | omega) i (if_pos (by omega)) ?_ rfl dX7_owed_22 ?_
      · omega
      refine v_astore C (lo2 := [some _, some _, some _, some _, some _, some _]) dX7_owed_23 rfl (Nat.le_of_ble_eq_true rfl) rfl ?_
      refine v_iload_n C dX7_owed_25 rfl ?_
      refine v_aload C dX7_owed_26 rfl ?_
      refine v_gFN (K := fun w => w) C Cxt.id (v := va_rf (srcV h m i)) (5 + i) fln_X7_109 (plc_at (by omega)) rfl dX7_owed_28 ?_
      refine v_ifnonnull C (x := (srcV h m i)) 38 dX7_owed_31 (by decide) (fun a31 c31 => ?_) (fun c31 => ?_)
      · refine v_iconst (v := nI 1) C dX7_owed_38 (by decide) ?_
        first | refine v_iaddN C dX7_owed_39 ?_ | refine v_iadd C dX7_owed_39 ?_
        refine v_istore_n C (lo2 := [some _, some _, some _, some _, some _, some _]) dX7_owed_40 rfl (Nat.le_of_ble_eq_true rfl) rfl ?_
        first | refine v_iinc1 C (lo2 := [some _, some _, some _, some _, some _, some _]) dX7_owed_41 rfl rfl rfl ?_ | refine v_iinc C (lo2 := [some _, some _, some _, some _, some _, some _]) dX7_owed_41 rfl rfl rfl rfl ?_
        refine v_goto C 13 dX7_owed_44 (by decide) ?_
        refine V.sub (lo2 := [some _, some _, some _, some _, some _, none]) ⟨rfl, rfl, rfl, rfl, rfl, trivial⟩ ?_
        have hin : i < n := by omega
        rw [cntG_s hin] at i2
        first
        | (have ho : owb m i = false := owb_f.mpr (srcV_no.mp c31)
           rw [ho, if_neg Bool.false_ne_true] at i2
           exact ih13 (i + 1, s + 0) (by show n - (i + 1) < n - i; omega) ⟨by show i + 1 ≤ n; omega, by show s + 0 + cntG (owb m) (i + 1) (n - (i + 1)) = _; omega⟩)
        | (have ho : owb m i = true := owb_t.mpr (srcV_yes c31).1
           rw [ho, if_pos rfl] at i2
           exact ih13 (i + 1, s + 1) (by show n - (i + 1) < n - i; omega) ⟨by show i + 1 ≤ n; omega, by show s + 1 + cntG (owb m) (i + 1) (n - (i + 1)) = _; omega⟩)
      · refine v_iconst (v := nI 0) C dX7_owed_34 (by decide) ?_
        refine v_goto C 39 dX7_owed_35 (by decide) ?_
        first | refine v_iaddN C dX7_owed_39 ?_ | refine v_iadd C dX7_owed_39 ?_
        refine v_istore_n C (lo2 := [some _, some _, some _, some _, some _, some _]) dX7_owed_40 rfl (Nat.le_of_ble_eq_true rfl) rfl ?_
        first | refine v_iinc1 C (lo2 := [some _, some _, some _, some _, some _, some _]) dX7_owed_41 rfl rfl rfl ?_ | refine v_iinc C (lo2 := [some _, some _, some _, some _, some _, some _]) dX7_owed_41 rfl rfl rfl rfl ?_
        refine v_goto C 13 dX7_owed_44 (by decide) ?_
        refine V.sub (lo2 := [some _, some _, some _, some _, some _, none]) ⟨rfl, rfl, rfl, rfl, rfl, trivial⟩ ?_
        have hin : i < n := by omega
        rw [cntG_s hin] at i2
        first
        | (have ho : owb m i = false := owb_f.mpr (srcV_no.mp c31)
           rw [ho, if_neg Bool.false_ne_true] at i2
           exact ih13 (i + 1, s + 0) (by show n - (i + 1) < n - i; omega) ⟨by show i + 1 ≤ n; omega, by show s + 0 + cntG (owb m) (i + 1) (n - (i + 1)) = _; omega⟩)
        | (have ho : owb m i = true := owb_t.mpr (srcV_yes c31).1
           rw [ho, if_pos rfl] at i2
           exact ih13 (i + 1, s + 1) (by show n - (i + 1) < n - i; omega) ⟨by show i + 1 ≤ n; omega, by show s + 1 + cntG (owb m) (i + 1) (n - (i + 1)) = _; omega⟩)
  exact L13 (0, 0) ⟨Nat.zero_le _, by rw [Nat.zero_add]; rfl⟩

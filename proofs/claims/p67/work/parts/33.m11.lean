set_option maxHeartbeats 16000000 in
theorem c_X5_needMemory {l : Launch} (hl : l.stackTraces = false) {κ : Kp} {h : Nat → Nat} {s sT : G} {m mT : Mg} {rr : Rg} {hh : Hg} {sl : Nat → Mg} {tx : G} {n : Nat} (hn : m 0 7 = nI n) (h96 : n ≤ 96) : Ct SS MM l κ yX5_needMemory cX5_needMemory 1 none 0 1 6 [.ref (h 0)] (cS κ h) ((s, m), (sT, mT), rr, hh, sl, tx) rv (fun _ u => ¬ n = 0 ∧ u = ((s, m), (sT, mT), rr, hh, sl, tx)) (fun e u => e = EIS ∧ n = 0 ∧ u = ((s, m), (sT, mT), rr, hh, sl, tx)) := by
  refine Ct.of (own := RX5) (by decide) rfl hl (by intro v hv; simp only [List.mem_cons, List.not_mem_nil, or_false] at hv; first | (rcases hv with rfl | rfl | rfl | rfl | rfl | rfl <;> rfl) | (rcases hv with rfl | rfl | rfl | rfl | rfl <;> rfl) | (rcases hv with rfl | rfl | rfl | rfl <;> rfl) | (rcases hv with rfl | rfl | rfl <;> rfl) | (rcases hv with rfl | rfl <;> rfl) | (subst hv; rfl) | exact hv.elim) (Nat.le_of_ble_eq_true rfl) (fun X hxl hxk C F N => ?_)
  subst hxl hxk
  show V X (cS (xK X) h) 0 [some (.ref (h 0))] [] ((s, m), (sT, mT), rr, hh, sl, tx) 0 0
  refine v_aload_n C dX5_needMemory_0 rfl ?_
  refine v_getr C fl_X5_10 or_cS_0_0 dX5_needMemory_1 ?_
  refine v_getr C fl_X5_74 or_cS_1_0 dX5_needMemory_4 ?_
  refine v_getiQ (x := nI n) C fl_X5_91 oi_cS_5_7 (hn) dX5_needMemory_7 ?_
  refine v_if_ne C 24 dX5_needMemory_10 (by decide) (fun c10 => ?_) (fun c10 => ?_)
  · refine v_vret C F dX5_needMemory_24 (Nat.le_of_ble_eq_true rfl) (Nat.le_of_ble_eq_true rfl) ?_
    exact ⟨fun z => c10 (by rw [z]; rfl), rfl⟩
  · refine v_throwW C N F thr_EIS mm_310 rfl dX5_needMemory_13 dX5_needMemory_16 dX5_needMemory_17 dX5_needMemory_20 dX5_needMemory_23 (Nat.le_of_ble_eq_true rfl) (Nat.le_of_ble_eq_true rfl) (Nat.le_of_ble_eq_true rfl) ?_
    exact ⟨rfl, nI_inj (b := 0) (by omega) (by omega) c10, rfl⟩
set_option maxHeartbeats 16000000 in
theorem c_X5_needPlace {l : Launch} (hl : l.stackTraces = false) {κ : Kp} {h : Nat → Nat} {s sT : G} {m mT : Mg} {rr : Rg} {hh : Hg} {sl : Nat → Mg} {tx : G} {n : Nat} {p : Int32} (hn : m 0 7 = nI n) (h96 : n ≤ 96) : Ct SS MM l κ yX5_needPlace cX5_needPlace 2 none 1 1 6 [.ref (h 0), .int p] (cS κ h) ((s, m), (sT, mT), rr, hh, sl, tx) rv (fun _ u => plB n p = true ∧ u = ((s, m), (sT, mT), rr, hh, sl, tx)) (fun e u => e = EIO ∧ plB n p = false ∧ u = ((s, m), (sT, mT), rr, hh, sl, tx)) := by
  refine Ct.of (own := RX5) (by decide) rfl hl (by intro v hv; simp only [List.mem_cons, List.not_mem_nil, or_false] at hv; first | (rcases hv with rfl | rfl | rfl | rfl | rfl | rfl <;> rfl) | (rcases hv with rfl | rfl | rfl | rfl | rfl <;> rfl) | (rcases hv with rfl | rfl | rfl | rfl <;> rfl) | (rcases hv with rfl | rfl | rfl <;> rfl) | (rcases hv with rfl | rfl <;> rfl) | (subst hv; rfl) | exact hv.elim) (Nat.le_of_ble_eq_true rfl) (fun X hxl hxk C F N => ?_)
  subst hxl hxk
  show V X (cS (xK X) h) 0 [some (.ref (h 0)), some (.int p)] [] ((s, m), (sT, mT), rr, hh, sl, tx) 0 0
  refine v_aload_n C dX5_needPlace_0 rfl ?_
  refine v_getr C fl_X5_10 or_cS_0_0 dX5_needPlace_1 ?_
  refine v_getr C fl_X5_74 or_cS_1_0 dX5_needPlace_4 ?_
  refine v_iload_n C dX5_needPlace_7 rfl ?_
  refine v_callVi C (c_X2_isPlace hl) ym_X2_isPlace ml_X5_312 emb_c_lm rfl rfl rfl rfl rfl dX5_needPlace_8 (Nat.le_of_ble_eq_true rfl) (Nat.le_of_ble_eq_true rfl) (Nat.le_of_ble_eq_true rfl) (Nat.le_of_ble_eq_true rfl) (fun _ _ hu => hu.elim) (fun r u hu => ?_)
  obtain ⟨rfl, hu⟩ := hu
  subst u
  refine V.eq (Wd2 := cS (xK X) h) (st2 := .int (bI (plB n p)) :: []) ?_ (by rw [isP_pl hn h96]) rfl
  refine V.stt (g2 := ((s, m), (sT, mT), rr, hh, sl, tx)) (rfl) ?_
  refine v_if_neB C 25 dX5_needPlace_11 (by decide) (fun c11 => ?_) (fun c11 => ?_)
  · refine v_vret C F dX5_needPlace_25 (Nat.le_of_ble_eq_true rfl) (Nat.le_of_ble_eq_true rfl) ?_
    exact ⟨c11, rfl⟩
  · refine v_throwW C N F thr_EIO mm_315 rfl dX5_needPlace_14 dX5_needPlace_17 dX5_needPlace_18 dX5_needPlace_21 dX5_needPlace_24 (Nat.le_of_ble_eq_true rfl) (Nat.le_of_ble_eq_true rfl) (Nat.le_of_ble_eq_true rfl) ?_
    exact ⟨rfl, c11, rfl⟩
set_option maxHeartbeats 16000000 in
theorem c_X5_needRow {l : Launch} (hl : l.stackTraces = false) {κ : Kp} {h : Nat → Nat} {s sT : G} {m mT : Mg} {rr : Rg} {hh : Hg} {sl : Nat → Mg} {tx : G} {n : Nat} {a b : Int32} (hn : m 0 7 = nI n) (h96 : n ≤ 96) : Ct SS MM l κ yX5_needRow cX5_needRow 3 none 2 3 18 [.ref (h 0), .int a, .int b] (cS κ h) ((s, m), (sT, mT), rr, hh, sl, tx) rv (fun _ u => plB n a = true ∧ plB n b = true ∧ ¬ b.toInt < a.toInt ∧ u = ((s, m), (sT, mT), rr, hh, sl, tx)) (fun e u => (e = EIO ∧ (!plB n a || !plB n b) = true ∨ e = EIA ∧ plB n a = true ∧ plB n b = true ∧ b.toInt < a.toInt) ∧ u = ((s, m), (sT, mT), rr, hh, sl, tx)) := by
  refine Ct.of (own := RX5) (by decide) rfl hl (by intro v hv; simp only [List.mem_cons, List.not_mem_nil, or_false] at hv; first | (rcases hv with rfl | rfl | rfl | rfl | rfl | rfl <;> rfl) | (rcases hv with rfl | rfl | rfl | rfl | rfl <;> rfl) | (rcases hv with rfl | rfl | rfl | rfl <;> rfl) | (rcases hv with rfl | rfl | rfl <;> rfl) | (rcases hv with rfl | rfl <;> rfl) | (subst hv; rfl) | exact hv.elim) (Nat.le_of_ble_eq_true rfl) (fun X hxl hxk C F N => ?_)
  subst hxl hxk
  show V X (cS (xK X) h) 0 [some (.ref (h 0)), some (.int a), some (.int b)] [] ((s, m), (sT, mT), rr, hh, sl, tx) 0 0
  refine v_aload_n C dX5_needRow_0 rfl ?_
  refine v_iload_n C dX5_needRow_1 rfl ?_
  refine v_callVv C (c_X5_needPlace hl hn h96) ym_X5_needPlace ml_X5_111 emb_id_cS rfl rfl rfl rfl rfl dX5_needRow_2 (Nat.le_of_ble_eq_true rfl) (Nat.le_of_ble_eq_true rfl) (Nat.le_of_ble_eq_true rfl) (Nat.le_of_ble_eq_true rfl) (fun e u hu => v_out C N F (Nat.le_of_ble_eq_true rfl) (Nat.le_of_ble_eq_true rfl) ?_) (fun r u hu => ?_)
  · obtain ⟨rfl, hz, rfl⟩ := hu
    exact ⟨Or.inl ⟨rfl, by rw [hz]; rfl⟩, rfl⟩
  obtain ⟨hpa, hu⟩ := hu
  subst u
  refine V.stt (g2 := ((s, m), (sT, mT), rr, hh, sl, tx)) (rfl) ?_
  refine v_aload_n C dX5_needRow_5 rfl ?_
  refine v_iload_n C dX5_needRow_6 rfl ?_
  refine v_callVv C (c_X5_needPlace hl hn h96) ym_X5_needPlace ml_X5_111 emb_id_cS rfl rfl rfl rfl rfl dX5_needRow_7 (Nat.le_of_ble_eq_true rfl) (Nat.le_of_ble_eq_true rfl) (Nat.le_of_ble_eq_true rfl) (Nat.le_of_ble_eq_true rfl) (fun e u hu => v_out C N F (Nat.le_of_ble_eq_true rfl) (Nat.le_of_ble_eq_true rfl) ?_) (fun r u hu => ?_)
  · obtain ⟨rfl, hz, rfl⟩ := hu
    exact ⟨Or.inl ⟨rfl, by rw [hz]; simp⟩, rfl⟩
  obtain ⟨hpb, hu⟩ := hu
  subst u
  refine V.stt (g2 := ((s, m), (sT, mT), rr, hh, sl, tx)) (rfl) ?_
  refine v_iload_n C dX5_needRow_10 rfl ?_
  refine v_iload_n C dX5_needRow_11 rfl ?_
  refine v_icmp_ge C 26 dX5_needRow_12 (by decide) (fun c12 => ?_) (fun c12 => ?_)
  · refine v_vret C F dX5_needRow_26 (Nat.le_of_ble_eq_true rfl) (Nat.le_of_ble_eq_true rfl) ?_
    exact ⟨hpa, hpb, by omega, rfl⟩
  · refine v_throwW C N F thr_EIA mm_317 rfl dX5_needRow_15 dX5_needRow_18 dX5_needRow_19 dX5_needRow_22 dX5_needRow_25 (Nat.le_of_ble_eq_true rfl) (Nat.le_of_ble_eq_true rfl) (Nat.le_of_ble_eq_true rfl) ?_
    exact ⟨Or.inr ⟨rfl, hpa, hpb, by omega⟩, rfl⟩
set_option maxHeartbeats 16000000 in
theorem c_X5_needPart {l : Launch} (hl : l.stackTraces = false) {κ : Kp} {h : Nat → Nat} {s sT : G} {m mT : Mg} {rr : Rg} {hh : Hg} {sl : Nat → Mg} {tx : G} {k : Nat} {b : Int} {v : Int32} (hb : b = (k : Int) - 1) (hk : k ≤ 100) : Ct SS MM l κ yX5_needPart cX5_needPart 3 none 0 1 6 [.ref (h 0), .int v, .int (nI k)] (cS κ h) ((s, m), (sT, mT), rr, hh, sl, tx) rv (fun _ u => inB v 0 b = true ∧ u = ((s, m), (sT, mT), rr, hh, sl, tx)) (fun e u => e = EIA ∧ inB v 0 b = false ∧ u = ((s, m), (sT, mT), rr, hh, sl, tx)) := by
  refine Ct.of (own := RX5) (by decide) rfl hl (by intro v hv; simp only [List.mem_cons, List.not_mem_nil, or_false] at hv; first | (rcases hv with rfl | rfl | rfl | rfl | rfl | rfl <;> rfl) | (rcases hv with rfl | rfl | rfl | rfl | rfl <;> rfl) | (rcases hv with rfl | rfl | rfl | rfl <;> rfl) | (rcases hv with rfl | rfl | rfl <;> rfl) | (rcases hv with rfl | rfl <;> rfl) | (subst hv; rfl) | exact hv.elim) (Nat.le_of_ble_eq_true rfl) (fun X hxl hxk C F N => ?_)
  subst hxl hxk
  show V X (cS (xK X) h) 0 [some (.ref (h 0)), some (.int v), some (.int (nI k))] [] ((s, m), (sT, mT), rr, hh, sl, tx) 0 0
  have e1 := nI_toInt (n := k) (by omega)
  refine v_iload_n C dX5_needPart_0 rfl ?_
  refine v_if_lt C 9 dX5_needPart_1 (by decide) (fun c1 => ?_) (fun c1 => ?_)
  · refine v_throw C N F thr_EIA mm_165 rfl dX5_needPart_9 dX5_needPart_12 dX5_needPart_13 dX5_needPart_15 dX5_needPart_18 (Nat.le_of_ble_eq_true rfl) (Nat.le_of_ble_eq_true rfl) (Nat.le_of_ble_eq_true rfl) ?_
    exact ⟨rfl, inB_no (by omega), rfl⟩
  · refine v_iload_n C dX5_needPart_4 rfl ?_
    refine v_iload_n C dX5_needPart_5 rfl ?_
    refine v_icmp_lt C 19 dX5_needPart_6 (by decide) (fun c6 => ?_) (fun c6 => ?_)
    · refine v_vret C F dX5_needPart_19 (Nat.le_of_ble_eq_true rfl) (Nat.le_of_ble_eq_true rfl) ?_
      exact ⟨inB_mk (by omega) (by omega), rfl⟩
    · refine v_throw C N F thr_EIA mm_165 rfl dX5_needPart_9 dX5_needPart_12 dX5_needPart_13 dX5_needPart_15 dX5_needPart_18 (Nat.le_of_ble_eq_true rfl) (Nat.le_of_ble_eq_true rfl) (Nat.le_of_ble_eq_true rfl) ?_
      exact ⟨rfl, inB_no (by omega), rfl⟩
set_option maxHeartbeats 16000000 in
theorem c_X5_needByte {l : Launch} (hl : l.stackTraces = false) {κ : Kp} {h : Nat → Nat} {s sT : G} {m mT : Mg} {rr : Rg} {hh : Hg} {sl : Nat → Mg} {tx : G} {v : Int32}  : Ct SS MM l κ yX5_needByte cX5_needByte 2 none 0 1 6 [.ref (h 0), .int v] (cS κ h) ((s, m), (sT, mT), rr, hh, sl, tx) rv (fun _ u => inB v 0 255 = true ∧ u = ((s, m), (sT, mT), rr, hh, sl, tx)) (fun e u => e = EIA ∧ inB v 0 255 = false ∧ u = ((s, m), (sT, mT), rr, hh, sl, tx)) := by
  refine Ct.of (own := RX5) (by decide) rfl hl (by intro v hv; simp only [List.mem_cons, List.not_mem_nil, or_false] at hv; first | (rcases hv with rfl | rfl | rfl | rfl | rfl | rfl <;> rfl) | (rcases hv with rfl | rfl | rfl | rfl | rfl <;> rfl) | (rcases hv with rfl | rfl | rfl | rfl <;> rfl) | (rcases hv with rfl | rfl | rfl <;> rfl) | (rcases hv with rfl | rfl <;> rfl) | (subst hv; rfl) | exact hv.elim) (Nat.le_of_ble_eq_true rfl) (fun X hxl hxk C F N => ?_)
  subst hxl hxk
  show V X (cS (xK X) h) 0 [some (.ref (h 0)), some (.int v)] [] ((s, m), (sT, mT), rr, hh, sl, tx) 0 0
  have e1 := nI_toInt (n := 255) (by omega)
  refine v_iload_n C dX5_needByte_0 rfl ?_
  refine v_if_lt C 11 dX5_needByte_1 (by decide) (fun c1 => ?_) (fun c1 => ?_)
  · refine v_throwW C N F thr_EIA mm_319 rfl dX5_needByte_11 dX5_needByte_14 dX5_needByte_15 dX5_needByte_18 dX5_needByte_21 (Nat.le_of_ble_eq_true rfl) (Nat.le_of_ble_eq_true rfl) (Nat.le_of_ble_eq_true rfl) ?_
    exact ⟨rfl, inB_no (by omega), rfl⟩
  · refine v_iload_n C dX5_needByte_4 rfl ?_
    refine v_sipush (v := nI 255) C dX5_needByte_5 (by decide) ?_
    refine v_icmp_le C 22 dX5_needByte_8 (by decide) (fun c8 => ?_) (fun c8 => ?_)
    · refine v_vret C F dX5_needByte_22 (Nat.le_of_ble_eq_true rfl) (Nat.le_of_ble_eq_true rfl) ?_
      exact ⟨inB_mk (by omega) (by omega), rfl⟩
    · refine v_throwW C N F thr_EIA mm_319 rfl dX5_needByte_11 dX5_needByte_14 dX5_needByte_15 dX5_needByte_18 dX5_needByte_21 (Nat.le_of_ble_eq_true rfl) (Nat.le_of_ble_eq_true rfl) (Nat.le_of_ble_eq_true rfl) ?_
      exact ⟨rfl, inB_no (by omega), rfl⟩
set_option maxHeartbeats 16000000 in
theorem c_X5_needTicks {l : Launch} (hl : l.stackTraces = false) {κ : Kp} {h : Nat → Nat} {s sT : G} {m mT : Mg} {rr : Rg} {hh : Hg} {sl : Nat → Mg} {tx : G} {v : Int32}  : Ct SS MM l κ yX5_needTicks cX5_needTicks 2 none 0 1 6 [.ref (h 0), .int v] (cS κ h) ((s, m), (sT, mT), rr, hh, sl, tx) rv (fun _ u => inB v 1 100 = true ∧ u = ((s, m), (sT, mT), rr, hh, sl, tx)) (fun e u => e = EIA ∧ inB v 1 100 = false ∧ u = ((s, m), (sT, mT), rr, hh, sl, tx)) := by
  refine Ct.of (own := RX5) (by decide) rfl hl (by intro v hv; simp only [List.mem_cons, List.not_mem_nil, or_false] at hv; first | (rcases hv with rfl | rfl | rfl | rfl | rfl | rfl <;> rfl) | (rcases hv with rfl | rfl | rfl | rfl | rfl <;> rfl) | (rcases hv with rfl | rfl | rfl | rfl <;> rfl) | (rcases hv with rfl | rfl | rfl <;> rfl) | (rcases hv with rfl | rfl <;> rfl) | (subst hv; rfl) | exact hv.elim) (Nat.le_of_ble_eq_true rfl) (fun X hxl hxk C F N => ?_)
  subst hxl hxk
  show V X (cS (xK X) h) 0 [some (.ref (h 0)), some (.int v)] [] ((s, m), (sT, mT), rr, hh, sl, tx) 0 0
  have e1 := nI_toInt (n := 100) (by omega)
  have e2 := nI_toInt (n := 1) (by omega)
  refine v_iload_n C dX5_needTicks_0 rfl ?_
  refine v_iconst (v := nI 1) C dX5_needTicks_1 (by decide) ?_
  refine v_icmp_lt C 11 dX5_needTicks_2 (by decide) (fun c2 => ?_) (fun c2 => ?_)
  · refine v_throwW C N F thr_EIA mm_321 rfl dX5_needTicks_11 dX5_needTicks_14 dX5_needTicks_15 dX5_needTicks_18 dX5_needTicks_21 (Nat.le_of_ble_eq_true rfl) (Nat.le_of_ble_eq_true rfl) (Nat.le_of_ble_eq_true rfl) ?_
    exact ⟨rfl, inB_no (by omega), rfl⟩
  · refine v_iload_n C dX5_needTicks_5 rfl ?_
    refine v_bipush (v := nI 100) C dX5_needTicks_6 (by decide) ?_
    refine v_icmp_le C 22 dX5_needTicks_8 (by decide) (fun c8 => ?_) (fun c8 => ?_)
    · refine v_vret C F dX5_needTicks_22 (Nat.le_of_ble_eq_true rfl) (Nat.le_of_ble_eq_true rfl) ?_
      exact ⟨inB_mk (by omega) (by omega), rfl⟩
    · refine v_throwW C N F thr_EIA mm_321 rfl dX5_needTicks_11 dX5_needTicks_14 dX5_needTicks_15 dX5_needTicks_18 dX5_needTicks_21 (Nat.le_of_ble_eq_true rfl) (Nat.le_of_ble_eq_true rfl) (Nat.le_of_ble_eq_true rfl) ?_
      exact ⟨rfl, inB_no (by omega), rfl⟩
set_option maxHeartbeats 16000000 in
theorem c_X5_needSlot {l : Launch} (hl : l.stackTraces = false) {κ : Kp} {h : Nat → Nat} {s sT : G} {m mT : Mg} {rr : Rg} {hh : Hg} {sl : Nat → Mg} {tx : G} {v : Int32}  : Ct SS MM l κ yX5_needSlot cX5_needSlot 2 none 0 1 6 [.ref (h 0), .int v] (cS κ h) ((s, m), (sT, mT), rr, hh, sl, tx) rv (fun _ u => inB v 0 1 = true ∧ u = ((s, m), (sT, mT), rr, hh, sl, tx)) (fun e u => e = EIO ∧ inB v 0 1 = false ∧ u = ((s, m), (sT, mT), rr, hh, sl, tx)) := by
  refine Ct.of (own := RX5) (by decide) rfl hl (by intro v hv; simp only [List.mem_cons, List.not_mem_nil, or_false] at hv; first | (rcases hv with rfl | rfl | rfl | rfl | rfl | rfl <;> rfl) | (rcases hv with rfl | rfl | rfl | rfl | rfl <;> rfl) | (rcases hv with rfl | rfl | rfl | rfl <;> rfl) | (rcases hv with rfl | rfl | rfl <;> rfl) | (rcases hv with rfl | rfl <;> rfl) | (subst hv; rfl) | exact hv.elim) (Nat.le_of_ble_eq_true rfl) (fun X hxl hxk C F N => ?_)
  subst hxl hxk
  show V X (cS (xK X) h) 0 [some (.ref (h 0)), some (.int v)] [] ((s, m), (sT, mT), rr, hh, sl, tx) 0 0
  have e1 := nI_toInt (n := 2) (by omega)
  refine v_iload_n C dX5_needSlot_0 rfl ?_
  refine v_if_lt C 9 dX5_needSlot_1 (by decide) (fun c1 => ?_) (fun c1 => ?_)
  · refine v_throwW C N F thr_EIO mm_330 rfl dX5_needSlot_9 dX5_needSlot_12 dX5_needSlot_13 dX5_needSlot_16 dX5_needSlot_19 (Nat.le_of_ble_eq_true rfl) (Nat.le_of_ble_eq_true rfl) (Nat.le_of_ble_eq_true rfl) ?_
    exact ⟨rfl, inB_no (by omega), rfl⟩
  · refine v_iload_n C dX5_needSlot_4 rfl ?_
    refine v_iconst (v := nI 2) C dX5_needSlot_5 (by decide) ?_
    refine v_icmp_lt C 20 dX5_needSlot_6 (by decide) (fun c6 => ?_) (fun c6 => ?_)
    · refine v_vret C F dX5_needSlot_20 (Nat.le_of_ble_eq_true rfl) (Nat.le_of_ble_eq_true rfl) ?_
      exact ⟨inB_mk (by omega) (by omega), rfl⟩
    · refine v_throwW C N F thr_EIO mm_330 rfl dX5_needSlot_9 dX5_needSlot_12 dX5_needSlot_13 dX5_needSlot_16 dX5_needSlot_19 (Nat.le_of_ble_eq_true rfl) (Nat.le_of_ble_eq_true rfl) (Nat.le_of_ble_eq_true rfl) ?_
      exact ⟨rfl, inB_no (by omega), rfl⟩
set_option maxHeartbeats 16000000 in
theorem c_X5_needUnlocked {l : Launch} (hl : l.stackTraces = false) {κ : Kp} {h : Nat → Nat} {s sT : G} {m mT : Mg} {rr : Rg} {hh : Hg} {sl : Nat → Mg} {tx : G} {n a b : Nat} (hn : m 0 7 = nI n) (h96 : n ≤ 96) (hb : b < n) (ha : a ≤ 96) : Ct SS MM l κ yX5_needUnlocked cX5_needUnlocked 3 none 2 1 6 [.ref (h 0), .int (nI a), .int (nI b)] (cS κ h) ((s, m), (sT, mT), rr, hh, sl, tx) rv (fun _ u => anyG (lockB m) a (b + 1 - a) = false ∧ u = ((s, m), (sT, mT), rr, hh, sl, tx)) (fun e u => e = EIA ∧ anyG (lockB m) a (b + 1 - a) = true ∧ u = ((s, m), (sT, mT), rr, hh, sl, tx)) := by
  refine Ct.of (own := RX5) (by decide) rfl hl (by intro v hv; simp only [List.mem_cons, List.not_mem_nil, or_false] at hv; first | (rcases hv with rfl | rfl | rfl | rfl | rfl | rfl <;> rfl) | (rcases hv with rfl | rfl | rfl | rfl | rfl <;> rfl) | (rcases hv with rfl | rfl | rfl | rfl <;> rfl) | (rcases hv with rfl | rfl | rfl <;> rfl) | (rcases hv with rfl | rfl <;> rfl) | (subst hv; rfl) | exact hv.elim) (Nat.le_of_ble_eq_true rfl) (fun X hxl hxk C F N => ?_)
  subst hxl hxk
  show V X (cS (xK X) h) 0 [some (.ref (h 0)), some (.int (nI a)), some (.int (nI b))] [] ((s, m), (sT, mT), rr, hh, sl, tx) 0 0
  refine v_aload_n C dX5_needUnlocked_0 rfl ?_
  refine v_getr C fl_X5_10 or_cS_0_0 dX5_needUnlocked_1 ?_
  refine v_getr C fl_X5_74 or_cS_1_0 dX5_needUnlocked_4 ?_
  refine v_iload_n C dX5_needUnlocked_7 rfl ?_
  refine v_iload_n C dX5_needUnlocked_8 rfl ?_
  refine v_callVi C (c_X2_hasLockIn hl hn h96 hb ha) ym_X2_hasLockIn ml_X5_323 emb_c_lm rfl rfl rfl rfl rfl dX5_needUnlocked_9 (Nat.le_of_ble_eq_true rfl) (Nat.le_of_ble_eq_true rfl) (Nat.le_of_ble_eq_true rfl) (Nat.le_of_ble_eq_true rfl) (fun _ _ hu => hu.elim) (fun r u hu => ?_)
  obtain ⟨rfl, hu⟩ := hu
  subst u
  refine V.stt (g2 := ((s, m), (sT, mT), rr, hh, sl, tx)) (rfl) ?_
  refine v_if_eqB C 26 dX5_needUnlocked_12 (by decide) (fun c12 => ?_) (fun c12 => ?_)
  · refine v_vret C F dX5_needUnlocked_26 (Nat.le_of_ble_eq_true rfl) (Nat.le_of_ble_eq_true rfl) ?_
    exact ⟨c12, rfl⟩
  · refine v_throwW C N F thr_EIA mm_326 rfl dX5_needUnlocked_15 dX5_needUnlocked_18 dX5_needUnlocked_19 dX5_needUnlocked_22 dX5_needUnlocked_25 (Nat.le_of_ble_eq_true rfl) (Nat.le_of_ble_eq_true rfl) (Nat.le_of_ble_eq_true rfl) ?_
    exact ⟨rfl, c12, rfl⟩
set_option maxHeartbeats 16000000 in
theorem c_X5_needCopy {l : Launch} (hl : l.stackTraces = false) {κ : Kp} {h : Nat → Nat} {s sT : G} {m mT : Mg} {rr : Rg} {hh : Hg} {sl : Nat → Mg} {tx : G} {n : Nat} {f t k : Int32} (hn : m 0 7 = nI n) (h96 : n ≤ 96) : Ct SS MM l κ yX5_needCopy cX5_needCopy 4 none 3 1 6 [.ref (h 0), .int f, .int t, .int k] (cS κ h) ((s, m), (sT, mT), rr, hh, sl, tx) rv (fun _ u => refM m n f t k = 0 ∧ u = ((s, m), (sT, mT), rr, hh, sl, tx)) (fun e u => e = EIA ∧ ¬ refM m n f t k = 0 ∧ u = ((s, m), (sT, mT), rr, hh, sl, tx)) := by
  refine Ct.of (own := RX5) (by decide) rfl hl (by intro v hv; simp only [List.mem_cons, List.not_mem_nil, or_false] at hv; first | (rcases hv with rfl | rfl | rfl | rfl | rfl | rfl <;> rfl) | (rcases hv with rfl | rfl | rfl | rfl | rfl <;> rfl) | (rcases hv with rfl | rfl | rfl | rfl <;> rfl) | (rcases hv with rfl | rfl | rfl <;> rfl) | (rcases hv with rfl | rfl <;> rfl) | (subst hv; rfl) | exact hv.elim) (Nat.le_of_ble_eq_true rfl) (fun X hxl hxk C F N => ?_)
  subst hxl hxk
  show V X (cS (xK X) h) 0 [some (.ref (h 0)), some (.int f), some (.int t), some (.int k)] [] ((s, m), (sT, mT), rr, hh, sl, tx) 0 0
  refine v_aload_n C dX5_needCopy_0 rfl ?_
  refine v_getr C fl_X5_10 or_cS_0_0 dX5_needCopy_1 ?_
  refine v_getr C fl_X5_74 or_cS_1_0 dX5_needCopy_4 ?_
  refine v_iload_n C dX5_needCopy_7 rfl ?_
  refine v_iload_n C dX5_needCopy_8 rfl ?_
  refine v_iload_n C dX5_needCopy_9 rfl ?_
  refine v_callVi C (c_X2_refusalOf hl hn h96) ym_X2_refusalOf ml_X5_186 emb_c_lm rfl rfl rfl rfl rfl dX5_needCopy_10 (Nat.le_of_ble_eq_true rfl) (Nat.le_of_ble_eq_true rfl) (Nat.le_of_ble_eq_true rfl) (Nat.le_of_ble_eq_true rfl) (fun _ _ hu => hu.elim) (fun r u hu => ?_)
  obtain ⟨rfl, hu⟩ := hu
  subst u
  refine V.stt (g2 := ((s, m), (sT, mT), rr, hh, sl, tx)) (rfl) ?_
  refine v_if_eq C 27 dX5_needCopy_13 (by decide) (fun c13 => ?_) (fun c13 => ?_)
  · refine v_vret C F dX5_needCopy_27 (Nat.le_of_ble_eq_true rfl) (Nat.le_of_ble_eq_true rfl) ?_
    exact ⟨c13, rfl⟩
  · refine v_throwW C N F thr_EIA mm_328 rfl dX5_needCopy_16 dX5_needCopy_19 dX5_needCopy_20 dX5_needCopy_23 dX5_needCopy_26 (Nat.le_of_ble_eq_true rfl) (Nat.le_of_ble_eq_true rfl) (Nat.le_of_ble_eq_true rfl) ?_
    exact ⟨rfl, c13, rfl⟩
set_option maxHeartbeats 16000000 in
theorem c_X5_startTrial {l : Launch} (hl : l.stackTraces = false) {κ : Kp} {h : Nat → Nat} {s sT : G} {m mT : Mg} {rr : Rg} {hh : Hg} {sl : Nat → Mg} {tx : G} (hL : LK m) : Ct SS MM l κ yX5_startTrial cX5_startTrial 1 none 1 0 0 [.ref (h 0)] (cS κ h) ((s, m), (sT, mT), rr, hh, sl, tx) rv (fun _ u => u = ((s, m), (sT, m), rr, hh, sl, tx)) (fun _ _ => False) := by
  refine Ct.of (own := RX5) (by decide) rfl hl (by intro v hv; simp only [List.mem_cons, List.not_mem_nil, or_false] at hv; first | (rcases hv with rfl | rfl | rfl | rfl | rfl | rfl <;> rfl) | (rcases hv with rfl | rfl | rfl | rfl | rfl <;> rfl) | (rcases hv with rfl | rfl | rfl | rfl <;> rfl) | (rcases hv with rfl | rfl | rfl <;> rfl) | (rcases hv with rfl | rfl <;> rfl) | (subst hv; rfl) | exact hv.elim) (Nat.le_of_ble_eq_true rfl) (fun X hxl hxk C F N => ?_)
  subst hxl hxk
  show V X (cS (xK X) h) 0 [some (.ref (h 0))] [] ((s, m), (sT, mT), rr, hh, sl, tx) 0 0
  refine v_aload_n C dX5_startTrial_0 rfl ?_
  refine v_getr C fl_X5_16 or_cS_0_1 dX5_startTrial_1 ?_
  refine v_getr C fl_X5_74 or_cS_13_0 dX5_startTrial_4 ?_
  refine v_aload_n C dX5_startTrial_7 rfl ?_
  refine v_getr C fl_X5_10 or_cS_0_0 dX5_startTrial_8 ?_
  refine v_getr C fl_X5_74 or_cS_1_0 dX5_startTrial_11 ?_
  refine v_callVv C (c_X2_takeFrom hl (h := h2at 17 5 h) (g := (mT, m)) hL) ym_X2_takeFrom ml_X5_81 emb_c_try rfl rfl rfl rfl rfl dX5_startTrial_14 (Nat.le_of_ble_eq_true rfl) (Nat.le_of_ble_eq_true rfl) (Nat.le_of_ble_eq_true rfl) (Nat.le_of_ble_eq_true rfl) (fun _ _ hu => hu.elim) (fun r u hu => ?_)
  subst u
  refine v_vret C F dX5_startTrial_17 (Nat.le_of_ble_eq_true rfl) (Nat.le_of_ble_eq_true rfl) ?_
  first | exact rfl | exact ⟨rfl, rfl⟩
set_option maxHeartbeats 16000000 in
theorem c_X5_tryCopy {l : Launch} (hl : l.stackTraces = false) {κ : Kp} {h : Nat → Nat} {s sT : G} {m mT : Mg} {rr : Rg} {hh : Hg} {sl : Nat → Mg} {tx : G} {n c : Nat} {f t k : Int32} (hn : m 0 7 = nI n) (h96 : n ≤ 96) (hM : MI n c m) : Ct SS MM l κ yX5_tryCopy cX5_tryCopy 4 none 4 1 6 [.ref (h 0), .int f, .int t, .int k] (cS κ h) ((s, m), (sT, mT), rr, hh, sl, tx) rv (fun _ u => refM m n f t k = 0 ∧ ∃ s3, u = ((s, m), (s3, copyM n (tN f) (tN t) (tN k) m), rr, hh, sl, tx)) (fun e u => e = EIA ∧ ¬ refM m n f t k = 0 ∧ u = ((s, m), (sT, mT), rr, hh, sl, tx)) := by
  refine Ct.of (own := RX5) (by decide) rfl hl (by intro v hv; simp only [List.mem_cons, List.not_mem_nil, or_false] at hv; first | (rcases hv with rfl | rfl | rfl | rfl | rfl | rfl <;> rfl) | (rcases hv with rfl | rfl | rfl | rfl | rfl <;> rfl) | (rcases hv with rfl | rfl | rfl | rfl <;> rfl) | (rcases hv with rfl | rfl | rfl <;> rfl) | (rcases hv with rfl | rfl <;> rfl) | (subst hv; rfl) | exact hv.elim) (Nat.le_of_ble_eq_true rfl) (fun X hxl hxk C F N => ?_)
  subst hxl hxk
  show V X (cS (xK X) h) 0 [some (.ref (h 0)), some (.int f), some (.int t), some (.int k)] [] ((s, m), (sT, mT), rr, hh, sl, tx) 0 0
  obtain ⟨lim, hlim, hlim96⟩ := lim_ok hM.2.2.2.2.1
  refine v_aload_n C dX5_tryCopy_0 rfl ?_
  refine v_iload_n C dX5_tryCopy_1 rfl ?_
  refine v_iload_n C dX5_tryCopy_2 rfl ?_
  refine v_iload_n C dX5_tryCopy_3 rfl ?_
  refine v_callVv C (c_X5_needCopy hl hn h96) ym_X5_needCopy ml_X5_255 emb_id_cS rfl rfl rfl rfl rfl dX5_tryCopy_4 (Nat.le_of_ble_eq_true rfl) (Nat.le_of_ble_eq_true rfl) (Nat.le_of_ble_eq_true rfl) (Nat.le_of_ble_eq_true rfl) (fun e u hu => v_out C N F (Nat.le_of_ble_eq_true rfl) (Nat.le_of_ble_eq_true rfl) ?_) (fun r u hu => ?_)
  · exact hu
  obtain ⟨hrf, hu⟩ := hu
  subst u
  obtain ⟨f1, t1, k1, ef, et, ek, b1, b2, b3⟩ := ref_at hn h96 hrf
  subst ef et ek
  have e3 : tN (nI f1) = f1 := tN_nI (by omega)
  have e4 : tN (nI t1) = t1 := tN_nI (by omega)
  have e5 : tN (nI k1) = k1 := tN_nI (by omega)
  refine V.stt (g2 := ((s, m), (sT, mT), rr, hh, sl, tx)) (rfl) ?_
  refine v_aload_n C dX5_tryCopy_7 rfl ?_
  refine v_callVv C (c_X5_startTrial hl hM.2.2.1) ym_X5_startTrial ml_X5_200 emb_id_cS rfl rfl rfl rfl rfl dX5_tryCopy_8 (Nat.le_of_ble_eq_true rfl) (Nat.le_of_ble_eq_true rfl) (Nat.le_of_ble_eq_true rfl) (Nat.le_of_ble_eq_true rfl) (fun _ _ hu => hu.elim) (fun r u hu => ?_)
  subst u
  refine V.stt (g2 := ((s, m), (sT, m), rr, hh, sl, tx)) (rfl) ?_
  refine v_aload_n C dX5_tryCopy_11 rfl ?_
  refine v_getr C fl_X5_16 or_cS_0_1 dX5_tryCopy_12 ?_
  refine v_iload_n C dX5_tryCopy_15 rfl ?_
  refine v_iload_n C dX5_tryCopy_16 rfl ?_
  refine v_iload_n C dX5_tryCopy_17 rfl ?_
  refine v_callVi C (c_X0_makeCopy hl (s := sT) (m := m) (n := n) (lim := lim) hM.1 hM.2.1 hlim hlim96 b1 b2 b3) ym_X0_makeCopy ml_X5_261 emb_c_trial rfl rfl rfl rfl rfl dX5_tryCopy_18 (Nat.le_of_ble_eq_true rfl) (Nat.le_of_ble_eq_true rfl) (Nat.le_of_ble_eq_true rfl) (Nat.le_of_ble_eq_true rfl) (fun _ _ hu => hu.elim) (fun r u hu => ?_)
  obtain ⟨rfl, s2, hu⟩ := hu
  subst u
  refine V.stt (g2 := ((s, m), (s2, copyM n f1 t1 k1 m), rr, hh, sl, tx)) (rfl) ?_
  refine v_pop C dX5_tryCopy_21 rfl ?_
  refine v_vret C F dX5_tryCopy_22 (Nat.le_of_ble_eq_true rfl) (Nat.le_of_ble_eq_true rfl) ?_
  exact ⟨hrf, _, by rw [e3, e4, e5]⟩
set_option maxHeartbeats 16000000 in
theorem c_X5_addedTo {l : Launch} (hl : l.stackTraces = false) {κ : Kp} {h : Nat → Nat} {s sT : G} {m mT : Mg} {rr : Rg} {hh : Hg} {sl : Nat → Mg} {tx : G} {k : Nat} (hk : k < 9) : Ct SS MM l κ yX5_addedTo cX5_addedTo 2 (some FieldType.int) 0 0 0 [.ref (h 0), .int (nI k)] (cS κ h) ((s, m), (sT, mT), rr, hh, sl, tx) ri (fun r u => r = mT 6 k - m 6 k ∧ u = ((s, m), (sT, mT), rr, hh, sl, tx)) (fun _ _ => False) := by
  refine Ct.of (own := RX5) (by decide) rfl hl (by intro v hv; simp only [List.mem_cons, List.not_mem_nil, or_false] at hv; first | (rcases hv with rfl | rfl | rfl | rfl | rfl | rfl <;> rfl) | (rcases hv with rfl | rfl | rfl | rfl | rfl <;> rfl) | (rcases hv with rfl | rfl | rfl | rfl <;> rfl) | (rcases hv with rfl | rfl | rfl <;> rfl) | (rcases hv with rfl | rfl <;> rfl) | (subst hv; rfl) | exact hv.elim) (Nat.le_of_ble_eq_true rfl) (fun X hxl hxk C F N => ?_)
  subst hxl hxk
  show V X (cS (xK X) h) 0 [some (.ref (h 0)), some (.int (nI k))] [] ((s, m), (sT, mT), rr, hh, sl, tx) 0 0
  refine v_aload_n C dX5_addedTo_0 rfl ?_
  refine v_getr C fl_X5_16 or_cS_0_1 dX5_addedTo_1 ?_
  refine v_getr C fl_X5_74 or_cS_13_0 dX5_addedTo_4 ?_
  refine v_getr C fl_X5_226 or_cS_17_5 dX5_addedTo_7 ?_
  refine v_iload_n C dX5_addedTo_10 rfl ?_
  refine v_ialdQ (x := mT 6 k) C ar_cS_23 (by decide) _ (rfl) ?_ rfl dX5_addedTo_11 ?_
  · omega
  refine v_aload_n C dX5_addedTo_12 rfl ?_
  refine v_getr C fl_X5_10 or_cS_0_0 dX5_addedTo_13 ?_
  refine v_getr C fl_X5_74 or_cS_1_0 dX5_addedTo_16 ?_
  refine v_getr C fl_X5_226 or_cS_5_5 dX5_addedTo_19 ?_
  refine v_iload_n C dX5_addedTo_22 rfl ?_
  refine v_ialdQ (x := m 6 k) C ar_cS_11 (by decide) _ (rfl) ?_ rfl dX5_addedTo_23 ?_
  · omega
  first | refine v_isubN C dX5_addedTo_24 (by omega) ?_ | refine v_isub C dX5_addedTo_24 ?_
  refine v_iret C F (by first | rfl | exact bI_nar _) dX5_addedTo_25 (Nat.le_of_ble_eq_true rfl) (Nat.le_of_ble_eq_true rfl) ?_
  first | exact rfl | exact ⟨rfl, rfl⟩
set_option maxHeartbeats 16000000 in
theorem c_X5_leastSetting {l : Launch} (hl : l.stackTraces = false) {κ : Kp} {w : Nat} (hw : w ≤ 4) : Ct SS MM l κ yX5_leastSetting cX5_leastSetting 1 (some FieldType.int) 0 0 0 [.int (nI w)] nS () ri (fun r _ => r.toInt = lsV w) (fun _ _ => False) := by
  refine Ct.of (own := RX5) (by decide) rfl hl (by intro v hv; simp only [List.mem_cons, List.not_mem_nil, or_false] at hv; first | (rcases hv with rfl | rfl | rfl | rfl | rfl | rfl <;> rfl) | (rcases hv with rfl | rfl | rfl | rfl | rfl <;> rfl) | (rcases hv with rfl | rfl | rfl | rfl <;> rfl) | (rcases hv with rfl | rfl | rfl <;> rfl) | (rcases hv with rfl | rfl <;> rfl) | (subst hv; rfl) | exact hv.elim) (Nat.le_of_ble_eq_true rfl) (fun X hxl hxk C F N => ?_)
  subst hxl hxk
  show V X nS 0 [some (.int (nI w))] [] () 0 0
  refine v_iload_n C dX5_leastSetting_0 rfl ?_
  refine v_if_ne C 8 dX5_leastSetting_1 (by decide) (fun c1 => ?_) (fun c1 => ?_)
  · refine v_iconst (v := nI 0) C dX5_leastSetting_8 (by decide) ?_
    refine v_iret C F (by first | rfl | exact bI_nar _) dX5_leastSetting_9 (Nat.le_of_ble_eq_true rfl) (Nat.le_of_ble_eq_true rfl) ?_
    unfold lsV
    first
    | (rw [if_pos (show w = 0 from nI_inj (b := 0) (by omega) (by omega) c1)]; decide)
    | (rw [if_neg (show ¬ w = 0 from fun z => c1 (by rw [z]; rfl))]; decide)
  · refine v_iconst (v := nI 1) C dX5_leastSetting_4 (by decide) ?_
    refine v_goto C 9 dX5_leastSetting_5 (by decide) ?_
    refine v_iret C F (by first | rfl | exact bI_nar _) dX5_leastSetting_9 (Nat.le_of_ble_eq_true rfl) (Nat.le_of_ble_eq_true rfl) ?_
    unfold lsV
    first
    | (rw [if_pos (show w = 0 from nI_inj (b := 0) (by omega) (by omega) c1)]; decide)
    | (rw [if_neg (show ¬ w = 0 from fun z => c1 (by rw [z]; rfl))]; decide)
set_option maxHeartbeats 16000000 in
theorem c_X5_greatestSetting {l : Launch} (hl : l.stackTraces = false) {κ : Kp} {w : Nat} (hw : w ≤ 4) : Ct SS MM l κ yX5_greatestSetting cX5_greatestSetting 1 (some FieldType.int) 0 0 0 [.int (nI w)] nS () ri (fun r _ => r.toInt = gsV w) (fun _ _ => False) := by
  refine Ct.of (own := RX5) (by decide) rfl hl (by intro v hv; simp only [List.mem_cons, List.not_mem_nil, or_false] at hv; first | (rcases hv with rfl | rfl | rfl | rfl | rfl | rfl <;> rfl) | (rcases hv with rfl | rfl | rfl | rfl | rfl <;> rfl) | (rcases hv with rfl | rfl | rfl | rfl <;> rfl) | (rcases hv with rfl | rfl | rfl <;> rfl) | (rcases hv with rfl | rfl <;> rfl) | (subst hv; rfl) | exact hv.elim) (Nat.le_of_ble_eq_true rfl) (fun X hxl hxk C F N => ?_)
  subst hxl hxk
  show V X nS 0 [some (.int (nI w))] [] () 0 0
  refine v_iload_n C dX5_greatestSetting_0 rfl ?_
  have hwc : w = 0 ∨ w = 1 ∨ w = 2 ∨ w = 3 ∨ w = 4 := by omega
  rcases hwc with rfl | rfl | rfl | rfl | rfl
  · refine v_tableIn C 28 (off := 27) dX5_greatestSetting_1 (by decide) (by decide) rfl (by decide) ?_
    refine v_bipush (v := nI 20) C dX5_greatestSetting_28 (by decide) ?_
    refine v_iret C F (by first | rfl | exact bI_nar _) dX5_greatestSetting_30 (Nat.le_of_ble_eq_true rfl) (Nat.le_of_ble_eq_true rfl) ?_
    decide
  · refine v_tableIn C 31 (off := 30) dX5_greatestSetting_1 (by decide) (by decide) rfl (by decide) ?_
    refine v_bipush (v := nI 96) C dX5_greatestSetting_31 (by decide) ?_
    refine v_iret C F (by first | rfl | exact bI_nar _) dX5_greatestSetting_33 (Nat.le_of_ble_eq_true rfl) (Nat.le_of_ble_eq_true rfl) ?_
    decide
  · refine v_tableIn C 34 (off := 33) dX5_greatestSetting_1 (by decide) (by decide) rfl (by decide) ?_
    refine v_iconst (v := nI 3) C dX5_greatestSetting_34 (by decide) ?_
    refine v_iret C F (by first | rfl | exact bI_nar _) dX5_greatestSetting_35 (Nat.le_of_ble_eq_true rfl) (Nat.le_of_ble_eq_true rfl) ?_
    decide
  · refine v_tableOut C 36 dX5_greatestSetting_1 (by decide) (by decide) ?_
    refine v_iconst (v := nI 1) C dX5_greatestSetting_36 (by decide) ?_
    refine v_iret C F (by first | rfl | exact bI_nar _) dX5_greatestSetting_37 (Nat.le_of_ble_eq_true rfl) (Nat.le_of_ble_eq_true rfl) ?_
    decide
  · refine v_tableOut C 36 dX5_greatestSetting_1 (by decide) (by decide) ?_
    refine v_iconst (v := nI 1) C dX5_greatestSetting_36 (by decide) ?_
    refine v_iret C F (by first | rfl | exact bI_nar _) dX5_greatestSetting_37 (Nat.le_of_ble_eq_true rfl) (Nat.le_of_ble_eq_true rfl) ?_
    decide
theorem any1 {f : Nat → Bool} {a : Nat} : anyG f a (a + 1 - a) = f a := by
  rw [show a + 1 - a = 0 + 1 by omega]
  show (f a || false) = f a
  rw [Bool.or_false]
theorem oN_some {b : Option Nat} (h : ¬ oN b = -1) : ∃ q, b = some q := by
  cases b with
  | none => exact absurd rfl h
  | some q => exact ⟨q, rfl⟩
theorem kthG_some {f : Nat → Bool} {q : Nat} : ∀ (k i : Nat) (t : Int), kthG f i k t = some q → i ≤ q ∧ q < i + k ∧ f q = true
  | 0, _, _, h => by cases h
  | k + 1, i, t, h => by
    have h : (if f i then (if t = 0 then some i else kthG f (i + 1) k (t - 1)) else kthG f (i + 1) k t) = some q := h
    by_cases c : f i = true
    · rw [if_pos c] at h
      by_cases c2 : t = 0
      · rw [if_pos c2] at h; cases h; exact ⟨Nat.le_refl _, by omega, c⟩
      · rw [if_neg c2] at h
        obtain ⟨a, b, d⟩ := kthG_some k (i + 1) (t - 1) h
        exact ⟨by omega, by omega, d⟩
    · rw [if_neg c] at h
      obtain ⟨a, b, d⟩ := kthG_some k (i + 1) t h
      exact ⟨by omega, by omega, d⟩
theorem untM_le {n p : Nat} : ∀ (f : Nat) (m : Mg), (untM n p f m).1 ≤ f
  | 0, _ => Nat.le_refl 0
  | f + 1, m => by
    show (if owb m p then ((untM n p f (payN 1 n m)).1 + 1, (untM n p f (payN 1 n m)).2) else (0, m)).1 ≤ f + 1
    split
    · exact Nat.succ_le_succ (untM_le f _)
    · exact Nat.zero_le _
theorem sumG_le {f : Nat → Nat} {b : Nat} : ∀ (k i : Nat), (∀ j, i ≤ j → j < i + k → f j ≤ b) → sumG f i k ≤ k * b
  | 0, _, _ => Nat.zero_le _
  | k + 1, i, h => by
    have h1 := sumG_le k (i + 1) (fun j a c => h j (by omega) (by omega))
    have h2 := h i (Nat.le_refl _) (by omega)
    show f i + sumG f (i + 1) k ≤ (k + 1) * b
    rw [Nat.succ_mul]
    omega
theorem IM_setM {m : Mg} {n k : Nat} {v : Int32} (h : IM m n) : IM (setM m k v) n := IM_of h rfl rfl
theorem polL_lt {n p : Nat} {m : Mg} (hI : IM m n) : polL n m p ≤ 96 * 96 := by
  have hI2 := (payK_ok (kind := 1) (k := min (1 * bandN m) (cntG (owb m) 0 n)) (IM_setM (k := 2) (v := nI p) hI)).1.im (IM_setM hI)
  have h := sumG_le (f := hopsM (payK 1 n (min (1 * bandN m) (cntG (owb m) 0 n)) (setM m 2 (nI p)))) (b := 96) n 0 (fun j _ hj => by have := hops_lt hI2 (p := j) (by omega); have := hI.2.1; omega)
  have := hI.2.1
  exact Nat.le_trans h (Nat.mul_le_mul this (Nat.le_refl _))
set_option maxHeartbeats 16000000 in
theorem c_X4_addNumber2 {l : Launch} (hl : l.stackTraces = false) {κ : Kp} {h : Nat → Nat} {g : G} {L : List Int32} {v : Nat} (hT : TX L g) (hL : L.length + 2 ≤ 864) (hv : v < 100) : Ct SS MM l κ yX4_addNumber cX4_addNumber 2 none 1 0 0 [.ref (h 0), .int (nI v)] (tS κ h) g rv (fun _ u => TX (L ++ numL v) u) (fun _ _ => False) := by
  refine Ct.of (own := RX4) (by decide) rfl hl (by intro v hv; simp only [List.mem_cons, List.not_mem_nil, or_false] at hv; first | (rcases hv with rfl | rfl | rfl | rfl | rfl | rfl <;> rfl) | (rcases hv with rfl | rfl | rfl | rfl | rfl <;> rfl) | (rcases hv with rfl | rfl | rfl | rfl <;> rfl) | (rcases hv with rfl | rfl | rfl <;> rfl) | (rcases hv with rfl | rfl <;> rfl) | (subst hv; rfl) | exact hv.elim) (Nat.le_of_ble_eq_true rfl) (fun X hxl hxk C F N => ?_)
  subst hxl hxk
  show V X (tS (xK X) h) 0 [some (.ref (h 0)), some (.int (nI v))] [] g 0 0
  refine v_iload_n C dX4_addNumber_0 rfl ?_
  refine v_bipush (v := nI 100) C dX4_addNumber_1 (by decide) ?_
  first | refine v_icmp_ltN C 17 dX4_addNumber_3 (by decide) (by omega) (by omega) (fun c3 => ?_) (fun c3 => ?_) | refine v_icmp_lt C 17 dX4_addNumber_3 (by decide) (fun c3 => ?_) (fun c3 => ?_)
  · have hX := hT
    refine v_iload_n C dX4_addNumber_17 rfl ?_
    refine v_bipush (v := nI 10) C dX4_addNumber_18 (by decide) ?_
    first | refine v_icmp_ltN C 37 dX4_addNumber_20 (by decide) (by omega) (by omega) (fun c20 => ?_) (fun c20 => ?_) | refine v_icmp_lt C 37 dX4_addNumber_20 (by decide) (fun c20 => ?_) (fun c20 => ?_)
    · have hY := hX
      refine v_aload_n C dX4_addNumber_37 rfl ?_
      refine v_bipush (v := nI 48) C dX4_addNumber_38 (by decide) ?_
      refine v_iload_n C dX4_addNumber_40 rfl ?_
      refine v_bipush (v := nI 10) C dX4_addNumber_41 (by decide) ?_
      refine v_iremN C dX4_addNumber_43 (by omega) (by omega) (by omega) ?_
      first | refine v_iaddN C dX4_addNumber_44 ?_ | refine v_iadd C dX4_addNumber_44 ?_
      refine v_callVv C (c_X4_addSign hl hY (by first | omega | (simp only [List.length_append, List.length_cons, List.length_nil]; omega))) ym_X4_addSign ml_X4_19 emb_id_tS rfl rfl rfl rfl rfl dX4_addNumber_45 (Nat.le_of_ble_eq_true rfl) (Nat.le_of_ble_eq_true rfl) (Nat.le_of_ble_eq_true rfl) (Nat.le_of_ble_eq_true rfl) (fun _ _ hu => hu.elim) (fun r u hu => ?_)
      have hT45 := hu
      refine v_vret C F dX4_addNumber_48 (Nat.le_of_ble_eq_true rfl) (Nat.le_of_ble_eq_true rfl) ?_
      unfold numL
      first
      | (rw [if_neg (show ¬ 100 ≤ v by omega), if_pos (show 10 ≤ v by omega)]; simpa using hT45)
      | (rw [if_neg (show ¬ 100 ≤ v by omega), if_neg (show ¬ 10 ≤ v by omega)]; simpa using hT45)
    · refine v_aload_n C dX4_addNumber_23 rfl ?_
      refine v_bipush (v := nI 48) C dX4_addNumber_24 (by decide) ?_
      refine v_iload_n C dX4_addNumber_26 rfl ?_
      refine v_bipush (v := nI 10) C dX4_addNumber_27 (by decide) ?_
      refine v_idivN C dX4_addNumber_29 (by omega) (by omega) (by omega) ?_
      refine v_bipush (v := nI 10) C dX4_addNumber_30 (by decide) ?_
      refine v_iremN C dX4_addNumber_32 (by omega) (by omega) (by omega) ?_
      first | refine v_iaddN C dX4_addNumber_33 ?_ | refine v_iadd C dX4_addNumber_33 ?_
      refine v_callVv C (c_X4_addSign hl hX (by first | omega | (simp only [List.length_append, List.length_cons, List.length_nil]; omega))) ym_X4_addSign ml_X4_19 emb_id_tS rfl rfl rfl rfl rfl dX4_addNumber_34 (Nat.le_of_ble_eq_true rfl) (Nat.le_of_ble_eq_true rfl) (Nat.le_of_ble_eq_true rfl) (Nat.le_of_ble_eq_true rfl) (fun _ _ hu => hu.elim) (fun r u hu => ?_)
      have hY := hu
      refine v_aload_n C dX4_addNumber_37 rfl ?_
      refine v_bipush (v := nI 48) C dX4_addNumber_38 (by decide) ?_
      refine v_iload_n C dX4_addNumber_40 rfl ?_
      refine v_bipush (v := nI 10) C dX4_addNumber_41 (by decide) ?_
      refine v_iremN C dX4_addNumber_43 (by omega) (by omega) (by omega) ?_
      first | refine v_iaddN C dX4_addNumber_44 ?_ | refine v_iadd C dX4_addNumber_44 ?_
      refine v_callVv C (c_X4_addSign hl hY (by first | omega | (simp only [List.length_append, List.length_cons, List.length_nil]; omega))) ym_X4_addSign ml_X4_19 emb_id_tS rfl rfl rfl rfl rfl dX4_addNumber_45 (Nat.le_of_ble_eq_true rfl) (Nat.le_of_ble_eq_true rfl) (Nat.le_of_ble_eq_true rfl) (Nat.le_of_ble_eq_true rfl) (fun _ _ hu => hu.elim) (fun r u hu => ?_)
      have hT45 := hu
      refine v_vret C F dX4_addNumber_48 (Nat.le_of_ble_eq_true rfl) (Nat.le_of_ble_eq_true rfl) ?_
      unfold numL
      first
      | (rw [if_neg (show ¬ 100 ≤ v by omega), if_pos (show 10 ≤ v by omega)]; simpa using hT45)
      | (rw [if_neg (show ¬ 100 ≤ v by omega), if_neg (show ¬ 10 ≤ v by omega)]; simpa using hT45)
  · exfalso
    omega
set_option maxHeartbeats 16000000 in
theorem c_X5_writeDebt {l : Launch} (hl : l.stackTraces = false) {κ : Kp} {h : Nat → Nat} {s sT : G} {m mT : Mg} {rr : Rg} {hh : Hg} {sl : Nat → Mg} {tx : G} {n j : Nat} {T : List Int32} (hI : IM m n) (hj : j < n) (hsm : startM m j = true) (hT : TX T tx) (hTl : T.length ≤ 9 * j) : Ct SS MM l κ yX5_writeDebt cX5_writeDebt 2 none 3 0 0 [.ref (h 0), .int (nI j)] (cS κ h) ((s, m), (sT, mT), rr, hh, sl, tx) rv (fun _ u => ∃ t2, u = ((s, m), (sT, mT), rr, hh, sl, t2) ∧ TX (dbT m n j T) t2) (fun _ _ => False) := by
  refine Ct.of (own := RX5) (by decide) rfl hl (by intro v hv; simp only [List.mem_cons, List.not_mem_nil, or_false] at hv; first | (rcases hv with rfl | rfl | rfl | rfl | rfl | rfl <;> rfl) | (rcases hv with rfl | rfl | rfl | rfl | rfl <;> rfl) | (rcases hv with rfl | rfl | rfl | rfl <;> rfl) | (rcases hv with rfl | rfl | rfl <;> rfl) | (rcases hv with rfl | rfl <;> rfl) | (subst hv; rfl) | exact hv.elim) (Nat.le_of_ble_eq_true rfl) (fun X hxl hxk C F N => ?_)
  subst hxl hxk
  show V X (cS (xK X) h) 0 [some (.ref (h 0)), some (.int (nI j))] [] ((s, m), (sT, mT), rr, hh, sl, tx) 0 0
  have h96 := hI.2.1
  have hn := hI.1
  have hs := start_src hI hj hsm
  have hlm := lenM_le (m := m) hj
  have l1 := numL_len (v := j) (by omega)
  have l2 := numL_len (v := lenM m n j) (by omega)
  have l3 := numL_len (v := src m j) (by omega)
  obtain ⟨T0, hT0⟩ : ∃ T0, T0 = (if 0 < T.length then T ++ [nI 44] else T) := ⟨_, rfl⟩
  have l0 : T0.length ≤ T.length + 1 := by
    rw [hT0]
    split <;> simp
  refine v_aload_n C dX5_writeDebt_0 rfl ?_
  refine v_getr C fl_X5_42 or_cS_0_5 dX5_writeDebt_1 ?_
  refine v_getiQ (x := nI T.length) C fl_X5_241 oi_cS_122_1 (hT.1) dX5_writeDebt_4 ?_
  refine v_if_le C 19 dX5_writeDebt_7 (by decide) (fun c7 => ?_) (fun c7 => ?_)
  · rw [nI_toInt (by omega)] at c7
    have hU : TX T0 tx := by
      rw [hT0, if_neg (by omega)]
      exact hT
    refine v_aload_n C dX5_writeDebt_19 rfl ?_
    refine v_getr C fl_X5_42 or_cS_0_5 dX5_writeDebt_20 ?_
    refine v_iload_n C dX5_writeDebt_23 rfl ?_
    refine v_callVv C (c_X4_addNumber2 hl hU ?_ ?_) ym_X4_addNumber ml_X5_247 emb_c_t rfl rfl rfl rfl rfl dX5_writeDebt_24 (Nat.le_of_ble_eq_true rfl) (Nat.le_of_ble_eq_true rfl) (Nat.le_of_ble_eq_true rfl) (Nat.le_of_ble_eq_true rfl) (fun _ _ hu => hu.elim) (fun r u hu => ?_)
    · first | omega | (simp only [List.length_append, List.length_cons, List.length_nil] at *; omega)
    · first | omega | (simp only [List.length_append, List.length_cons, List.length_nil] at *; omega)
    have h24 := hu
    refine v_aload_n C dX5_writeDebt_27 rfl ?_
    refine v_getr C fl_X5_42 or_cS_0_5 dX5_writeDebt_28 ?_
    refine v_bipush (v := nI 120) C dX5_writeDebt_31 (by decide) ?_
    refine v_callVv C (c_X4_addSign hl h24 ?_) ym_X4_addSign ml_X5_244 emb_c_t rfl rfl rfl rfl rfl dX5_writeDebt_33 (Nat.le_of_ble_eq_true rfl) (Nat.le_of_ble_eq_true rfl) (Nat.le_of_ble_eq_true rfl) (Nat.le_of_ble_eq_true rfl) (fun _ _ hu => hu.elim) (fun r u hu => ?_)
    · first | omega | (simp only [List.length_append, List.length_cons, List.length_nil] at *; omega)
    have h33 := hu
    refine v_aload_n C dX5_writeDebt_36 rfl ?_
    refine v_getr C fl_X5_42 or_cS_0_5 dX5_writeDebt_37 ?_
    refine v_aload_n C dX5_writeDebt_40 rfl ?_
    refine v_getr C fl_X5_10 or_cS_0_0 dX5_writeDebt_41 ?_
    refine v_getr C fl_X5_74 or_cS_1_0 dX5_writeDebt_44 ?_
    refine v_iload_n C dX5_writeDebt_47 rfl ?_
    refine v_callVi C (c_X2_lengthOfDebt hl hn h96 hj) ym_X2_lengthOfDebt ml_X5_162 emb_c_lm rfl rfl rfl rfl rfl dX5_writeDebt_48 (Nat.le_of_ble_eq_true rfl) (Nat.le_of_ble_eq_true rfl) (Nat.le_of_ble_eq_true rfl) (Nat.le_of_ble_eq_true rfl) (fun _ _ hu => hu.elim) (fun r u hu => ?_)
    obtain ⟨rfl, hu⟩ := hu
    subst u
    refine v_callVv C (c_X4_addNumber2 hl h33 ?_ ?_) ym_X4_addNumber ml_X5_247 emb_c_t rfl rfl rfl rfl rfl dX5_writeDebt_51 (Nat.le_of_ble_eq_true rfl) (Nat.le_of_ble_eq_true rfl) (Nat.le_of_ble_eq_true rfl) (Nat.le_of_ble_eq_true rfl) (fun _ _ hu => hu.elim) (fun r u hu => ?_)
    · first | omega | (simp only [List.length_append, List.length_cons, List.length_nil] at *; omega)
    · first | omega | (simp only [List.length_append, List.length_cons, List.length_nil] at *; omega)
    have h51 := hu
    refine v_aload_n C dX5_writeDebt_54 rfl ?_
    refine v_getr C fl_X5_42 or_cS_0_5 dX5_writeDebt_55 ?_
    refine v_bipush (v := nI 60) C dX5_writeDebt_58 (by decide) ?_
    refine v_callVv C (c_X4_addSign hl h51 ?_) ym_X4_addSign ml_X5_244 emb_c_t rfl rfl rfl rfl rfl dX5_writeDebt_60 (Nat.le_of_ble_eq_true rfl) (Nat.le_of_ble_eq_true rfl) (Nat.le_of_ble_eq_true rfl) (Nat.le_of_ble_eq_true rfl) (fun _ _ hu => hu.elim) (fun r u hu => ?_)
    · first | omega | (simp only [List.length_append, List.length_cons, List.length_nil] at *; omega)
    have h60 := hu
    refine v_aload_n C dX5_writeDebt_63 rfl ?_
    refine v_getr C fl_X5_42 or_cS_0_5 dX5_writeDebt_64 ?_
    refine v_aload_n C dX5_writeDebt_67 rfl ?_
    refine v_getr C fl_X5_10 or_cS_0_0 dX5_writeDebt_68 ?_
    refine v_getr C fl_X5_74 or_cS_1_0 dX5_writeDebt_71 ?_
    refine v_getr C fl_X5_121 or_cS_5_1 dX5_writeDebt_74 ?_
    refine v_iload_n C dX5_writeDebt_77 rfl ?_
    refine v_ialdQ (x := nI (src m j)) C ar_cS_7 (by decide) _ (hs.2) ?_ rfl dX5_writeDebt_78 ?_
    · omega
    refine v_callVv C (c_X4_addNumber2 hl h60 ?_ ?_) ym_X4_addNumber ml_X5_247 emb_c_t rfl rfl rfl rfl rfl dX5_writeDebt_79 (Nat.le_of_ble_eq_true rfl) (Nat.le_of_ble_eq_true rfl) (Nat.le_of_ble_eq_true rfl) (Nat.le_of_ble_eq_true rfl) (fun _ _ hu => hu.elim) (fun r u hu => ?_)
    · first | omega | (simp only [List.length_append, List.length_cons, List.length_nil] at *; omega)
    · first | omega | (simp only [List.length_append, List.length_cons, List.length_nil] at *; omega)
    have h79 := hu
    refine v_vret C F dX5_writeDebt_82 (Nat.le_of_ble_eq_true rfl) (Nat.le_of_ble_eq_true rfl) ?_
    exact ⟨_, rfl, by unfold dbT; rw [← hT0]; exact h79⟩
  · rw [nI_toInt (by omega)] at c7
    refine v_aload_n C dX5_writeDebt_10 rfl ?_
    refine v_getr C fl_X5_42 or_cS_0_5 dX5_writeDebt_11 ?_
    refine v_bipush (v := nI 44) C dX5_writeDebt_14 (by decide) ?_
    refine v_callVv C (c_X4_addSign hl hT (by omega)) ym_X4_addSign ml_X5_244 emb_c_t rfl rfl rfl rfl rfl dX5_writeDebt_16 (Nat.le_of_ble_eq_true rfl) (Nat.le_of_ble_eq_true rfl) (Nat.le_of_ble_eq_true rfl) (Nat.le_of_ble_eq_true rfl) (fun _ _ hu => hu.elim) (fun r u hu => ?_)
    have hU : TX T0 u := by
      rw [hT0, if_pos (by omega)]
      exact hu
    refine v_aload_n C dX5_writeDebt_19 rfl ?_
    refine v_getr C fl_X5_42 or_cS_0_5 dX5_writeDebt_20 ?_
    refine v_iload_n C dX5_writeDebt_23 rfl ?_
    refine v_callVv C (c_X4_addNumber2 hl hU ?_ ?_) ym_X4_addNumber ml_X5_247 emb_c_t rfl rfl rfl rfl rfl dX5_writeDebt_24 (Nat.le_of_ble_eq_true rfl) (Nat.le_of_ble_eq_true rfl) (Nat.le_of_ble_eq_true rfl) (Nat.le_of_ble_eq_true rfl) (fun _ _ hu => hu.elim) (fun r u hu => ?_)
    · first | omega | (simp only [List.length_append, List.length_cons, List.length_nil] at *; omega)
    · first | omega | (simp only [List.length_append, List.length_cons, List.length_nil] at *; omega)
    have h24 := hu
    refine v_aload_n C dX5_writeDebt_27 rfl ?_
    refine v_getr C fl_X5_42 or_cS_0_5 dX5_writeDebt_28 ?_
    refine v_bipush (v := nI 120) C dX5_writeDebt_31 (by decide) ?_
    refine v_callVv C (c_X4_addSign hl h24 ?_) ym_X4_addSign ml_X5_244 emb_c_t rfl rfl rfl rfl rfl dX5_writeDebt_33 (Nat.le_of_ble_eq_true rfl) (Nat.le_of_ble_eq_true rfl) (Nat.le_of_ble_eq_true rfl) (Nat.le_of_ble_eq_true rfl) (fun _ _ hu => hu.elim) (fun r u hu => ?_)
    · first | omega | (simp only [List.length_append, List.length_cons, List.length_nil] at *; omega)
    have h33 := hu
    refine v_aload_n C dX5_writeDebt_36 rfl ?_
    refine v_getr C fl_X5_42 or_cS_0_5 dX5_writeDebt_37 ?_
    refine v_aload_n C dX5_writeDebt_40 rfl ?_
    refine v_getr C fl_X5_10 or_cS_0_0 dX5_writeDebt_41 ?_
    refine v_getr C fl_X5_74 or_cS_1_0 dX5_writeDebt_44 ?_
    refine v_iload_n C dX5_writeDebt_47 rfl ?_
    refine v_callVi C (c_X2_lengthOfDebt hl hn h96 hj) ym_X2_lengthOfDebt ml_X5_162 emb_c_lm rfl rfl rfl rfl rfl dX5_writeDebt_48 (Nat.le_of_ble_eq_true rfl) (Nat.le_of_ble_eq_true rfl) (Nat.le_of_ble_eq_true rfl) (Nat.le_of_ble_eq_true rfl) (fun _ _ hu => hu.elim) (fun r u hu => ?_)
    obtain ⟨rfl, hu⟩ := hu
    subst u
    refine v_callVv C (c_X4_addNumber2 hl h33 ?_ ?_) ym_X4_addNumber ml_X5_247 emb_c_t rfl rfl rfl rfl rfl dX5_writeDebt_51 (Nat.le_of_ble_eq_true rfl) (Nat.le_of_ble_eq_true rfl) (Nat.le_of_ble_eq_true rfl) (Nat.le_of_ble_eq_true rfl) (fun _ _ hu => hu.elim) (fun r u hu => ?_)
    · first | omega | (simp only [List.length_append, List.length_cons, List.length_nil] at *; omega)
    · first | omega | (simp only [List.length_append, List.length_cons, List.length_nil] at *; omega)
    have h51 := hu
    refine v_aload_n C dX5_writeDebt_54 rfl ?_
    refine v_getr C fl_X5_42 or_cS_0_5 dX5_writeDebt_55 ?_
    refine v_bipush (v := nI 60) C dX5_writeDebt_58 (by decide) ?_
    refine v_callVv C (c_X4_addSign hl h51 ?_) ym_X4_addSign ml_X5_244 emb_c_t rfl rfl rfl rfl rfl dX5_writeDebt_60 (Nat.le_of_ble_eq_true rfl) (Nat.le_of_ble_eq_true rfl) (Nat.le_of_ble_eq_true rfl) (Nat.le_of_ble_eq_true rfl) (fun _ _ hu => hu.elim) (fun r u hu => ?_)
    · first | omega | (simp only [List.length_append, List.length_cons, List.length_nil] at *; omega)
    have h60 := hu
    refine v_aload_n C dX5_writeDebt_63 rfl ?_
    refine v_getr C fl_X5_42 or_cS_0_5 dX5_writeDebt_64 ?_
    refine v_aload_n C dX5_writeDebt_67 rfl ?_
    refine v_getr C fl_X5_10 or_cS_0_0 dX5_writeDebt_68 ?_
    refine v_getr C fl_X5_74 or_cS_1_0 dX5_writeDebt_71 ?_
    refine v_getr C fl_X5_121 or_cS_5_1 dX5_writeDebt_74 ?_
    refine v_iload_n C dX5_writeDebt_77 rfl ?_
    refine v_ialdQ (x := nI (src m j)) C ar_cS_7 (by decide) _ (hs.2) ?_ rfl dX5_writeDebt_78 ?_
    · omega
    refine v_callVv C (c_X4_addNumber2 hl h60 ?_ ?_) ym_X4_addNumber ml_X5_247 emb_c_t rfl rfl rfl rfl rfl dX5_writeDebt_79 (Nat.le_of_ble_eq_true rfl) (Nat.le_of_ble_eq_true rfl) (Nat.le_of_ble_eq_true rfl) (Nat.le_of_ble_eq_true rfl) (fun _ _ hu => hu.elim) (fun r u hu => ?_)
    · first | omega | (simp only [List.length_append, List.length_cons, List.length_nil] at *; omega)
    · first | omega | (simp only [List.length_append, List.length_cons, List.length_nil] at *; omega)
    have h79 := hu
    refine v_vret C F dX5_writeDebt_82 (Nat.le_of_ble_eq_true rfl) (Nat.le_of_ble_eq_true rfl) ?_
    exact ⟨_, rfl, by unfold dbT; rw [← hT0]; exact h79⟩

theorem max_sub {c d : Nat} (hc : c < 2 ^ 30) (hd : d < 2 ^ 30) : (if nI c - nI d < nI 0 then nI 0 else nI c - nI d) = nI (c - d) := by
  have h := nI_sub_toInt hc hd
  by_cases z : nI c - nI d < nI 0
  · rw [if_pos z]
    have z2 := Int32.lt_iff_toInt_lt.mp z
    rw [h, nI_toInt (by omega)] at z2
    exact congrArg nI (by omega)
  · rw [if_neg z]
    have z2 : ¬ (nI c - nI d).toInt < (nI 0).toInt := fun q => z (Int32.lt_iff_toInt_lt.mpr q)
    rw [h, nI_toInt (by omega)] at z2
    exact nI_sub (by omega)
set_option maxHeartbeats 16000000 in
theorem c_X5_setting {l : Launch} (hl : l.stackTraces = false) {κ : Kp} {h : Nat → Nat} {s sT : G} {m mT : Mg} {rr : Rg} {hh : Hg} {sl : Nat → Mg} {tx : G} {n c : Nat} {w : Int32} (hW : WM n c m) : Ct SS MM l κ yX5_setting cX5_setting 2 (some FieldType.int) 1 6 36 [.ref (h 0), .int w] (cS κ h) ((s, m), (sT, mT), rr, hh, sl, tx) ri (fun r u => (cdL [(decide (n = 0), 1), (!inB w 0 4, 2)] = 0 ∧ r = m 5 (tN w)) ∧ ROp m rr hh sl tx u) (fun e u => ThA e (cdL [(decide (n = 0), 1), (!inB w 0 4, 2)]) ∧ ROp m rr hh sl tx u) := by
  refine Ct.of (own := RX5) (by decide) rfl hl (by intro v hv; simp only [List.mem_cons, List.not_mem_nil, or_false] at hv; first | (rcases hv with rfl | rfl | rfl | rfl | rfl | rfl <;> rfl) | (rcases hv with rfl | rfl | rfl | rfl | rfl <;> rfl) | (rcases hv with rfl | rfl | rfl | rfl <;> rfl) | (rcases hv with rfl | rfl | rfl <;> rfl) | (rcases hv with rfl | rfl <;> rfl) | (subst hv; rfl) | exact hv.elim) (Nat.le_of_ble_eq_true rfl) (fun X hxl hxk C F N => ?_)
  subst hxl hxk
  show V X (cS (xK X) h) 0 [some (.ref (h 0)), some (.int w)] [] ((s, m), (sT, mT), rr, hh, sl, tx) 0 0
  obtain ⟨h96, hn, hMf⟩ := id hW
  refine v_aload_n C dX5_setting_0 rfl ?_
  refine v_callVv C (c_X5_needMemory hl hn h96) ym_X5_needMemory ml_X5_100 emb_id_cS rfl rfl rfl rfl rfl dX5_setting_1 (Nat.le_of_ble_eq_true rfl) (Nat.le_of_ble_eq_true rfl) (Nat.le_of_ble_eq_true rfl) (Nat.le_of_ble_eq_true rfl) (fun e u hu => v_out C N F (Nat.le_of_ble_eq_true rfl) (Nat.le_of_ble_eq_true rfl) ?_) (fun r u hu => ?_)
  · obtain ⟨rfl, hz, rfl⟩ := hu
    exact ⟨by simp [ThA, cdL, hz], _, _, rfl⟩
  obtain ⟨hn0, hu⟩ := hu
  subst u
  have hMI := hMf hn0
  obtain ⟨hI, hE, hLK, hn1, hSB, hBY, hPR⟩ := id hMI
  have hbd := band_ok hSB
  refine V.stt (g2 := ((s, m), (sT, mT), rr, hh, sl, tx)) (rfl) ?_
  refine v_aload_n C dX5_setting_4 rfl ?_
  refine v_iload_n C dX5_setting_5 rfl ?_
  refine v_iconst (v := nI 5) C dX5_setting_6 (by decide) ?_
  refine v_callVv C (c_X5_needPart hl (k := 5) (b := 4) (by decide) (by decide)) ym_X5_needPart ml_X5_103 emb_id_cS rfl rfl rfl rfl rfl dX5_setting_7 (Nat.le_of_ble_eq_true rfl) (Nat.le_of_ble_eq_true rfl) (Nat.le_of_ble_eq_true rfl) (Nat.le_of_ble_eq_true rfl) (fun e u hu => v_out C N F (Nat.le_of_ble_eq_true rfl) (Nat.le_of_ble_eq_true rfl) ?_) (fun r u hu => ?_)
  · obtain ⟨rfl, hz, rfl⟩ := hu
    exact ⟨by simp [ThA, cdL, hn0, hz], _, _, rfl⟩
  obtain ⟨hp_w, hu⟩ := hu
  subst u
  obtain ⟨j, -, hj_j, hk_j, e_j⟩ := in_at (a := 0) hp_w
  subst e_j
  have t_j : tN (nI j) = j := tN_nI hk_j
  refine V.stt (g2 := ((s, m), (sT, mT), rr, hh, sl, tx)) (rfl) ?_
  refine v_aload_n C dX5_setting_10 rfl ?_
  refine v_getr C fl_X5_10 or_cS_0_0 dX5_setting_11 ?_
  refine v_getr C fl_X5_74 or_cS_1_0 dX5_setting_14 ?_
  refine v_getr C fl_X5_107 or_cS_5_4 dX5_setting_17 ?_
  refine v_iload_n C dX5_setting_20 rfl ?_
  refine v_iald C ar_cS_10 (by decide) _ ?_ rfl dX5_setting_21 ?_
  · omega
  refine v_iret C F (by first | rfl | exact bI_nar _) dX5_setting_22 (Nat.le_of_ble_eq_true rfl) (Nat.le_of_ble_eq_true rfl) ?_
  exact ⟨⟨by simp [cdL, hn0, hp_w], by rw [t_j]⟩, _, _, rfl⟩
set_option maxHeartbeats 16000000 in
theorem c_X5_account {l : Launch} (hl : l.stackTraces = false) {κ : Kp} {h : Nat → Nat} {s sT : G} {m mT : Mg} {rr : Rg} {hh : Hg} {sl : Nat → Mg} {tx : G} {n c : Nat} {w : Int32} (hW : WM n c m) : Ct SS MM l κ yX5_account cX5_account 2 (some FieldType.int) 1 6 36 [.ref (h 0), .int w] (cS κ h) ((s, m), (sT, mT), rr, hh, sl, tx) ri (fun r u => (cdL [(decide (n = 0), 1), (!inB w 0 8, 2)] = 0 ∧ r = m 6 (tN w)) ∧ ROp m rr hh sl tx u) (fun e u => ThA e (cdL [(decide (n = 0), 1), (!inB w 0 8, 2)]) ∧ ROp m rr hh sl tx u) := by
  refine Ct.of (own := RX5) (by decide) rfl hl (by intro v hv; simp only [List.mem_cons, List.not_mem_nil, or_false] at hv; first | (rcases hv with rfl | rfl | rfl | rfl | rfl | rfl <;> rfl) | (rcases hv with rfl | rfl | rfl | rfl | rfl <;> rfl) | (rcases hv with rfl | rfl | rfl | rfl <;> rfl) | (rcases hv with rfl | rfl | rfl <;> rfl) | (rcases hv with rfl | rfl <;> rfl) | (subst hv; rfl) | exact hv.elim) (Nat.le_of_ble_eq_true rfl) (fun X hxl hxk C F N => ?_)
  subst hxl hxk
  show V X (cS (xK X) h) 0 [some (.ref (h 0)), some (.int w)] [] ((s, m), (sT, mT), rr, hh, sl, tx) 0 0
  obtain ⟨h96, hn, hMf⟩ := id hW
  refine v_aload_n C dX5_account_0 rfl ?_
  refine v_callVv C (c_X5_needMemory hl hn h96) ym_X5_needMemory ml_X5_100 emb_id_cS rfl rfl rfl rfl rfl dX5_account_1 (Nat.le_of_ble_eq_true rfl) (Nat.le_of_ble_eq_true rfl) (Nat.le_of_ble_eq_true rfl) (Nat.le_of_ble_eq_true rfl) (fun e u hu => v_out C N F (Nat.le_of_ble_eq_true rfl) (Nat.le_of_ble_eq_true rfl) ?_) (fun r u hu => ?_)
  · obtain ⟨rfl, hz, rfl⟩ := hu
    exact ⟨by simp [ThA, cdL, hz], _, _, rfl⟩
  obtain ⟨hn0, hu⟩ := hu
  subst u
  have hMI := hMf hn0
  obtain ⟨hI, hE, hLK, hn1, hSB, hBY, hPR⟩ := id hMI
  have hbd := band_ok hSB
  refine V.stt (g2 := ((s, m), (sT, mT), rr, hh, sl, tx)) (rfl) ?_
  refine v_aload_n C dX5_account_4 rfl ?_
  refine v_iload_n C dX5_account_5 rfl ?_
  refine v_bipush (v := nI 9) C dX5_account_6 (by decide) ?_
  refine v_callVv C (c_X5_needPart hl (k := 9) (b := 8) (by decide) (by decide)) ym_X5_needPart ml_X5_103 emb_id_cS rfl rfl rfl rfl rfl dX5_account_8 (Nat.le_of_ble_eq_true rfl) (Nat.le_of_ble_eq_true rfl) (Nat.le_of_ble_eq_true rfl) (Nat.le_of_ble_eq_true rfl) (fun e u hu => v_out C N F (Nat.le_of_ble_eq_true rfl) (Nat.le_of_ble_eq_true rfl) ?_) (fun r u hu => ?_)
  · obtain ⟨rfl, hz, rfl⟩ := hu
    exact ⟨by simp [ThA, cdL, hn0, hz], _, _, rfl⟩
  obtain ⟨hp_w, hu⟩ := hu
  subst u
  obtain ⟨j, -, hj_j, hk_j, e_j⟩ := in_at (a := 0) hp_w
  subst e_j
  have t_j : tN (nI j) = j := tN_nI hk_j
  refine V.stt (g2 := ((s, m), (sT, mT), rr, hh, sl, tx)) (rfl) ?_
  refine v_aload_n C dX5_account_11 rfl ?_
  refine v_getr C fl_X5_10 or_cS_0_0 dX5_account_12 ?_
  refine v_getr C fl_X5_74 or_cS_1_0 dX5_account_15 ?_
  refine v_getr C fl_X5_226 or_cS_5_5 dX5_account_18 ?_
  refine v_iload_n C dX5_account_21 rfl ?_
  refine v_iald C ar_cS_11 (by decide) _ ?_ rfl dX5_account_22 ?_
  · omega
  refine v_iret C F (by first | rfl | exact bI_nar _) dX5_account_23 (Nat.le_of_ble_eq_true rfl) (Nat.le_of_ble_eq_true rfl) ?_
  exact ⟨⟨by simp [cdL, hn0, hp_w], by rw [t_j]⟩, _, _, rfl⟩
set_option maxHeartbeats 16000000 in
theorem c_X5_stored {l : Launch} (hl : l.stackTraces = false) {κ : Kp} {h : Nat → Nat} {s sT : G} {m mT : Mg} {rr : Rg} {hh : Hg} {sl : Nat → Mg} {tx : G} {n c : Nat} {p : Int32} (hW : WM n c m) : Ct SS MM l κ yX5_stored cX5_stored 2 (some FieldType.int) 2 6 36 [.ref (h 0), .int p] (cS κ h) ((s, m), (sT, mT), rr, hh, sl, tx) ri (fun r u => (cdL [(decide (n = 0), 1), (!plB n p, 2)] = 0 ∧ r = m 1 (tN p)) ∧ ROp m rr hh sl tx u) (fun e u => Th3 e (cdL [(decide (n = 0), 1), (!plB n p, 2)]) ∧ ROp m rr hh sl tx u) := by
  refine Ct.of (own := RX5) (by decide) rfl hl (by intro v hv; simp only [List.mem_cons, List.not_mem_nil, or_false] at hv; first | (rcases hv with rfl | rfl | rfl | rfl | rfl | rfl <;> rfl) | (rcases hv with rfl | rfl | rfl | rfl | rfl <;> rfl) | (rcases hv with rfl | rfl | rfl | rfl <;> rfl) | (rcases hv with rfl | rfl | rfl <;> rfl) | (rcases hv with rfl | rfl <;> rfl) | (subst hv; rfl) | exact hv.elim) (Nat.le_of_ble_eq_true rfl) (fun X hxl hxk C F N => ?_)
  subst hxl hxk
  show V X (cS (xK X) h) 0 [some (.ref (h 0)), some (.int p)] [] ((s, m), (sT, mT), rr, hh, sl, tx) 0 0
  obtain ⟨h96, hn, hMf⟩ := id hW
  refine v_aload_n C dX5_stored_0 rfl ?_
  refine v_callVv C (c_X5_needMemory hl hn h96) ym_X5_needMemory ml_X5_100 emb_id_cS rfl rfl rfl rfl rfl dX5_stored_1 (Nat.le_of_ble_eq_true rfl) (Nat.le_of_ble_eq_true rfl) (Nat.le_of_ble_eq_true rfl) (Nat.le_of_ble_eq_true rfl) (fun e u hu => v_out C N F (Nat.le_of_ble_eq_true rfl) (Nat.le_of_ble_eq_true rfl) ?_) (fun r u hu => ?_)
  · obtain ⟨rfl, hz, rfl⟩ := hu
    exact ⟨by simp [Th3, cdL, hz], _, _, rfl⟩
  obtain ⟨hn0, hu⟩ := hu
  subst u
  have hMI := hMf hn0
  obtain ⟨hI, hE, hLK, hn1, hSB, hBY, hPR⟩ := id hMI
  have hbd := band_ok hSB
  refine V.stt (g2 := ((s, m), (sT, mT), rr, hh, sl, tx)) (rfl) ?_
  refine v_aload_n C dX5_stored_4 rfl ?_
  refine v_iload_n C dX5_stored_5 rfl ?_
  refine v_callVv C (c_X5_needPlace hl hn h96) ym_X5_needPlace ml_X5_111 emb_id_cS rfl rfl rfl rfl rfl dX5_stored_6 (Nat.le_of_ble_eq_true rfl) (Nat.le_of_ble_eq_true rfl) (Nat.le_of_ble_eq_true rfl) (Nat.le_of_ble_eq_true rfl) (fun e u hu => v_out C N F (Nat.le_of_ble_eq_true rfl) (Nat.le_of_ble_eq_true rfl) ?_) (fun r u hu => ?_)
  · obtain ⟨rfl, hz, rfl⟩ := hu
    exact ⟨by simp [Th3, cdL, hn0, hz], _, _, rfl⟩
  obtain ⟨hp_p, hu⟩ := hu
  subst u
  obtain ⟨j, hj_j, e_j⟩ := pl_at hp_p
  subst e_j
  have t_j : tN (nI j) = j := tN_nI (by omega)
  refine V.stt (g2 := ((s, m), (sT, mT), rr, hh, sl, tx)) (rfl) ?_
  refine v_aload_n C dX5_stored_9 rfl ?_
  refine v_getr C fl_X5_10 or_cS_0_0 dX5_stored_10 ?_
  refine v_getr C fl_X5_74 or_cS_1_0 dX5_stored_13 ?_
  refine v_getr C fl_X5_114 or_cS_5_0 dX5_stored_16 ?_
  refine v_iload_n C dX5_stored_19 rfl ?_
  refine v_iald C ar_cS_6 (by decide) _ ?_ rfl dX5_stored_20 ?_
  · omega
  refine v_iret C F (by first | rfl | exact bI_nar _) dX5_stored_21 (Nat.le_of_ble_eq_true rfl) (Nat.le_of_ble_eq_true rfl) ?_
  exact ⟨⟨by simp [cdL, hn0, hp_p], by rw [t_j]⟩, _, _, rfl⟩
set_option maxHeartbeats 16000000 in
theorem c_X5_source {l : Launch} (hl : l.stackTraces = false) {κ : Kp} {h : Nat → Nat} {s sT : G} {m mT : Mg} {rr : Rg} {hh : Hg} {sl : Nat → Mg} {tx : G} {n c : Nat} {p : Int32} (hW : WM n c m) : Ct SS MM l κ yX5_source cX5_source 2 (some FieldType.int) 2 6 36 [.ref (h 0), .int p] (cS κ h) ((s, m), (sT, mT), rr, hh, sl, tx) ri (fun r u => (cdL [(decide (n = 0), 1), (!plB n p, 2)] = 0 ∧ r = m 2 (tN p)) ∧ ROp m rr hh sl tx u) (fun e u => Th3 e (cdL [(decide (n = 0), 1), (!plB n p, 2)]) ∧ ROp m rr hh sl tx u) := by
  refine Ct.of (own := RX5) (by decide) rfl hl (by intro v hv; simp only [List.mem_cons, List.not_mem_nil, or_false] at hv; first | (rcases hv with rfl | rfl | rfl | rfl | rfl | rfl <;> rfl) | (rcases hv with rfl | rfl | rfl | rfl | rfl <;> rfl) | (rcases hv with rfl | rfl | rfl | rfl <;> rfl) | (rcases hv with rfl | rfl | rfl <;> rfl) | (rcases hv with rfl | rfl <;> rfl) | (subst hv; rfl) | exact hv.elim) (Nat.le_of_ble_eq_true rfl) (fun X hxl hxk C F N => ?_)
  subst hxl hxk
  show V X (cS (xK X) h) 0 [some (.ref (h 0)), some (.int p)] [] ((s, m), (sT, mT), rr, hh, sl, tx) 0 0
  obtain ⟨h96, hn, hMf⟩ := id hW
  refine v_aload_n C dX5_source_0 rfl ?_
  refine v_callVv C (c_X5_needMemory hl hn h96) ym_X5_needMemory ml_X5_100 emb_id_cS rfl rfl rfl rfl rfl dX5_source_1 (Nat.le_of_ble_eq_true rfl) (Nat.le_of_ble_eq_true rfl) (Nat.le_of_ble_eq_true rfl) (Nat.le_of_ble_eq_true rfl) (fun e u hu => v_out C N F (Nat.le_of_ble_eq_true rfl) (Nat.le_of_ble_eq_true rfl) ?_) (fun r u hu => ?_)
  · obtain ⟨rfl, hz, rfl⟩ := hu
    exact ⟨by simp [Th3, cdL, hz], _, _, rfl⟩
  obtain ⟨hn0, hu⟩ := hu
  subst u
  have hMI := hMf hn0
  obtain ⟨hI, hE, hLK, hn1, hSB, hBY, hPR⟩ := id hMI
  have hbd := band_ok hSB
  refine V.stt (g2 := ((s, m), (sT, mT), rr, hh, sl, tx)) (rfl) ?_
  refine v_aload_n C dX5_source_4 rfl ?_
  refine v_iload_n C dX5_source_5 rfl ?_
  refine v_callVv C (c_X5_needPlace hl hn h96) ym_X5_needPlace ml_X5_111 emb_id_cS rfl rfl rfl rfl rfl dX5_source_6 (Nat.le_of_ble_eq_true rfl) (Nat.le_of_ble_eq_true rfl) (Nat.le_of_ble_eq_true rfl) (Nat.le_of_ble_eq_true rfl) (fun e u hu => v_out C N F (Nat.le_of_ble_eq_true rfl) (Nat.le_of_ble_eq_true rfl) ?_) (fun r u hu => ?_)
  · obtain ⟨rfl, hz, rfl⟩ := hu
    exact ⟨by simp [Th3, cdL, hn0, hz], _, _, rfl⟩
  obtain ⟨hp_p, hu⟩ := hu
  subst u
  obtain ⟨j, hj_j, e_j⟩ := pl_at hp_p
  subst e_j
  have t_j : tN (nI j) = j := tN_nI (by omega)
  refine V.stt (g2 := ((s, m), (sT, mT), rr, hh, sl, tx)) (rfl) ?_
  refine v_aload_n C dX5_source_9 rfl ?_
  refine v_getr C fl_X5_10 or_cS_0_0 dX5_source_10 ?_
  refine v_getr C fl_X5_74 or_cS_1_0 dX5_source_13 ?_
  refine v_getr C fl_X5_121 or_cS_5_1 dX5_source_16 ?_
  refine v_iload_n C dX5_source_19 rfl ?_
  refine v_iald C ar_cS_7 (by decide) _ ?_ rfl dX5_source_20 ?_
  · omega
  refine v_iret C F (by first | rfl | exact bI_nar _) dX5_source_21 (Nat.le_of_ble_eq_true rfl) (Nat.le_of_ble_eq_true rfl) ?_
  exact ⟨⟨by simp [cdL, hn0, hp_p], by rw [t_j]⟩, _, _, rfl⟩
set_option maxHeartbeats 16000000 in
theorem c_X5_promise {l : Launch} (hl : l.stackTraces = false) {κ : Kp} {h : Nat → Nat} {s sT : G} {m mT : Mg} {rr : Rg} {hh : Hg} {sl : Nat → Mg} {tx : G} {n c : Nat} {p : Int32} (hW : WM n c m) : Ct SS MM l κ yX5_promise cX5_promise 2 (some FieldType.int) 2 6 36 [.ref (h 0), .int p] (cS κ h) ((s, m), (sT, mT), rr, hh, sl, tx) ri (fun r u => (cdL [(decide (n = 0), 1), (!plB n p, 2)] = 0 ∧ r = m 3 (tN p)) ∧ ROp m rr hh sl tx u) (fun e u => Th3 e (cdL [(decide (n = 0), 1), (!plB n p, 2)]) ∧ ROp m rr hh sl tx u) := by
  refine Ct.of (own := RX5) (by decide) rfl hl (by intro v hv; simp only [List.mem_cons, List.not_mem_nil, or_false] at hv; first | (rcases hv with rfl | rfl | rfl | rfl | rfl | rfl <;> rfl) | (rcases hv with rfl | rfl | rfl | rfl | rfl <;> rfl) | (rcases hv with rfl | rfl | rfl | rfl <;> rfl) | (rcases hv with rfl | rfl | rfl <;> rfl) | (rcases hv with rfl | rfl <;> rfl) | (subst hv; rfl) | exact hv.elim) (Nat.le_of_ble_eq_true rfl) (fun X hxl hxk C F N => ?_)
  subst hxl hxk
  show V X (cS (xK X) h) 0 [some (.ref (h 0)), some (.int p)] [] ((s, m), (sT, mT), rr, hh, sl, tx) 0 0
  obtain ⟨h96, hn, hMf⟩ := id hW
  refine v_aload_n C dX5_promise_0 rfl ?_
  refine v_callVv C (c_X5_needMemory hl hn h96) ym_X5_needMemory ml_X5_100 emb_id_cS rfl rfl rfl rfl rfl dX5_promise_1 (Nat.le_of_ble_eq_true rfl) (Nat.le_of_ble_eq_true rfl) (Nat.le_of_ble_eq_true rfl) (Nat.le_of_ble_eq_true rfl) (fun e u hu => v_out C N F (Nat.le_of_ble_eq_true rfl) (Nat.le_of_ble_eq_true rfl) ?_) (fun r u hu => ?_)
  · obtain ⟨rfl, hz, rfl⟩ := hu
    exact ⟨by simp [Th3, cdL, hz], _, _, rfl⟩
  obtain ⟨hn0, hu⟩ := hu
  subst u
  have hMI := hMf hn0
  obtain ⟨hI, hE, hLK, hn1, hSB, hBY, hPR⟩ := id hMI
  have hbd := band_ok hSB
  refine V.stt (g2 := ((s, m), (sT, mT), rr, hh, sl, tx)) (rfl) ?_
  refine v_aload_n C dX5_promise_4 rfl ?_
  refine v_iload_n C dX5_promise_5 rfl ?_
  refine v_callVv C (c_X5_needPlace hl hn h96) ym_X5_needPlace ml_X5_111 emb_id_cS rfl rfl rfl rfl rfl dX5_promise_6 (Nat.le_of_ble_eq_true rfl) (Nat.le_of_ble_eq_true rfl) (Nat.le_of_ble_eq_true rfl) (Nat.le_of_ble_eq_true rfl) (fun e u hu => v_out C N F (Nat.le_of_ble_eq_true rfl) (Nat.le_of_ble_eq_true rfl) ?_) (fun r u hu => ?_)
  · obtain ⟨rfl, hz, rfl⟩ := hu
    exact ⟨by simp [Th3, cdL, hn0, hz], _, _, rfl⟩
  obtain ⟨hp_p, hu⟩ := hu
  subst u
  obtain ⟨j, hj_j, e_j⟩ := pl_at hp_p
  subst e_j
  have t_j : tN (nI j) = j := tN_nI (by omega)
  refine V.stt (g2 := ((s, m), (sT, mT), rr, hh, sl, tx)) (rfl) ?_
  refine v_aload_n C dX5_promise_9 rfl ?_
  refine v_getr C fl_X5_10 or_cS_0_0 dX5_promise_10 ?_
  refine v_getr C fl_X5_74 or_cS_1_0 dX5_promise_13 ?_
  refine v_getr C fl_X5_124 or_cS_5_2 dX5_promise_16 ?_
  refine v_iload_n C dX5_promise_19 rfl ?_
  refine v_iald C ar_cS_8 (by decide) _ ?_ rfl dX5_promise_20 ?_
  · omega
  refine v_iret C F (by first | rfl | exact bI_nar _) dX5_promise_21 (Nat.le_of_ble_eq_true rfl) (Nat.le_of_ble_eq_true rfl) ?_
  exact ⟨⟨by simp [cdL, hn0, hp_p], by rw [t_j]⟩, _, _, rfl⟩
set_option maxHeartbeats 16000000 in
theorem c_X5_value {l : Launch} (hl : l.stackTraces = false) {κ : Kp} {h : Nat → Nat} {s sT : G} {m mT : Mg} {rr : Rg} {hh : Hg} {sl : Nat → Mg} {tx : G} {n c : Nat} {p : Int32} (hW : WM n c m) : Ct SS MM l κ yX5_value cX5_value 2 (some FieldType.int) 2 6 36 [.ref (h 0), .int p] (cS κ h) ((s, m), (sT, mT), rr, hh, sl, tx) ri (fun r u => (cdL [(decide (n = 0), 1), (!plB n p, 2)] = 0 ∧ r = valM m (tN p)) ∧ ROp m rr hh sl tx u) (fun e u => Th3 e (cdL [(decide (n = 0), 1), (!plB n p, 2)]) ∧ ROp m rr hh sl tx u) := by
  refine Ct.of (own := RX5) (by decide) rfl hl (by intro v hv; simp only [List.mem_cons, List.not_mem_nil, or_false] at hv; first | (rcases hv with rfl | rfl | rfl | rfl | rfl | rfl <;> rfl) | (rcases hv with rfl | rfl | rfl | rfl | rfl <;> rfl) | (rcases hv with rfl | rfl | rfl | rfl <;> rfl) | (rcases hv with rfl | rfl | rfl <;> rfl) | (rcases hv with rfl | rfl <;> rfl) | (subst hv; rfl) | exact hv.elim) (Nat.le_of_ble_eq_true rfl) (fun X hxl hxk C F N => ?_)
  subst hxl hxk
  show V X (cS (xK X) h) 0 [some (.ref (h 0)), some (.int p)] [] ((s, m), (sT, mT), rr, hh, sl, tx) 0 0
  obtain ⟨h96, hn, hMf⟩ := id hW
  refine v_aload_n C dX5_value_0 rfl ?_
  refine v_callVv C (c_X5_needMemory hl hn h96) ym_X5_needMemory ml_X5_100 emb_id_cS rfl rfl rfl rfl rfl dX5_value_1 (Nat.le_of_ble_eq_true rfl) (Nat.le_of_ble_eq_true rfl) (Nat.le_of_ble_eq_true rfl) (Nat.le_of_ble_eq_true rfl) (fun e u hu => v_out C N F (Nat.le_of_ble_eq_true rfl) (Nat.le_of_ble_eq_true rfl) ?_) (fun r u hu => ?_)
  · obtain ⟨rfl, hz, rfl⟩ := hu
    exact ⟨by simp [Th3, cdL, hz], _, _, rfl⟩
  obtain ⟨hn0, hu⟩ := hu
  subst u
  have hMI := hMf hn0
  obtain ⟨hI, hE, hLK, hn1, hSB, hBY, hPR⟩ := id hMI
  have hbd := band_ok hSB
  refine V.stt (g2 := ((s, m), (sT, mT), rr, hh, sl, tx)) (rfl) ?_
  refine v_aload_n C dX5_value_4 rfl ?_
  refine v_iload_n C dX5_value_5 rfl ?_
  refine v_callVv C (c_X5_needPlace hl hn h96) ym_X5_needPlace ml_X5_111 emb_id_cS rfl rfl rfl rfl rfl dX5_value_6 (Nat.le_of_ble_eq_true rfl) (Nat.le_of_ble_eq_true rfl) (Nat.le_of_ble_eq_true rfl) (Nat.le_of_ble_eq_true rfl) (fun e u hu => v_out C N F (Nat.le_of_ble_eq_true rfl) (Nat.le_of_ble_eq_true rfl) ?_) (fun r u hu => ?_)
  · obtain ⟨rfl, hz, rfl⟩ := hu
    exact ⟨by simp [Th3, cdL, hn0, hz], _, _, rfl⟩
  obtain ⟨hp_p, hu⟩ := hu
  subst u
  obtain ⟨j, hj_j, e_j⟩ := pl_at hp_p
  subst e_j
  have t_j : tN (nI j) = j := tN_nI (by omega)
  refine V.stt (g2 := ((s, m), (sT, mT), rr, hh, sl, tx)) (rfl) ?_
  refine v_aload_n C dX5_value_9 rfl ?_
  refine v_getr C fl_X5_10 or_cS_0_0 dX5_value_10 ?_
  refine v_getr C fl_X5_74 or_cS_1_0 dX5_value_13 ?_
  refine v_iload_n C dX5_value_16 rfl ?_
  refine v_callVi C (c_X2_valueOf hl hI hj_j) ym_X2_valueOf ml_X5_117 emb_c_lm rfl rfl rfl rfl rfl dX5_value_17 (Nat.le_of_ble_eq_true rfl) (Nat.le_of_ble_eq_true rfl) (Nat.le_of_ble_eq_true rfl) (Nat.le_of_ble_eq_true rfl) (fun _ _ hu => hu.elim) (fun r u hu => ?_)
  obtain ⟨rfl, hu⟩ := hu
  subst u
  refine V.stt (g2 := ((s, m), (sT, mT), rr, hh, sl, tx)) (rfl) ?_
  refine v_iret C F (by first | rfl | exact bI_nar _) dX5_value_20 (Nat.le_of_ble_eq_true rfl) (Nat.le_of_ble_eq_true rfl) ?_
  exact ⟨⟨by simp [cdL, hn0, hp_p], by rw [t_j]⟩, _, _, rfl⟩
set_option maxHeartbeats 16000000 in
theorem c_X5_hops {l : Launch} (hl : l.stackTraces = false) {κ : Kp} {h : Nat → Nat} {s sT : G} {m mT : Mg} {rr : Rg} {hh : Hg} {sl : Nat → Mg} {tx : G} {n c : Nat} {p : Int32} (hW : WM n c m) : Ct SS MM l κ yX5_hops cX5_hops 2 (some FieldType.int) 3 6 36 [.ref (h 0), .int p] (cS κ h) ((s, m), (sT, mT), rr, hh, sl, tx) ri (fun r u => (cdL [(decide (n = 0), 1), (!plB n p, 2)] = 0 ∧ r = nI (hopsM m (tN p))) ∧ ROp m rr hh sl tx u) (fun e u => Th3 e (cdL [(decide (n = 0), 1), (!plB n p, 2)]) ∧ ROp m rr hh sl tx u) := by
  refine Ct.of (own := RX5) (by decide) rfl hl (by intro v hv; simp only [List.mem_cons, List.not_mem_nil, or_false] at hv; first | (rcases hv with rfl | rfl | rfl | rfl | rfl | rfl <;> rfl) | (rcases hv with rfl | rfl | rfl | rfl | rfl <;> rfl) | (rcases hv with rfl | rfl | rfl | rfl <;> rfl) | (rcases hv with rfl | rfl | rfl <;> rfl) | (rcases hv with rfl | rfl <;> rfl) | (subst hv; rfl) | exact hv.elim) (Nat.le_of_ble_eq_true rfl) (fun X hxl hxk C F N => ?_)
  subst hxl hxk
  show V X (cS (xK X) h) 0 [some (.ref (h 0)), some (.int p)] [] ((s, m), (sT, mT), rr, hh, sl, tx) 0 0
  obtain ⟨h96, hn, hMf⟩ := id hW
  refine v_aload_n C dX5_hops_0 rfl ?_
  refine v_callVv C (c_X5_needMemory hl hn h96) ym_X5_needMemory ml_X5_100 emb_id_cS rfl rfl rfl rfl rfl dX5_hops_1 (Nat.le_of_ble_eq_true rfl) (Nat.le_of_ble_eq_true rfl) (Nat.le_of_ble_eq_true rfl) (Nat.le_of_ble_eq_true rfl) (fun e u hu => v_out C N F (Nat.le_of_ble_eq_true rfl) (Nat.le_of_ble_eq_true rfl) ?_) (fun r u hu => ?_)
  · obtain ⟨rfl, hz, rfl⟩ := hu
    exact ⟨by simp [Th3, cdL, hz], _, _, rfl⟩
  obtain ⟨hn0, hu⟩ := hu
  subst u
  have hMI := hMf hn0
  obtain ⟨hI, hE, hLK, hn1, hSB, hBY, hPR⟩ := id hMI
  have hbd := band_ok hSB
  refine V.stt (g2 := ((s, m), (sT, mT), rr, hh, sl, tx)) (rfl) ?_
  refine v_aload_n C dX5_hops_4 rfl ?_
  refine v_iload_n C dX5_hops_5 rfl ?_
  refine v_callVv C (c_X5_needPlace hl hn h96) ym_X5_needPlace ml_X5_111 emb_id_cS rfl rfl rfl rfl rfl dX5_hops_6 (Nat.le_of_ble_eq_true rfl) (Nat.le_of_ble_eq_true rfl) (Nat.le_of_ble_eq_true rfl) (Nat.le_of_ble_eq_true rfl) (fun e u hu => v_out C N F (Nat.le_of_ble_eq_true rfl) (Nat.le_of_ble_eq_true rfl) ?_) (fun r u hu => ?_)
  · obtain ⟨rfl, hz, rfl⟩ := hu
    exact ⟨by simp [Th3, cdL, hn0, hz], _, _, rfl⟩
  obtain ⟨hp_p, hu⟩ := hu
  subst u
  obtain ⟨j, hj_j, e_j⟩ := pl_at hp_p
  subst e_j
  have t_j : tN (nI j) = j := tN_nI (by omega)
  refine V.stt (g2 := ((s, m), (sT, mT), rr, hh, sl, tx)) (rfl) ?_
  refine v_aload_n C dX5_hops_9 rfl ?_
  refine v_getr C fl_X5_10 or_cS_0_0 dX5_hops_10 ?_
  refine v_getr C fl_X5_74 or_cS_1_0 dX5_hops_13 ?_
  refine v_iload_n C dX5_hops_16 rfl ?_
  refine v_callVi C (c_X2_hopsOf hl hI hj_j) ym_X2_hopsOf ml_X5_127 emb_c_lm rfl rfl rfl rfl rfl dX5_hops_17 (Nat.le_of_ble_eq_true rfl) (Nat.le_of_ble_eq_true rfl) (Nat.le_of_ble_eq_true rfl) (Nat.le_of_ble_eq_true rfl) (fun _ _ hu => hu.elim) (fun r u hu => ?_)
  obtain ⟨rfl, hu⟩ := hu
  subst u
  refine V.stt (g2 := ((s, m), (sT, mT), rr, hh, sl, tx)) (rfl) ?_
  refine v_iret C F (by first | rfl | exact bI_nar _) dX5_hops_20 (Nat.le_of_ble_eq_true rfl) (Nat.le_of_ble_eq_true rfl) ?_
  exact ⟨⟨by simp [cdL, hn0, hp_p], by rw [t_j]⟩, _, _, rfl⟩
set_option maxHeartbeats 16000000 in
theorem c_X5_root {l : Launch} (hl : l.stackTraces = false) {κ : Kp} {h : Nat → Nat} {s sT : G} {m mT : Mg} {rr : Rg} {hh : Hg} {sl : Nat → Mg} {tx : G} {n c : Nat} {p : Int32} (hW : WM n c m) : Ct SS MM l κ yX5_root cX5_root 2 (some FieldType.int) 2 6 36 [.ref (h 0), .int p] (cS κ h) ((s, m), (sT, mT), rr, hh, sl, tx) ri (fun r u => (cdL [(decide (n = 0), 1), (!plB n p, 2)] = 0 ∧ r = nI (rootM m (tN p))) ∧ ROp m rr hh sl tx u) (fun e u => Th3 e (cdL [(decide (n = 0), 1), (!plB n p, 2)]) ∧ ROp m rr hh sl tx u) := by
  refine Ct.of (own := RX5) (by decide) rfl hl (by intro v hv; simp only [List.mem_cons, List.not_mem_nil, or_false] at hv; first | (rcases hv with rfl | rfl | rfl | rfl | rfl | rfl <;> rfl) | (rcases hv with rfl | rfl | rfl | rfl | rfl <;> rfl) | (rcases hv with rfl | rfl | rfl | rfl <;> rfl) | (rcases hv with rfl | rfl | rfl <;> rfl) | (rcases hv with rfl | rfl <;> rfl) | (subst hv; rfl) | exact hv.elim) (Nat.le_of_ble_eq_true rfl) (fun X hxl hxk C F N => ?_)
  subst hxl hxk
  show V X (cS (xK X) h) 0 [some (.ref (h 0)), some (.int p)] [] ((s, m), (sT, mT), rr, hh, sl, tx) 0 0
  obtain ⟨h96, hn, hMf⟩ := id hW
  refine v_aload_n C dX5_root_0 rfl ?_
  refine v_callVv C (c_X5_needMemory hl hn h96) ym_X5_needMemory ml_X5_100 emb_id_cS rfl rfl rfl rfl rfl dX5_root_1 (Nat.le_of_ble_eq_true rfl) (Nat.le_of_ble_eq_true rfl) (Nat.le_of_ble_eq_true rfl) (Nat.le_of_ble_eq_true rfl) (fun e u hu => v_out C N F (Nat.le_of_ble_eq_true rfl) (Nat.le_of_ble_eq_true rfl) ?_) (fun r u hu => ?_)
  · obtain ⟨rfl, hz, rfl⟩ := hu
    exact ⟨by simp [Th3, cdL, hz], _, _, rfl⟩
  obtain ⟨hn0, hu⟩ := hu
  subst u
  have hMI := hMf hn0
  obtain ⟨hI, hE, hLK, hn1, hSB, hBY, hPR⟩ := id hMI
  have hbd := band_ok hSB
  refine V.stt (g2 := ((s, m), (sT, mT), rr, hh, sl, tx)) (rfl) ?_
  refine v_aload_n C dX5_root_4 rfl ?_
  refine v_iload_n C dX5_root_5 rfl ?_
  refine v_callVv C (c_X5_needPlace hl hn h96) ym_X5_needPlace ml_X5_111 emb_id_cS rfl rfl rfl rfl rfl dX5_root_6 (Nat.le_of_ble_eq_true rfl) (Nat.le_of_ble_eq_true rfl) (Nat.le_of_ble_eq_true rfl) (Nat.le_of_ble_eq_true rfl) (fun e u hu => v_out C N F (Nat.le_of_ble_eq_true rfl) (Nat.le_of_ble_eq_true rfl) ?_) (fun r u hu => ?_)
  · obtain ⟨rfl, hz, rfl⟩ := hu
    exact ⟨by simp [Th3, cdL, hn0, hz], _, _, rfl⟩
  obtain ⟨hp_p, hu⟩ := hu
  subst u
  obtain ⟨j, hj_j, e_j⟩ := pl_at hp_p
  subst e_j
  have t_j : tN (nI j) = j := tN_nI (by omega)
  refine V.stt (g2 := ((s, m), (sT, mT), rr, hh, sl, tx)) (rfl) ?_
  refine v_aload_n C dX5_root_9 rfl ?_
  refine v_getr C fl_X5_10 or_cS_0_0 dX5_root_10 ?_
  refine v_getr C fl_X5_74 or_cS_1_0 dX5_root_13 ?_
  refine v_iload_n C dX5_root_16 rfl ?_
  refine v_callVi C (c_X2_rootOf hl hI hj_j) ym_X2_rootOf ml_X5_130 emb_c_lm rfl rfl rfl rfl rfl dX5_root_17 (Nat.le_of_ble_eq_true rfl) (Nat.le_of_ble_eq_true rfl) (Nat.le_of_ble_eq_true rfl) (Nat.le_of_ble_eq_true rfl) (fun _ _ hu => hu.elim) (fun r u hu => ?_)
  obtain ⟨rfl, hu⟩ := hu
  subst u
  refine V.stt (g2 := ((s, m), (sT, mT), rr, hh, sl, tx)) (rfl) ?_
  refine v_iret C F (by first | rfl | exact bI_nar _) dX5_root_20 (Nat.le_of_ble_eq_true rfl) (Nat.le_of_ble_eq_true rfl) ?_
  exact ⟨⟨by simp [cdL, hn0, hp_p], by rw [t_j]⟩, _, _, rfl⟩
set_option maxHeartbeats 16000000 in
theorem c_X5_isLocked {l : Launch} (hl : l.stackTraces = false) {κ : Kp} {h : Nat → Nat} {s sT : G} {m mT : Mg} {rr : Rg} {hh : Hg} {sl : Nat → Mg} {tx : G} {n c : Nat} {p : Int32} (hW : WM n c m) : Ct SS MM l κ yX5_isLocked cX5_isLocked 2 (some FieldType.boolean) 2 6 36 [.ref (h 0), .int p] (cS κ h) ((s, m), (sT, mT), rr, hh, sl, tx) ri (fun r u => (cdL [(decide (n = 0), 1), (!plB n p, 2)] = 0 ∧ r = bI (lockB m (tN p))) ∧ ROp m rr hh sl tx u) (fun e u => Th3 e (cdL [(decide (n = 0), 1), (!plB n p, 2)]) ∧ ROp m rr hh sl tx u) := by
  refine Ct.of (own := RX5) (by decide) rfl hl (by intro v hv; simp only [List.mem_cons, List.not_mem_nil, or_false] at hv; first | (rcases hv with rfl | rfl | rfl | rfl | rfl | rfl <;> rfl) | (rcases hv with rfl | rfl | rfl | rfl | rfl <;> rfl) | (rcases hv with rfl | rfl | rfl | rfl <;> rfl) | (rcases hv with rfl | rfl | rfl <;> rfl) | (rcases hv with rfl | rfl <;> rfl) | (subst hv; rfl) | exact hv.elim) (Nat.le_of_ble_eq_true rfl) (fun X hxl hxk C F N => ?_)
  subst hxl hxk
  show V X (cS (xK X) h) 0 [some (.ref (h 0)), some (.int p)] [] ((s, m), (sT, mT), rr, hh, sl, tx) 0 0
  obtain ⟨h96, hn, hMf⟩ := id hW
  refine v_aload_n C dX5_isLocked_0 rfl ?_
  refine v_callVv C (c_X5_needMemory hl hn h96) ym_X5_needMemory ml_X5_100 emb_id_cS rfl rfl rfl rfl rfl dX5_isLocked_1 (Nat.le_of_ble_eq_true rfl) (Nat.le_of_ble_eq_true rfl) (Nat.le_of_ble_eq_true rfl) (Nat.le_of_ble_eq_true rfl) (fun e u hu => v_out C N F (Nat.le_of_ble_eq_true rfl) (Nat.le_of_ble_eq_true rfl) ?_) (fun r u hu => ?_)
  · obtain ⟨rfl, hz, rfl⟩ := hu
    exact ⟨by simp [Th3, cdL, hz], _, _, rfl⟩
  obtain ⟨hn0, hu⟩ := hu
  subst u
  have hMI := hMf hn0
  obtain ⟨hI, hE, hLK, hn1, hSB, hBY, hPR⟩ := id hMI
  have hbd := band_ok hSB
  refine V.stt (g2 := ((s, m), (sT, mT), rr, hh, sl, tx)) (rfl) ?_
  refine v_aload_n C dX5_isLocked_4 rfl ?_
  refine v_iload_n C dX5_isLocked_5 rfl ?_
  refine v_callVv C (c_X5_needPlace hl hn h96) ym_X5_needPlace ml_X5_111 emb_id_cS rfl rfl rfl rfl rfl dX5_isLocked_6 (Nat.le_of_ble_eq_true rfl) (Nat.le_of_ble_eq_true rfl) (Nat.le_of_ble_eq_true rfl) (Nat.le_of_ble_eq_true rfl) (fun e u hu => v_out C N F (Nat.le_of_ble_eq_true rfl) (Nat.le_of_ble_eq_true rfl) ?_) (fun r u hu => ?_)
  · obtain ⟨rfl, hz, rfl⟩ := hu
    exact ⟨by simp [Th3, cdL, hn0, hz], _, _, rfl⟩
  obtain ⟨hp_p, hu⟩ := hu
  subst u
  obtain ⟨j, hj_j, e_j⟩ := pl_at hp_p
  subst e_j
  have t_j : tN (nI j) = j := tN_nI (by omega)
  refine V.stt (g2 := ((s, m), (sT, mT), rr, hh, sl, tx)) (rfl) ?_
  refine v_aload_n C dX5_isLocked_9 rfl ?_
  refine v_getr C fl_X5_10 or_cS_0_0 dX5_isLocked_10 ?_
  refine v_getr C fl_X5_74 or_cS_1_0 dX5_isLocked_13 ?_
  refine v_getr C fl_X5_133 or_cS_5_3 dX5_isLocked_16 ?_
  refine v_iload_n C dX5_isLocked_19 rfl ?_
  refine v_zaldQ (x := bI (lockB m j)) C ar_cS_9 (by decide) _ (LK_at hLK (by omega)) ?_ rfl dX5_isLocked_20 ?_
  · omega
  refine v_iret C F (by first | rfl | exact bI_nar _) dX5_isLocked_21 (Nat.le_of_ble_eq_true rfl) (Nat.le_of_ble_eq_true rfl) ?_
  exact ⟨⟨by simp [cdL, hn0, hp_p], by rw [t_j]⟩, _, _, rfl⟩
set_option maxHeartbeats 16000000 in
theorem c_X5_dependents {l : Launch} (hl : l.stackTraces = false) {κ : Kp} {h : Nat → Nat} {s sT : G} {m mT : Mg} {rr : Rg} {hh : Hg} {sl : Nat → Mg} {tx : G} {n c : Nat} {p : Int32} {al : Bool} (hW : WM n c m) : Ct SS MM l κ yX5_dependents cX5_dependents 7 (some FieldType.int) 2 6 36 [.ref (h 0), .int p, .int (bI al)] (cS κ h) ((s, m), (sT, mT), rr, hh, sl, tx) ri (fun r u => (cdL [(decide (n = 0), 1), (!plB n p, 2)] = 0 ∧ r = nI (cntG (depB m (tN p) al) 0 n)) ∧ ROp m rr hh sl tx u) (fun e u => Th3 e (cdL [(decide (n = 0), 1), (!plB n p, 2)]) ∧ ROp m rr hh sl tx u) := by
  refine Ct.of (own := RX5) (by decide) rfl hl (by intro v hv; simp only [List.mem_cons, List.not_mem_nil, or_false] at hv; first | (rcases hv with rfl | rfl | rfl | rfl | rfl | rfl <;> rfl) | (rcases hv with rfl | rfl | rfl | rfl | rfl <;> rfl) | (rcases hv with rfl | rfl | rfl | rfl <;> rfl) | (rcases hv with rfl | rfl | rfl <;> rfl) | (rcases hv with rfl | rfl <;> rfl) | (subst hv; rfl) | exact hv.elim) (Nat.le_of_ble_eq_true rfl) (fun X hxl hxk C F N => ?_)
  subst hxl hxk
  show V X (cS (xK X) h) 0 [some (.ref (h 0)), some (.int p), some (.int (bI al)), none, none, none, none] [] ((s, m), (sT, mT), rr, hh, sl, tx) 0 0
  obtain ⟨h96, hn, hMf⟩ := id hW
  refine v_aload_n C dX5_dependents_0 rfl ?_
  refine v_callVv C (c_X5_needMemory hl hn h96) ym_X5_needMemory ml_X5_100 emb_id_cS rfl rfl rfl rfl rfl dX5_dependents_1 (Nat.le_of_ble_eq_true rfl) (Nat.le_of_ble_eq_true rfl) (Nat.le_of_ble_eq_true rfl) (Nat.le_of_ble_eq_true rfl) (fun e u hu => v_out C N F (Nat.le_of_ble_eq_true rfl) (Nat.le_of_ble_eq_true rfl) ?_) (fun r u hu => ?_)
  · obtain ⟨rfl, hz, rfl⟩ := hu
    exact ⟨by simp [Th3, cdL, hz], _, _, rfl⟩
  obtain ⟨hn0, hu⟩ := hu
  subst u
  have hMI := hMf hn0
  obtain ⟨hI, hE, hLK, hn1, hSB, hBY, hPR⟩ := id hMI
  have hbd := band_ok hSB
  refine V.stt (g2 := ((s, m), (sT, mT), rr, hh, sl, tx)) (rfl) ?_
  refine v_aload_n C dX5_dependents_4 rfl ?_
  refine v_iload_n C dX5_dependents_5 rfl ?_
  refine v_callVv C (c_X5_needPlace hl hn h96) ym_X5_needPlace ml_X5_111 emb_id_cS rfl rfl rfl rfl rfl dX5_dependents_6 (Nat.le_of_ble_eq_true rfl) (Nat.le_of_ble_eq_true rfl) (Nat.le_of_ble_eq_true rfl) (Nat.le_of_ble_eq_true rfl) (fun e u hu => v_out C N F (Nat.le_of_ble_eq_true rfl) (Nat.le_of_ble_eq_true rfl) ?_) (fun r u hu => ?_)
  · obtain ⟨rfl, hz, rfl⟩ := hu
    exact ⟨by simp [Th3, cdL, hn0, hz], _, _, rfl⟩
  obtain ⟨hp_p, hu⟩ := hu
  subst u
  obtain ⟨j, hj_j, e_j⟩ := pl_at hp_p
  subst e_j
  have t_j : tN (nI j) = j := tN_nI (by omega)
  refine V.stt (g2 := ((s, m), (sT, mT), rr, hh, sl, tx)) (rfl) ?_
  refine v_aload_n C dX5_dependents_9 rfl ?_
  refine v_getr C fl_X5_10 or_cS_0_0 dX5_dependents_10 ?_
  refine v_getr C fl_X5_74 or_cS_1_0 dX5_dependents_13 ?_
  refine v_astore_n C (lo2 := [some _, some _, some _, some _, none, none, none]) dX5_dependents_16 rfl (Nat.le_of_ble_eq_true rfl) rfl ?_
  refine v_iconst (v := nI 0) C dX5_dependents_17 (by decide) ?_
  refine v_istore C (lo2 := [some _, some _, some _, some _, some _, none, none]) dX5_dependents_18 rfl (Nat.le_of_ble_eq_true rfl) rfl ?_
  refine v_iconst (v := nI 0) C dX5_dependents_20 (by decide) ?_
  refine v_istore C (lo2 := [some _, some _, some _, some _, some _, some _, none]) dX5_dependents_21 rfl (Nat.le_of_ble_eq_true rfl) rfl ?_
  have L23 : ∀ (t : Nat × Nat), (fun t => 0 ≤ t.1 ∧ t.1 ≤ 200 ∧ t.2 ≤ t.1 ∧ t.2 + cntG (depB m j al) t.1 (n - t.1) = cntG (depB m j al) 0 n) t → (fun t : Nat × Nat => V X (cS (xK X) h) 23 [some (.ref (h 0)), some (.int (nI j)), some (.int (bI al)), some (.ref (h 5)), some (.int (nI t.2)), some (.int (nI t.1)), none] [] ((s, m), (sT, mT), rr, hh, sl, tx) 5 30) t := by
    refine v_ind (fun t : Nat × Nat => n - t.1) ?_
    rintro ⟨i, f⟩ ih23 hI23
    try dsimp only at hI23 ⊢
    obtain ⟨i1, i2, i4, i3⟩ := hI23
    refine v_iload C dX5_dependents_23 rfl ?_
    refine v_aload_n C dX5_dependents_25 rfl ?_
    refine v_getiQ (x := nI n) C fl_X5_91 oi_cS_5_7 (hn) dX5_dependents_26 ?_
    first | refine v_icmp_geN C 86 dX5_dependents_29 (by decide) (by omega) (by omega) (fun c29 => ?_) (fun c29 => ?_) | refine v_icmp_ge C 86 dX5_dependents_29 (by decide) (fun c29 => ?_) (fun c29 => ?_)
    · refine v_iload C dX5_dependents_86 rfl ?_
      refine v_iret C F (by first | rfl | exact bI_nar _) dX5_dependents_88 (Nat.le_of_ble_eq_true rfl) (Nat.le_of_ble_eq_true rfl) ?_
      rw [cntG_0 (by omega), Nat.add_zero] at i3
      exact ⟨⟨by simp [cdL, hn0, hp_p], by rw [t_j, ← i3]⟩, _, _, rfl⟩
    · refine v_iload_n C dX5_dependents_32 rfl ?_
      refine v_if_eqB C 54 dX5_dependents_33 (by decide) (fun c33 => ?_) (fun c33 => ?_)
      · refine v_aload_n C dX5_dependents_54 rfl ?_
        refine v_getr C fl_X5_121 or_cS_5_1 dX5_dependents_55 ?_
        refine v_iload C dX5_dependents_58 rfl ?_
        refine v_iald C ar_cS_7 (by decide) _ ?_ rfl dX5_dependents_60 ?_
        · omega
        refine v_iload_n C dX5_dependents_61 rfl ?_
        refine v_icmp_ne C 69 dX5_dependents_62 (by decide) (fun c62 => ?_) (fun c62 => ?_)
        · refine v_iconst (v := nI 0) C dX5_dependents_69 (by decide) ?_
          refine v_istore C (lo2 := [some _, some _, some _, some _, some _, some _, some _]) dX5_dependents_70 rfl (Nat.le_of_ble_eq_true rfl) rfl ?_
          refine v_iload C dX5_dependents_72 rfl ?_
          refine v_if_eq C 80 dX5_dependents_74 (by decide) (fun c74 => ?_) (fun c => absurd c (by decide))
          first | refine v_iinc1 C (lo2 := [some _, some _, some _, some _, some _, some _, some _]) dX5_dependents_80 rfl rfl rfl ?_ | refine v_iinc C (lo2 := [some _, some _, some _, some _, some _, some _, some _]) dX5_dependents_80 rfl rfl rfl rfl ?_
          refine v_goto C 23 dX5_dependents_83 (by decide) ?_
          refine V.sub (lo2 := [some _, some _, some _, some _, some _, some _, none]) ⟨rfl, rfl, rfl, rfl, rfl, rfl, trivial⟩ ?_
          have hib : i < n := by omega
          rw [cntG_s hib] at i3
          first
          | (have hw : (depB m j al) i = true := by
              unfold depB
              first
              | (rw [c33, if_pos rfl, decide_eq_true_eq]; omega)
              | (rw [c33, if_neg Bool.false_ne_true]; exact beq_iff_eq.mpr c62)
             rw [hw, if_pos rfl] at i3
             exact ih23 (i + 1, f + 1) (by show n - (i + 1) < n - i; omega) ⟨by omega, by omega, by omega, by show f + 1 + cntG (depB m j al) (i + 1) (n - (i + 1)) = _; omega⟩)
          | (have hw : (depB m j al) i = false := by
              unfold depB
              first
              | (rw [c33, if_pos rfl, decide_eq_false_iff_not]; omega)
              | (rw [c33, if_neg Bool.false_ne_true]; exact beq_eq_false_iff_ne.mpr c62)
             rw [hw, if_neg Bool.false_ne_true, Nat.zero_add] at i3
             exact ih23 (i + 1, f) (by show n - (i + 1) < n - i; omega) ⟨by omega, by omega, by omega, i3⟩)
        · refine v_iconst (v := nI 1) C dX5_dependents_65 (by decide) ?_
          refine v_goto C 70 dX5_dependents_66 (by decide) ?_
          refine v_istore C (lo2 := [some _, some _, some _, some _, some _, some _, some _]) dX5_dependents_70 rfl (Nat.le_of_ble_eq_true rfl) rfl ?_
          refine v_iload C dX5_dependents_72 rfl ?_
          refine v_if_eq C 80 dX5_dependents_74 (by decide) (fun c => absurd c (by decide)) (fun c74 => ?_)
          first | refine v_iinc1 C (lo2 := [some _, some _, some _, some _, some _, some _, some _]) dX5_dependents_77 rfl rfl rfl ?_ | refine v_iinc C (lo2 := [some _, some _, some _, some _, some _, some _, some _]) dX5_dependents_77 rfl rfl rfl rfl ?_
          first | refine v_iinc1 C (lo2 := [some _, some _, some _, some _, some _, some _, some _]) dX5_dependents_80 rfl rfl rfl ?_ | refine v_iinc C (lo2 := [some _, some _, some _, some _, some _, some _, some _]) dX5_dependents_80 rfl rfl rfl rfl ?_
          refine v_goto C 23 dX5_dependents_83 (by decide) ?_
          refine V.sub (lo2 := [some _, some _, some _, some _, some _, some _, none]) ⟨rfl, rfl, rfl, rfl, rfl, rfl, trivial⟩ ?_
          have hib : i < n := by omega
          rw [cntG_s hib] at i3
          first
          | (have hw : (depB m j al) i = true := by
              unfold depB
              first
              | (rw [c33, if_pos rfl, decide_eq_true_eq]; omega)
              | (rw [c33, if_neg Bool.false_ne_true]; exact beq_iff_eq.mpr c62)
             rw [hw, if_pos rfl] at i3
             exact ih23 (i + 1, f + 1) (by show n - (i + 1) < n - i; omega) ⟨by omega, by omega, by omega, by show f + 1 + cntG (depB m j al) (i + 1) (n - (i + 1)) = _; omega⟩)
          | (have hw : (depB m j al) i = false := by
              unfold depB
              first
              | (rw [c33, if_pos rfl, decide_eq_false_iff_not]; omega)
              | (rw [c33, if_neg Bool.false_ne_true]; exact beq_eq_false_iff_ne.mpr c62)
             rw [hw, if_neg Bool.false_ne_true, Nat.zero_add] at i3
             exact ih23 (i + 1, f) (by show n - (i + 1) < n - i; omega) ⟨by omega, by omega, by omega, i3⟩)
      · refine v_aload_n C dX5_dependents_36 rfl ?_
        refine v_iload C dX5_dependents_37 rfl ?_
        refine v_iload_n C dX5_dependents_39 rfl ?_
        refine v_callVi C (c_X2_hopsBetween hl hI (show i < n by omega) hj_j) ym_X2_hopsBetween ml_X5_137 emb_c_lm rfl rfl rfl rfl rfl dX5_dependents_40 (Nat.le_of_ble_eq_true rfl) (Nat.le_of_ble_eq_true rfl) (Nat.le_of_ble_eq_true rfl) (Nat.le_of_ble_eq_true rfl) (fun _ _ hu => hu.elim) (fun r u hu => ?_)
        obtain ⟨rfl, hu⟩ := hu
        subst u
        refine V.stt (g2 := ((s, m), (sT, mT), rr, hh, sl, tx)) (rfl) ?_
        refine v_if_le C 50 dX5_dependents_43 (by decide) (fun c43 => ?_) (fun c43 => ?_)
        · refine v_iconst (v := nI 0) C dX5_dependents_50 (by decide) ?_
          refine v_goto C 70 dX5_dependents_51 (by decide) ?_
          refine v_istore C (lo2 := [some _, some _, some _, some _, some _, some _, some _]) dX5_dependents_70 rfl (Nat.le_of_ble_eq_true rfl) rfl ?_
          refine v_iload C dX5_dependents_72 rfl ?_
          refine v_if_eq C 80 dX5_dependents_74 (by decide) (fun c74 => ?_) (fun c => absurd c (by decide))
          first | refine v_iinc1 C (lo2 := [some _, some _, some _, some _, some _, some _, some _]) dX5_dependents_80 rfl rfl rfl ?_ | refine v_iinc C (lo2 := [some _, some _, some _, some _, some _, some _, some _]) dX5_dependents_80 rfl rfl rfl rfl ?_
          refine v_goto C 23 dX5_dependents_83 (by decide) ?_
          refine V.sub (lo2 := [some _, some _, some _, some _, some _, some _, none]) ⟨rfl, rfl, rfl, rfl, rfl, rfl, trivial⟩ ?_
          have hib : i < n := by omega
          rw [cntG_s hib] at i3
          first
          | (have hw : (depB m j al) i = true := by
              unfold depB
              first
              | (rw [c33, if_pos rfl, decide_eq_true_eq]; omega)
              | (rw [c33, if_neg Bool.false_ne_true]; exact beq_iff_eq.mpr c62)
             rw [hw, if_pos rfl] at i3
             exact ih23 (i + 1, f + 1) (by show n - (i + 1) < n - i; omega) ⟨by omega, by omega, by omega, by show f + 1 + cntG (depB m j al) (i + 1) (n - (i + 1)) = _; omega⟩)
          | (have hw : (depB m j al) i = false := by
              unfold depB
              first
              | (rw [c33, if_pos rfl, decide_eq_false_iff_not]; omega)
              | (rw [c33, if_neg Bool.false_ne_true]; exact beq_eq_false_iff_ne.mpr c62)
             rw [hw, if_neg Bool.false_ne_true, Nat.zero_add] at i3
             exact ih23 (i + 1, f) (by show n - (i + 1) < n - i; omega) ⟨by omega, by omega, by omega, i3⟩)
        · refine v_iconst (v := nI 1) C dX5_dependents_46 (by decide) ?_
          refine v_goto C 70 dX5_dependents_47 (by decide) ?_
          refine v_istore C (lo2 := [some _, some _, some _, some _, some _, some _, some _]) dX5_dependents_70 rfl (Nat.le_of_ble_eq_true rfl) rfl ?_
          refine v_iload C dX5_dependents_72 rfl ?_
          refine v_if_eq C 80 dX5_dependents_74 (by decide) (fun c => absurd c (by decide)) (fun c74 => ?_)
          first | refine v_iinc1 C (lo2 := [some _, some _, some _, some _, some _, some _, some _]) dX5_dependents_77 rfl rfl rfl ?_ | refine v_iinc C (lo2 := [some _, some _, some _, some _, some _, some _, some _]) dX5_dependents_77 rfl rfl rfl rfl ?_
          first | refine v_iinc1 C (lo2 := [some _, some _, some _, some _, some _, some _, some _]) dX5_dependents_80 rfl rfl rfl ?_ | refine v_iinc C (lo2 := [some _, some _, some _, some _, some _, some _, some _]) dX5_dependents_80 rfl rfl rfl rfl ?_
          refine v_goto C 23 dX5_dependents_83 (by decide) ?_
          refine V.sub (lo2 := [some _, some _, some _, some _, some _, some _, none]) ⟨rfl, rfl, rfl, rfl, rfl, rfl, trivial⟩ ?_
          have hib : i < n := by omega
          rw [cntG_s hib] at i3
          first
          | (have hw : (depB m j al) i = true := by
              unfold depB
              first
              | (rw [c33, if_pos rfl, decide_eq_true_eq]; omega)
              | (rw [c33, if_neg Bool.false_ne_true]; exact beq_iff_eq.mpr c62)
             rw [hw, if_pos rfl] at i3
             exact ih23 (i + 1, f + 1) (by show n - (i + 1) < n - i; omega) ⟨by omega, by omega, by omega, by show f + 1 + cntG (depB m j al) (i + 1) (n - (i + 1)) = _; omega⟩)
          | (have hw : (depB m j al) i = false := by
              unfold depB
              first
              | (rw [c33, if_pos rfl, decide_eq_false_iff_not]; omega)
              | (rw [c33, if_neg Bool.false_ne_true]; exact beq_eq_false_iff_ne.mpr c62)
             rw [hw, if_neg Bool.false_ne_true, Nat.zero_add] at i3
             exact ih23 (i + 1, f) (by show n - (i + 1) < n - i; omega) ⟨by omega, by omega, by omega, i3⟩)
  refine V.wid (k2 := 5) (n2 := 30) (Nat.le_of_ble_eq_true rfl) (Nat.le_of_ble_eq_true rfl) ?_
  exact L23 (0, 0) ⟨Nat.le_refl _, by omega, by omega, Nat.zero_add _⟩
set_option maxHeartbeats 16000000 in
theorem c_X5_owed {l : Launch} (hl : l.stackTraces = false) {κ : Kp} {h : Nat → Nat} {s sT : G} {m mT : Mg} {rr : Rg} {hh : Hg} {sl : Nat → Mg} {tx : G} {n c : Nat} (hW : WM n c m) : Ct SS MM l κ yX5_owed cX5_owed 1 (some FieldType.int) 2 6 36 [.ref (h 0)] (cS κ h) ((s, m), (sT, mT), rr, hh, sl, tx) ri (fun r u => (cdL [(decide (n = 0), 1)] = 0 ∧ r = nI (cntG (owb m) 0 n)) ∧ ROp m rr hh sl tx u) (fun e u => ThU e (cdL [(decide (n = 0), 1)]) ∧ ROp m rr hh sl tx u) := by
  refine Ct.of (own := RX5) (by decide) rfl hl (by intro v hv; simp only [List.mem_cons, List.not_mem_nil, or_false] at hv; first | (rcases hv with rfl | rfl | rfl | rfl | rfl | rfl <;> rfl) | (rcases hv with rfl | rfl | rfl | rfl | rfl <;> rfl) | (rcases hv with rfl | rfl | rfl | rfl <;> rfl) | (rcases hv with rfl | rfl | rfl <;> rfl) | (rcases hv with rfl | rfl <;> rfl) | (subst hv; rfl) | exact hv.elim) (Nat.le_of_ble_eq_true rfl) (fun X hxl hxk C F N => ?_)
  subst hxl hxk
  show V X (cS (xK X) h) 0 [some (.ref (h 0))] [] ((s, m), (sT, mT), rr, hh, sl, tx) 0 0
  obtain ⟨h96, hn, hMf⟩ := id hW
  refine v_aload_n C dX5_owed_0 rfl ?_
  refine v_callVv C (c_X5_needMemory hl hn h96) ym_X5_needMemory ml_X5_100 emb_id_cS rfl rfl rfl rfl rfl dX5_owed_1 (Nat.le_of_ble_eq_true rfl) (Nat.le_of_ble_eq_true rfl) (Nat.le_of_ble_eq_true rfl) (Nat.le_of_ble_eq_true rfl) (fun e u hu => v_out C N F (Nat.le_of_ble_eq_true rfl) (Nat.le_of_ble_eq_true rfl) ?_) (fun r u hu => ?_)
  · obtain ⟨rfl, hz, rfl⟩ := hu
    exact ⟨by simp [ThU, cdL, hz], _, _, rfl⟩
  obtain ⟨hn0, hu⟩ := hu
  subst u
  have hMI := hMf hn0
  obtain ⟨hI, hE, hLK, hn1, hSB, hBY, hPR⟩ := id hMI
  have hbd := band_ok hSB
  refine V.stt (g2 := ((s, m), (sT, mT), rr, hh, sl, tx)) (rfl) ?_
  refine v_aload_n C dX5_owed_4 rfl ?_
  refine v_getr C fl_X5_10 or_cS_0_0 dX5_owed_5 ?_
  refine v_getr C fl_X5_74 or_cS_1_0 dX5_owed_8 ?_
  refine v_callVi C (c_X2_countOwed hl hn h96) ym_X2_countOwed ml_X5_141 emb_c_lm rfl rfl rfl rfl rfl dX5_owed_11 (Nat.le_of_ble_eq_true rfl) (Nat.le_of_ble_eq_true rfl) (Nat.le_of_ble_eq_true rfl) (Nat.le_of_ble_eq_true rfl) (fun _ _ hu => hu.elim) (fun r u hu => ?_)
  obtain ⟨rfl, hu⟩ := hu
  subst u
  refine V.stt (g2 := ((s, m), (sT, mT), rr, hh, sl, tx)) (rfl) ?_
  refine v_iret C F (by first | rfl | exact bI_nar _) dX5_owed_14 (Nat.le_of_ble_eq_true rfl) (Nat.le_of_ble_eq_true rfl) ?_
  exact ⟨⟨by simp [cdL, hn0], rfl⟩, _, _, rfl⟩
set_option maxHeartbeats 16000000 in
theorem c_X5_owedIn {l : Launch} (hl : l.stackTraces = false) {κ : Kp} {h : Nat → Nat} {s sT : G} {m mT : Mg} {rr : Rg} {hh : Hg} {sl : Nat → Mg} {tx : G} {n c : Nat} {a b : Int32} (hW : WM n c m) : Ct SS MM l κ yX5_owedIn cX5_owedIn 3 (some FieldType.int) 3 6 36 [.ref (h 0), .int a, .int b] (cS κ h) ((s, m), (sT, mT), rr, hh, sl, tx) ri (fun r u => (cdL [(decide (n = 0), 1), (!plB n a, 2), (!plB n b, 2), (decide (b.toInt < a.toInt), 3)] = 0 ∧ r = nI (cntG (owb m) (tN a) (tN b + 1 - tN a))) ∧ ROp m rr hh sl tx u) (fun e u => Th3 e (cdL [(decide (n = 0), 1), (!plB n a, 2), (!plB n b, 2), (decide (b.toInt < a.toInt), 3)]) ∧ ROp m rr hh sl tx u) := by
  refine Ct.of (own := RX5) (by decide) rfl hl (by intro v hv; simp only [List.mem_cons, List.not_mem_nil, or_false] at hv; first | (rcases hv with rfl | rfl | rfl | rfl | rfl | rfl <;> rfl) | (rcases hv with rfl | rfl | rfl | rfl | rfl <;> rfl) | (rcases hv with rfl | rfl | rfl | rfl <;> rfl) | (rcases hv with rfl | rfl | rfl <;> rfl) | (rcases hv with rfl | rfl <;> rfl) | (subst hv; rfl) | exact hv.elim) (Nat.le_of_ble_eq_true rfl) (fun X hxl hxk C F N => ?_)
  subst hxl hxk
  show V X (cS (xK X) h) 0 [some (.ref (h 0)), some (.int a), some (.int b)] [] ((s, m), (sT, mT), rr, hh, sl, tx) 0 0
  obtain ⟨h96, hn, hMf⟩ := id hW
  refine v_aload_n C dX5_owedIn_0 rfl ?_
  refine v_callVv C (c_X5_needMemory hl hn h96) ym_X5_needMemory ml_X5_100 emb_id_cS rfl rfl rfl rfl rfl dX5_owedIn_1 (Nat.le_of_ble_eq_true rfl) (Nat.le_of_ble_eq_true rfl) (Nat.le_of_ble_eq_true rfl) (Nat.le_of_ble_eq_true rfl) (fun e u hu => v_out C N F (Nat.le_of_ble_eq_true rfl) (Nat.le_of_ble_eq_true rfl) ?_) (fun r u hu => ?_)
  · obtain ⟨rfl, hz, rfl⟩ := hu
    exact ⟨by simp [Th3, cdL, hz], _, _, rfl⟩
  obtain ⟨hn0, hu⟩ := hu
  subst u
  have hMI := hMf hn0
  obtain ⟨hI, hE, hLK, hn1, hSB, hBY, hPR⟩ := id hMI
  have hbd := band_ok hSB
  refine V.stt (g2 := ((s, m), (sT, mT), rr, hh, sl, tx)) (rfl) ?_
  refine v_aload_n C dX5_owedIn_4 rfl ?_
  refine v_iload_n C dX5_owedIn_5 rfl ?_
  refine v_iload_n C dX5_owedIn_6 rfl ?_
  refine v_callVv C (c_X5_needRow hl hn h96) ym_X5_needRow ml_X5_145 emb_id_cS rfl rfl rfl rfl rfl dX5_owedIn_7 (Nat.le_of_ble_eq_true rfl) (Nat.le_of_ble_eq_true rfl) (Nat.le_of_ble_eq_true rfl) (Nat.le_of_ble_eq_true rfl) (fun e u hu => v_out C N F (Nat.le_of_ble_eq_true rfl) (Nat.le_of_ble_eq_true rfl) ?_) (fun r u hu => ?_)
  · obtain ⟨hu, rfl⟩ := hu
    rcases hu with ⟨rfl, hz⟩ | ⟨rfl, hz1, hz2, hz3⟩
    · refine ⟨?_, _, _, rfl⟩
      cases hza : plB n a
      · simp [Th3, cdL, hn0, hza]
      · rw [hza] at hz
        simp only [Bool.not_true, Bool.false_or, Bool.not_eq_true'] at hz
        simp [Th3, cdL, hn0, hza, hz]
    · exact ⟨by simp [Th3, cdL, hn0, hz1, hz2, hz3], _, _, rfl⟩
  obtain ⟨hp_a, hp_b, hlt, hu⟩ := hu
  subst u
  obtain ⟨ja, hj_ja, e_ja⟩ := pl_at hp_a
  subst e_ja
  obtain ⟨jb, hj_jb, e_jb⟩ := pl_at hp_b
  subst e_jb
  have t_ja : tN (nI ja) = ja := tN_nI (by omega)
  have t_jb : tN (nI jb) = jb := tN_nI (by omega)
  have hle := hlt
  rw [nI_toInt (by omega), nI_toInt (by omega)] at hle
  have hle : ja ≤ jb := by omega
  refine V.stt (g2 := ((s, m), (sT, mT), rr, hh, sl, tx)) (rfl) ?_
  refine v_aload_n C dX5_owedIn_10 rfl ?_
  refine v_getr C fl_X5_10 or_cS_0_0 dX5_owedIn_11 ?_
  refine v_getr C fl_X5_74 or_cS_1_0 dX5_owedIn_14 ?_
  refine v_iload_n C dX5_owedIn_17 rfl ?_
  refine v_iload_n C dX5_owedIn_18 rfl ?_
  refine v_callVi C (c_X2_countOwedN hl (by omega) (by omega)) ym_X2_countOwedIn ml_X5_148 emb_c_lm rfl rfl rfl rfl rfl dX5_owedIn_19 (Nat.le_of_ble_eq_true rfl) (Nat.le_of_ble_eq_true rfl) (Nat.le_of_ble_eq_true rfl) (Nat.le_of_ble_eq_true rfl) (fun _ _ hu => hu.elim) (fun r u hu => ?_)
  obtain ⟨rfl, hu⟩ := hu
  subst u
  refine V.stt (g2 := ((s, m), (sT, mT), rr, hh, sl, tx)) (rfl) ?_
  refine v_iret C F (by first | rfl | exact bI_nar _) dX5_owedIn_22 (Nat.le_of_ble_eq_true rfl) (Nat.le_of_ble_eq_true rfl) ?_
  exact ⟨⟨by simp [cdL, hn0, hp_a, hp_b, hlt], by rw [t_ja, t_jb]⟩, _, _, rfl⟩
set_option maxHeartbeats 16000000 in
theorem c_X5_firstOwed {l : Launch} (hl : l.stackTraces = false) {κ : Kp} {h : Nat → Nat} {s sT : G} {m mT : Mg} {rr : Rg} {hh : Hg} {sl : Nat → Mg} {tx : G} {n c : Nat} {p : Int32} (hW : WM n c m) : Ct SS MM l κ yX5_firstOwed cX5_firstOwed 4 (some FieldType.int) 2 6 36 [.ref (h 0), .int p] (cS κ h) ((s, m), (sT, mT), rr, hh, sl, tx) ri (fun r u => (cdL [(decide (n = 0), 1), (!plB n p, 2)] = 0 ∧ r = oN (fstG (owb m) (tN p) (n - tN p))) ∧ ROp m rr hh sl tx u) (fun e u => Th3 e (cdL [(decide (n = 0), 1), (!plB n p, 2)]) ∧ ROp m rr hh sl tx u) := by
  refine Ct.of (own := RX5) (by decide) rfl hl (by intro v hv; simp only [List.mem_cons, List.not_mem_nil, or_false] at hv; first | (rcases hv with rfl | rfl | rfl | rfl | rfl | rfl <;> rfl) | (rcases hv with rfl | rfl | rfl | rfl | rfl <;> rfl) | (rcases hv with rfl | rfl | rfl | rfl <;> rfl) | (rcases hv with rfl | rfl | rfl <;> rfl) | (rcases hv with rfl | rfl <;> rfl) | (subst hv; rfl) | exact hv.elim) (Nat.le_of_ble_eq_true rfl) (fun X hxl hxk C F N => ?_)
  subst hxl hxk
  show V X (cS (xK X) h) 0 [some (.ref (h 0)), some (.int p), none, none] [] ((s, m), (sT, mT), rr, hh, sl, tx) 0 0
  obtain ⟨h96, hn, hMf⟩ := id hW
  refine v_aload_n C dX5_firstOwed_0 rfl ?_
  refine v_callVv C (c_X5_needMemory hl hn h96) ym_X5_needMemory ml_X5_100 emb_id_cS rfl rfl rfl rfl rfl dX5_firstOwed_1 (Nat.le_of_ble_eq_true rfl) (Nat.le_of_ble_eq_true rfl) (Nat.le_of_ble_eq_true rfl) (Nat.le_of_ble_eq_true rfl) (fun e u hu => v_out C N F (Nat.le_of_ble_eq_true rfl) (Nat.le_of_ble_eq_true rfl) ?_) (fun r u hu => ?_)
  · obtain ⟨rfl, hz, rfl⟩ := hu
    exact ⟨by simp [Th3, cdL, hz], _, _, rfl⟩
  obtain ⟨hn0, hu⟩ := hu
  subst u
  have hMI := hMf hn0
  obtain ⟨hI, hE, hLK, hn1, hSB, hBY, hPR⟩ := id hMI
  have hbd := band_ok hSB
  refine V.stt (g2 := ((s, m), (sT, mT), rr, hh, sl, tx)) (rfl) ?_
  refine v_aload_n C dX5_firstOwed_4 rfl ?_
  refine v_iload_n C dX5_firstOwed_5 rfl ?_
  refine v_callVv C (c_X5_needPlace hl hn h96) ym_X5_needPlace ml_X5_111 emb_id_cS rfl rfl rfl rfl rfl dX5_firstOwed_6 (Nat.le_of_ble_eq_true rfl) (Nat.le_of_ble_eq_true rfl) (Nat.le_of_ble_eq_true rfl) (Nat.le_of_ble_eq_true rfl) (fun e u hu => v_out C N F (Nat.le_of_ble_eq_true rfl) (Nat.le_of_ble_eq_true rfl) ?_) (fun r u hu => ?_)
  · obtain ⟨rfl, hz, rfl⟩ := hu
    exact ⟨by simp [Th3, cdL, hn0, hz], _, _, rfl⟩
  obtain ⟨hp_p, hu⟩ := hu
  subst u
  obtain ⟨j, hj_j, e_j⟩ := pl_at hp_p
  subst e_j
  have t_j : tN (nI j) = j := tN_nI (by omega)
  refine V.stt (g2 := ((s, m), (sT, mT), rr, hh, sl, tx)) (rfl) ?_
  refine v_aload_n C dX5_firstOwed_9 rfl ?_
  refine v_getr C fl_X5_10 or_cS_0_0 dX5_firstOwed_10 ?_
  refine v_getr C fl_X5_74 or_cS_1_0 dX5_firstOwed_13 ?_
  refine v_astore_n C (lo2 := [some _, some _, some _, none]) dX5_firstOwed_16 rfl (Nat.le_of_ble_eq_true rfl) rfl ?_
  refine v_iload_n C dX5_firstOwed_17 rfl ?_
  refine v_istore_n C (lo2 := [some _, some _, some _, some _]) dX5_firstOwed_18 rfl (Nat.le_of_ble_eq_true rfl) rfl ?_
  have L19 : ∀ (t : Nat), (fun t => j ≤ t ∧ t ≤ 200 ∧ fstG (owb m) t (n - t) = fstG (owb m) j (n - j)) t → (fun t : Nat => V X (cS (xK X) h) 19 [some (.ref (h 0)), some (.int (nI j)), some (.ref (h 5)), some (.int (nI t))] [] ((s, m), (sT, mT), rr, hh, sl, tx) 5 30) t := by
    refine v_ind (fun t : Nat => n - t) ?_
    rintro i ih19 hI19
    try dsimp only at hI19 ⊢
    obtain ⟨i1, i2, i3⟩ := hI19
    refine v_iload_n C dX5_firstOwed_19 rfl ?_
    refine v_aload_n C dX5_firstOwed_20 rfl ?_
    refine v_getiQ (x := nI n) C fl_X5_91 oi_cS_5_7 (hn) dX5_firstOwed_21 ?_
    first | refine v_icmp_geN C 43 dX5_firstOwed_24 (by decide) (by omega) (by omega) (fun c24 => ?_) (fun c24 => ?_) | refine v_icmp_ge C 43 dX5_firstOwed_24 (by decide) (fun c24 => ?_) (fun c24 => ?_)
    · refine v_iconst (v := (-1)) C dX5_firstOwed_43 (by decide) ?_
      refine v_iret C F (by first | rfl | exact bI_nar _) dX5_firstOwed_44 (Nat.le_of_ble_eq_true rfl) (Nat.le_of_ble_eq_true rfl) ?_
      rw [fstG_0 (by omega)] at i3
      exact ⟨⟨by simp [cdL, hn0, hp_p], by rw [t_j, ← i3]; rfl⟩, _, _, rfl⟩
    · refine v_aload_n C dX5_firstOwed_27 rfl ?_
      refine v_iload_n C dX5_firstOwed_28 rfl ?_
      refine v_callVi C (c_X2_owesN hl (n := n) hn h96 (by omega)) ym_X2_owes ml_X5_151 emb_c_lm rfl rfl rfl rfl rfl dX5_firstOwed_29 (Nat.le_of_ble_eq_true rfl) (Nat.le_of_ble_eq_true rfl) (Nat.le_of_ble_eq_true rfl) (Nat.le_of_ble_eq_true rfl) (fun _ _ hu => hu.elim) (fun r u hu => ?_)
      obtain ⟨rfl, hu⟩ := hu
      subst u
      refine V.stt (g2 := ((s, m), (sT, mT), rr, hh, sl, tx)) (rfl) ?_
      refine v_if_eqB C 37 dX5_firstOwed_32 (by decide) (fun c32 => ?_) (fun c32 => ?_)
      · first | refine v_iinc1 C (lo2 := [some _, some _, some _, some _]) dX5_firstOwed_37 rfl rfl rfl ?_ | refine v_iinc C (lo2 := [some _, some _, some _, some _]) dX5_firstOwed_37 rfl rfl rfl rfl ?_
        refine v_goto C 19 dX5_firstOwed_40 (by decide) ?_
        have hib : i < n := by omega
        have hf : (owb m) i = false := by
          exact c32
        rw [fstG_s hib, hf, if_neg Bool.false_ne_true] at i3
        exact ih19 (i + 1) (by show n - (i + 1) < n - i; omega) ⟨by omega, by omega, i3⟩
      · refine v_iload_n C dX5_firstOwed_35 rfl ?_
        refine v_iret C F (by first | rfl | exact bI_nar _) dX5_firstOwed_36 (Nat.le_of_ble_eq_true rfl) (Nat.le_of_ble_eq_true rfl) ?_
        have hib : i < n := by omega
        have hf : (owb m) i = true := by
          exact c32
        rw [fstG_s hib, hf, if_pos rfl] at i3
        exact ⟨⟨by simp [cdL, hn0, hp_p], by rw [t_j, ← i3]; rfl⟩, _, _, rfl⟩
  refine V.wid (k2 := 5) (n2 := 30) (Nat.le_of_ble_eq_true rfl) (Nat.le_of_ble_eq_true rfl) ?_
  exact L19 (j) ⟨Nat.le_refl _, by omega, rfl⟩
set_option maxHeartbeats 16000000 in
theorem c_X5_debts {l : Launch} (hl : l.stackTraces = false) {κ : Kp} {h : Nat → Nat} {s sT : G} {m mT : Mg} {rr : Rg} {hh : Hg} {sl : Nat → Mg} {tx : G} {n c : Nat} (hW : WM n c m) : Ct SS MM l κ yX5_debts cX5_debts 4 (some FieldType.int) 3 6 36 [.ref (h 0)] (cS κ h) ((s, m), (sT, mT), rr, hh, sl, tx) ri (fun r u => (cdL [(decide (n = 0), 1)] = 0 ∧ r = nI (cntG (startM m) 0 n)) ∧ ROp m rr hh sl tx u) (fun e u => ThU e (cdL [(decide (n = 0), 1)]) ∧ ROp m rr hh sl tx u) := by
  refine Ct.of (own := RX5) (by decide) rfl hl (by intro v hv; simp only [List.mem_cons, List.not_mem_nil, or_false] at hv; first | (rcases hv with rfl | rfl | rfl | rfl | rfl | rfl <;> rfl) | (rcases hv with rfl | rfl | rfl | rfl | rfl <;> rfl) | (rcases hv with rfl | rfl | rfl | rfl <;> rfl) | (rcases hv with rfl | rfl | rfl <;> rfl) | (rcases hv with rfl | rfl <;> rfl) | (subst hv; rfl) | exact hv.elim) (Nat.le_of_ble_eq_true rfl) (fun X hxl hxk C F N => ?_)
  subst hxl hxk
  show V X (cS (xK X) h) 0 [some (.ref (h 0)), none, none, none] [] ((s, m), (sT, mT), rr, hh, sl, tx) 0 0
  obtain ⟨h96, hn, hMf⟩ := id hW
  refine v_aload_n C dX5_debts_0 rfl ?_
  refine v_callVv C (c_X5_needMemory hl hn h96) ym_X5_needMemory ml_X5_100 emb_id_cS rfl rfl rfl rfl rfl dX5_debts_1 (Nat.le_of_ble_eq_true rfl) (Nat.le_of_ble_eq_true rfl) (Nat.le_of_ble_eq_true rfl) (Nat.le_of_ble_eq_true rfl) (fun e u hu => v_out C N F (Nat.le_of_ble_eq_true rfl) (Nat.le_of_ble_eq_true rfl) ?_) (fun r u hu => ?_)
  · obtain ⟨rfl, hz, rfl⟩ := hu
    exact ⟨by simp [ThU, cdL, hz], _, _, rfl⟩
  obtain ⟨hn0, hu⟩ := hu
  subst u
  have hMI := hMf hn0
  obtain ⟨hI, hE, hLK, hn1, hSB, hBY, hPR⟩ := id hMI
  have hbd := band_ok hSB
  refine V.stt (g2 := ((s, m), (sT, mT), rr, hh, sl, tx)) (rfl) ?_
  refine v_aload_n C dX5_debts_4 rfl ?_
  refine v_getr C fl_X5_10 or_cS_0_0 dX5_debts_5 ?_
  refine v_getr C fl_X5_74 or_cS_1_0 dX5_debts_8 ?_
  refine v_astore_n C (lo2 := [some _, some _, none, none]) dX5_debts_11 rfl (Nat.le_of_ble_eq_true rfl) rfl ?_
  refine v_iconst (v := nI 0) C dX5_debts_12 (by decide) ?_
  refine v_istore_n C (lo2 := [some _, some _, some _, none]) dX5_debts_13 rfl (Nat.le_of_ble_eq_true rfl) rfl ?_
  refine v_iconst (v := nI 0) C dX5_debts_14 (by decide) ?_
  refine v_istore_n C (lo2 := [some _, some _, some _, some _]) dX5_debts_15 rfl (Nat.le_of_ble_eq_true rfl) rfl ?_
  have L16 : ∀ (t : Nat × Nat), (fun t => 0 ≤ t.1 ∧ t.1 ≤ 200 ∧ t.2 ≤ t.1 ∧ t.2 + cntG (startM m) t.1 (n - t.1) = cntG (startM m) 0 n) t → (fun t : Nat × Nat => V X (cS (xK X) h) 16 [some (.ref (h 0)), some (.ref (h 5)), some (.int (nI t.2)), some (.int (nI t.1))] [] ((s, m), (sT, mT), rr, hh, sl, tx) 5 30) t := by
    refine v_ind (fun t : Nat × Nat => n - t.1) ?_
    rintro ⟨i, f⟩ ih16 hI16
    try dsimp only at hI16 ⊢
    obtain ⟨i1, i2, i4, i3⟩ := hI16
    refine v_iload_n C dX5_debts_16 rfl ?_
    refine v_aload_n C dX5_debts_17 rfl ?_
    refine v_getiQ (x := nI n) C fl_X5_91 oi_cS_5_7 (hn) dX5_debts_18 ?_
    first | refine v_icmp_geN C 41 dX5_debts_21 (by decide) (by omega) (by omega) (fun c21 => ?_) (fun c21 => ?_) | refine v_icmp_ge C 41 dX5_debts_21 (by decide) (fun c21 => ?_) (fun c21 => ?_)
    · refine v_iload_n C dX5_debts_41 rfl ?_
      refine v_iret C F (by first | rfl | exact bI_nar _) dX5_debts_42 (Nat.le_of_ble_eq_true rfl) (Nat.le_of_ble_eq_true rfl) ?_
      rw [cntG_0 (by omega), Nat.add_zero] at i3
      exact ⟨⟨by simp [cdL, hn0], by rw [← i3]⟩, _, _, rfl⟩
    · refine v_aload_n C dX5_debts_24 rfl ?_
      refine v_iload_n C dX5_debts_25 rfl ?_
      refine v_callVi C (c_X2_startsDebt hl (n := n) hn h96 (by omega)) ym_X2_startsDebt ml_X5_154 emb_c_lm rfl rfl rfl rfl rfl dX5_debts_26 (Nat.le_of_ble_eq_true rfl) (Nat.le_of_ble_eq_true rfl) (Nat.le_of_ble_eq_true rfl) (Nat.le_of_ble_eq_true rfl) (fun _ _ hu => hu.elim) (fun r u hu => ?_)
      obtain ⟨rfl, hu⟩ := hu
      subst u
      refine V.stt (g2 := ((s, m), (sT, mT), rr, hh, sl, tx)) (rfl) ?_
      refine v_if_eqB C 35 dX5_debts_29 (by decide) (fun c29 => ?_) (fun c29 => ?_)
      · first | refine v_iinc1 C (lo2 := [some _, some _, some _, some _]) dX5_debts_35 rfl rfl rfl ?_ | refine v_iinc C (lo2 := [some _, some _, some _, some _]) dX5_debts_35 rfl rfl rfl rfl ?_
        refine v_goto C 16 dX5_debts_38 (by decide) ?_
        have hib : i < n := by omega
        rw [cntG_s hib] at i3
        first
        | (have hw : (startM m) i = true := by
            exact c29
           rw [hw, if_pos rfl] at i3
           exact ih16 (i + 1, f + 1) (by show n - (i + 1) < n - i; omega) ⟨by omega, by omega, by omega, by show f + 1 + cntG (startM m) (i + 1) (n - (i + 1)) = _; omega⟩)
        | (have hw : (startM m) i = false := by
            exact c29
           rw [hw, if_neg Bool.false_ne_true, Nat.zero_add] at i3
           exact ih16 (i + 1, f) (by show n - (i + 1) < n - i; omega) ⟨by omega, by omega, by omega, i3⟩)
      · first | refine v_iinc1 C (lo2 := [some _, some _, some _, some _]) dX5_debts_32 rfl rfl rfl ?_ | refine v_iinc C (lo2 := [some _, some _, some _, some _]) dX5_debts_32 rfl rfl rfl rfl ?_
        first | refine v_iinc1 C (lo2 := [some _, some _, some _, some _]) dX5_debts_35 rfl rfl rfl ?_ | refine v_iinc C (lo2 := [some _, some _, some _, some _]) dX5_debts_35 rfl rfl rfl rfl ?_
        refine v_goto C 16 dX5_debts_38 (by decide) ?_
        have hib : i < n := by omega
        rw [cntG_s hib] at i3
        first
        | (have hw : (startM m) i = true := by
            exact c29
           rw [hw, if_pos rfl] at i3
           exact ih16 (i + 1, f + 1) (by show n - (i + 1) < n - i; omega) ⟨by omega, by omega, by omega, by show f + 1 + cntG (startM m) (i + 1) (n - (i + 1)) = _; omega⟩)
        | (have hw : (startM m) i = false := by
            exact c29
           rw [hw, if_neg Bool.false_ne_true, Nat.zero_add] at i3
           exact ih16 (i + 1, f) (by show n - (i + 1) < n - i; omega) ⟨by omega, by omega, by omega, i3⟩)
  refine V.wid (k2 := 5) (n2 := 30) (Nat.le_of_ble_eq_true rfl) (Nat.le_of_ble_eq_true rfl) ?_
  exact L16 (0, 0) ⟨Nat.le_refl _, by omega, by omega, Nat.zero_add _⟩
set_option maxHeartbeats 16000000 in
theorem c_X5_creditors {l : Launch} (hl : l.stackTraces = false) {κ : Kp} {h : Nat → Nat} {s sT : G} {m mT : Mg} {rr : Rg} {hh : Hg} {sl : Nat → Mg} {tx : G} {n c : Nat} (hW : WM n c m) : Ct SS MM l κ yX5_creditors cX5_creditors 4 (some FieldType.int) 1 6 36 [.ref (h 0)] (cS κ h) ((s, m), (sT, mT), rr, hh, sl, tx) ri (fun r u => (cdL [(decide (n = 0), 1)] = 0 ∧ r = nI (cntG (crdB m n) 0 n)) ∧ ROp m rr hh sl tx u) (fun e u => ThU e (cdL [(decide (n = 0), 1)]) ∧ ROp m rr hh sl tx u) := by
  refine Ct.of (own := RX5) (by decide) rfl hl (by intro v hv; simp only [List.mem_cons, List.not_mem_nil, or_false] at hv; first | (rcases hv with rfl | rfl | rfl | rfl | rfl | rfl <;> rfl) | (rcases hv with rfl | rfl | rfl | rfl | rfl <;> rfl) | (rcases hv with rfl | rfl | rfl | rfl <;> rfl) | (rcases hv with rfl | rfl | rfl <;> rfl) | (rcases hv with rfl | rfl <;> rfl) | (subst hv; rfl) | exact hv.elim) (Nat.le_of_ble_eq_true rfl) (fun X hxl hxk C F N => ?_)
  subst hxl hxk
  show V X (cS (xK X) h) 0 [some (.ref (h 0)), none, none, none] [] ((s, m), (sT, mT), rr, hh, sl, tx) 0 0
  obtain ⟨h96, hn, hMf⟩ := id hW
  refine v_aload_n C dX5_creditors_0 rfl ?_
  refine v_callVv C (c_X5_needMemory hl hn h96) ym_X5_needMemory ml_X5_100 emb_id_cS rfl rfl rfl rfl rfl dX5_creditors_1 (Nat.le_of_ble_eq_true rfl) (Nat.le_of_ble_eq_true rfl) (Nat.le_of_ble_eq_true rfl) (Nat.le_of_ble_eq_true rfl) (fun e u hu => v_out C N F (Nat.le_of_ble_eq_true rfl) (Nat.le_of_ble_eq_true rfl) ?_) (fun r u hu => ?_)
  · obtain ⟨rfl, hz, rfl⟩ := hu
    exact ⟨by simp [ThU, cdL, hz], _, _, rfl⟩
  obtain ⟨hn0, hu⟩ := hu
  subst u
  have hMI := hMf hn0
  obtain ⟨hI, hE, hLK, hn1, hSB, hBY, hPR⟩ := id hMI
  have hbd := band_ok hSB
  refine V.stt (g2 := ((s, m), (sT, mT), rr, hh, sl, tx)) (rfl) ?_
  refine v_aload_n C dX5_creditors_4 rfl ?_
  refine v_getr C fl_X5_10 or_cS_0_0 dX5_creditors_5 ?_
  refine v_getr C fl_X5_74 or_cS_1_0 dX5_creditors_8 ?_
  refine v_astore_n C (lo2 := [some _, some _, none, none]) dX5_creditors_11 rfl (Nat.le_of_ble_eq_true rfl) rfl ?_
  refine v_iconst (v := nI 0) C dX5_creditors_12 (by decide) ?_
  refine v_istore_n C (lo2 := [some _, some _, some _, none]) dX5_creditors_13 rfl (Nat.le_of_ble_eq_true rfl) rfl ?_
  refine v_iconst (v := nI 0) C dX5_creditors_14 (by decide) ?_
  refine v_istore_n C (lo2 := [some _, some _, some _, some _]) dX5_creditors_15 rfl (Nat.le_of_ble_eq_true rfl) rfl ?_
  have L16 : ∀ (t : Nat × Nat), (fun t => 0 ≤ t.1 ∧ t.1 ≤ 200 ∧ t.2 ≤ t.1 ∧ t.2 + cntG (crdB m n) t.1 (n - t.1) = cntG (crdB m n) 0 n) t → (fun t : Nat × Nat => V X (cS (xK X) h) 16 [some (.ref (h 0)), some (.ref (h 5)), some (.int (nI t.2)), some (.int (nI t.1))] [] ((s, m), (sT, mT), rr, hh, sl, tx) 5 30) t := by
    refine v_ind (fun t : Nat × Nat => n - t.1) ?_
    rintro ⟨i, f⟩ ih16 hI16
    try dsimp only at hI16 ⊢
    obtain ⟨i1, i2, i4, i3⟩ := hI16
    refine v_iload_n C dX5_creditors_16 rfl ?_
    refine v_aload_n C dX5_creditors_17 rfl ?_
    refine v_getiQ (x := nI n) C fl_X5_91 oi_cS_5_7 (hn) dX5_creditors_18 ?_
    first | refine v_icmp_geN C 41 dX5_creditors_21 (by decide) (by omega) (by omega) (fun c21 => ?_) (fun c21 => ?_) | refine v_icmp_ge C 41 dX5_creditors_21 (by decide) (fun c21 => ?_) (fun c21 => ?_)
    · refine v_iload_n C dX5_creditors_41 rfl ?_
      refine v_iret C F (by first | rfl | exact bI_nar _) dX5_creditors_42 (Nat.le_of_ble_eq_true rfl) (Nat.le_of_ble_eq_true rfl) ?_
      rw [cntG_0 (by omega), Nat.add_zero] at i3
      exact ⟨⟨by simp [cdL, hn0], by rw [← i3]⟩, _, _, rfl⟩
    · refine v_aload_n C dX5_creditors_24 rfl ?_
      refine v_iload_n C dX5_creditors_25 rfl ?_
      refine v_callVi C (c_X2_isSource hl (n := n) hn h96) ym_X2_isSource ml_X5_170 emb_c_lm rfl rfl rfl rfl rfl dX5_creditors_26 (Nat.le_of_ble_eq_true rfl) (Nat.le_of_ble_eq_true rfl) (Nat.le_of_ble_eq_true rfl) (Nat.le_of_ble_eq_true rfl) (fun _ _ hu => hu.elim) (fun r u hu => ?_)
      obtain ⟨rfl, hu⟩ := hu
      subst u
      refine V.stt (g2 := ((s, m), (sT, mT), rr, hh, sl, tx)) (rfl) ?_
      refine v_if_eqB C 35 dX5_creditors_29 (by decide) (fun c29 => ?_) (fun c29 => ?_)
      · first | refine v_iinc1 C (lo2 := [some _, some _, some _, some _]) dX5_creditors_35 rfl rfl rfl ?_ | refine v_iinc C (lo2 := [some _, some _, some _, some _]) dX5_creditors_35 rfl rfl rfl rfl ?_
        refine v_goto C 16 dX5_creditors_38 (by decide) ?_
        have hib : i < n := by omega
        rw [cntG_s hib] at i3
        first
        | (have hw : (crdB m n) i = true := by
            exact c29
           rw [hw, if_pos rfl] at i3
           exact ih16 (i + 1, f + 1) (by show n - (i + 1) < n - i; omega) ⟨by omega, by omega, by omega, by show f + 1 + cntG (crdB m n) (i + 1) (n - (i + 1)) = _; omega⟩)
        | (have hw : (crdB m n) i = false := by
            exact c29
           rw [hw, if_neg Bool.false_ne_true, Nat.zero_add] at i3
           exact ih16 (i + 1, f) (by show n - (i + 1) < n - i; omega) ⟨by omega, by omega, by omega, i3⟩)
      · first | refine v_iinc1 C (lo2 := [some _, some _, some _, some _]) dX5_creditors_32 rfl rfl rfl ?_ | refine v_iinc C (lo2 := [some _, some _, some _, some _]) dX5_creditors_32 rfl rfl rfl rfl ?_
        first | refine v_iinc1 C (lo2 := [some _, some _, some _, some _]) dX5_creditors_35 rfl rfl rfl ?_ | refine v_iinc C (lo2 := [some _, some _, some _, some _]) dX5_creditors_35 rfl rfl rfl rfl ?_
        refine v_goto C 16 dX5_creditors_38 (by decide) ?_
        have hib : i < n := by omega
        rw [cntG_s hib] at i3
        first
        | (have hw : (crdB m n) i = true := by
            exact c29
           rw [hw, if_pos rfl] at i3
           exact ih16 (i + 1, f + 1) (by show n - (i + 1) < n - i; omega) ⟨by omega, by omega, by omega, by show f + 1 + cntG (crdB m n) (i + 1) (n - (i + 1)) = _; omega⟩)
        | (have hw : (crdB m n) i = false := by
            exact c29
           rw [hw, if_neg Bool.false_ne_true, Nat.zero_add] at i3
           exact ih16 (i + 1, f) (by show n - (i + 1) < n - i; omega) ⟨by omega, by omega, by omega, i3⟩)
  refine V.wid (k2 := 5) (n2 := 30) (Nat.le_of_ble_eq_true rfl) (Nat.le_of_ble_eq_true rfl) ?_
  exact L16 (0, 0) ⟨Nat.le_refl _, by omega, by omega, Nat.zero_add _⟩
set_option maxHeartbeats 16000000 in
theorem c_X5_stale {l : Launch} (hl : l.stackTraces = false) {κ : Kp} {h : Nat → Nat} {s sT : G} {m mT : Mg} {rr : Rg} {hh : Hg} {sl : Nat → Mg} {tx : G} {n c : Nat} (hW : WM n c m) : Ct SS MM l κ yX5_stale cX5_stale 4 (some FieldType.int) 2 6 36 [.ref (h 0)] (cS κ h) ((s, m), (sT, mT), rr, hh, sl, tx) ri (fun r u => (cdL [(decide (n = 0), 1)] = 0 ∧ r = nI (cntG (stlB m) 0 n)) ∧ ROp m rr hh sl tx u) (fun e u => ThU e (cdL [(decide (n = 0), 1)]) ∧ ROp m rr hh sl tx u) := by
  refine Ct.of (own := RX5) (by decide) rfl hl (by intro v hv; simp only [List.mem_cons, List.not_mem_nil, or_false] at hv; first | (rcases hv with rfl | rfl | rfl | rfl | rfl | rfl <;> rfl) | (rcases hv with rfl | rfl | rfl | rfl | rfl <;> rfl) | (rcases hv with rfl | rfl | rfl | rfl <;> rfl) | (rcases hv with rfl | rfl | rfl <;> rfl) | (rcases hv with rfl | rfl <;> rfl) | (subst hv; rfl) | exact hv.elim) (Nat.le_of_ble_eq_true rfl) (fun X hxl hxk C F N => ?_)
  subst hxl hxk
  show V X (cS (xK X) h) 0 [some (.ref (h 0)), none, none, none] [] ((s, m), (sT, mT), rr, hh, sl, tx) 0 0
  obtain ⟨h96, hn, hMf⟩ := id hW
  refine v_aload_n C dX5_stale_0 rfl ?_
  refine v_callVv C (c_X5_needMemory hl hn h96) ym_X5_needMemory ml_X5_100 emb_id_cS rfl rfl rfl rfl rfl dX5_stale_1 (Nat.le_of_ble_eq_true rfl) (Nat.le_of_ble_eq_true rfl) (Nat.le_of_ble_eq_true rfl) (Nat.le_of_ble_eq_true rfl) (fun e u hu => v_out C N F (Nat.le_of_ble_eq_true rfl) (Nat.le_of_ble_eq_true rfl) ?_) (fun r u hu => ?_)
  · obtain ⟨rfl, hz, rfl⟩ := hu
    exact ⟨by simp [ThU, cdL, hz], _, _, rfl⟩
  obtain ⟨hn0, hu⟩ := hu
  subst u
  have hMI := hMf hn0
  obtain ⟨hI, hE, hLK, hn1, hSB, hBY, hPR⟩ := id hMI
  have hbd := band_ok hSB
  refine V.stt (g2 := ((s, m), (sT, mT), rr, hh, sl, tx)) (rfl) ?_
  refine v_aload_n C dX5_stale_4 rfl ?_
  refine v_getr C fl_X5_10 or_cS_0_0 dX5_stale_5 ?_
  refine v_getr C fl_X5_74 or_cS_1_0 dX5_stale_8 ?_
  refine v_astore_n C (lo2 := [some _, some _, none, none]) dX5_stale_11 rfl (Nat.le_of_ble_eq_true rfl) rfl ?_
  refine v_iconst (v := nI 0) C dX5_stale_12 (by decide) ?_
  refine v_istore_n C (lo2 := [some _, some _, some _, none]) dX5_stale_13 rfl (Nat.le_of_ble_eq_true rfl) rfl ?_
  refine v_iconst (v := nI 0) C dX5_stale_14 (by decide) ?_
  refine v_istore_n C (lo2 := [some _, some _, some _, some _]) dX5_stale_15 rfl (Nat.le_of_ble_eq_true rfl) rfl ?_
  have L16 : ∀ (t : Nat × Nat), (fun t => 0 ≤ t.1 ∧ t.1 ≤ 200 ∧ t.2 ≤ t.1 ∧ t.2 + cntG (stlB m) t.1 (n - t.1) = cntG (stlB m) 0 n) t → (fun t : Nat × Nat => V X (cS (xK X) h) 16 [some (.ref (h 0)), some (.ref (h 5)), some (.int (nI t.2)), some (.int (nI t.1))] [] ((s, m), (sT, mT), rr, hh, sl, tx) 5 30) t := by
    refine v_ind (fun t : Nat × Nat => n - t.1) ?_
    rintro ⟨i, f⟩ ih16 hI16
    try dsimp only at hI16 ⊢
    obtain ⟨i1, i2, i4, i3⟩ := hI16
    refine v_iload_n C dX5_stale_16 rfl ?_
    refine v_aload_n C dX5_stale_17 rfl ?_
    refine v_getiQ (x := nI n) C fl_X5_91 oi_cS_5_7 (hn) dX5_stale_18 ?_
    first | refine v_icmp_geN C 47 dX5_stale_21 (by decide) (by omega) (by omega) (fun c21 => ?_) (fun c21 => ?_) | refine v_icmp_ge C 47 dX5_stale_21 (by decide) (fun c21 => ?_) (fun c21 => ?_)
    · refine v_iload_n C dX5_stale_47 rfl ?_
      refine v_iret C F (by first | rfl | exact bI_nar _) dX5_stale_48 (Nat.le_of_ble_eq_true rfl) (Nat.le_of_ble_eq_true rfl) ?_
      rw [cntG_0 (by omega), Nat.add_zero] at i3
      exact ⟨⟨by simp [cdL, hn0], by rw [← i3]⟩, _, _, rfl⟩
    · refine v_aload_n C dX5_stale_24 rfl ?_
      refine v_getr C fl_X5_114 or_cS_5_0 dX5_stale_25 ?_
      refine v_iload_n C dX5_stale_28 rfl ?_
      refine v_iald C ar_cS_6 (by decide) _ ?_ rfl dX5_stale_29 ?_
      · omega
      refine v_aload_n C dX5_stale_30 rfl ?_
      refine v_iload_n C dX5_stale_31 rfl ?_
      refine v_callVi C (c_X2_valueOf hl (n := n) hI (by omega)) ym_X2_valueOf ml_X5_117 emb_c_lm rfl rfl rfl rfl rfl dX5_stale_32 (Nat.le_of_ble_eq_true rfl) (Nat.le_of_ble_eq_true rfl) (Nat.le_of_ble_eq_true rfl) (Nat.le_of_ble_eq_true rfl) (fun _ _ hu => hu.elim) (fun r u hu => ?_)
      obtain ⟨rfl, hu⟩ := hu
      subst u
      refine V.stt (g2 := ((s, m), (sT, mT), rr, hh, sl, tx)) (rfl) ?_
      refine v_icmp_eq C 41 dX5_stale_35 (by decide) (fun c35 => ?_) (fun c35 => ?_)
      · first | refine v_iinc1 C (lo2 := [some _, some _, some _, some _]) dX5_stale_41 rfl rfl rfl ?_ | refine v_iinc C (lo2 := [some _, some _, some _, some _]) dX5_stale_41 rfl rfl rfl rfl ?_
        refine v_goto C 16 dX5_stale_44 (by decide) ?_
        have hib : i < n := by omega
        rw [cntG_s hib] at i3
        first
        | (have hw : (stlB m) i = true := by
            show (!(m 1 i == valM m i)) = true
            rw [beq_eq_false_iff_ne.mpr c35]
            rfl
           rw [hw, if_pos rfl] at i3
           exact ih16 (i + 1, f + 1) (by show n - (i + 1) < n - i; omega) ⟨by omega, by omega, by omega, by show f + 1 + cntG (stlB m) (i + 1) (n - (i + 1)) = _; omega⟩)
        | (have hw : (stlB m) i = false := by
            show (!(m 1 i == valM m i)) = false
            rw [beq_iff_eq.mpr c35]
            rfl
           rw [hw, if_neg Bool.false_ne_true, Nat.zero_add] at i3
           exact ih16 (i + 1, f) (by show n - (i + 1) < n - i; omega) ⟨by omega, by omega, by omega, i3⟩)
      · first | refine v_iinc1 C (lo2 := [some _, some _, some _, some _]) dX5_stale_38 rfl rfl rfl ?_ | refine v_iinc C (lo2 := [some _, some _, some _, some _]) dX5_stale_38 rfl rfl rfl rfl ?_
        first | refine v_iinc1 C (lo2 := [some _, some _, some _, some _]) dX5_stale_41 rfl rfl rfl ?_ | refine v_iinc C (lo2 := [some _, some _, some _, some _]) dX5_stale_41 rfl rfl rfl rfl ?_
        refine v_goto C 16 dX5_stale_44 (by decide) ?_
        have hib : i < n := by omega
        rw [cntG_s hib] at i3
        first
        | (have hw : (stlB m) i = true := by
            show (!(m 1 i == valM m i)) = true
            rw [beq_eq_false_iff_ne.mpr c35]
            rfl
           rw [hw, if_pos rfl] at i3
           exact ih16 (i + 1, f + 1) (by show n - (i + 1) < n - i; omega) ⟨by omega, by omega, by omega, by show f + 1 + cntG (stlB m) (i + 1) (n - (i + 1)) = _; omega⟩)
        | (have hw : (stlB m) i = false := by
            show (!(m 1 i == valM m i)) = false
            rw [beq_iff_eq.mpr c35]
            rfl
           rw [hw, if_neg Bool.false_ne_true, Nat.zero_add] at i3
           exact ih16 (i + 1, f) (by show n - (i + 1) < n - i; omega) ⟨by omega, by omega, by omega, i3⟩)
  refine V.wid (k2 := 5) (n2 := 30) (Nat.le_of_ble_eq_true rfl) (Nat.le_of_ble_eq_true rfl) ?_
  exact L16 (0, 0) ⟨Nat.le_refl _, by omega, by omega, Nat.zero_add _⟩
set_option maxHeartbeats 16000000 in
theorem c_X5_debt {l : Launch} (hl : l.stackTraces = false) {κ : Kp} {h : Nat → Nat} {s sT : G} {m mT : Mg} {rr : Rg} {hh : Hg} {sl : Nat → Mg} {tx : G} {n c : Nat} {k w : Int32} (hW : WM n c m) : Ct SS MM l κ yX5_debt cX5_debt 5 (some FieldType.int) 4 6 36 [.ref (h 0), .int k, .int w] (cS κ h) ((s, m), (sT, mT), rr, hh, sl, tx) ri (fun r u => (cdL [(decide (n = 0), 1), ((kthG (startM m) 0 n k.toInt).isNone, 2), (!inB w 0 3, 3)] = 0 ∧ r = oV (kthG (startM m) 0 n k.toInt) 0 (fun f => debV m n f (tN w))) ∧ ROp m rr hh sl tx u) (fun e u => Th3 e (cdL [(decide (n = 0), 1), ((kthG (startM m) 0 n k.toInt).isNone, 2), (!inB w 0 3, 3)]) ∧ ROp m rr hh sl tx u) := by
  refine Ct.of (own := RX5) (by decide) rfl hl (by intro v hv; simp only [List.mem_cons, List.not_mem_nil, or_false] at hv; first | (rcases hv with rfl | rfl | rfl | rfl | rfl | rfl <;> rfl) | (rcases hv with rfl | rfl | rfl | rfl | rfl <;> rfl) | (rcases hv with rfl | rfl | rfl | rfl <;> rfl) | (rcases hv with rfl | rfl | rfl <;> rfl) | (rcases hv with rfl | rfl <;> rfl) | (subst hv; rfl) | exact hv.elim) (Nat.le_of_ble_eq_true rfl) (fun X hxl hxk C F N => ?_)
  subst hxl hxk
  show V X (cS (xK X) h) 0 [some (.ref (h 0)), some (.int k), some (.int w), none, none] [] ((s, m), (sT, mT), rr, hh, sl, tx) 0 0
  obtain ⟨h96, hn, hMf⟩ := id hW
  refine v_aload_n C dX5_debt_0 rfl ?_
  refine v_callVv C (c_X5_needMemory hl hn h96) ym_X5_needMemory ml_X5_100 emb_id_cS rfl rfl rfl rfl rfl dX5_debt_1 (Nat.le_of_ble_eq_true rfl) (Nat.le_of_ble_eq_true rfl) (Nat.le_of_ble_eq_true rfl) (Nat.le_of_ble_eq_true rfl) (fun e u hu => v_out C N F (Nat.le_of_ble_eq_true rfl) (Nat.le_of_ble_eq_true rfl) ?_) (fun r u hu => ?_)
  · obtain ⟨rfl, hz, rfl⟩ := hu
    exact ⟨by simp [Th3, cdL, hz], _, _, rfl⟩
  obtain ⟨hn0, hu⟩ := hu
  subst u
  have hMI := hMf hn0
  obtain ⟨hI, hE, hLK, hn1, hSB, hBY, hPR⟩ := id hMI
  have hbd := band_ok hSB
  refine V.stt (g2 := ((s, m), (sT, mT), rr, hh, sl, tx)) (rfl) ?_
  refine v_aload_n C dX5_debt_4 rfl ?_
  refine v_getr C fl_X5_10 or_cS_0_0 dX5_debt_5 ?_
  refine v_getr C fl_X5_74 or_cS_1_0 dX5_debt_8 ?_
  refine v_astore_n C (lo2 := [some _, some _, some _, some _, none]) dX5_debt_11 rfl (Nat.le_of_ble_eq_true rfl) rfl ?_
  refine v_aload_n C dX5_debt_12 rfl ?_
  refine v_iload_n C dX5_debt_13 rfl ?_
  refine v_callVi C (c_X2_firstOfDebt hl (n := n) hn h96) ym_X2_firstOfDebt ml_X5_157 emb_c_lm rfl rfl rfl rfl rfl dX5_debt_14 (Nat.le_of_ble_eq_true rfl) (Nat.le_of_ble_eq_true rfl) (Nat.le_of_ble_eq_true rfl) (Nat.le_of_ble_eq_true rfl) (fun _ _ hu => hu.elim) (fun r u hu => ?_)
  obtain ⟨rfl, hu⟩ := hu
  subst u
  refine V.stt (g2 := ((s, m), (sT, mT), rr, hh, sl, tx)) (rfl) ?_
  refine v_istore C (lo2 := [some _, some _, some _, some _, some _]) dX5_debt_17 rfl (Nat.le_of_ble_eq_true rfl) rfl ?_
  refine v_iload C dX5_debt_19 rfl ?_
  refine v_iconst (v := (-1)) C dX5_debt_21 (by decide) ?_
  refine v_icmp_ne C 35 dX5_debt_22 (by decide) (fun c22 => ?_) (fun c22 => ?_)
  · obtain ⟨q, hq⟩ := oN_some c22
    have hqb := kthG_some n 0 _ hq
    have eo : oN (kthG (startM m) 0 n k.toInt) = nI q := by rw [hq]; rfl
    rw [eo]
    refine v_iload_n C dX5_debt_35 rfl ?_
    rcases pol_cases w with rfl | rfl | rfl | rfl | ho
    · refine v_tableIn C 68 (off := 32) dX5_debt_36 (by decide) (by decide) rfl (by decide) ?_
      refine v_iload C dX5_debt_68 rfl ?_
      refine v_iret C F (by first | rfl | exact bI_nar _) dX5_debt_70 (Nat.le_of_ble_eq_true rfl) (Nat.le_of_ble_eq_true rfl) ?_
      exact ⟨⟨by simp [cdL, hn0, hq, show inB (nI 0) 0 3 = true by decide], by rw [hq, show tN (nI 0) = 0 from tN_nI (by decide)]; rfl⟩, _, _, rfl⟩
    · refine v_tableIn C 71 (off := 35) dX5_debt_36 (by decide) (by decide) rfl (by decide) ?_
      refine v_aload_n C dX5_debt_71 rfl ?_
      refine v_getr C fl_X5_121 or_cS_5_1 dX5_debt_72 ?_
      refine v_iload C dX5_debt_75 rfl ?_
      refine v_iald C ar_cS_7 (by decide) _ ?_ rfl dX5_debt_77 ?_
      · omega
      refine v_iret C F (by first | rfl | exact bI_nar _) dX5_debt_78 (Nat.le_of_ble_eq_true rfl) (Nat.le_of_ble_eq_true rfl) ?_
      exact ⟨⟨by simp [cdL, hn0, hq, show inB (nI 1) 0 3 = true by decide], by rw [hq, show tN (nI 1) = 1 from tN_nI (by decide)]; rfl⟩, _, _, rfl⟩
    · refine v_tableIn C 79 (off := 43) dX5_debt_36 (by decide) (by decide) rfl (by decide) ?_
      refine v_aload_n C dX5_debt_79 rfl ?_
      refine v_iload C dX5_debt_80 rfl ?_
      refine v_callVi C (c_X2_lengthOfDebt hl (n := n) hn h96 (by omega)) ym_X2_lengthOfDebt ml_X5_162 emb_c_lm rfl rfl rfl rfl rfl dX5_debt_82 (Nat.le_of_ble_eq_true rfl) (Nat.le_of_ble_eq_true rfl) (Nat.le_of_ble_eq_true rfl) (Nat.le_of_ble_eq_true rfl) (fun _ _ hu => hu.elim) (fun r u hu => ?_)
      obtain ⟨rfl, hu⟩ := hu
      subst u
      refine V.stt (g2 := ((s, m), (sT, mT), rr, hh, sl, tx)) (rfl) ?_
      refine v_iret C F (by first | rfl | exact bI_nar _) dX5_debt_85 (Nat.le_of_ble_eq_true rfl) (Nat.le_of_ble_eq_true rfl) ?_
      exact ⟨⟨by simp [cdL, hn0, hq, show inB (nI 2) 0 3 = true by decide], by rw [hq, show tN (nI 2) = 2 from tN_nI (by decide)]; rfl⟩, _, _, rfl⟩
    · refine v_tableIn C 86 (off := 50) dX5_debt_36 (by decide) (by decide) rfl (by decide) ?_
      refine v_aload_n C dX5_debt_86 rfl ?_
      refine v_getr C fl_X5_124 or_cS_5_2 dX5_debt_87 ?_
      refine v_iload C dX5_debt_90 rfl ?_
      refine v_iald C ar_cS_8 (by decide) _ ?_ rfl dX5_debt_92 ?_
      · omega
      refine v_iret C F (by first | rfl | exact bI_nar _) dX5_debt_93 (Nat.le_of_ble_eq_true rfl) (Nat.le_of_ble_eq_true rfl) ?_
      exact ⟨⟨by simp [cdL, hn0, hq, show inB (nI 3) 0 3 = true by decide], by rw [hq, show tN (nI 3) = 3 from tN_nI (by decide)]; rfl⟩, _, _, rfl⟩
    · refine v_tableOut C 94 dX5_debt_36 ho (by decide) ?_
      refine v_throw C N F thr_EIA mm_165 rfl dX5_debt_94 dX5_debt_97 dX5_debt_98 dX5_debt_100 dX5_debt_103 (Nat.le_of_ble_eq_true rfl) (Nat.le_of_ble_eq_true rfl) (Nat.le_of_ble_eq_true rfl) ?_
      exact ⟨by simp [Th3, cdL, hn0, hq, inB_no (v := w) (a := 0) (b := 3) ho], _, _, rfl⟩
  · have hkn : (kthG (startM m) 0 n k.toInt) = none := oN_none c22 (fun q hq => by have := (kthG_some n 0 _ hq).2.1; omega)
    refine v_throw C N F thr_EIO mm_160 rfl dX5_debt_25 dX5_debt_28 dX5_debt_29 dX5_debt_31 dX5_debt_34 (Nat.le_of_ble_eq_true rfl) (Nat.le_of_ble_eq_true rfl) (Nat.le_of_ble_eq_true rfl) ?_
    exact ⟨by simp [Th3, cdL, hn0, hkn], _, _, rfl⟩
set_option maxHeartbeats 16000000 in
theorem c_X5_most {l : Launch} (hl : l.stackTraces = false) {κ : Kp} {h : Nat → Nat} {s sT : G} {m mT : Mg} {rr : Rg} {hh : Hg} {sl : Nat → Mg} {tx : G} {n c : Nat} (hW : WM n c m) : Ct SS MM l κ yX5_most cX5_most 2 (some FieldType.int) 3 6 36 [.ref (h 0)] (cS κ h) ((s, m), (sT, mT), rr, hh, sl, tx) ri (fun r u => (cdL [(decide (n = 0), 1)] = 0 ∧ r = oV (nextM m n (nI 2)) (nI 0) (fun q => nI (hopsM m q))) ∧ ROp m rr hh sl tx u) (fun e u => ThU e (cdL [(decide (n = 0), 1)]) ∧ ROp m rr hh sl tx u) := by
  refine Ct.of (own := RX5) (by decide) rfl hl (by intro v hv; simp only [List.mem_cons, List.not_mem_nil, or_false] at hv; first | (rcases hv with rfl | rfl | rfl | rfl | rfl | rfl <;> rfl) | (rcases hv with rfl | rfl | rfl | rfl | rfl <;> rfl) | (rcases hv with rfl | rfl | rfl | rfl <;> rfl) | (rcases hv with rfl | rfl | rfl <;> rfl) | (rcases hv with rfl | rfl <;> rfl) | (subst hv; rfl) | exact hv.elim) (Nat.le_of_ble_eq_true rfl) (fun X hxl hxk C F N => ?_)
  subst hxl hxk
  show V X (cS (xK X) h) 0 [some (.ref (h 0)), none] [] ((s, m), (sT, mT), rr, hh, sl, tx) 0 0
  obtain ⟨h96, hn, hMf⟩ := id hW
  refine v_aload_n C dX5_most_0 rfl ?_
  refine v_callVv C (c_X5_needMemory hl hn h96) ym_X5_needMemory ml_X5_100 emb_id_cS rfl rfl rfl rfl rfl dX5_most_1 (Nat.le_of_ble_eq_true rfl) (Nat.le_of_ble_eq_true rfl) (Nat.le_of_ble_eq_true rfl) (Nat.le_of_ble_eq_true rfl) (fun e u hu => v_out C N F (Nat.le_of_ble_eq_true rfl) (Nat.le_of_ble_eq_true rfl) ?_) (fun r u hu => ?_)
  · obtain ⟨rfl, hz, rfl⟩ := hu
    exact ⟨by simp [ThU, cdL, hz], _, _, rfl⟩
  obtain ⟨hn0, hu⟩ := hu
  subst u
  have hMI := hMf hn0
  obtain ⟨hI, hE, hLK, hn1, hSB, hBY, hPR⟩ := id hMI
  have hbd := band_ok hSB
  refine V.stt (g2 := ((s, m), (sT, mT), rr, hh, sl, tx)) (rfl) ?_
  refine v_aload_n C dX5_most_4 rfl ?_
  refine v_getr C fl_X5_10 or_cS_0_0 dX5_most_5 ?_
  refine v_iconst (v := nI 2) C dX5_most_8 (by decide) ?_
  refine v_callVi C (c_X0_placeFor hl (n := n) hI) ym_X0_placeFor ml_X5_167 emb_c_live rfl rfl rfl rfl rfl dX5_most_9 (Nat.le_of_ble_eq_true rfl) (Nat.le_of_ble_eq_true rfl) (Nat.le_of_ble_eq_true rfl) (Nat.le_of_ble_eq_true rfl) (fun _ _ hu => hu.elim) (fun r u hu => ?_)
  obtain ⟨rfl, s3, hu⟩ := hu
  subst u
  refine V.stt (g2 := ((s3, m), (sT, mT), rr, hh, sl, tx)) (rfl) ?_
  refine v_istore_n C (lo2 := [some _, some _]) dX5_most_12 rfl (Nat.le_of_ble_eq_true rfl) rfl ?_
  refine v_iload_n C dX5_most_13 rfl ?_
  refine v_iconst (v := (-1)) C dX5_most_14 (by decide) ?_
  refine v_icmp_ne C 22 dX5_most_15 (by decide) (fun c15 => ?_) (fun c15 => ?_)
  · obtain ⟨q, hq⟩ := oN_some c15
    have hqb := (next_inv n).1 q hq
    have eo : oN (nextM m n (nI 2)) = nI q := by rw [hq]; rfl
    rw [eo]
    refine v_aload_n C dX5_most_22 rfl ?_
    refine v_getr C fl_X5_10 or_cS_0_0 dX5_most_23 ?_
    refine v_getr C fl_X5_74 or_cS_1_0 dX5_most_26 ?_
    refine v_iload_n C dX5_most_29 rfl ?_
    refine v_callVi C (c_X2_hopsOf hl (n := n) hI hqb.1) ym_X2_hopsOf ml_X5_127 emb_c_lm rfl rfl rfl rfl rfl dX5_most_30 (Nat.le_of_ble_eq_true rfl) (Nat.le_of_ble_eq_true rfl) (Nat.le_of_ble_eq_true rfl) (Nat.le_of_ble_eq_true rfl) (fun _ _ hu => hu.elim) (fun r u hu => ?_)
    obtain ⟨rfl, hu⟩ := hu
    subst u
    refine V.stt (g2 := ((s3, m), (sT, mT), rr, hh, sl, tx)) (rfl) ?_
    refine v_iret C F (by first | rfl | exact bI_nar _) dX5_most_33 (Nat.le_of_ble_eq_true rfl) (Nat.le_of_ble_eq_true rfl) ?_
    exact ⟨⟨by simp [cdL, hn0], by rw [hq]; rfl⟩, _, _, rfl⟩
  · have hq : nextM m n (nI 2) = none := oN_none c15 (fun q hq => by have := ((next_inv n).1 q hq).1; omega)
    refine v_iconst (v := nI 0) C dX5_most_18 (by decide) ?_
    refine v_goto C 33 dX5_most_19 (by decide) ?_
    refine v_iret C F (by first | rfl | exact bI_nar _) dX5_most_33 (Nat.le_of_ble_eq_true rfl) (Nat.le_of_ble_eq_true rfl) ?_
    exact ⟨⟨by simp [cdL, hn0], by rw [hq]; rfl⟩, _, _, rfl⟩
set_option maxHeartbeats 16000000 in
theorem c_X5_deepest {l : Launch} (hl : l.stackTraces = false) {κ : Kp} {h : Nat → Nat} {s sT : G} {m mT : Mg} {rr : Rg} {hh : Hg} {sl : Nat → Mg} {tx : G} {n c : Nat} (hW : WM n c m) : Ct SS MM l κ yX5_deepest cX5_deepest 1 (some FieldType.int) 2 6 36 [.ref (h 0)] (cS κ h) ((s, m), (sT, mT), rr, hh, sl, tx) ri (fun r u => (cdL [(decide (n = 0), 1)] = 0 ∧ r = oN (nextM m n (nI 2))) ∧ ROp m rr hh sl tx u) (fun e u => ThU e (cdL [(decide (n = 0), 1)]) ∧ ROp m rr hh sl tx u) := by
  refine Ct.of (own := RX5) (by decide) rfl hl (by intro v hv; simp only [List.mem_cons, List.not_mem_nil, or_false] at hv; first | (rcases hv with rfl | rfl | rfl | rfl | rfl | rfl <;> rfl) | (rcases hv with rfl | rfl | rfl | rfl | rfl <;> rfl) | (rcases hv with rfl | rfl | rfl | rfl <;> rfl) | (rcases hv with rfl | rfl | rfl <;> rfl) | (rcases hv with rfl | rfl <;> rfl) | (subst hv; rfl) | exact hv.elim) (Nat.le_of_ble_eq_true rfl) (fun X hxl hxk C F N => ?_)
  subst hxl hxk
  show V X (cS (xK X) h) 0 [some (.ref (h 0))] [] ((s, m), (sT, mT), rr, hh, sl, tx) 0 0
  obtain ⟨h96, hn, hMf⟩ := id hW
  refine v_aload_n C dX5_deepest_0 rfl ?_
  refine v_callVv C (c_X5_needMemory hl hn h96) ym_X5_needMemory ml_X5_100 emb_id_cS rfl rfl rfl rfl rfl dX5_deepest_1 (Nat.le_of_ble_eq_true rfl) (Nat.le_of_ble_eq_true rfl) (Nat.le_of_ble_eq_true rfl) (Nat.le_of_ble_eq_true rfl) (fun e u hu => v_out C N F (Nat.le_of_ble_eq_true rfl) (Nat.le_of_ble_eq_true rfl) ?_) (fun r u hu => ?_)
  · obtain ⟨rfl, hz, rfl⟩ := hu
    exact ⟨by simp [ThU, cdL, hz], _, _, rfl⟩
  obtain ⟨hn0, hu⟩ := hu
  subst u
  have hMI := hMf hn0
  obtain ⟨hI, hE, hLK, hn1, hSB, hBY, hPR⟩ := id hMI
  have hbd := band_ok hSB
  refine V.stt (g2 := ((s, m), (sT, mT), rr, hh, sl, tx)) (rfl) ?_
  refine v_aload_n C dX5_deepest_4 rfl ?_
  refine v_getr C fl_X5_10 or_cS_0_0 dX5_deepest_5 ?_
  refine v_iconst (v := nI 2) C dX5_deepest_8 (by decide) ?_
  refine v_callVi C (c_X0_placeFor hl (n := n) hI) ym_X0_placeFor ml_X5_167 emb_c_live rfl rfl rfl rfl rfl dX5_deepest_9 (Nat.le_of_ble_eq_true rfl) (Nat.le_of_ble_eq_true rfl) (Nat.le_of_ble_eq_true rfl) (Nat.le_of_ble_eq_true rfl) (fun _ _ hu => hu.elim) (fun r u hu => ?_)
  obtain ⟨rfl, s3, hu⟩ := hu
  subst u
  refine V.stt (g2 := ((s3, m), (sT, mT), rr, hh, sl, tx)) (rfl) ?_
  refine v_iret C F (by first | rfl | exact bI_nar _) dX5_deepest_12 (Nat.le_of_ble_eq_true rfl) (Nat.le_of_ble_eq_true rfl) ?_
  exact ⟨⟨by simp [cdL, hn0], rfl⟩, _, _, rfl⟩
set_option maxHeartbeats 16000000 in
theorem c_X5_oldest {l : Launch} (hl : l.stackTraces = false) {κ : Kp} {h : Nat → Nat} {s sT : G} {m mT : Mg} {rr : Rg} {hh : Hg} {sl : Nat → Mg} {tx : G} {n c : Nat} (hW : WM n c m) : Ct SS MM l κ yX5_oldest cX5_oldest 2 (some FieldType.int) 2 6 36 [.ref (h 0)] (cS κ h) ((s, m), (sT, mT), rr, hh, sl, tx) ri (fun r u => (cdL [(decide (n = 0), 1)] = 0 ∧ r = oV (nextM m n (nI 0)) (-1) (fun q => m 3 q)) ∧ ROp m rr hh sl tx u) (fun e u => ThU e (cdL [(decide (n = 0), 1)]) ∧ ROp m rr hh sl tx u) := by
  refine Ct.of (own := RX5) (by decide) rfl hl (by intro v hv; simp only [List.mem_cons, List.not_mem_nil, or_false] at hv; first | (rcases hv with rfl | rfl | rfl | rfl | rfl | rfl <;> rfl) | (rcases hv with rfl | rfl | rfl | rfl | rfl <;> rfl) | (rcases hv with rfl | rfl | rfl | rfl <;> rfl) | (rcases hv with rfl | rfl | rfl <;> rfl) | (rcases hv with rfl | rfl <;> rfl) | (subst hv; rfl) | exact hv.elim) (Nat.le_of_ble_eq_true rfl) (fun X hxl hxk C F N => ?_)
  subst hxl hxk
  show V X (cS (xK X) h) 0 [some (.ref (h 0)), none] [] ((s, m), (sT, mT), rr, hh, sl, tx) 0 0
  obtain ⟨h96, hn, hMf⟩ := id hW
  refine v_aload_n C dX5_oldest_0 rfl ?_
  refine v_callVv C (c_X5_needMemory hl hn h96) ym_X5_needMemory ml_X5_100 emb_id_cS rfl rfl rfl rfl rfl dX5_oldest_1 (Nat.le_of_ble_eq_true rfl) (Nat.le_of_ble_eq_true rfl) (Nat.le_of_ble_eq_true rfl) (Nat.le_of_ble_eq_true rfl) (fun e u hu => v_out C N F (Nat.le_of_ble_eq_true rfl) (Nat.le_of_ble_eq_true rfl) ?_) (fun r u hu => ?_)
  · obtain ⟨rfl, hz, rfl⟩ := hu
    exact ⟨by simp [ThU, cdL, hz], _, _, rfl⟩
  obtain ⟨hn0, hu⟩ := hu
  subst u
  have hMI := hMf hn0
  obtain ⟨hI, hE, hLK, hn1, hSB, hBY, hPR⟩ := id hMI
  have hbd := band_ok hSB
  refine V.stt (g2 := ((s, m), (sT, mT), rr, hh, sl, tx)) (rfl) ?_
  refine v_aload_n C dX5_oldest_4 rfl ?_
  refine v_getr C fl_X5_10 or_cS_0_0 dX5_oldest_5 ?_
  refine v_iconst (v := nI 0) C dX5_oldest_8 (by decide) ?_
  refine v_callVi C (c_X0_placeFor hl (n := n) hI) ym_X0_placeFor ml_X5_167 emb_c_live rfl rfl rfl rfl rfl dX5_oldest_9 (Nat.le_of_ble_eq_true rfl) (Nat.le_of_ble_eq_true rfl) (Nat.le_of_ble_eq_true rfl) (Nat.le_of_ble_eq_true rfl) (fun _ _ hu => hu.elim) (fun r u hu => ?_)
  obtain ⟨rfl, s3, hu⟩ := hu
  subst u
  refine V.stt (g2 := ((s3, m), (sT, mT), rr, hh, sl, tx)) (rfl) ?_
  refine v_istore_n C (lo2 := [some _, some _]) dX5_oldest_12 rfl (Nat.le_of_ble_eq_true rfl) rfl ?_
  refine v_iload_n C dX5_oldest_13 rfl ?_
  refine v_iconst (v := (-1)) C dX5_oldest_14 (by decide) ?_
  refine v_icmp_ne C 22 dX5_oldest_15 (by decide) (fun c15 => ?_) (fun c15 => ?_)
  · obtain ⟨q, hq⟩ := oN_some c15
    have hqb := (next_inv n).1 q hq
    have eo : oN (nextM m n (nI 0)) = nI q := by rw [hq]; rfl
    rw [eo]
    refine v_aload_n C dX5_oldest_22 rfl ?_
    refine v_getr C fl_X5_10 or_cS_0_0 dX5_oldest_23 ?_
    refine v_getr C fl_X5_74 or_cS_1_0 dX5_oldest_26 ?_
    refine v_getr C fl_X5_124 or_cS_5_2 dX5_oldest_29 ?_
    refine v_iload_n C dX5_oldest_32 rfl ?_
    refine v_ialdQ (x := m 3 q) C ar_cS_8 (by decide) _ (rfl) ?_ rfl dX5_oldest_33 ?_
    · omega
    refine v_iret C F (by first | rfl | exact bI_nar _) dX5_oldest_34 (Nat.le_of_ble_eq_true rfl) (Nat.le_of_ble_eq_true rfl) ?_
    exact ⟨⟨by simp [cdL, hn0], by rw [hq]; rfl⟩, _, _, rfl⟩
  · have hq : nextM m n (nI 0) = none := oN_none c15 (fun q hq => by have := ((next_inv n).1 q hq).1; omega)
    refine v_iconst (v := (-1)) C dX5_oldest_18 (by decide) ?_
    refine v_goto C 34 dX5_oldest_19 (by decide) ?_
    refine v_iret C F (by first | rfl | exact bI_nar _) dX5_oldest_34 (Nat.le_of_ble_eq_true rfl) (Nat.le_of_ble_eq_true rfl) ?_
    exact ⟨⟨by simp [cdL, hn0], by rw [hq]; rfl⟩, _, _, rfl⟩
set_option maxHeartbeats 16000000 in
theorem c_X5_next {l : Launch} (hl : l.stackTraces = false) {κ : Kp} {h : Nat → Nat} {s sT : G} {m mT : Mg} {rr : Rg} {hh : Hg} {sl : Nat → Mg} {tx : G} {n c : Nat} (hW : WM n c m) : Ct SS MM l κ yX5_next cX5_next 1 (some FieldType.int) 2 6 36 [.ref (h 0)] (cS κ h) ((s, m), (sT, mT), rr, hh, sl, tx) ri (fun r u => (cdL [(decide (n = 0), 1)] = 0 ∧ r = oN (nextM m n (m 5 2))) ∧ ROp m rr hh sl tx u) (fun e u => ThU e (cdL [(decide (n = 0), 1)]) ∧ ROp m rr hh sl tx u) := by
  refine Ct.of (own := RX5) (by decide) rfl hl (by intro v hv; simp only [List.mem_cons, List.not_mem_nil, or_false] at hv; first | (rcases hv with rfl | rfl | rfl | rfl | rfl | rfl <;> rfl) | (rcases hv with rfl | rfl | rfl | rfl | rfl <;> rfl) | (rcases hv with rfl | rfl | rfl | rfl <;> rfl) | (rcases hv with rfl | rfl | rfl <;> rfl) | (rcases hv with rfl | rfl <;> rfl) | (subst hv; rfl) | exact hv.elim) (Nat.le_of_ble_eq_true rfl) (fun X hxl hxk C F N => ?_)
  subst hxl hxk
  show V X (cS (xK X) h) 0 [some (.ref (h 0))] [] ((s, m), (sT, mT), rr, hh, sl, tx) 0 0
  obtain ⟨h96, hn, hMf⟩ := id hW
  refine v_aload_n C dX5_next_0 rfl ?_
  refine v_callVv C (c_X5_needMemory hl hn h96) ym_X5_needMemory ml_X5_100 emb_id_cS rfl rfl rfl rfl rfl dX5_next_1 (Nat.le_of_ble_eq_true rfl) (Nat.le_of_ble_eq_true rfl) (Nat.le_of_ble_eq_true rfl) (Nat.le_of_ble_eq_true rfl) (fun e u hu => v_out C N F (Nat.le_of_ble_eq_true rfl) (Nat.le_of_ble_eq_true rfl) ?_) (fun r u hu => ?_)
  · obtain ⟨rfl, hz, rfl⟩ := hu
    exact ⟨by simp [ThU, cdL, hz], _, _, rfl⟩
  obtain ⟨hn0, hu⟩ := hu
  subst u
  have hMI := hMf hn0
  obtain ⟨hI, hE, hLK, hn1, hSB, hBY, hPR⟩ := id hMI
  have hbd := band_ok hSB
  refine V.stt (g2 := ((s, m), (sT, mT), rr, hh, sl, tx)) (rfl) ?_
  refine v_aload_n C dX5_next_4 rfl ?_
  refine v_getr C fl_X5_10 or_cS_0_0 dX5_next_5 ?_
  refine v_aload_n C dX5_next_8 rfl ?_
  refine v_getr C fl_X5_10 or_cS_0_0 dX5_next_9 ?_
  refine v_getr C fl_X5_74 or_cS_1_0 dX5_next_12 ?_
  refine v_getr C fl_X5_107 or_cS_5_4 dX5_next_15 ?_
  refine v_iconst (v := nI 2) C dX5_next_18 (by decide) ?_
  refine v_ialdQ (x := m 5 2) C ar_cS_10 (by decide) _ (rfl) ?_ rfl dX5_next_19 ?_
  · omega
  refine v_callVi C (c_X0_placeFor hl (n := n) hI) ym_X0_placeFor ml_X5_167 emb_c_live rfl rfl rfl rfl rfl dX5_next_20 (Nat.le_of_ble_eq_true rfl) (Nat.le_of_ble_eq_true rfl) (Nat.le_of_ble_eq_true rfl) (Nat.le_of_ble_eq_true rfl) (fun _ _ hu => hu.elim) (fun r u hu => ?_)
  obtain ⟨rfl, s3, hu⟩ := hu
  subst u
  refine V.stt (g2 := ((s3, m), (sT, mT), rr, hh, sl, tx)) (rfl) ?_
  refine v_iret C F (by first | rfl | exact bI_nar _) dX5_next_23 (Nat.le_of_ble_eq_true rfl) (Nat.le_of_ble_eq_true rfl) ?_
  exact ⟨⟨by simp [cdL, hn0], rfl⟩, _, _, rfl⟩
set_option maxHeartbeats 16000000 in
theorem c_X5_distance {l : Launch} (hl : l.stackTraces = false) {κ : Kp} {h : Nat → Nat} {s sT : G} {m mT : Mg} {rr : Rg} {hh : Hg} {sl : Nat → Mg} {tx : G} {n c : Nat} {a b : Int32} (hW : WM n c m) : Ct SS MM l κ yX5_distance cX5_distance 3 (some FieldType.int) 2 6 36 [.ref (h 0), .int a, .int b] (cS κ h) ((s, m), (sT, mT), rr, hh, sl, tx) ri (fun r u => (cdL [(decide (n = 0), 1), (!plB n a, 2), (!plB n b, 2)] = 0 ∧ r = hbM m (tN a) (tN b)) ∧ ROp m rr hh sl tx u) (fun e u => Th3 e (cdL [(decide (n = 0), 1), (!plB n a, 2), (!plB n b, 2)]) ∧ ROp m rr hh sl tx u) := by
  refine Ct.of (own := RX5) (by decide) rfl hl (by intro v hv; simp only [List.mem_cons, List.not_mem_nil, or_false] at hv; first | (rcases hv with rfl | rfl | rfl | rfl | rfl | rfl <;> rfl) | (rcases hv with rfl | rfl | rfl | rfl | rfl <;> rfl) | (rcases hv with rfl | rfl | rfl | rfl <;> rfl) | (rcases hv with rfl | rfl | rfl <;> rfl) | (rcases hv with rfl | rfl <;> rfl) | (subst hv; rfl) | exact hv.elim) (Nat.le_of_ble_eq_true rfl) (fun X hxl hxk C F N => ?_)
  subst hxl hxk
  show V X (cS (xK X) h) 0 [some (.ref (h 0)), some (.int a), some (.int b)] [] ((s, m), (sT, mT), rr, hh, sl, tx) 0 0
  obtain ⟨h96, hn, hMf⟩ := id hW
  refine v_aload_n C dX5_distance_0 rfl ?_
  refine v_callVv C (c_X5_needMemory hl hn h96) ym_X5_needMemory ml_X5_100 emb_id_cS rfl rfl rfl rfl rfl dX5_distance_1 (Nat.le_of_ble_eq_true rfl) (Nat.le_of_ble_eq_true rfl) (Nat.le_of_ble_eq_true rfl) (Nat.le_of_ble_eq_true rfl) (fun e u hu => v_out C N F (Nat.le_of_ble_eq_true rfl) (Nat.le_of_ble_eq_true rfl) ?_) (fun r u hu => ?_)
  · obtain ⟨rfl, hz, rfl⟩ := hu
    exact ⟨by simp [Th3, cdL, hz], _, _, rfl⟩
  obtain ⟨hn0, hu⟩ := hu
  subst u
  have hMI := hMf hn0
  obtain ⟨hI, hE, hLK, hn1, hSB, hBY, hPR⟩ := id hMI
  have hbd := band_ok hSB
  refine V.stt (g2 := ((s, m), (sT, mT), rr, hh, sl, tx)) (rfl) ?_
  refine v_aload_n C dX5_distance_4 rfl ?_
  refine v_iload_n C dX5_distance_5 rfl ?_
  refine v_callVv C (c_X5_needPlace hl hn h96) ym_X5_needPlace ml_X5_111 emb_id_cS rfl rfl rfl rfl rfl dX5_distance_6 (Nat.le_of_ble_eq_true rfl) (Nat.le_of_ble_eq_true rfl) (Nat.le_of_ble_eq_true rfl) (Nat.le_of_ble_eq_true rfl) (fun e u hu => v_out C N F (Nat.le_of_ble_eq_true rfl) (Nat.le_of_ble_eq_true rfl) ?_) (fun r u hu => ?_)
  · obtain ⟨rfl, hz, rfl⟩ := hu
    exact ⟨by simp [Th3, cdL, hn0, hz], _, _, rfl⟩
  obtain ⟨hp_a, hu⟩ := hu
  subst u
  obtain ⟨ja, hj_ja, e_ja⟩ := pl_at hp_a
  subst e_ja
  have t_ja : tN (nI ja) = ja := tN_nI (by omega)
  refine V.stt (g2 := ((s, m), (sT, mT), rr, hh, sl, tx)) (rfl) ?_
  refine v_aload_n C dX5_distance_9 rfl ?_
  refine v_iload_n C dX5_distance_10 rfl ?_
  refine v_callVv C (c_X5_needPlace hl hn h96) ym_X5_needPlace ml_X5_111 emb_id_cS rfl rfl rfl rfl rfl dX5_distance_11 (Nat.le_of_ble_eq_true rfl) (Nat.le_of_ble_eq_true rfl) (Nat.le_of_ble_eq_true rfl) (Nat.le_of_ble_eq_true rfl) (fun e u hu => v_out C N F (Nat.le_of_ble_eq_true rfl) (Nat.le_of_ble_eq_true rfl) ?_) (fun r u hu => ?_)
  · obtain ⟨rfl, hz, rfl⟩ := hu
    exact ⟨by simp [Th3, cdL, hn0, hp_a, hz], _, _, rfl⟩
  obtain ⟨hp_b, hu⟩ := hu
  subst u
  obtain ⟨jb, hj_jb, e_jb⟩ := pl_at hp_b
  subst e_jb
  have t_jb : tN (nI jb) = jb := tN_nI (by omega)
  refine V.stt (g2 := ((s, m), (sT, mT), rr, hh, sl, tx)) (rfl) ?_
  refine v_aload_n C dX5_distance_14 rfl ?_
  refine v_getr C fl_X5_10 or_cS_0_0 dX5_distance_15 ?_
  refine v_getr C fl_X5_74 or_cS_1_0 dX5_distance_18 ?_
  refine v_iload_n C dX5_distance_21 rfl ?_
  refine v_iload_n C dX5_distance_22 rfl ?_
  refine v_callVi C (c_X2_hopsBetween hl hI hj_ja hj_jb) ym_X2_hopsBetween ml_X5_137 emb_c_lm rfl rfl rfl rfl rfl dX5_distance_23 (Nat.le_of_ble_eq_true rfl) (Nat.le_of_ble_eq_true rfl) (Nat.le_of_ble_eq_true rfl) (Nat.le_of_ble_eq_true rfl) (fun _ _ hu => hu.elim) (fun r u hu => ?_)
  obtain ⟨rfl, hu⟩ := hu
  subst u
  refine V.stt (g2 := ((s, m), (sT, mT), rr, hh, sl, tx)) (rfl) ?_
  refine v_iret C F (by first | rfl | exact bI_nar _) dX5_distance_26 (Nat.le_of_ble_eq_true rfl) (Nat.le_of_ble_eq_true rfl) ?_
  exact ⟨⟨by simp [cdL, hn0, hp_a, hp_b], by rw [t_ja, t_jb]⟩, _, _, rfl⟩
set_option maxHeartbeats 16000000 in
theorem c_X5_sum {l : Launch} (hl : l.stackTraces = false) {κ : Kp} {h : Nat → Nat} {s sT : G} {m mT : Mg} {rr : Rg} {hh : Hg} {sl : Nat → Mg} {tx : G} {n c : Nat} {a b : Int32} (hW : WM n c m) : Ct SS MM l κ yX5_sum cX5_sum 5 (some FieldType.int) 3 6 36 [.ref (h 0), .int a, .int b] (cS κ h) ((s, m), (sT, mT), rr, hh, sl, tx) ri (fun r u => (cdL [(decide (n = 0), 1), (!plB n a, 2), (!plB n b, 2), (decide (b.toInt < a.toInt), 3)] = 0 ∧ r = sumV m (tN a) (tN b + 1 - tN a)) ∧ ROp m rr hh sl tx u) (fun e u => Th3 e (cdL [(decide (n = 0), 1), (!plB n a, 2), (!plB n b, 2), (decide (b.toInt < a.toInt), 3)]) ∧ ROp m rr hh sl tx u) := by
  refine Ct.of (own := RX5) (by decide) rfl hl (by intro v hv; simp only [List.mem_cons, List.not_mem_nil, or_false] at hv; first | (rcases hv with rfl | rfl | rfl | rfl | rfl | rfl <;> rfl) | (rcases hv with rfl | rfl | rfl | rfl | rfl <;> rfl) | (rcases hv with rfl | rfl | rfl | rfl <;> rfl) | (rcases hv with rfl | rfl | rfl <;> rfl) | (rcases hv with rfl | rfl <;> rfl) | (subst hv; rfl) | exact hv.elim) (Nat.le_of_ble_eq_true rfl) (fun X hxl hxk C F N => ?_)
  subst hxl hxk
  show V X (cS (xK X) h) 0 [some (.ref (h 0)), some (.int a), some (.int b), none, none] [] ((s, m), (sT, mT), rr, hh, sl, tx) 0 0
  obtain ⟨h96, hn, hMf⟩ := id hW
  refine v_aload_n C dX5_sum_0 rfl ?_
  refine v_callVv C (c_X5_needMemory hl hn h96) ym_X5_needMemory ml_X5_100 emb_id_cS rfl rfl rfl rfl rfl dX5_sum_1 (Nat.le_of_ble_eq_true rfl) (Nat.le_of_ble_eq_true rfl) (Nat.le_of_ble_eq_true rfl) (Nat.le_of_ble_eq_true rfl) (fun e u hu => v_out C N F (Nat.le_of_ble_eq_true rfl) (Nat.le_of_ble_eq_true rfl) ?_) (fun r u hu => ?_)
  · obtain ⟨rfl, hz, rfl⟩ := hu
    exact ⟨by simp [Th3, cdL, hz], _, _, rfl⟩
  obtain ⟨hn0, hu⟩ := hu
  subst u
  have hMI := hMf hn0
  obtain ⟨hI, hE, hLK, hn1, hSB, hBY, hPR⟩ := id hMI
  have hbd := band_ok hSB
  refine V.stt (g2 := ((s, m), (sT, mT), rr, hh, sl, tx)) (rfl) ?_
  refine v_aload_n C dX5_sum_4 rfl ?_
  refine v_iload_n C dX5_sum_5 rfl ?_
  refine v_iload_n C dX5_sum_6 rfl ?_
  refine v_callVv C (c_X5_needRow hl hn h96) ym_X5_needRow ml_X5_145 emb_id_cS rfl rfl rfl rfl rfl dX5_sum_7 (Nat.le_of_ble_eq_true rfl) (Nat.le_of_ble_eq_true rfl) (Nat.le_of_ble_eq_true rfl) (Nat.le_of_ble_eq_true rfl) (fun e u hu => v_out C N F (Nat.le_of_ble_eq_true rfl) (Nat.le_of_ble_eq_true rfl) ?_) (fun r u hu => ?_)
  · obtain ⟨hu, rfl⟩ := hu
    rcases hu with ⟨rfl, hz⟩ | ⟨rfl, hz1, hz2, hz3⟩
    · refine ⟨?_, _, _, rfl⟩
      cases hza : plB n a
      · simp [Th3, cdL, hn0, hza]
      · rw [hza] at hz
        simp only [Bool.not_true, Bool.false_or, Bool.not_eq_true'] at hz
        simp [Th3, cdL, hn0, hza, hz]
    · exact ⟨by simp [Th3, cdL, hn0, hz1, hz2, hz3], _, _, rfl⟩
  obtain ⟨hp_a, hp_b, hlt, hu⟩ := hu
  subst u
  obtain ⟨ja, hj_ja, e_ja⟩ := pl_at hp_a
  subst e_ja
  obtain ⟨jb, hj_jb, e_jb⟩ := pl_at hp_b
  subst e_jb
  have t_ja : tN (nI ja) = ja := tN_nI (by omega)
  have t_jb : tN (nI jb) = jb := tN_nI (by omega)
  have hle := hlt
  rw [nI_toInt (by omega), nI_toInt (by omega)] at hle
  have hle : ja ≤ jb := by omega
  refine V.stt (g2 := ((s, m), (sT, mT), rr, hh, sl, tx)) (rfl) ?_
  refine v_iconst (v := nI 0) C dX5_sum_10 (by decide) ?_
  refine v_istore_n C (lo2 := [some _, some _, some _, some _, none]) dX5_sum_11 rfl (Nat.le_of_ble_eq_true rfl) rfl ?_
  refine v_iload_n C dX5_sum_12 rfl ?_
  refine v_istore C (lo2 := [some _, some _, some _, some _, some _]) dX5_sum_13 rfl (Nat.le_of_ble_eq_true rfl) rfl ?_
  have L15 : ∀ (t : Nat × Int32), (fun t => ja ≤ t.1 ∧ t.1 ≤ jb + 1 ∧ forG (fun p (x : Int32) => x + valM m p) t.1 (jb + 1 - t.1) t.2 = sumV m ja (jb + 1 - ja)) t → (fun t : Nat × Int32 => V X (cS (xK X) h) 15 [some (.ref (h 0)), some (.int (nI ja)), some (.int (nI jb)), some (.int t.2), some (.int (nI t.1))] [] ((s, m), (sT, mT), rr, hh, sl, tx) 5 30) t := by
    refine v_ind (fun t : Nat × Int32 => jb + 1 - t.1) ?_
    rintro ⟨i, x⟩ ih15 hI15
    try dsimp only at hI15 ⊢
    obtain ⟨i1, i2, i3⟩ := hI15
    refine v_iload C dX5_sum_15 rfl ?_
    refine v_iload_n C dX5_sum_17 rfl ?_
    first | refine v_icmp_gtN C 42 dX5_sum_18 (by decide) (by omega) (by omega) (fun c18 => ?_) (fun c18 => ?_) | refine v_icmp_gt C 42 dX5_sum_18 (by decide) (fun c18 => ?_) (fun c18 => ?_)
    · refine v_iload_n C dX5_sum_42 rfl ?_
      refine v_iret C F (by first | rfl | exact bI_nar _) dX5_sum_43 (Nat.le_of_ble_eq_true rfl) (Nat.le_of_ble_eq_true rfl) ?_
      rw [forG_0 (by omega)] at i3
      exact ⟨⟨by simp [cdL, hn0, hp_a, hp_b, hlt], by rw [t_ja, t_jb, ← i3]⟩, _, _, rfl⟩
    · refine v_iload_n C dX5_sum_21 rfl ?_
      refine v_aload_n C dX5_sum_22 rfl ?_
      refine v_getr C fl_X5_10 or_cS_0_0 dX5_sum_23 ?_
      refine v_getr C fl_X5_74 or_cS_1_0 dX5_sum_26 ?_
      refine v_iload C dX5_sum_29 rfl ?_
      refine v_callVi C (c_X2_valueOf hl (n := n) hI (by omega)) ym_X2_valueOf ml_X5_117 emb_c_lm rfl rfl rfl rfl rfl dX5_sum_31 (Nat.le_of_ble_eq_true rfl) (Nat.le_of_ble_eq_true rfl) (Nat.le_of_ble_eq_true rfl) (Nat.le_of_ble_eq_true rfl) (fun _ _ hu => hu.elim) (fun r u hu => ?_)
      obtain ⟨rfl, hu⟩ := hu
      subst u
      refine V.stt (g2 := ((s, m), (sT, mT), rr, hh, sl, tx)) (rfl) ?_
      first | refine v_iaddN C dX5_sum_34 ?_ | refine v_iadd C dX5_sum_34 ?_
      refine v_istore_n C (lo2 := [some _, some _, some _, some _, some _]) dX5_sum_35 rfl (Nat.le_of_ble_eq_true rfl) rfl ?_
      first | refine v_iinc1 C (lo2 := [some _, some _, some _, some _, some _]) dX5_sum_36 rfl rfl rfl ?_ | refine v_iinc C (lo2 := [some _, some _, some _, some _, some _]) dX5_sum_36 rfl rfl rfl rfl ?_
      refine v_goto C 15 dX5_sum_39 (by decide) ?_
      have hib : i < jb + 1 := by omega
      rw [forG_s hib] at i3
      exact ih15 (i + 1, x + valM m i) (by show jb + 1 - (i + 1) < jb + 1 - i; omega) ⟨by show ja ≤ i + 1; omega, by show i + 1 ≤ jb + 1; omega, i3⟩
  refine V.wid (k2 := 5) (n2 := 30) (Nat.le_of_ble_eq_true rfl) (Nat.le_of_ble_eq_true rfl) ?_
  exact L15 (ja, nI 0) ⟨Nat.le_refl _, by show ja ≤ jb + 1; omega, rfl⟩
set_option maxHeartbeats 16000000 in
theorem c_X5_find {l : Launch} (hl : l.stackTraces = false) {κ : Kp} {h : Nat → Nat} {s sT : G} {m mT : Mg} {rr : Rg} {hh : Hg} {sl : Nat → Mg} {tx : G} {n c : Nat} {v p : Int32} (hW : WM n c m) : Ct SS MM l κ yX5_find cX5_find 5 (some FieldType.int) 2 6 36 [.ref (h 0), .int v, .int p] (cS κ h) ((s, m), (sT, mT), rr, hh, sl, tx) ri (fun r u => (cdL [(decide (n = 0), 1), (!plB n p, 2), (!inB v 0 255, 3)] = 0 ∧ r = oN (fstG (vlB m v) (tN p) (n - tN p))) ∧ ROp m rr hh sl tx u) (fun e u => Th3 e (cdL [(decide (n = 0), 1), (!plB n p, 2), (!inB v 0 255, 3)]) ∧ ROp m rr hh sl tx u) := by
  refine Ct.of (own := RX5) (by decide) rfl hl (by intro v hv; simp only [List.mem_cons, List.not_mem_nil, or_false] at hv; first | (rcases hv with rfl | rfl | rfl | rfl | rfl | rfl <;> rfl) | (rcases hv with rfl | rfl | rfl | rfl | rfl <;> rfl) | (rcases hv with rfl | rfl | rfl | rfl <;> rfl) | (rcases hv with rfl | rfl | rfl <;> rfl) | (rcases hv with rfl | rfl <;> rfl) | (subst hv; rfl) | exact hv.elim) (Nat.le_of_ble_eq_true rfl) (fun X hxl hxk C F N => ?_)
  subst hxl hxk
  show V X (cS (xK X) h) 0 [some (.ref (h 0)), some (.int v), some (.int p), none, none] [] ((s, m), (sT, mT), rr, hh, sl, tx) 0 0
  obtain ⟨h96, hn, hMf⟩ := id hW
  refine v_aload_n C dX5_find_0 rfl ?_
  refine v_callVv C (c_X5_needMemory hl hn h96) ym_X5_needMemory ml_X5_100 emb_id_cS rfl rfl rfl rfl rfl dX5_find_1 (Nat.le_of_ble_eq_true rfl) (Nat.le_of_ble_eq_true rfl) (Nat.le_of_ble_eq_true rfl) (Nat.le_of_ble_eq_true rfl) (fun e u hu => v_out C N F (Nat.le_of_ble_eq_true rfl) (Nat.le_of_ble_eq_true rfl) ?_) (fun r u hu => ?_)
  · obtain ⟨rfl, hz, rfl⟩ := hu
    exact ⟨by simp [Th3, cdL, hz], _, _, rfl⟩
  obtain ⟨hn0, hu⟩ := hu
  subst u
  have hMI := hMf hn0
  obtain ⟨hI, hE, hLK, hn1, hSB, hBY, hPR⟩ := id hMI
  have hbd := band_ok hSB
  refine V.stt (g2 := ((s, m), (sT, mT), rr, hh, sl, tx)) (rfl) ?_
  refine v_aload_n C dX5_find_4 rfl ?_
  refine v_iload_n C dX5_find_5 rfl ?_
  refine v_callVv C (c_X5_needPlace hl hn h96) ym_X5_needPlace ml_X5_111 emb_id_cS rfl rfl rfl rfl rfl dX5_find_6 (Nat.le_of_ble_eq_true rfl) (Nat.le_of_ble_eq_true rfl) (Nat.le_of_ble_eq_true rfl) (Nat.le_of_ble_eq_true rfl) (fun e u hu => v_out C N F (Nat.le_of_ble_eq_true rfl) (Nat.le_of_ble_eq_true rfl) ?_) (fun r u hu => ?_)
  · obtain ⟨rfl, hz, rfl⟩ := hu
    exact ⟨by simp [Th3, cdL, hn0, hz], _, _, rfl⟩
  obtain ⟨hp_p, hu⟩ := hu
  subst u
  obtain ⟨j, hj_j, e_j⟩ := pl_at hp_p
  subst e_j
  have t_j : tN (nI j) = j := tN_nI (by omega)
  refine V.stt (g2 := ((s, m), (sT, mT), rr, hh, sl, tx)) (rfl) ?_
  refine v_aload_n C dX5_find_9 rfl ?_
  refine v_iload_n C dX5_find_10 rfl ?_
  refine v_callVv C (c_X5_needByte hl) ym_X5_needByte ml_X5_173 emb_id_cS rfl rfl rfl rfl rfl dX5_find_11 (Nat.le_of_ble_eq_true rfl) (Nat.le_of_ble_eq_true rfl) (Nat.le_of_ble_eq_true rfl) (Nat.le_of_ble_eq_true rfl) (fun e u hu => v_out C N F (Nat.le_of_ble_eq_true rfl) (Nat.le_of_ble_eq_true rfl) ?_) (fun r u hu => ?_)
  · obtain ⟨rfl, hz, rfl⟩ := hu
    exact ⟨by simp [Th3, cdL, hn0, hp_p, hz], _, _, rfl⟩
  obtain ⟨hp_v, hu⟩ := hu
  subst u
  refine V.stt (g2 := ((s, m), (sT, mT), rr, hh, sl, tx)) (rfl) ?_
  refine v_aload_n C dX5_find_14 rfl ?_
  refine v_getr C fl_X5_10 or_cS_0_0 dX5_find_15 ?_
  refine v_getr C fl_X5_74 or_cS_1_0 dX5_find_18 ?_
  refine v_astore_n C (lo2 := [some _, some _, some _, some _, none]) dX5_find_21 rfl (Nat.le_of_ble_eq_true rfl) rfl ?_
  refine v_iload_n C dX5_find_22 rfl ?_
  refine v_istore C (lo2 := [some _, some _, some _, some _, some _]) dX5_find_23 rfl (Nat.le_of_ble_eq_true rfl) rfl ?_
  have L25 : ∀ (t : Nat), (fun t => j ≤ t ∧ t ≤ 200 ∧ fstG (vlB m v) t (n - t) = fstG (vlB m v) j (n - j)) t → (fun t : Nat => V X (cS (xK X) h) 25 [some (.ref (h 0)), some (.int v), some (.int (nI j)), some (.ref (h 5)), some (.int (nI t))] [] ((s, m), (sT, mT), rr, hh, sl, tx) 5 30) t := by
    refine v_ind (fun t : Nat => n - t) ?_
    rintro i ih25 hI25
    try dsimp only at hI25 ⊢
    obtain ⟨i1, i2, i3⟩ := hI25
    refine v_iload C dX5_find_25 rfl ?_
    refine v_aload_n C dX5_find_27 rfl ?_
    refine v_getiQ (x := nI n) C fl_X5_91 oi_cS_5_7 (hn) dX5_find_28 ?_
    first | refine v_icmp_geN C 53 dX5_find_31 (by decide) (by omega) (by omega) (fun c31 => ?_) (fun c31 => ?_) | refine v_icmp_ge C 53 dX5_find_31 (by decide) (fun c31 => ?_) (fun c31 => ?_)
    · refine v_iconst (v := (-1)) C dX5_find_53 (by decide) ?_
      refine v_iret C F (by first | rfl | exact bI_nar _) dX5_find_54 (Nat.le_of_ble_eq_true rfl) (Nat.le_of_ble_eq_true rfl) ?_
      rw [fstG_0 (by omega)] at i3
      exact ⟨⟨by simp [cdL, hn0, hp_p, hp_v], by rw [t_j, ← i3]; rfl⟩, _, _, rfl⟩
    · refine v_aload_n C dX5_find_34 rfl ?_
      refine v_iload C dX5_find_35 rfl ?_
      refine v_callVi C (c_X2_valueOf hl (n := n) hI (by omega)) ym_X2_valueOf ml_X5_117 emb_c_lm rfl rfl rfl rfl rfl dX5_find_37 (Nat.le_of_ble_eq_true rfl) (Nat.le_of_ble_eq_true rfl) (Nat.le_of_ble_eq_true rfl) (Nat.le_of_ble_eq_true rfl) (fun _ _ hu => hu.elim) (fun r u hu => ?_)
      obtain ⟨rfl, hu⟩ := hu
      subst u
      refine V.stt (g2 := ((s, m), (sT, mT), rr, hh, sl, tx)) (rfl) ?_
      refine v_iload_n C dX5_find_40 rfl ?_
      refine v_icmp_ne C 47 dX5_find_41 (by decide) (fun c41 => ?_) (fun c41 => ?_)
      · first | refine v_iinc1 C (lo2 := [some _, some _, some _, some _, some _]) dX5_find_47 rfl rfl rfl ?_ | refine v_iinc C (lo2 := [some _, some _, some _, some _, some _]) dX5_find_47 rfl rfl rfl rfl ?_
        refine v_goto C 25 dX5_find_50 (by decide) ?_
        have hib : i < n := by omega
        have hf : (vlB m v) i = false := by
          exact beq_eq_false_iff_ne.mpr c41
        rw [fstG_s hib, hf, if_neg Bool.false_ne_true] at i3
        exact ih25 (i + 1) (by show n - (i + 1) < n - i; omega) ⟨by omega, by omega, i3⟩
      · refine v_iload C dX5_find_44 rfl ?_
        refine v_iret C F (by first | rfl | exact bI_nar _) dX5_find_46 (Nat.le_of_ble_eq_true rfl) (Nat.le_of_ble_eq_true rfl) ?_
        have hib : i < n := by omega
        have hf : (vlB m v) i = true := by
          exact beq_iff_eq.mpr c41
        rw [fstG_s hib, hf, if_pos rfl] at i3
        exact ⟨⟨by simp [cdL, hn0, hp_p, hp_v], by rw [t_j, ← i3]; rfl⟩, _, _, rfl⟩
  refine V.wid (k2 := 5) (n2 := 30) (Nat.le_of_ble_eq_true rfl) (Nat.le_of_ble_eq_true rfl) ?_
  exact L25 (j) ⟨Nat.le_refl _, by omega, rfl⟩
set_option maxHeartbeats 16000000 in
theorem c_X5_same {l : Launch} (hl : l.stackTraces = false) {κ : Kp} {h : Nat → Nat} {s sT : G} {m mT : Mg} {rr : Rg} {hh : Hg} {sl : Nat → Mg} {tx : G} {n c : Nat} {a b k : Int32} (hW : WM n c m) : Ct SS MM l κ yX5_same cX5_same 6 (some FieldType.boolean) 2 6 36 [.ref (h 0), .int a, .int b, .int k] (cS κ h) ((s, m), (sT, mT), rr, hh, sl, tx) ri (fun r u => (cdL [(decide (n = 0), 1), (!plB n a, 2), (!plB n b, 2), (!rowB n a b k, 3)] = 0 ∧ r = bI (!anyG (samB m (tN a) (tN b)) 0 (tN k))) ∧ ROp m rr hh sl tx u) (fun e u => Th3 e (cdL [(decide (n = 0), 1), (!plB n a, 2), (!plB n b, 2), (!rowB n a b k, 3)]) ∧ ROp m rr hh sl tx u) := by
  refine Ct.of (own := RX5) (by decide) rfl hl (by intro v hv; simp only [List.mem_cons, List.not_mem_nil, or_false] at hv; first | (rcases hv with rfl | rfl | rfl | rfl | rfl | rfl <;> rfl) | (rcases hv with rfl | rfl | rfl | rfl | rfl <;> rfl) | (rcases hv with rfl | rfl | rfl | rfl <;> rfl) | (rcases hv with rfl | rfl | rfl <;> rfl) | (rcases hv with rfl | rfl <;> rfl) | (subst hv; rfl) | exact hv.elim) (Nat.le_of_ble_eq_true rfl) (fun X hxl hxk C F N => ?_)
  subst hxl hxk
  show V X (cS (xK X) h) 0 [some (.ref (h 0)), some (.int a), some (.int b), some (.int k), none, none] [] ((s, m), (sT, mT), rr, hh, sl, tx) 0 0
  obtain ⟨h96, hn, hMf⟩ := id hW
  refine v_aload_n C dX5_same_0 rfl ?_
  refine v_callVv C (c_X5_needMemory hl hn h96) ym_X5_needMemory ml_X5_100 emb_id_cS rfl rfl rfl rfl rfl dX5_same_1 (Nat.le_of_ble_eq_true rfl) (Nat.le_of_ble_eq_true rfl) (Nat.le_of_ble_eq_true rfl) (Nat.le_of_ble_eq_true rfl) (fun e u hu => v_out C N F (Nat.le_of_ble_eq_true rfl) (Nat.le_of_ble_eq_true rfl) ?_) (fun r u hu => ?_)
  · obtain ⟨rfl, hz, rfl⟩ := hu
    exact ⟨by simp [Th3, cdL, hz], _, _, rfl⟩
  obtain ⟨hn0, hu⟩ := hu
  subst u
  have hMI := hMf hn0
  obtain ⟨hI, hE, hLK, hn1, hSB, hBY, hPR⟩ := id hMI
  have hbd := band_ok hSB
  refine V.stt (g2 := ((s, m), (sT, mT), rr, hh, sl, tx)) (rfl) ?_
  refine v_aload_n C dX5_same_4 rfl ?_
  refine v_iload_n C dX5_same_5 rfl ?_
  refine v_callVv C (c_X5_needPlace hl hn h96) ym_X5_needPlace ml_X5_111 emb_id_cS rfl rfl rfl rfl rfl dX5_same_6 (Nat.le_of_ble_eq_true rfl) (Nat.le_of_ble_eq_true rfl) (Nat.le_of_ble_eq_true rfl) (Nat.le_of_ble_eq_true rfl) (fun e u hu => v_out C N F (Nat.le_of_ble_eq_true rfl) (Nat.le_of_ble_eq_true rfl) ?_) (fun r u hu => ?_)
  · obtain ⟨rfl, hz, rfl⟩ := hu
    exact ⟨by simp [Th3, cdL, hn0, hz], _, _, rfl⟩
  obtain ⟨hp_a, hu⟩ := hu
  subst u
  obtain ⟨ja, hj_ja, e_ja⟩ := pl_at hp_a
  subst e_ja
  have t_ja : tN (nI ja) = ja := tN_nI (by omega)
  refine V.stt (g2 := ((s, m), (sT, mT), rr, hh, sl, tx)) (rfl) ?_
  refine v_aload_n C dX5_same_9 rfl ?_
  refine v_iload_n C dX5_same_10 rfl ?_
  refine v_callVv C (c_X5_needPlace hl hn h96) ym_X5_needPlace ml_X5_111 emb_id_cS rfl rfl rfl rfl rfl dX5_same_11 (Nat.le_of_ble_eq_true rfl) (Nat.le_of_ble_eq_true rfl) (Nat.le_of_ble_eq_true rfl) (Nat.le_of_ble_eq_true rfl) (fun e u hu => v_out C N F (Nat.le_of_ble_eq_true rfl) (Nat.le_of_ble_eq_true rfl) ?_) (fun r u hu => ?_)
  · obtain ⟨rfl, hz, rfl⟩ := hu
    exact ⟨by simp [Th3, cdL, hn0, hp_a, hz], _, _, rfl⟩
  obtain ⟨hp_b, hu⟩ := hu
  subst u
  obtain ⟨jb, hj_jb, e_jb⟩ := pl_at hp_b
  subst e_jb
  have t_jb : tN (nI jb) = jb := tN_nI (by omega)
  refine V.stt (g2 := ((s, m), (sT, mT), rr, hh, sl, tx)) (rfl) ?_
  refine v_aload_n C dX5_same_14 rfl ?_
  refine v_getr C fl_X5_10 or_cS_0_0 dX5_same_15 ?_
  refine v_getr C fl_X5_74 or_cS_1_0 dX5_same_18 ?_
  refine v_astore C (lo2 := [some _, some _, some _, some _, some _, none]) dX5_same_21 rfl (Nat.le_of_ble_eq_true rfl) rfl ?_
  refine v_iload_n C dX5_same_23 rfl ?_
  refine v_iconst (v := nI 1) C dX5_same_24 (by decide) ?_
  refine v_icmp_lt C 48 dX5_same_25 (by decide) (fun c25 => ?_) (fun c25 => ?_)
  · rw [show (nI 1).toInt = 1 by decide] at c25
    have hrow : rowB n (nI ja) (nI jb) k = false := by
      unfold rowB
      rw [decide_eq_false (show ¬ (1 : Int) ≤ k.toInt by omega)]
      rfl
    refine v_throw C N F thr_EIA mm_180 rfl dX5_same_48 dX5_same_51 dX5_same_52 dX5_same_54 dX5_same_57 (Nat.le_of_ble_eq_true rfl) (Nat.le_of_ble_eq_true rfl) (Nat.le_of_ble_eq_true rfl) ?_
    exact ⟨by simp [Th3, cdL, hn0, hp_a, hp_b, hrow], _, _, rfl⟩
  · rw [show (nI 1).toInt = 1 by decide] at c25
    refine v_aload C dX5_same_28 rfl ?_
    refine v_iload_n C dX5_same_30 rfl ?_
    refine v_iload_n C dX5_same_31 rfl ?_
    refine v_callVi C (c_X2_hasRow hl (n := n) hn h96) ym_X2_hasRow ml_X5_176 emb_c_lm rfl rfl rfl rfl rfl dX5_same_32 (Nat.le_of_ble_eq_true rfl) (Nat.le_of_ble_eq_true rfl) (Nat.le_of_ble_eq_true rfl) (Nat.le_of_ble_eq_true rfl) (fun _ _ hu => hu.elim) (fun r u hu => ?_)
    obtain ⟨rfl, hu⟩ := hu
    subst u
    refine V.stt (g2 := ((s, m), (sT, mT), rr, hh, sl, tx)) (rfl) ?_
    refine v_if_eqB C 48 dX5_same_35 (by decide) (fun c35 => ?_) (fun c35 => ?_)
    · rw [isP_pl hn h96, hp_a, Bool.true_and] at c35
      have hrow : rowB n (nI ja) (nI jb) k = false := by
        unfold rowB
        rw [c35]
        simp
      refine v_throw C N F thr_EIA mm_180 rfl dX5_same_48 dX5_same_51 dX5_same_52 dX5_same_54 dX5_same_57 (Nat.le_of_ble_eq_true rfl) (Nat.le_of_ble_eq_true rfl) (Nat.le_of_ble_eq_true rfl) ?_
      exact ⟨by simp [Th3, cdL, hn0, hp_a, hp_b, hrow], _, _, rfl⟩
    · rw [isP_pl hn h96, hp_a, Bool.true_and] at c35
      refine v_aload C dX5_same_38 rfl ?_
      refine v_iload_n C dX5_same_40 rfl ?_
      refine v_iload_n C dX5_same_41 rfl ?_
      refine v_callVi C (c_X2_hasRow hl (n := n) hn h96) ym_X2_hasRow ml_X5_176 emb_c_lm rfl rfl rfl rfl rfl dX5_same_42 (Nat.le_of_ble_eq_true rfl) (Nat.le_of_ble_eq_true rfl) (Nat.le_of_ble_eq_true rfl) (Nat.le_of_ble_eq_true rfl) (fun _ _ hu => hu.elim) (fun r u hu => ?_)
      obtain ⟨rfl, hu⟩ := hu
      subst u
      refine V.stt (g2 := ((s, m), (sT, mT), rr, hh, sl, tx)) (rfl) ?_
      refine v_if_neB C 58 dX5_same_45 (by decide) (fun c45 => ?_) (fun c45 => ?_)
      · rw [isP_pl hn h96, hp_b, Bool.true_and] at c45
        have hrow : rowB n (nI ja) (nI jb) k = true := by
          unfold rowB
          rw [c45, c35, decide_eq_true (show (1 : Int) ≤ k.toInt by omega)]
          rfl
        obtain ⟨el, hl31⟩ := nI_of_nonneg (x := k) (by omega)
        have q35 := of_decide_eq_true c35
        have q45 := of_decide_eq_true c45
        rw [nI_toInt (by omega)] at q35 q45
        have b1 : ja + k.toInt.toNat ≤ n := by omega
        have b2 : jb + k.toInt.toNat ≤ n := by omega
        generalize k.toInt.toNat = l at el hl31 b1 b2
        subst el
        have t_l : tN (nI l) = l := tN_nI hl31
        refine v_iconst (v := nI 0) C dX5_same_58 (by decide) ?_
        refine v_istore C (lo2 := [some _, some _, some _, some _, some _, some _]) dX5_same_59 rfl (Nat.le_of_ble_eq_true rfl) rfl ?_
        have L61 : ∀ (t : Nat), (fun t => 0 ≤ t ∧ t ≤ 200 ∧ anyG (samB m ja jb) t (l - t) = anyG (samB m ja jb) 0 l) t → (fun t : Nat => V X (cS (xK X) h) 61 [some (.ref (h 0)), some (.int (nI ja)), some (.int (nI jb)), some (.int (nI l)), some (.ref (h 5)), some (.int (nI t))] [] ((s, m), (sT, mT), rr, hh, sl, tx) 5 30) t := by
          refine v_ind (fun t : Nat => l - t) ?_
          rintro i ih61 hI61
          try dsimp only at hI61 ⊢
          obtain ⟨i1, i2, i3⟩ := hI61
          refine v_iload C dX5_same_61 rfl ?_
          refine v_iload_n C dX5_same_63 rfl ?_
          first | refine v_icmp_geN C 96 dX5_same_64 (by decide) (by omega) (by omega) (fun c64 => ?_) (fun c64 => ?_) | refine v_icmp_ge C 96 dX5_same_64 (by decide) (fun c64 => ?_) (fun c64 => ?_)
          · refine v_iconst (v := nI 1) C dX5_same_96 (by decide) ?_
            refine v_iret C F (by first | rfl | exact bI_nar _) dX5_same_97 (Nat.le_of_ble_eq_true rfl) (Nat.le_of_ble_eq_true rfl) ?_
            rw [anyG_0 (by omega)] at i3
            exact ⟨⟨by simp [cdL, hn0, hp_a, hp_b, hrow], by rw [t_ja, t_jb, t_l]; refine bI_t ?_; rw [← i3]; rfl⟩, _, _, rfl⟩
          · refine v_aload C dX5_same_67 rfl ?_
            refine v_iload_n C dX5_same_69 rfl ?_
            refine v_iload C dX5_same_70 rfl ?_
            first | refine v_iaddN C dX5_same_72 ?_ | refine v_iadd C dX5_same_72 ?_
            refine v_callVi C (c_X2_valueOf hl (n := n) hI (by omega)) ym_X2_valueOf ml_X5_117 emb_c_lm rfl rfl rfl rfl rfl dX5_same_73 (Nat.le_of_ble_eq_true rfl) (Nat.le_of_ble_eq_true rfl) (Nat.le_of_ble_eq_true rfl) (Nat.le_of_ble_eq_true rfl) (fun _ _ hu => hu.elim) (fun r u hu => ?_)
            obtain ⟨rfl, hu⟩ := hu
            subst u
            refine V.stt (g2 := ((s, m), (sT, mT), rr, hh, sl, tx)) (rfl) ?_
            refine v_aload C dX5_same_76 rfl ?_
            refine v_iload_n C dX5_same_78 rfl ?_
            refine v_iload C dX5_same_79 rfl ?_
            first | refine v_iaddN C dX5_same_81 ?_ | refine v_iadd C dX5_same_81 ?_
            refine v_callVi C (c_X2_valueOf hl (n := n) hI (by omega)) ym_X2_valueOf ml_X5_117 emb_c_lm rfl rfl rfl rfl rfl dX5_same_82 (Nat.le_of_ble_eq_true rfl) (Nat.le_of_ble_eq_true rfl) (Nat.le_of_ble_eq_true rfl) (Nat.le_of_ble_eq_true rfl) (fun _ _ hu => hu.elim) (fun r u hu => ?_)
            obtain ⟨rfl, hu⟩ := hu
            subst u
            refine V.stt (g2 := ((s, m), (sT, mT), rr, hh, sl, tx)) (rfl) ?_
            refine v_icmp_eq C 90 dX5_same_85 (by decide) (fun c85 => ?_) (fun c85 => ?_)
            · first | refine v_iinc1 C (lo2 := [some _, some _, some _, some _, some _, some _]) dX5_same_90 rfl rfl rfl ?_ | refine v_iinc C (lo2 := [some _, some _, some _, some _, some _, some _]) dX5_same_90 rfl rfl rfl rfl ?_
              refine v_goto C 61 dX5_same_93 (by decide) ?_
              have hib : i < l := by omega
              have hf : (samB m ja jb) i = false := by
                show (!(valM m (ja + i) == valM m (jb + i))) = false
                rw [beq_iff_eq.mpr c85]
                rfl
              rw [anyG_s hib, hf, Bool.false_or] at i3
              exact ih61 (i + 1) (by show l - (i + 1) < l - i; omega) ⟨by omega, by omega, i3⟩
            · refine v_iconst (v := nI 0) C dX5_same_88 (by decide) ?_
              refine v_iret C F (by first | rfl | exact bI_nar _) dX5_same_89 (Nat.le_of_ble_eq_true rfl) (Nat.le_of_ble_eq_true rfl) ?_
              have hib : i < l := by omega
              have hf : (samB m ja jb) i = true := by
                show (!(valM m (ja + i) == valM m (jb + i))) = true
                rw [beq_eq_false_iff_ne.mpr c85]
                rfl
              rw [anyG_s hib, hf, Bool.true_or] at i3
              exact ⟨⟨by simp [cdL, hn0, hp_a, hp_b, hrow], by rw [t_ja, t_jb, t_l]; refine bI_f ?_; rw [← i3]; rfl⟩, _, _, rfl⟩
        refine V.wid (k2 := 5) (n2 := 30) (Nat.le_of_ble_eq_true rfl) (Nat.le_of_ble_eq_true rfl) ?_
        exact L61 (0) ⟨Nat.le_refl _, by omega, rfl⟩
      · rw [isP_pl hn h96, hp_b, Bool.true_and] at c45
        have hrow : rowB n (nI ja) (nI jb) k = false := by
          unfold rowB
          rw [c45]
          simp
        refine v_throw C N F thr_EIA mm_180 rfl dX5_same_48 dX5_same_51 dX5_same_52 dX5_same_54 dX5_same_57 (Nat.le_of_ble_eq_true rfl) (Nat.le_of_ble_eq_true rfl) (Nat.le_of_ble_eq_true rfl) ?_
        exact ⟨by simp [Th3, cdL, hn0, hp_a, hp_b, hrow], _, _, rfl⟩
set_option maxHeartbeats 16000000 in
theorem c_X5_checksum {l : Launch} (hl : l.stackTraces = false) {κ : Kp} {h : Nat → Nat} {s sT : G} {m mT : Mg} {rr : Rg} {hh : Hg} {sl : Nat → Mg} {tx : G} {n c : Nat} (hW : WM n c m) : Ct SS MM l κ yX5_checksum cX5_checksum 5 (some FieldType.long) 2 6 36 [.ref (h 0)] (cS κ h) ((s, m), (sT, mT), rr, hh, sl, tx) rl (fun r u => (cdL [(decide (n = 0), 1)] = 0 ∧ r = chkV m n) ∧ ROp m rr hh sl tx u) (fun e u => ThU e (cdL [(decide (n = 0), 1)]) ∧ ROp m rr hh sl tx u) := by
  refine Ct.of (own := RX5) (by decide) rfl hl (by intro v hv; simp only [List.mem_cons, List.not_mem_nil, or_false] at hv; first | (rcases hv with rfl | rfl | rfl | rfl | rfl | rfl <;> rfl) | (rcases hv with rfl | rfl | rfl | rfl | rfl <;> rfl) | (rcases hv with rfl | rfl | rfl | rfl <;> rfl) | (rcases hv with rfl | rfl | rfl <;> rfl) | (rcases hv with rfl | rfl <;> rfl) | (subst hv; rfl) | exact hv.elim) (Nat.le_of_ble_eq_true rfl) (fun X hxl hxk C F N => ?_)
  subst hxl hxk
  show V X (cS (xK X) h) 0 [some (.ref (h 0)), none, none, none, none] [] ((s, m), (sT, mT), rr, hh, sl, tx) 0 0
  obtain ⟨h96, hn, hMf⟩ := id hW
  refine v_aload_n C dX5_checksum_0 rfl ?_
  refine v_callVv C (c_X5_needMemory hl hn h96) ym_X5_needMemory ml_X5_100 emb_id_cS rfl rfl rfl rfl rfl dX5_checksum_1 (Nat.le_of_ble_eq_true rfl) (Nat.le_of_ble_eq_true rfl) (Nat.le_of_ble_eq_true rfl) (Nat.le_of_ble_eq_true rfl) (fun e u hu => v_out C N F (Nat.le_of_ble_eq_true rfl) (Nat.le_of_ble_eq_true rfl) ?_) (fun r u hu => ?_)
  · obtain ⟨rfl, hz, rfl⟩ := hu
    exact ⟨by simp [ThU, cdL, hz], _, _, rfl⟩
  obtain ⟨hn0, hu⟩ := hu
  subst u
  have hMI := hMf hn0
  obtain ⟨hI, hE, hLK, hn1, hSB, hBY, hPR⟩ := id hMI
  have hbd := band_ok hSB
  refine V.stt (g2 := ((s, m), (sT, mT), rr, hh, sl, tx)) (rfl) ?_
  refine v_aload_n C dX5_checksum_4 rfl ?_
  refine v_getr C fl_X5_10 or_cS_0_0 dX5_checksum_5 ?_
  refine v_getr C fl_X5_74 or_cS_1_0 dX5_checksum_8 ?_
  refine v_astore_n C (lo2 := [some _, some _, none, none, none]) dX5_checksum_11 rfl (Nat.le_of_ble_eq_true rfl) rfl ?_
  refine v_ldc2 (v := 17) C (TT_t 1399 (by decide +kernel) (by decide +kernel)) dX5_checksum_12 ?_
  refine v_lstore_n C (lo2 := [some _, some _, some _, none, none]) dX5_checksum_15 rfl (Nat.le_of_ble_eq_true rfl) rfl ?_
  refine v_iconst (v := nI 0) C dX5_checksum_16 (by decide) ?_
  refine v_istore C (lo2 := [some _, some _, some _, none, some _]) dX5_checksum_17 rfl (Nat.le_of_ble_eq_true rfl) rfl ?_
  have L19 : ∀ (t : Nat × Int64), (fun t => t.1 ≤ n ∧ forG (fun p (x : Int64) => x * 31 + (valM m p).toInt64) t.1 (n - t.1) t.2 = chkV m n) t → (fun t : Nat × Int64 => V X (cS (xK X) h) 19 [some (.ref (h 0)), some (.ref (h 5)), some (.long t.2), none, some (.int (nI t.1))] [] ((s, m), (sT, mT), rr, hh, sl, tx) 5 30) t := by
    refine v_ind (fun t : Nat × Int64 => n - t.1) ?_
    rintro ⟨i, x⟩ ih19 hI19
    try dsimp only at hI19 ⊢
    obtain ⟨i1, i3⟩ := hI19
    refine v_iload C dX5_checksum_19 rfl ?_
    refine v_aload_n C dX5_checksum_21 rfl ?_
    refine v_getiQ (x := nI n) C fl_X5_91 oi_cS_5_7 (hn) dX5_checksum_22 ?_
    first | refine v_icmp_geN C 48 dX5_checksum_25 (by decide) (by omega) (by omega) (fun c25 => ?_) (fun c25 => ?_) | refine v_icmp_ge C 48 dX5_checksum_25 (by decide) (fun c25 => ?_) (fun c25 => ?_)
    · refine v_lload_n C dX5_checksum_48 rfl ?_
      refine v_lret C F dX5_checksum_49 (Nat.le_of_ble_eq_true rfl) (Nat.le_of_ble_eq_true rfl) ?_
      rw [forG_0 (by omega)] at i3
      exact ⟨⟨by simp [cdL, hn0], by rw [← i3]⟩, _, _, rfl⟩
    · refine v_lload_n C dX5_checksum_28 rfl ?_
      refine v_ldc2 (v := 31) C (TT_t 1400 (by decide +kernel) (by decide +kernel)) dX5_checksum_29 ?_
      refine v_lmul C dX5_checksum_32 ?_
      refine v_aload_n C dX5_checksum_33 rfl ?_
      refine v_iload C dX5_checksum_34 rfl ?_
      refine v_callVi C (c_X2_valueOf hl (n := n) hI (by omega)) ym_X2_valueOf ml_X5_117 emb_c_lm rfl rfl rfl rfl rfl dX5_checksum_36 (Nat.le_of_ble_eq_true rfl) (Nat.le_of_ble_eq_true rfl) (Nat.le_of_ble_eq_true rfl) (Nat.le_of_ble_eq_true rfl) (fun _ _ hu => hu.elim) (fun r u hu => ?_)
      obtain ⟨rfl, hu⟩ := hu
      subst u
      refine V.stt (g2 := ((s, m), (sT, mT), rr, hh, sl, tx)) (rfl) ?_
      refine v_i2l C dX5_checksum_39 rfl ?_
      refine v_ladd C dX5_checksum_40 ?_
      refine v_lstore_n C (lo2 := [some _, some _, some _, none, some _]) dX5_checksum_41 rfl (Nat.le_of_ble_eq_true rfl) rfl ?_
      first | refine v_iinc1 C (lo2 := [some _, some _, some _, none, some _]) dX5_checksum_42 rfl rfl rfl ?_ | refine v_iinc C (lo2 := [some _, some _, some _, none, some _]) dX5_checksum_42 rfl rfl rfl rfl ?_
      refine v_goto C 19 dX5_checksum_45 (by decide) ?_
      have hib : i < n := by omega
      rw [forG_s hib] at i3
      exact ih19 (i + 1, x * 31 + (valM m i).toInt64) (by show n - (i + 1) < n - i; omega) ⟨by show i + 1 ≤ n; omega, i3⟩
  refine V.wid (k2 := 5) (n2 := 30) (Nat.le_of_ble_eq_true rfl) (Nat.le_of_ble_eq_true rfl) ?_
  exact L19 (0, 17) ⟨Nat.zero_le _, rfl⟩
set_option maxHeartbeats 16000000 in
theorem c_X5_forcedByCopy {l : Launch} (hl : l.stackTraces = false) {κ : Kp} {h : Nat → Nat} {s sT : G} {m mT : Mg} {rr : Rg} {hh : Hg} {sl : Nat → Mg} {tx : G} {n c : Nat} {f t k : Int32} (hW : WM n c m) : Ct SS MM l κ yX5_forcedByCopy cX5_forcedByCopy 4 (some FieldType.int) 5 6 36 [.ref (h 0), .int f, .int t, .int k] (cS κ h) ((s, m), (sT, mT), rr, hh, sl, tx) ri (fun r u => (cdL [(decide (n = 0), 1), (!(refM m n f t k == 0), 2)] = 0 ∧ r = (copyM n (tN f) (tN t) (tN k) m) 6 3 - m 6 3) ∧ ROp m rr hh sl tx u) (fun e u => ThA e (cdL [(decide (n = 0), 1), (!(refM m n f t k == 0), 2)]) ∧ ROp m rr hh sl tx u) := by
  refine Ct.of (own := RX5) (by decide) rfl hl (by intro v hv; simp only [List.mem_cons, List.not_mem_nil, or_false] at hv; first | (rcases hv with rfl | rfl | rfl | rfl | rfl | rfl <;> rfl) | (rcases hv with rfl | rfl | rfl | rfl | rfl <;> rfl) | (rcases hv with rfl | rfl | rfl | rfl <;> rfl) | (rcases hv with rfl | rfl | rfl <;> rfl) | (rcases hv with rfl | rfl <;> rfl) | (subst hv; rfl) | exact hv.elim) (Nat.le_of_ble_eq_true rfl) (fun X hxl hxk C F N => ?_)
  subst hxl hxk
  show V X (cS (xK X) h) 0 [some (.ref (h 0)), some (.int f), some (.int t), some (.int k)] [] ((s, m), (sT, mT), rr, hh, sl, tx) 0 0
  obtain ⟨h96, hn, hMf⟩ := id hW
  refine v_aload_n C dX5_forcedByCopy_0 rfl ?_
  refine v_callVv C (c_X5_needMemory hl hn h96) ym_X5_needMemory ml_X5_100 emb_id_cS rfl rfl rfl rfl rfl dX5_forcedByCopy_1 (Nat.le_of_ble_eq_true rfl) (Nat.le_of_ble_eq_true rfl) (Nat.le_of_ble_eq_true rfl) (Nat.le_of_ble_eq_true rfl) (fun e u hu => v_out C N F (Nat.le_of_ble_eq_true rfl) (Nat.le_of_ble_eq_true rfl) ?_) (fun r u hu => ?_)
  · obtain ⟨rfl, hz, rfl⟩ := hu
    exact ⟨by simp [ThA, cdL, hz], _, _, rfl⟩
  obtain ⟨hn0, hu⟩ := hu
  subst u
  have hMI := hMf hn0
  obtain ⟨hI, hE, hLK, hn1, hSB, hBY, hPR⟩ := id hMI
  have hbd := band_ok hSB
  refine V.stt (g2 := ((s, m), (sT, mT), rr, hh, sl, tx)) (rfl) ?_
  refine v_aload_n C dX5_forcedByCopy_4 rfl ?_
  refine v_iload_n C dX5_forcedByCopy_5 rfl ?_
  refine v_iload_n C dX5_forcedByCopy_6 rfl ?_
  refine v_iload_n C dX5_forcedByCopy_7 rfl ?_
  refine v_callVv C (c_X5_tryCopy hl hn h96 hMI) ym_X5_tryCopy ml_X5_190 emb_id_cS rfl rfl rfl rfl rfl dX5_forcedByCopy_8 (Nat.le_of_ble_eq_true rfl) (Nat.le_of_ble_eq_true rfl) (Nat.le_of_ble_eq_true rfl) (Nat.le_of_ble_eq_true rfl) (fun e u hu => v_out C N F (Nat.le_of_ble_eq_true rfl) (Nat.le_of_ble_eq_true rfl) ?_) (fun r u hu => ?_)
  · obtain ⟨rfl, hz, rfl⟩ := hu
    exact ⟨by simp [ThA, cdL, hn0, hz], _, _, rfl⟩
  obtain ⟨hrf, s3, hu⟩ := hu
  subst u
  refine V.stt (g2 := ((s, m), (s3, copyM n (tN f) (tN t) (tN k) m), rr, hh, sl, tx)) (rfl) ?_
  refine v_aload_n C dX5_forcedByCopy_11 rfl ?_
  refine v_iconst (v := nI 3) C dX5_forcedByCopy_12 (by decide) ?_
  refine v_callVi C (c_X5_addedTo hl (by decide)) ym_X5_addedTo ml_X5_194 emb_id_cS rfl rfl rfl rfl rfl dX5_forcedByCopy_13 (Nat.le_of_ble_eq_true rfl) (Nat.le_of_ble_eq_true rfl) (Nat.le_of_ble_eq_true rfl) (Nat.le_of_ble_eq_true rfl) (fun _ _ hu => hu.elim) (fun r u hu => ?_)
  obtain ⟨rfl, hu⟩ := hu
  subst u
  refine V.stt (g2 := ((s, m), (s3, copyM n (tN f) (tN t) (tN k) m), rr, hh, sl, tx)) (rfl) ?_
  refine v_iret C F (by first | rfl | exact bI_nar _) dX5_forcedByCopy_16 (Nat.le_of_ble_eq_true rfl) (Nat.le_of_ble_eq_true rfl) ?_
  exact ⟨⟨by simp [cdL, hn0, hrf], rfl⟩, _, _, rfl⟩
set_option maxHeartbeats 16000000 in
theorem c_X5_costOfCopy {l : Launch} (hl : l.stackTraces = false) {κ : Kp} {h : Nat → Nat} {s sT : G} {m mT : Mg} {rr : Rg} {hh : Hg} {sl : Nat → Mg} {tx : G} {n c : Nat} {f t k : Int32} (hW : WM n c m) : Ct SS MM l κ yX5_costOfCopy cX5_costOfCopy 4 (some FieldType.int) 5 6 36 [.ref (h 0), .int f, .int t, .int k] (cS κ h) ((s, m), (sT, mT), rr, hh, sl, tx) ri (fun r u => (cdL [(decide (n = 0), 1), (!(refM m n f t k == 0), 2)] = 0 ∧ r = (copyM n (tN f) (tN t) (tN k) m) 6 7 - m 6 7) ∧ ROp m rr hh sl tx u) (fun e u => ThA e (cdL [(decide (n = 0), 1), (!(refM m n f t k == 0), 2)]) ∧ ROp m rr hh sl tx u) := by
  refine Ct.of (own := RX5) (by decide) rfl hl (by intro v hv; simp only [List.mem_cons, List.not_mem_nil, or_false] at hv; first | (rcases hv with rfl | rfl | rfl | rfl | rfl | rfl <;> rfl) | (rcases hv with rfl | rfl | rfl | rfl | rfl <;> rfl) | (rcases hv with rfl | rfl | rfl | rfl <;> rfl) | (rcases hv with rfl | rfl | rfl <;> rfl) | (rcases hv with rfl | rfl <;> rfl) | (subst hv; rfl) | exact hv.elim) (Nat.le_of_ble_eq_true rfl) (fun X hxl hxk C F N => ?_)
  subst hxl hxk
  show V X (cS (xK X) h) 0 [some (.ref (h 0)), some (.int f), some (.int t), some (.int k)] [] ((s, m), (sT, mT), rr, hh, sl, tx) 0 0
  obtain ⟨h96, hn, hMf⟩ := id hW
  refine v_aload_n C dX5_costOfCopy_0 rfl ?_
  refine v_callVv C (c_X5_needMemory hl hn h96) ym_X5_needMemory ml_X5_100 emb_id_cS rfl rfl rfl rfl rfl dX5_costOfCopy_1 (Nat.le_of_ble_eq_true rfl) (Nat.le_of_ble_eq_true rfl) (Nat.le_of_ble_eq_true rfl) (Nat.le_of_ble_eq_true rfl) (fun e u hu => v_out C N F (Nat.le_of_ble_eq_true rfl) (Nat.le_of_ble_eq_true rfl) ?_) (fun r u hu => ?_)
  · obtain ⟨rfl, hz, rfl⟩ := hu
    exact ⟨by simp [ThA, cdL, hz], _, _, rfl⟩
  obtain ⟨hn0, hu⟩ := hu
  subst u
  have hMI := hMf hn0
  obtain ⟨hI, hE, hLK, hn1, hSB, hBY, hPR⟩ := id hMI
  have hbd := band_ok hSB
  refine V.stt (g2 := ((s, m), (sT, mT), rr, hh, sl, tx)) (rfl) ?_
  refine v_aload_n C dX5_costOfCopy_4 rfl ?_
  refine v_iload_n C dX5_costOfCopy_5 rfl ?_
  refine v_iload_n C dX5_costOfCopy_6 rfl ?_
  refine v_iload_n C dX5_costOfCopy_7 rfl ?_
  refine v_callVv C (c_X5_tryCopy hl hn h96 hMI) ym_X5_tryCopy ml_X5_190 emb_id_cS rfl rfl rfl rfl rfl dX5_costOfCopy_8 (Nat.le_of_ble_eq_true rfl) (Nat.le_of_ble_eq_true rfl) (Nat.le_of_ble_eq_true rfl) (Nat.le_of_ble_eq_true rfl) (fun e u hu => v_out C N F (Nat.le_of_ble_eq_true rfl) (Nat.le_of_ble_eq_true rfl) ?_) (fun r u hu => ?_)
  · obtain ⟨rfl, hz, rfl⟩ := hu
    exact ⟨by simp [ThA, cdL, hn0, hz], _, _, rfl⟩
  obtain ⟨hrf, s3, hu⟩ := hu
  subst u
  refine V.stt (g2 := ((s, m), (s3, copyM n (tN f) (tN t) (tN k) m), rr, hh, sl, tx)) (rfl) ?_
  refine v_aload_n C dX5_costOfCopy_11 rfl ?_
  refine v_bipush (v := nI 7) C dX5_costOfCopy_12 (by decide) ?_
  refine v_callVi C (c_X5_addedTo hl (by decide)) ym_X5_addedTo ml_X5_194 emb_id_cS rfl rfl rfl rfl rfl dX5_costOfCopy_14 (Nat.le_of_ble_eq_true rfl) (Nat.le_of_ble_eq_true rfl) (Nat.le_of_ble_eq_true rfl) (Nat.le_of_ble_eq_true rfl) (fun _ _ hu => hu.elim) (fun r u hu => ?_)
  obtain ⟨rfl, hu⟩ := hu
  subst u
  refine V.stt (g2 := ((s, m), (s3, copyM n (tN f) (tN t) (tN k) m), rr, hh, sl, tx)) (rfl) ?_
  refine v_iret C F (by first | rfl | exact bI_nar _) dX5_costOfCopy_17 (Nat.le_of_ble_eq_true rfl) (Nat.le_of_ble_eq_true rfl) ?_
  exact ⟨⟨by simp [cdL, hn0, hrf], rfl⟩, _, _, rfl⟩
set_option maxHeartbeats 16000000 in
theorem c_X5_owedIfCopy {l : Launch} (hl : l.stackTraces = false) {κ : Kp} {h : Nat → Nat} {s sT : G} {m mT : Mg} {rr : Rg} {hh : Hg} {sl : Nat → Mg} {tx : G} {n c : Nat} {f t k : Int32} (hW : WM n c m) : Ct SS MM l κ yX5_owedIfCopy cX5_owedIfCopy 4 (some FieldType.int) 5 6 36 [.ref (h 0), .int f, .int t, .int k] (cS κ h) ((s, m), (sT, mT), rr, hh, sl, tx) ri (fun r u => (cdL [(decide (n = 0), 1), (!(refM m n f t k == 0), 2)] = 0 ∧ r = nI (cntG (owb (copyM n (tN f) (tN t) (tN k) m)) 0 n)) ∧ ROp m rr hh sl tx u) (fun e u => ThA e (cdL [(decide (n = 0), 1), (!(refM m n f t k == 0), 2)]) ∧ ROp m rr hh sl tx u) := by
  refine Ct.of (own := RX5) (by decide) rfl hl (by intro v hv; simp only [List.mem_cons, List.not_mem_nil, or_false] at hv; first | (rcases hv with rfl | rfl | rfl | rfl | rfl | rfl <;> rfl) | (rcases hv with rfl | rfl | rfl | rfl | rfl <;> rfl) | (rcases hv with rfl | rfl | rfl | rfl <;> rfl) | (rcases hv with rfl | rfl | rfl <;> rfl) | (rcases hv with rfl | rfl <;> rfl) | (subst hv; rfl) | exact hv.elim) (Nat.le_of_ble_eq_true rfl) (fun X hxl hxk C F N => ?_)
  subst hxl hxk
  show V X (cS (xK X) h) 0 [some (.ref (h 0)), some (.int f), some (.int t), some (.int k)] [] ((s, m), (sT, mT), rr, hh, sl, tx) 0 0
  obtain ⟨h96, hn, hMf⟩ := id hW
  refine v_aload_n C dX5_owedIfCopy_0 rfl ?_
  refine v_callVv C (c_X5_needMemory hl hn h96) ym_X5_needMemory ml_X5_100 emb_id_cS rfl rfl rfl rfl rfl dX5_owedIfCopy_1 (Nat.le_of_ble_eq_true rfl) (Nat.le_of_ble_eq_true rfl) (Nat.le_of_ble_eq_true rfl) (Nat.le_of_ble_eq_true rfl) (fun e u hu => v_out C N F (Nat.le_of_ble_eq_true rfl) (Nat.le_of_ble_eq_true rfl) ?_) (fun r u hu => ?_)
  · obtain ⟨rfl, hz, rfl⟩ := hu
    exact ⟨by simp [ThA, cdL, hz], _, _, rfl⟩
  obtain ⟨hn0, hu⟩ := hu
  subst u
  have hMI := hMf hn0
  obtain ⟨hI, hE, hLK, hn1, hSB, hBY, hPR⟩ := id hMI
  have hbd := band_ok hSB
  refine V.stt (g2 := ((s, m), (sT, mT), rr, hh, sl, tx)) (rfl) ?_
  refine v_aload_n C dX5_owedIfCopy_4 rfl ?_
  refine v_iload_n C dX5_owedIfCopy_5 rfl ?_
  refine v_iload_n C dX5_owedIfCopy_6 rfl ?_
  refine v_iload_n C dX5_owedIfCopy_7 rfl ?_
  refine v_callVv C (c_X5_tryCopy hl hn h96 hMI) ym_X5_tryCopy ml_X5_190 emb_id_cS rfl rfl rfl rfl rfl dX5_owedIfCopy_8 (Nat.le_of_ble_eq_true rfl) (Nat.le_of_ble_eq_true rfl) (Nat.le_of_ble_eq_true rfl) (Nat.le_of_ble_eq_true rfl) (fun e u hu => v_out C N F (Nat.le_of_ble_eq_true rfl) (Nat.le_of_ble_eq_true rfl) ?_) (fun r u hu => ?_)
  · obtain ⟨rfl, hz, rfl⟩ := hu
    exact ⟨by simp [ThA, cdL, hn0, hz], _, _, rfl⟩
  obtain ⟨hrf, s3, hu⟩ := hu
  subst u
  obtain ⟨f1, t1, k1, ef, et, ek, b1, b2, b3⟩ := ref_at hn h96 hrf
  subst ef et ek
  have e3 : tN (nI f1) = f1 := tN_nI (by omega)
  have e4 : tN (nI t1) = t1 := tN_nI (by omega)
  have e5 : tN (nI k1) = k1 := tN_nI (by omega)
  have hM2 := MI.copy hMI b1 b2 b3
  refine V.stt (g2 := ((s, m), (s3, copyM n f1 t1 k1 m), rr, hh, sl, tx)) (by rw [e3, e4, e5]) ?_
  refine v_aload_n C dX5_owedIfCopy_11 rfl ?_
  refine v_getr C fl_X5_16 or_cS_0_1 dX5_owedIfCopy_12 ?_
  refine v_getr C fl_X5_74 or_cS_13_0 dX5_owedIfCopy_15 ?_
  refine v_callVi C (c_X2_countOwed hl hM2.1.1 h96) ym_X2_countOwed ml_X5_141 emb_c_tm rfl rfl rfl rfl rfl dX5_owedIfCopy_18 (Nat.le_of_ble_eq_true rfl) (Nat.le_of_ble_eq_true rfl) (Nat.le_of_ble_eq_true rfl) (Nat.le_of_ble_eq_true rfl) (fun _ _ hu => hu.elim) (fun r u hu => ?_)
  obtain ⟨rfl, hu⟩ := hu
  subst u
  refine V.stt (g2 := ((s, m), (s3, copyM n f1 t1 k1 m), rr, hh, sl, tx)) (rfl) ?_
  refine v_iret C F (by first | rfl | exact bI_nar _) dX5_owedIfCopy_21 (Nat.le_of_ble_eq_true rfl) (Nat.le_of_ble_eq_true rfl) ?_
  exact ⟨⟨by simp [cdL, hn0, hrf], by rw [e3, e4, e5]⟩, _, _, rfl⟩
set_option maxHeartbeats 16000000 in
theorem c_X5_forcedByWrite {l : Launch} (hl : l.stackTraces = false) {κ : Kp} {h : Nat → Nat} {s sT : G} {m mT : Mg} {rr : Rg} {hh : Hg} {sl : Nat → Mg} {tx : G} {n c : Nat} {p : Int32} (hW : WM n c m) : Ct SS MM l κ yX5_forcedByWrite cX5_forcedByWrite 2 (some FieldType.int) 4 6 36 [.ref (h 0), .int p] (cS κ h) ((s, m), (sT, mT), rr, hh, sl, tx) ri (fun r u => (cdL [(decide (n = 0), 1), (!plB n p, 2), (lockB m (tN p), 3)] = 0 ∧ r = nI (fillM n (tN p) (tN p) (nI 0) m).1) ∧ ROp m rr hh sl tx u) (fun e u => Th3 e (cdL [(decide (n = 0), 1), (!plB n p, 2), (lockB m (tN p), 3)]) ∧ ROp m rr hh sl tx u) := by
  refine Ct.of (own := RX5) (by decide) rfl hl (by intro v hv; simp only [List.mem_cons, List.not_mem_nil, or_false] at hv; first | (rcases hv with rfl | rfl | rfl | rfl | rfl | rfl <;> rfl) | (rcases hv with rfl | rfl | rfl | rfl | rfl <;> rfl) | (rcases hv with rfl | rfl | rfl | rfl <;> rfl) | (rcases hv with rfl | rfl | rfl <;> rfl) | (rcases hv with rfl | rfl <;> rfl) | (subst hv; rfl) | exact hv.elim) (Nat.le_of_ble_eq_true rfl) (fun X hxl hxk C F N => ?_)
  subst hxl hxk
  show V X (cS (xK X) h) 0 [some (.ref (h 0)), some (.int p)] [] ((s, m), (sT, mT), rr, hh, sl, tx) 0 0
  obtain ⟨h96, hn, hMf⟩ := id hW
  refine v_aload_n C dX5_forcedByWrite_0 rfl ?_
  refine v_callVv C (c_X5_needMemory hl hn h96) ym_X5_needMemory ml_X5_100 emb_id_cS rfl rfl rfl rfl rfl dX5_forcedByWrite_1 (Nat.le_of_ble_eq_true rfl) (Nat.le_of_ble_eq_true rfl) (Nat.le_of_ble_eq_true rfl) (Nat.le_of_ble_eq_true rfl) (fun e u hu => v_out C N F (Nat.le_of_ble_eq_true rfl) (Nat.le_of_ble_eq_true rfl) ?_) (fun r u hu => ?_)
  · obtain ⟨rfl, hz, rfl⟩ := hu
    exact ⟨by simp [Th3, cdL, hz], _, _, rfl⟩
  obtain ⟨hn0, hu⟩ := hu
  subst u
  have hMI := hMf hn0
  obtain ⟨hI, hE, hLK, hn1, hSB, hBY, hPR⟩ := id hMI
  have hbd := band_ok hSB
  refine V.stt (g2 := ((s, m), (sT, mT), rr, hh, sl, tx)) (rfl) ?_
  refine v_aload_n C dX5_forcedByWrite_4 rfl ?_
  refine v_iload_n C dX5_forcedByWrite_5 rfl ?_
  refine v_callVv C (c_X5_needPlace hl hn h96) ym_X5_needPlace ml_X5_111 emb_id_cS rfl rfl rfl rfl rfl dX5_forcedByWrite_6 (Nat.le_of_ble_eq_true rfl) (Nat.le_of_ble_eq_true rfl) (Nat.le_of_ble_eq_true rfl) (Nat.le_of_ble_eq_true rfl) (fun e u hu => v_out C N F (Nat.le_of_ble_eq_true rfl) (Nat.le_of_ble_eq_true rfl) ?_) (fun r u hu => ?_)
  · obtain ⟨rfl, hz, rfl⟩ := hu
    exact ⟨by simp [Th3, cdL, hn0, hz], _, _, rfl⟩
  obtain ⟨hp_p, hu⟩ := hu
  subst u
  obtain ⟨j, hj_j, e_j⟩ := pl_at hp_p
  subst e_j
  have t_j : tN (nI j) = j := tN_nI (by omega)
  refine V.stt (g2 := ((s, m), (sT, mT), rr, hh, sl, tx)) (rfl) ?_
  refine v_aload_n C dX5_forcedByWrite_9 rfl ?_
  refine v_iload_n C dX5_forcedByWrite_10 rfl ?_
  refine v_iload_n C dX5_forcedByWrite_11 rfl ?_
  refine v_callVv C (c_X5_needUnlocked hl (n := n) hn h96 (by omega) (by omega)) ym_X5_needUnlocked ml_X5_197 emb_id_cS rfl rfl rfl rfl rfl dX5_forcedByWrite_12 (Nat.le_of_ble_eq_true rfl) (Nat.le_of_ble_eq_true rfl) (Nat.le_of_ble_eq_true rfl) (Nat.le_of_ble_eq_true rfl) (fun e u hu => v_out C N F (Nat.le_of_ble_eq_true rfl) (Nat.le_of_ble_eq_true rfl) ?_) (fun r u hu => ?_)
  · obtain ⟨rfl, hz, rfl⟩ := hu
    rw [any1] at hz
    exact ⟨by simp [Th3, cdL, hn0, hp_p, t_j, hz], _, _, rfl⟩
  obtain ⟨hul, hu⟩ := hu
  subst u
  rw [any1] at hul
  refine V.stt (g2 := ((s, m), (sT, mT), rr, hh, sl, tx)) (rfl) ?_
  refine v_aload_n C dX5_forcedByWrite_15 rfl ?_
  refine v_callVv C (c_X5_startTrial hl hLK) ym_X5_startTrial ml_X5_200 emb_id_cS rfl rfl rfl rfl rfl dX5_forcedByWrite_16 (Nat.le_of_ble_eq_true rfl) (Nat.le_of_ble_eq_true rfl) (Nat.le_of_ble_eq_true rfl) (Nat.le_of_ble_eq_true rfl) (fun _ _ hu => hu.elim) (fun r u hu => ?_)
  subst u
  refine V.stt (g2 := ((s, m), (sT, m), rr, hh, sl, tx)) (rfl) ?_
  refine v_aload_n C dX5_forcedByWrite_19 rfl ?_
  refine v_getr C fl_X5_16 or_cS_0_1 dX5_forcedByWrite_20 ?_
  refine v_iload_n C dX5_forcedByWrite_23 rfl ?_
  refine v_iload_n C dX5_forcedByWrite_24 rfl ?_
  refine v_iconst (v := nI 0) C dX5_forcedByWrite_25 (by decide) ?_
  refine v_callVi C (c_X0_fillRow hl (s := sT) (m := m) (n := n) hI hE (Nat.le_refl _) hj_j) ym_X0_fillRow ml_X5_203 emb_c_trial rfl rfl rfl rfl rfl dX5_forcedByWrite_26 (Nat.le_of_ble_eq_true rfl) (Nat.le_of_ble_eq_true rfl) (Nat.le_of_ble_eq_true rfl) (Nat.le_of_ble_eq_true rfl) (fun _ _ hu => hu.elim) (fun r u hu => ?_)
  obtain ⟨rfl, s2, hu⟩ := hu
  subst u
  refine v_iret C F (by first | rfl | exact bI_nar _) dX5_forcedByWrite_29 (Nat.le_of_ble_eq_true rfl) (Nat.le_of_ble_eq_true rfl) ?_
  exact ⟨⟨by simp [cdL, hn0, hp_p, hul, t_j], by rw [t_j]⟩, _, _, rfl⟩
set_option maxHeartbeats 16000000 in
theorem c_X5_forcedByFill {l : Launch} (hl : l.stackTraces = false) {κ : Kp} {h : Nat → Nat} {s sT : G} {m mT : Mg} {rr : Rg} {hh : Hg} {sl : Nat → Mg} {tx : G} {n c : Nat} {a b : Int32} (hW : WM n c m) : Ct SS MM l κ yX5_forcedByFill cX5_forcedByFill 3 (some FieldType.int) 4 6 36 [.ref (h 0), .int a, .int b] (cS κ h) ((s, m), (sT, mT), rr, hh, sl, tx) ri (fun r u => (cdL [(decide (n = 0), 1), (!plB n a, 2), (!plB n b, 2), (decide (b.toInt < a.toInt), 3), (anyG (lockB m) (tN a) (tN b + 1 - tN a), 3)] = 0 ∧ r = nI (fillM n (tN a) (tN b) (nI 0) m).1) ∧ ROp m rr hh sl tx u) (fun e u => Th3 e (cdL [(decide (n = 0), 1), (!plB n a, 2), (!plB n b, 2), (decide (b.toInt < a.toInt), 3), (anyG (lockB m) (tN a) (tN b + 1 - tN a), 3)]) ∧ ROp m rr hh sl tx u) := by
  refine Ct.of (own := RX5) (by decide) rfl hl (by intro v hv; simp only [List.mem_cons, List.not_mem_nil, or_false] at hv; first | (rcases hv with rfl | rfl | rfl | rfl | rfl | rfl <;> rfl) | (rcases hv with rfl | rfl | rfl | rfl | rfl <;> rfl) | (rcases hv with rfl | rfl | rfl | rfl <;> rfl) | (rcases hv with rfl | rfl | rfl <;> rfl) | (rcases hv with rfl | rfl <;> rfl) | (subst hv; rfl) | exact hv.elim) (Nat.le_of_ble_eq_true rfl) (fun X hxl hxk C F N => ?_)
  subst hxl hxk
  show V X (cS (xK X) h) 0 [some (.ref (h 0)), some (.int a), some (.int b)] [] ((s, m), (sT, mT), rr, hh, sl, tx) 0 0
  obtain ⟨h96, hn, hMf⟩ := id hW
  refine v_aload_n C dX5_forcedByFill_0 rfl ?_
  refine v_callVv C (c_X5_needMemory hl hn h96) ym_X5_needMemory ml_X5_100 emb_id_cS rfl rfl rfl rfl rfl dX5_forcedByFill_1 (Nat.le_of_ble_eq_true rfl) (Nat.le_of_ble_eq_true rfl) (Nat.le_of_ble_eq_true rfl) (Nat.le_of_ble_eq_true rfl) (fun e u hu => v_out C N F (Nat.le_of_ble_eq_true rfl) (Nat.le_of_ble_eq_true rfl) ?_) (fun r u hu => ?_)
  · obtain ⟨rfl, hz, rfl⟩ := hu
    exact ⟨by simp [Th3, cdL, hz], _, _, rfl⟩
  obtain ⟨hn0, hu⟩ := hu
  subst u
  have hMI := hMf hn0
  obtain ⟨hI, hE, hLK, hn1, hSB, hBY, hPR⟩ := id hMI
  have hbd := band_ok hSB
  refine V.stt (g2 := ((s, m), (sT, mT), rr, hh, sl, tx)) (rfl) ?_
  refine v_aload_n C dX5_forcedByFill_4 rfl ?_
  refine v_iload_n C dX5_forcedByFill_5 rfl ?_
  refine v_iload_n C dX5_forcedByFill_6 rfl ?_
  refine v_callVv C (c_X5_needRow hl hn h96) ym_X5_needRow ml_X5_145 emb_id_cS rfl rfl rfl rfl rfl dX5_forcedByFill_7 (Nat.le_of_ble_eq_true rfl) (Nat.le_of_ble_eq_true rfl) (Nat.le_of_ble_eq_true rfl) (Nat.le_of_ble_eq_true rfl) (fun e u hu => v_out C N F (Nat.le_of_ble_eq_true rfl) (Nat.le_of_ble_eq_true rfl) ?_) (fun r u hu => ?_)
  · obtain ⟨hu, rfl⟩ := hu
    rcases hu with ⟨rfl, hz⟩ | ⟨rfl, hz1, hz2, hz3⟩
    · refine ⟨?_, _, _, rfl⟩
      cases hza : plB n a
      · simp [Th3, cdL, hn0, hza]
      · rw [hza] at hz
        simp only [Bool.not_true, Bool.false_or, Bool.not_eq_true'] at hz
        simp [Th3, cdL, hn0, hza, hz]
    · exact ⟨by simp [Th3, cdL, hn0, hz1, hz2, hz3], _, _, rfl⟩
  obtain ⟨hp_a, hp_b, hlt, hu⟩ := hu
  subst u
  obtain ⟨ja, hj_ja, e_ja⟩ := pl_at hp_a
  subst e_ja
  obtain ⟨jb, hj_jb, e_jb⟩ := pl_at hp_b
  subst e_jb
  have t_ja : tN (nI ja) = ja := tN_nI (by omega)
  have t_jb : tN (nI jb) = jb := tN_nI (by omega)
  have hle := hlt
  rw [nI_toInt (by omega), nI_toInt (by omega)] at hle
  have hle : ja ≤ jb := by omega
  refine V.stt (g2 := ((s, m), (sT, mT), rr, hh, sl, tx)) (rfl) ?_
  refine v_aload_n C dX5_forcedByFill_10 rfl ?_
  refine v_iload_n C dX5_forcedByFill_11 rfl ?_
  refine v_iload_n C dX5_forcedByFill_12 rfl ?_
  refine v_callVv C (c_X5_needUnlocked hl (n := n) hn h96 (by omega) (by omega)) ym_X5_needUnlocked ml_X5_197 emb_id_cS rfl rfl rfl rfl rfl dX5_forcedByFill_13 (Nat.le_of_ble_eq_true rfl) (Nat.le_of_ble_eq_true rfl) (Nat.le_of_ble_eq_true rfl) (Nat.le_of_ble_eq_true rfl) (fun e u hu => v_out C N F (Nat.le_of_ble_eq_true rfl) (Nat.le_of_ble_eq_true rfl) ?_) (fun r u hu => ?_)
  · obtain ⟨rfl, hz, rfl⟩ := hu
    exact ⟨by simp [Th3, cdL, hn0, hp_a, hp_b, hlt, t_ja, t_jb, hz], _, _, rfl⟩
  obtain ⟨hul, hu⟩ := hu
  subst u
  refine V.stt (g2 := ((s, m), (sT, mT), rr, hh, sl, tx)) (rfl) ?_
  refine v_aload_n C dX5_forcedByFill_16 rfl ?_
  refine v_callVv C (c_X5_startTrial hl hLK) ym_X5_startTrial ml_X5_200 emb_id_cS rfl rfl rfl rfl rfl dX5_forcedByFill_17 (Nat.le_of_ble_eq_true rfl) (Nat.le_of_ble_eq_true rfl) (Nat.le_of_ble_eq_true rfl) (Nat.le_of_ble_eq_true rfl) (fun _ _ hu => hu.elim) (fun r u hu => ?_)
  subst u
  refine V.stt (g2 := ((s, m), (sT, m), rr, hh, sl, tx)) (rfl) ?_
  refine v_aload_n C dX5_forcedByFill_20 rfl ?_
  refine v_getr C fl_X5_16 or_cS_0_1 dX5_forcedByFill_21 ?_
  refine v_iload_n C dX5_forcedByFill_24 rfl ?_
  refine v_iload_n C dX5_forcedByFill_25 rfl ?_
  refine v_iconst (v := nI 0) C dX5_forcedByFill_26 (by decide) ?_
  refine v_callVi C (c_X0_fillRow hl (s := sT) (m := m) (n := n) hI hE hle hj_jb) ym_X0_fillRow ml_X5_203 emb_c_trial rfl rfl rfl rfl rfl dX5_forcedByFill_27 (Nat.le_of_ble_eq_true rfl) (Nat.le_of_ble_eq_true rfl) (Nat.le_of_ble_eq_true rfl) (Nat.le_of_ble_eq_true rfl) (fun _ _ hu => hu.elim) (fun r u hu => ?_)
  obtain ⟨rfl, s2, hu⟩ := hu
  subst u
  refine v_iret C F (by first | rfl | exact bI_nar _) dX5_forcedByFill_30 (Nat.le_of_ble_eq_true rfl) (Nat.le_of_ble_eq_true rfl) ?_
  exact ⟨⟨by simp [cdL, hn0, hp_a, hp_b, hlt, hul, t_ja, t_jb], by rw [t_ja, t_jb]⟩, _, _, rfl⟩
set_option maxHeartbeats 16000000 in
theorem c_X5_owedAfter {l : Launch} (hl : l.stackTraces = false) {κ : Kp} {h : Nat → Nat} {s sT : G} {m mT : Mg} {rr : Rg} {hh : Hg} {sl : Nat → Mg} {tx : G} {n c : Nat} {t : Int32} (hW : WM n c m) : Ct SS MM l κ yX5_owedAfter cX5_owedAfter 3 (some FieldType.int) 2 6 36 [.ref (h 0), .int t] (cS κ h) ((s, m), (sT, mT), rr, hh, sl, tx) ri (fun r u => (cdL [(decide (n = 0), 1), (!inB t 1 100, 2)] = 0 ∧ r = nI (cntG (owb m) 0 n - tN t * bandN m)) ∧ ROp m rr hh sl tx u) (fun e u => ThA e (cdL [(decide (n = 0), 1), (!inB t 1 100, 2)]) ∧ ROp m rr hh sl tx u) := by
  refine Ct.of (own := RX5) (by decide) rfl hl (by intro v hv; simp only [List.mem_cons, List.not_mem_nil, or_false] at hv; first | (rcases hv with rfl | rfl | rfl | rfl | rfl | rfl <;> rfl) | (rcases hv with rfl | rfl | rfl | rfl | rfl <;> rfl) | (rcases hv with rfl | rfl | rfl | rfl <;> rfl) | (rcases hv with rfl | rfl | rfl <;> rfl) | (rcases hv with rfl | rfl <;> rfl) | (subst hv; rfl) | exact hv.elim) (Nat.le_of_ble_eq_true rfl) (fun X hxl hxk C F N => ?_)
  subst hxl hxk
  show V X (cS (xK X) h) 0 [some (.ref (h 0)), some (.int t), none] [] ((s, m), (sT, mT), rr, hh, sl, tx) 0 0
  obtain ⟨h96, hn, hMf⟩ := id hW
  refine v_aload_n C dX5_owedAfter_0 rfl ?_
  refine v_callVv C (c_X5_needMemory hl hn h96) ym_X5_needMemory ml_X5_100 emb_id_cS rfl rfl rfl rfl rfl dX5_owedAfter_1 (Nat.le_of_ble_eq_true rfl) (Nat.le_of_ble_eq_true rfl) (Nat.le_of_ble_eq_true rfl) (Nat.le_of_ble_eq_true rfl) (fun e u hu => v_out C N F (Nat.le_of_ble_eq_true rfl) (Nat.le_of_ble_eq_true rfl) ?_) (fun r u hu => ?_)
  · obtain ⟨rfl, hz, rfl⟩ := hu
    exact ⟨by simp [ThA, cdL, hz], _, _, rfl⟩
  obtain ⟨hn0, hu⟩ := hu
  subst u
  have hMI := hMf hn0
  obtain ⟨hI, hE, hLK, hn1, hSB, hBY, hPR⟩ := id hMI
  have hbd := band_ok hSB
  refine V.stt (g2 := ((s, m), (sT, mT), rr, hh, sl, tx)) (rfl) ?_
  refine v_aload_n C dX5_owedAfter_4 rfl ?_
  refine v_iload_n C dX5_owedAfter_5 rfl ?_
  refine v_callVv C (c_X5_needTicks hl) ym_X5_needTicks ml_X5_209 emb_id_cS rfl rfl rfl rfl rfl dX5_owedAfter_6 (Nat.le_of_ble_eq_true rfl) (Nat.le_of_ble_eq_true rfl) (Nat.le_of_ble_eq_true rfl) (Nat.le_of_ble_eq_true rfl) (fun e u hu => v_out C N F (Nat.le_of_ble_eq_true rfl) (Nat.le_of_ble_eq_true rfl) ?_) (fun r u hu => ?_)
  · obtain ⟨rfl, hz, rfl⟩ := hu
    exact ⟨by simp [ThA, cdL, hn0, hz], _, _, rfl⟩
  obtain ⟨hp_t, hu⟩ := hu
  subst u
  obtain ⟨j, hi_j, hj_j, hk_j, e_j⟩ := in_at (a := 1) hp_t
  subst e_j
  have t_j : tN (nI j) = j := tN_nI hk_j
  refine V.stt (g2 := ((s, m), (sT, mT), rr, hh, sl, tx)) (rfl) ?_
  refine v_aload_n C dX5_owedAfter_9 rfl ?_
  refine v_getr C fl_X5_10 or_cS_0_0 dX5_owedAfter_10 ?_
  refine v_getr C fl_X5_74 or_cS_1_0 dX5_owedAfter_13 ?_
  refine v_callVi C (c_X2_countOwed hl hn h96) ym_X2_countOwed ml_X5_141 emb_c_lm rfl rfl rfl rfl rfl dX5_owedAfter_16 (Nat.le_of_ble_eq_true rfl) (Nat.le_of_ble_eq_true rfl) (Nat.le_of_ble_eq_true rfl) (Nat.le_of_ble_eq_true rfl) (fun _ _ hu => hu.elim) (fun r u hu => ?_)
  obtain ⟨rfl, hu⟩ := hu
  subst u
  refine V.stt (g2 := ((s, m), (sT, mT), rr, hh, sl, tx)) (rfl) ?_
  refine v_iload_n C dX5_owedAfter_19 rfl ?_
  refine v_aload_n C dX5_owedAfter_20 rfl ?_
  refine v_getr C fl_X5_10 or_cS_0_0 dX5_owedAfter_21 ?_
  refine v_getr C fl_X5_74 or_cS_1_0 dX5_owedAfter_24 ?_
  refine v_getr C fl_X5_107 or_cS_5_4 dX5_owedAfter_27 ?_
  refine v_iconst (v := nI 0) C dX5_owedAfter_30 (by decide) ?_
  refine v_ialdQ (x := nI (bandN m)) C ar_cS_10 (by decide) _ (hbd.1) ?_ rfl dX5_owedAfter_31 ?_
  · omega
  first | refine v_imulN C dX5_owedAfter_32 ?_ | refine v_imul C dX5_owedAfter_32 ?_
  first | refine v_isubN C dX5_owedAfter_33 (by omega) ?_ | refine v_isub C dX5_owedAfter_33 ?_
  refine v_istore_n C (lo2 := [some _, some _, some _]) dX5_owedAfter_34 rfl (Nat.le_of_ble_eq_true rfl) rfl ?_
  refine v_iload_n C dX5_owedAfter_35 rfl ?_
  refine v_iconst (v := nI 0) C dX5_owedAfter_36 (by decide) ?_
  refine v_mmax (z := nI (cntG (owb m) 0 n - j * bandN m)) C ml_X5_212 w_maxS w_mI w_maxC rfl (Nat.le_of_ble_eq_true rfl) dX5_owedAfter_37 (Nat.le_of_ble_eq_true rfl) (Nat.le_of_ble_eq_true rfl) ?_ ?_
  · exact max_sub (by have := cntG_le (f := owb m) n 0; omega) (Nat.lt_of_le_of_lt (Nat.mul_le_mul (show j ≤ 100 by omega) hbd.2.2) (by decide))
  refine V.stt (g2 := ((s, m), (sT, mT), rr, hh, sl, tx)) (rfl) ?_
  refine v_iret C F (by first | rfl | exact bI_nar _) dX5_owedAfter_40 (Nat.le_of_ble_eq_true rfl) (Nat.le_of_ble_eq_true rfl) ?_
  exact ⟨⟨by simp [cdL, hn0, hp_t], by rw [t_j]⟩, _, _, rfl⟩
set_option maxHeartbeats 16000000 in
theorem c_X5_paidIn {l : Launch} (hl : l.stackTraces = false) {κ : Kp} {h : Nat → Nat} {s sT : G} {m mT : Mg} {rr : Rg} {hh : Hg} {sl : Nat → Mg} {tx : G} {n c : Nat} {p : Int32} (hW : WM n c m) : Ct SS MM l κ yX5_paidIn cX5_paidIn 2 (some FieldType.int) 3 6 36 [.ref (h 0), .int p] (cS κ h) ((s, m), (sT, mT), rr, hh, sl, tx) ri (fun r u => (cdL [(decide (n = 0), 1), (!plB n p, 2)] = 0 ∧ r = nI (tikN m (untM n (tN p) 96 m).1)) ∧ ROp m rr hh sl tx u) (fun e u => Th3 e (cdL [(decide (n = 0), 1), (!plB n p, 2)]) ∧ ROp m rr hh sl tx u) := by
  refine Ct.of (own := RX5) (by decide) rfl hl (by intro v hv; simp only [List.mem_cons, List.not_mem_nil, or_false] at hv; first | (rcases hv with rfl | rfl | rfl | rfl | rfl | rfl <;> rfl) | (rcases hv with rfl | rfl | rfl | rfl | rfl <;> rfl) | (rcases hv with rfl | rfl | rfl | rfl <;> rfl) | (rcases hv with rfl | rfl | rfl <;> rfl) | (rcases hv with rfl | rfl <;> rfl) | (subst hv; rfl) | exact hv.elim) (Nat.le_of_ble_eq_true rfl) (fun X hxl hxk C F N => ?_)
  subst hxl hxk
  show V X (cS (xK X) h) 0 [some (.ref (h 0)), some (.int p)] [] ((s, m), (sT, mT), rr, hh, sl, tx) 0 0
  obtain ⟨h96, hn, hMf⟩ := id hW
  refine v_aload_n C dX5_paidIn_0 rfl ?_
  refine v_callVv C (c_X5_needMemory hl hn h96) ym_X5_needMemory ml_X5_100 emb_id_cS rfl rfl rfl rfl rfl dX5_paidIn_1 (Nat.le_of_ble_eq_true rfl) (Nat.le_of_ble_eq_true rfl) (Nat.le_of_ble_eq_true rfl) (Nat.le_of_ble_eq_true rfl) (fun e u hu => v_out C N F (Nat.le_of_ble_eq_true rfl) (Nat.le_of_ble_eq_true rfl) ?_) (fun r u hu => ?_)
  · obtain ⟨rfl, hz, rfl⟩ := hu
    exact ⟨by simp [Th3, cdL, hz], _, _, rfl⟩
  obtain ⟨hn0, hu⟩ := hu
  subst u
  have hMI := hMf hn0
  obtain ⟨hI, hE, hLK, hn1, hSB, hBY, hPR⟩ := id hMI
  have hbd := band_ok hSB
  refine V.stt (g2 := ((s, m), (sT, mT), rr, hh, sl, tx)) (rfl) ?_
  refine v_aload_n C dX5_paidIn_4 rfl ?_
  refine v_iload_n C dX5_paidIn_5 rfl ?_
  refine v_callVv C (c_X5_needPlace hl hn h96) ym_X5_needPlace ml_X5_111 emb_id_cS rfl rfl rfl rfl rfl dX5_paidIn_6 (Nat.le_of_ble_eq_true rfl) (Nat.le_of_ble_eq_true rfl) (Nat.le_of_ble_eq_true rfl) (Nat.le_of_ble_eq_true rfl) (fun e u hu => v_out C N F (Nat.le_of_ble_eq_true rfl) (Nat.le_of_ble_eq_true rfl) ?_) (fun r u hu => ?_)
  · obtain ⟨rfl, hz, rfl⟩ := hu
    exact ⟨by simp [Th3, cdL, hn0, hz], _, _, rfl⟩
  obtain ⟨hp_p, hu⟩ := hu
  subst u
  obtain ⟨j, hj_j, e_j⟩ := pl_at hp_p
  subst e_j
  have t_j : tN (nI j) = j := tN_nI (by omega)
  refine V.stt (g2 := ((s, m), (sT, mT), rr, hh, sl, tx)) (rfl) ?_
  refine v_aload_n C dX5_paidIn_9 rfl ?_
  refine v_callVv C (c_X5_startTrial hl hLK) ym_X5_startTrial ml_X5_200 emb_id_cS rfl rfl rfl rfl rfl dX5_paidIn_10 (Nat.le_of_ble_eq_true rfl) (Nat.le_of_ble_eq_true rfl) (Nat.le_of_ble_eq_true rfl) (Nat.le_of_ble_eq_true rfl) (fun _ _ hu => hu.elim) (fun r u hu => ?_)
  subst u
  refine V.stt (g2 := ((s, m), (sT, m), rr, hh, sl, tx)) (rfl) ?_
  refine v_aload_n C dX5_paidIn_13 rfl ?_
  refine v_getr C fl_X5_10 or_cS_0_0 dX5_paidIn_14 ?_
  refine v_aload_n C dX5_paidIn_17 rfl ?_
  refine v_getr C fl_X5_16 or_cS_0_1 dX5_paidIn_18 ?_
  refine v_iload_n C dX5_paidIn_21 rfl ?_
  refine v_callVi C (c_X0_payUntilPaid hl (s := sT) (m := m) (n := n) hI hE hj_j) ym_X0_payUntilPaid ml_X5_217 emb_c_trial rfl rfl rfl rfl rfl dX5_paidIn_22 (Nat.le_of_ble_eq_true rfl) (Nat.le_of_ble_eq_true rfl) (Nat.le_of_ble_eq_true rfl) (Nat.le_of_ble_eq_true rfl) (fun _ _ hu => hu.elim) (fun r u hu => ?_)
  obtain ⟨rfl, s3, hu⟩ := hu
  subst u
  refine V.stt (g2 := ((s, m), (s3, (untM n j 96 m).2), rr, hh, sl, tx)) (rfl) ?_
  refine v_callVi C (c_X0_ticksFor hl (s := s) (m := m) (w := bandN m) hbd.1 hbd.2.2 hbd.2.1 (by have := untM_le (n := n) (p := j) 96 m; omega)) ym_X0_ticksFor ml_X5_206 emb_c_live rfl rfl rfl rfl rfl dX5_paidIn_25 (Nat.le_of_ble_eq_true rfl) (Nat.le_of_ble_eq_true rfl) (Nat.le_of_ble_eq_true rfl) (Nat.le_of_ble_eq_true rfl) (fun _ _ hu => hu.elim) (fun r u hu => ?_)
  obtain ⟨rfl, hu⟩ := hu
  subst u
  refine V.stt (g2 := ((s, m), (s3, (untM n j 96 m).2), rr, hh, sl, tx)) (rfl) ?_
  refine v_iret C F (by first | rfl | exact bI_nar _) dX5_paidIn_28 (Nat.le_of_ble_eq_true rfl) (Nat.le_of_ble_eq_true rfl) ?_
  exact ⟨⟨by simp [cdL, hn0, hp_p], by rw [t_j]; rfl⟩, _, _, rfl⟩
set_option maxHeartbeats 16000000 in
theorem c_X5_event {l : Launch} (hl : l.stackTraces = false) {κ : Kp} {h : Nat → Nat} {s sT : G} {m mT : Mg} {rr : Rg} {hh : Hg} {sl : Nat → Mg} {tx : G} {n c : Nat} {k w : Int32} (hW : WM n c m) : Ct SS MM l κ yX5_event cX5_event 3 (some FieldType.int) 1 6 36 [.ref (h 0), .int k, .int w] (cS κ h) ((s, m), (sT, mT), rr, hh, sl, tx) ri (fun r u => (cdL [(decide (n = 0), 1), (!inB k 0 ((evN m : Int) - 1), 2), (!inB w 0 2, 3)] = 0 ∧ r = m 7 (tN k * 3 + tN w)) ∧ ROp m rr hh sl tx u) (fun e u => Th3 e (cdL [(decide (n = 0), 1), (!inB k 0 ((evN m : Int) - 1), 2), (!inB w 0 2, 3)]) ∧ ROp m rr hh sl tx u) := by
  refine Ct.of (own := RX5) (by decide) rfl hl (by intro v hv; simp only [List.mem_cons, List.not_mem_nil, or_false] at hv; first | (rcases hv with rfl | rfl | rfl | rfl | rfl | rfl <;> rfl) | (rcases hv with rfl | rfl | rfl | rfl | rfl <;> rfl) | (rcases hv with rfl | rfl | rfl | rfl <;> rfl) | (rcases hv with rfl | rfl | rfl <;> rfl) | (rcases hv with rfl | rfl <;> rfl) | (subst hv; rfl) | exact hv.elim) (Nat.le_of_ble_eq_true rfl) (fun X hxl hxk C F N => ?_)
  subst hxl hxk
  show V X (cS (xK X) h) 0 [some (.ref (h 0)), some (.int k), some (.int w)] [] ((s, m), (sT, mT), rr, hh, sl, tx) 0 0
  obtain ⟨h96, hn, hMf⟩ := id hW
  refine v_aload_n C dX5_event_0 rfl ?_
  refine v_callVv C (c_X5_needMemory hl hn h96) ym_X5_needMemory ml_X5_100 emb_id_cS rfl rfl rfl rfl rfl dX5_event_1 (Nat.le_of_ble_eq_true rfl) (Nat.le_of_ble_eq_true rfl) (Nat.le_of_ble_eq_true rfl) (Nat.le_of_ble_eq_true rfl) (fun e u hu => v_out C N F (Nat.le_of_ble_eq_true rfl) (Nat.le_of_ble_eq_true rfl) ?_) (fun r u hu => ?_)
  · obtain ⟨rfl, hz, rfl⟩ := hu
    exact ⟨by simp [Th3, cdL, hz], _, _, rfl⟩
  obtain ⟨hn0, hu⟩ := hu
  subst u
  have hMI := hMf hn0
  obtain ⟨hI, hE, hLK, hn1, hSB, hBY, hPR⟩ := id hMI
  have hbd := band_ok hSB
  obtain ⟨e, he80, he8⟩ := hE
  have hev : evN m = e := evN_eq he8 he80
  refine V.stt (g2 := ((s, m), (sT, mT), rr, hh, sl, tx)) (rfl) ?_
  refine v_iload_n C dX5_event_4 rfl ?_
  refine v_if_lt C 22 dX5_event_5 (by decide) (fun c5 => ?_) (fun c5 => ?_)
  · have hkI : inB k 0 ((evN m : Int) - 1) = false := inB_no (by omega)
    refine v_throw C N F thr_EIO mm_232 rfl dX5_event_22 dX5_event_25 dX5_event_26 dX5_event_28 dX5_event_31 (Nat.le_of_ble_eq_true rfl) (Nat.le_of_ble_eq_true rfl) (Nat.le_of_ble_eq_true rfl) ?_
    exact ⟨by simp [Th3, cdL, hn0, hkI], _, _, rfl⟩
  · refine v_iload_n C dX5_event_8 rfl ?_
    refine v_aload_n C dX5_event_9 rfl ?_
    refine v_getr C fl_X5_10 or_cS_0_0 dX5_event_10 ?_
    refine v_getr C fl_X5_74 or_cS_1_0 dX5_event_13 ?_
    refine v_getiQ (x := nI e) C fl_X5_229 oi_cS_5_8 (he8) dX5_event_16 ?_
    refine v_icmp_lt C 32 dX5_event_19 (by decide) (fun c19 => ?_) (fun c19 => ?_)
    · rw [nI_toInt (by omega)] at c19
      have hkI : inB k 0 ((evN m : Int) - 1) = true := inB_mk (by omega) (by omega)
      obtain ⟨jk, -, hjk, hjk2, ek⟩ := in_at (a := 0) hkI
      subst ek
      have t_k : tN (nI jk) = jk := tN_nI hjk2
      rw [nI_toInt hjk2] at c5 c19
      refine v_aload_n C dX5_event_32 rfl ?_
      refine v_iload_n C dX5_event_33 rfl ?_
      refine v_iconst (v := nI 3) C dX5_event_34 (by decide) ?_
      refine v_callVv C (c_X5_needPart hl (k := 3) (b := 2) (by decide) (by decide)) ym_X5_needPart ml_X5_103 emb_id_cS rfl rfl rfl rfl rfl dX5_event_35 (Nat.le_of_ble_eq_true rfl) (Nat.le_of_ble_eq_true rfl) (Nat.le_of_ble_eq_true rfl) (Nat.le_of_ble_eq_true rfl) (fun e u hu => v_out C N F (Nat.le_of_ble_eq_true rfl) (Nat.le_of_ble_eq_true rfl) ?_) (fun r u hu => ?_)
      · obtain ⟨rfl, hz, rfl⟩ := hu
        exact ⟨by simp [Th3, cdL, hn0, hkI, hz], _, _, rfl⟩
      obtain ⟨hp_w, hu⟩ := hu
      subst u
      obtain ⟨j2, -, hj_j2, hk_j2, e_j2⟩ := in_at (a := 0) hp_w
      subst e_j2
      have t_j2 : tN (nI j2) = j2 := tN_nI hk_j2
      refine V.stt (g2 := ((s, m), (sT, mT), rr, hh, sl, tx)) (rfl) ?_
      refine v_aload_n C dX5_event_38 rfl ?_
      refine v_getr C fl_X5_10 or_cS_0_0 dX5_event_39 ?_
      refine v_getr C fl_X5_74 or_cS_1_0 dX5_event_42 ?_
      refine v_getr C fl_X5_234 or_cS_5_6 dX5_event_45 ?_
      refine v_iload_n C dX5_event_48 rfl ?_
      refine v_iconst (v := nI 3) C dX5_event_49 (by decide) ?_
      first | refine v_imulN C dX5_event_50 ?_ | refine v_imul C dX5_event_50 ?_
      refine v_iload_n C dX5_event_51 rfl ?_
      first | refine v_iaddN C dX5_event_52 ?_ | refine v_iadd C dX5_event_52 ?_
      refine v_ialdQ (x := m 7 (jk * 3 + j2)) C ar_cS_12 (by decide) _ (rfl) ?_ rfl dX5_event_53 ?_
      · omega
      refine v_iret C F (by first | rfl | exact bI_nar _) dX5_event_54 (Nat.le_of_ble_eq_true rfl) (Nat.le_of_ble_eq_true rfl) ?_
      exact ⟨⟨by simp [cdL, hn0, hkI, hp_w], by rw [t_k, t_j2]⟩, _, _, rfl⟩
    · rw [nI_toInt (by omega)] at c19
      have hkI : inB k 0 ((evN m : Int) - 1) = false := inB_no (by omega)
      refine v_throw C N F thr_EIO mm_232 rfl dX5_event_22 dX5_event_25 dX5_event_26 dX5_event_28 dX5_event_31 (Nat.le_of_ble_eq_true rfl) (Nat.le_of_ble_eq_true rfl) (Nat.le_of_ble_eq_true rfl) ?_
      exact ⟨by simp [Th3, cdL, hn0, hkI], _, _, rfl⟩

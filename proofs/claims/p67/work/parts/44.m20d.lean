set_option maxHeartbeats 16000000 in
theorem c_X5_meanHops {l : Launch} (hl : l.stackTraces = false) {κ : Kp} {h : Nat → Nat} {s sT : G} {m mT : Mg} {rr : Rg} {hh : Hg} {sl : Nat → Mg} {tx : G} {n c : Nat} (hW : WM n c m) : Ct SS MM l κ yX5_meanHops cX5_meanHops 2 (some FieldType.double) 1 6 36 [.ref (h 0)] (cS κ h) ((s, m), (sT, mT), rr, hh, sl, tx) rd8 (fun r u => (cdL [(decide (n = 0), 1)] = 0 ∧ r = mhV m) ∧ ROp m rr hh sl tx u) (fun e u => ThU e (cdL [(decide (n = 0), 1)]) ∧ ROp m rr hh sl tx u) := by
  refine Ct.of (own := RX5) (by decide) rfl hl (by intro v hv; simp only [List.mem_cons, List.not_mem_nil, or_false] at hv; first | (rcases hv with rfl | rfl | rfl | rfl | rfl | rfl <;> rfl) | (rcases hv with rfl | rfl | rfl | rfl | rfl <;> rfl) | (rcases hv with rfl | rfl | rfl | rfl <;> rfl) | (rcases hv with rfl | rfl | rfl <;> rfl) | (rcases hv with rfl | rfl <;> rfl) | (subst hv; rfl) | exact hv.elim) (Nat.le_of_ble_eq_true rfl) (fun X hxl hxk C F N => ?_)
  subst hxl hxk
  show V X (cS (xK X) h) 0 [some (.ref (h 0)), none] [] ((s, m), (sT, mT), rr, hh, sl, tx) 0 0
  obtain ⟨h96, hn, hMf⟩ := id hW
  refine v_aload_n C dX5_meanHops_0 rfl ?_
  refine v_callVv C (c_X5_needMemory hl hn h96) ym_X5_needMemory ml_X5_100 emb_id_cS rfl rfl rfl rfl rfl dX5_meanHops_1 (Nat.le_of_ble_eq_true rfl) (Nat.le_of_ble_eq_true rfl) (Nat.le_of_ble_eq_true rfl) (Nat.le_of_ble_eq_true rfl) (fun e u hu => v_out C N F (Nat.le_of_ble_eq_true rfl) (Nat.le_of_ble_eq_true rfl) ?_) (fun r u hu => ?_)
  · obtain ⟨rfl, hz, rfl⟩ := hu
    exact ⟨by simp [ThU, cdL, hz], _, _, rfl⟩
  obtain ⟨hn0, hu⟩ := hu
  subst u
  have hMI := hMf hn0
  obtain ⟨hI, hE, hLK, hn1, hSB, hBY, hPR⟩ := id hMI
  have hbd := band_ok hSB
  refine V.stt (g2 := ((s, m), (sT, mT), rr, hh, sl, tx)) (rfl) ?_
  refine v_aload_n C dX5_meanHops_4 rfl ?_
  refine v_getr C fl_X5_10 or_cS_0_0 dX5_meanHops_5 ?_
  refine v_getr C fl_X5_74 or_cS_1_0 dX5_meanHops_8 ?_
  refine v_getr C fl_X5_226 or_cS_5_5 dX5_meanHops_11 ?_
  refine v_bipush (v := nI 8) C dX5_meanHops_14 (by decide) ?_
  refine v_ialdQ (x := m 6 8) C ar_cS_11 (by decide) _ (rfl) ?_ rfl dX5_meanHops_16 ?_
  · omega
  refine v_istore_n C (lo2 := [some _, some _]) dX5_meanHops_17 rfl (Nat.le_of_ble_eq_true rfl) rfl ?_
  refine v_iload_n C dX5_meanHops_18 rfl ?_
  refine v_if_ne C 24 dX5_meanHops_19 (by decide) (fun c19 => ?_) (fun c19 => ?_)
  · refine v_aload_n C dX5_meanHops_24 rfl ?_
    refine v_getr C fl_X5_10 or_cS_0_0 dX5_meanHops_25 ?_
    refine v_getr C fl_X5_74 or_cS_1_0 dX5_meanHops_28 ?_
    refine v_getr C fl_X5_226 or_cS_5_5 dX5_meanHops_31 ?_
    refine v_bipush (v := nI 6) C dX5_meanHops_34 (by decide) ?_
    refine v_ialdQ (x := m 6 6) C ar_cS_11 (by decide) _ (rfl) ?_ rfl dX5_meanHops_36 ?_
    · omega
    refine v_i2d C dX5_meanHops_37 ?_
    refine v_iload_n C dX5_meanHops_38 rfl ?_
    refine v_i2d C dX5_meanHops_39 ?_
    refine v_ddiv C dX5_meanHops_40 ?_ ?_
    · exact fp_d c19
    refine v_dret C F dX5_meanHops_41 (Nat.le_of_ble_eq_true rfl) (Nat.le_of_ble_eq_true rfl) ?_
    exact ⟨⟨by simp [cdL, hn0], (if_neg c19).symm⟩, _, _, rfl⟩
  · refine v_dconst0 C dX5_meanHops_22 ?_
    refine v_dret C F dX5_meanHops_23 (Nat.le_of_ble_eq_true rfl) (Nat.le_of_ble_eq_true rfl) ?_
    exact ⟨⟨by simp [cdL, hn0], (if_pos c19).symm⟩, _, _, rfl⟩
set_option maxHeartbeats 16000000 in
theorem c_X5_idleShare {l : Launch} (hl : l.stackTraces = false) {κ : Kp} {h : Nat → Nat} {s sT : G} {m mT : Mg} {rr : Rg} {hh : Hg} {sl : Nat → Mg} {tx : G} {n c : Nat} (hW : WM n c m) : Ct SS MM l κ yX5_idleShare cX5_idleShare 4 (some FieldType.float) 1 6 36 [.ref (h 0)] (cS κ h) ((s, m), (sT, mT), rr, hh, sl, tx) rf4 (fun r u => (cdL [(decide (n = 0), 1)] = 0 ∧ r = isV m) ∧ ROp m rr hh sl tx u) (fun e u => ThU e (cdL [(decide (n = 0), 1)]) ∧ ROp m rr hh sl tx u) := by
  refine Ct.of (own := RX5) (by decide) rfl hl (by intro v hv; simp only [List.mem_cons, List.not_mem_nil, or_false] at hv; first | (rcases hv with rfl | rfl | rfl | rfl | rfl | rfl <;> rfl) | (rcases hv with rfl | rfl | rfl | rfl | rfl <;> rfl) | (rcases hv with rfl | rfl | rfl | rfl <;> rfl) | (rcases hv with rfl | rfl | rfl <;> rfl) | (rcases hv with rfl | rfl <;> rfl) | (subst hv; rfl) | exact hv.elim) (Nat.le_of_ble_eq_true rfl) (fun X hxl hxk C F N => ?_)
  subst hxl hxk
  show V X (cS (xK X) h) 0 [some (.ref (h 0)), none, none, none] [] ((s, m), (sT, mT), rr, hh, sl, tx) 0 0
  obtain ⟨h96, hn, hMf⟩ := id hW
  refine v_aload_n C dX5_idleShare_0 rfl ?_
  refine v_callVv C (c_X5_needMemory hl hn h96) ym_X5_needMemory ml_X5_100 emb_id_cS rfl rfl rfl rfl rfl dX5_idleShare_1 (Nat.le_of_ble_eq_true rfl) (Nat.le_of_ble_eq_true rfl) (Nat.le_of_ble_eq_true rfl) (Nat.le_of_ble_eq_true rfl) (fun e u hu => v_out C N F (Nat.le_of_ble_eq_true rfl) (Nat.le_of_ble_eq_true rfl) ?_) (fun r u hu => ?_)
  · obtain ⟨rfl, hz, rfl⟩ := hu
    exact ⟨by simp [ThU, cdL, hz], _, _, rfl⟩
  obtain ⟨hn0, hu⟩ := hu
  subst u
  have hMI := hMf hn0
  obtain ⟨hI, hE, hLK, hn1, hSB, hBY, hPR⟩ := id hMI
  have hbd := band_ok hSB
  refine V.stt (g2 := ((s, m), (sT, mT), rr, hh, sl, tx)) (rfl) ?_
  refine v_aload_n C dX5_idleShare_4 rfl ?_
  refine v_getr C fl_X5_10 or_cS_0_0 dX5_idleShare_5 ?_
  refine v_getr C fl_X5_74 or_cS_1_0 dX5_idleShare_8 ?_
  refine v_getr C fl_X5_226 or_cS_5_5 dX5_idleShare_11 ?_
  refine v_astore_n C (lo2 := [some _, some _, none, none]) dX5_idleShare_14 rfl (Nat.le_of_ble_eq_true rfl) rfl ?_
  refine v_aload_n C dX5_idleShare_15 rfl ?_
  refine v_iconst (v := nI 2) C dX5_idleShare_16 (by decide) ?_
  refine v_ialdQ (x := m 6 2) C ar_cS_11 (by decide) _ (rfl) ?_ rfl dX5_idleShare_17 ?_
  · omega
  refine v_istore_n C (lo2 := [some _, some _, some _, none]) dX5_idleShare_18 rfl (Nat.le_of_ble_eq_true rfl) rfl ?_
  refine v_iload_n C dX5_idleShare_19 rfl ?_
  refine v_aload_n C dX5_idleShare_20 rfl ?_
  refine v_iconst (v := nI 3) C dX5_idleShare_21 (by decide) ?_
  refine v_ialdQ (x := m 6 3) C ar_cS_11 (by decide) _ (rfl) ?_ rfl dX5_idleShare_22 ?_
  · omega
  first | refine v_iaddN C dX5_idleShare_23 ?_ | refine v_iadd C dX5_idleShare_23 ?_
  refine v_aload_n C dX5_idleShare_24 rfl ?_
  refine v_iconst (v := nI 4) C dX5_idleShare_25 (by decide) ?_
  refine v_ialdQ (x := m 6 4) C ar_cS_11 (by decide) _ (rfl) ?_ rfl dX5_idleShare_26 ?_
  · omega
  first | refine v_iaddN C dX5_idleShare_27 ?_ | refine v_iadd C dX5_idleShare_27 ?_
  refine v_istore_n C (lo2 := [some _, some _, some _, some _]) dX5_idleShare_28 rfl (Nat.le_of_ble_eq_true rfl) rfl ?_
  refine v_iload_n C dX5_idleShare_29 rfl ?_
  refine v_if_ne C 35 dX5_idleShare_30 (by decide) (fun c30 => ?_) (fun c30 => ?_)
  · refine v_iload_n C dX5_idleShare_35 rfl ?_
    refine v_i2f C dX5_idleShare_36 ?_
    refine v_iload_n C dX5_idleShare_37 rfl ?_
    refine v_i2f C dX5_idleShare_38 ?_
    refine v_fdiv C dX5_idleShare_39 ?_ ?_
    · exact fp_f c30
    refine v_fret C F dX5_idleShare_40 (Nat.le_of_ble_eq_true rfl) (Nat.le_of_ble_eq_true rfl) ?_
    exact ⟨⟨by simp [cdL, hn0], (if_neg c30).symm⟩, _, _, rfl⟩
  · refine v_fconst0 C dX5_idleShare_33 ?_
    refine v_fret C F dX5_idleShare_34 (Nat.le_of_ble_eq_true rfl) (Nat.le_of_ble_eq_true rfl) ?_
    exact ⟨⟨by simp [cdL, hn0], (if_pos c30).symm⟩, _, _, rfl⟩

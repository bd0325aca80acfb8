theorem move_max {f t k : Nat} (c : t < f) (hf : f < 2 ^ 30) (ht : t + k < 2 ^ 30) (hk : k < 2 ^ 30) : (if nI f < nI (t + k) then nI (t + k) else nI f) = nI (lefA f t k) := by
  unfold lefA
  rw [if_pos c]
  by_cases h : nI f < nI (t + k)
  · rw [if_pos h]
    have := Int32.lt_iff_toInt_lt.mp h
    rw [nI_toInt (by omega), nI_toInt (by omega)] at this
    exact congrArg nI (by omega)
  · rw [if_neg h]
    have h2 : ¬ f < t + k := fun z => h (Int32.lt_iff_toInt_lt.mpr (by rw [nI_toInt (by omega), nI_toInt (by omega)]; omega))
    exact congrArg nI (by omega)
theorem move_min {f t k : Nat} (c : f < t) (hf : f < 2 ^ 30) (ht : t < 2 ^ 30) (hk : f + k < 2 ^ 30) (b1 : 1 ≤ k) : (if nI t < nI (f + k) then nI t else nI (f + k)) = nI (lefZ f t k + 1) := by
  rw [nI_min (by omega) (by omega)]
  unfold lefZ
  rw [if_pos c]
  exact congrArg nI (by omega)
theorem setM_lim {m : Mg} {j : Nat} {v : Int32} (h : SBo m) (hv : inB v (lsV j) (gsV j) = true) : ∃ lim, setM m j v 5 1 = nI lim ∧ lim ≤ 96 := by
  by_cases e : j = 1
  · subst e
    obtain ⟨i, h1, h2, h3, e2⟩ := in_at (a := 0) hv
    subst e2
    exact ⟨i, rfl, by have h2 : (i : Int) ≤ 96 := h2; omega⟩
  · obtain ⟨lim, h1, h2⟩ := lim_ok h
    exact ⟨lim, (show upd (m 5) j v 1 = nI lim from (upd_o (fun z => e z.symm)).trans h1), h2⟩
set_option maxHeartbeats 16000000 in
theorem c_X5_copy {l : Launch} (hl : l.stackTraces = false) {κ : Kp} {h : Nat → Nat} {s sT : G} {m mT : Mg} {rr : Rg} {hh : Hg} {sl : Nat → Mg} {tx : G} {n c : Nat} {L : List Mg} {f t k : Int32} (hW : WM n c m) (hH : HS L hh) : Ct SS MM l κ yX5_copy cX5_copy 4 (some FieldType.int) 4 6 36 [.ref (h 0), .int f, .int t, .int k] (cS κ h) ((s, m), (sT, mT), rr, hh, sl, tx) ri (fun r u => (cdL [(decide (n = 0), 1), (!(refM m n f t k == 0), 2)] = 0 ∧ r = m 6 0) ∧ MUp ((copyM n (tN f) (tN t) (tN k) m)) ((m :: L).take 8) rr sl tx u) (fun e u => ThA e (cdL [(decide (n = 0), 1), (!(refM m n f t k == 0), 2)]) ∧ ROp m rr hh sl tx u) := by
  refine Ct.of (own := RX5) (by decide) rfl hl (by intro v hv; simp only [List.mem_cons, List.not_mem_nil, or_false] at hv; first | (rcases hv with rfl | rfl | rfl | rfl | rfl | rfl <;> rfl) | (rcases hv with rfl | rfl | rfl | rfl | rfl <;> rfl) | (rcases hv with rfl | rfl | rfl | rfl <;> rfl) | (rcases hv with rfl | rfl | rfl <;> rfl) | (rcases hv with rfl | rfl <;> rfl) | (subst hv; rfl) | exact hv.elim) (Nat.le_of_ble_eq_true rfl) (fun X hxl hxk C F N => ?_)
  subst hxl hxk
  show V X (cS (xK X) h) 0 [some (.ref (h 0)), some (.int f), some (.int t), some (.int k)] [] ((s, m), (sT, mT), rr, hh, sl, tx) 0 0
  obtain ⟨h96, hn, hMf⟩ := id hW
  refine v_aload_n C dX5_copy_0 rfl ?_
  refine v_callVv C (c_X5_needMemory hl hn h96) ym_X5_needMemory ml_X5_100 emb_id_cS rfl rfl rfl rfl rfl dX5_copy_1 (Nat.le_of_ble_eq_true rfl) (Nat.le_of_ble_eq_true rfl) (Nat.le_of_ble_eq_true rfl) (Nat.le_of_ble_eq_true rfl) (fun e u hu => v_out C N F (Nat.le_of_ble_eq_true rfl) (Nat.le_of_ble_eq_true rfl) ?_) (fun r u hu => ?_)
  · obtain ⟨rfl, hz, rfl⟩ := hu
    exact ⟨by simp [ThA, cdL, hz], _, _, rfl⟩
  obtain ⟨hn0, hu⟩ := hu
  subst u
  have hMI := hMf hn0
  obtain ⟨hI, hE, hLK, hn1, hSB, hBY, hPR⟩ := id hMI
  have hbd := band_ok hSB
  refine V.stt (g2 := ((s, m), (sT, mT), rr, hh, sl, tx)) (rfl) ?_
  refine v_aload_n C dX5_copy_4 rfl ?_
  refine v_iload_n C dX5_copy_5 rfl ?_
  refine v_iload_n C dX5_copy_6 rfl ?_
  refine v_iload_n C dX5_copy_7 rfl ?_
  refine v_callVv C (c_X5_needCopy hl hn h96) ym_X5_needCopy ml_X5_255 emb_id_cS rfl rfl rfl rfl rfl dX5_copy_8 (Nat.le_of_ble_eq_true rfl) (Nat.le_of_ble_eq_true rfl) (Nat.le_of_ble_eq_true rfl) (Nat.le_of_ble_eq_true rfl) (fun e u hu => v_out C N F (Nat.le_of_ble_eq_true rfl) (Nat.le_of_ble_eq_true rfl) ?_) (fun r u hu => ?_)
  · obtain ⟨rfl, hz, rfl⟩ := hu
    exact ⟨by simp [ThA, cdL, hn0, hz], _, _, rfl⟩
  obtain ⟨hrf, hu⟩ := hu
  subst u
  obtain ⟨f1, t1, k1, ef, et, ek, b1, b2, b3⟩ := ref_at hn h96 hrf
  subst ef et ek
  have e3 : tN (nI f1) = f1 := tN_nI (by omega)
  have e4 : tN (nI t1) = t1 := tN_nI (by omega)
  have e5 : tN (nI k1) = k1 := tN_nI (by omega)
  obtain ⟨lim, hlim, hlim96⟩ := lim_ok hSB
  refine V.stt (g2 := ((s, m), (sT, mT), rr, hh, sl, tx)) (rfl) ?_
  refine v_aload_n C dX5_copy_11 rfl ?_
  refine v_getr C fl_X5_29 or_cS_0_3 dX5_copy_12 ?_
  refine v_aload_n C dX5_copy_15 rfl ?_
  refine v_getr C fl_X5_10 or_cS_0_0 dX5_copy_16 ?_
  refine v_getr C fl_X5_74 or_cS_1_0 dX5_copy_19 ?_
  refine v_callVv C (c_X1_remember hl (h := hmat h) (g := hh) (m := m) hH hLK) ym_X1_remember ml_X5_258 emb_c_hm rfl rfl rfl rfl rfl dX5_copy_22 (Nat.le_of_ble_eq_true rfl) (Nat.le_of_ble_eq_true rfl) (Nat.le_of_ble_eq_true rfl) (Nat.le_of_ble_eq_true rfl) (fun _ _ hu => hu.elim) (fun r u hu => ?_)
  rcases u with ⟨hh2, m9⟩
  obtain ⟨hu, hH2⟩ := hu
  have hu : m9 = m := hu
  subst m9
  refine V.stt (g2 := ((s, m), (sT, mT), rr, hh2, sl, tx)) (rfl) ?_
  refine v_aload_n C dX5_copy_25 rfl ?_
  refine v_getr C fl_X5_10 or_cS_0_0 dX5_copy_26 ?_
  refine v_iload_n C dX5_copy_29 rfl ?_
  refine v_iload_n C dX5_copy_30 rfl ?_
  refine v_iload_n C dX5_copy_31 rfl ?_
  refine v_callVi C (c_X0_makeCopy hl (s := s) (m := m) (n := n) (lim := lim) hI hE hlim hlim96 b1 b2 b3) ym_X0_makeCopy ml_X5_261 emb_c_live rfl rfl rfl rfl rfl dX5_copy_32 (Nat.le_of_ble_eq_true rfl) (Nat.le_of_ble_eq_true rfl) (Nat.le_of_ble_eq_true rfl) (Nat.le_of_ble_eq_true rfl) (fun _ _ hu => hu.elim) (fun r u hu => ?_)
  obtain ⟨rfl, s3, hu⟩ := hu
  subst u
  refine v_iret C F (by first | rfl | exact bI_nar _) dX5_copy_35 (Nat.le_of_ble_eq_true rfl) (Nat.le_of_ble_eq_true rfl) ?_
  exact ⟨⟨by simp [cdL, hn0, hrf], rfl⟩, _, _, _, by rw [e3, e4, e5], hH2⟩
set_option maxHeartbeats 16000000 in
theorem c_X5_write {l : Launch} (hl : l.stackTraces = false) {κ : Kp} {h : Nat → Nat} {s sT : G} {m mT : Mg} {rr : Rg} {hh : Hg} {sl : Nat → Mg} {tx : G} {n c : Nat} {L : List Mg} {p v : Int32} (hW : WM n c m) (hH : HS L hh) : Ct SS MM l κ yX5_write cX5_write 3 (some FieldType.int) 4 6 36 [.ref (h 0), .int p, .int v] (cS κ h) ((s, m), (sT, mT), rr, hh, sl, tx) ri (fun r u => (cdL [(decide (n = 0), 1), (!plB n p, 2), (!inB v 0 255, 3), (lockB m (tN p), 3)] = 0 ∧ r = nI (fillM n (tN p) (tN p) v m).1) ∧ MUp ((fillM n (tN p) (tN p) v m).2) ((m :: L).take 8) rr sl tx u) (fun e u => Th3 e (cdL [(decide (n = 0), 1), (!plB n p, 2), (!inB v 0 255, 3), (lockB m (tN p), 3)]) ∧ ROp m rr hh sl tx u) := by
  refine Ct.of (own := RX5) (by decide) rfl hl (by intro v hv; simp only [List.mem_cons, List.not_mem_nil, or_false] at hv; first | (rcases hv with rfl | rfl | rfl | rfl | rfl | rfl <;> rfl) | (rcases hv with rfl | rfl | rfl | rfl | rfl <;> rfl) | (rcases hv with rfl | rfl | rfl | rfl <;> rfl) | (rcases hv with rfl | rfl | rfl <;> rfl) | (rcases hv with rfl | rfl <;> rfl) | (subst hv; rfl) | exact hv.elim) (Nat.le_of_ble_eq_true rfl) (fun X hxl hxk C F N => ?_)
  subst hxl hxk
  show V X (cS (xK X) h) 0 [some (.ref (h 0)), some (.int p), some (.int v)] [] ((s, m), (sT, mT), rr, hh, sl, tx) 0 0
  obtain ⟨h96, hn, hMf⟩ := id hW
  refine v_aload_n C dX5_write_0 rfl ?_
  refine v_callVv C (c_X5_needMemory hl hn h96) ym_X5_needMemory ml_X5_100 emb_id_cS rfl rfl rfl rfl rfl dX5_write_1 (Nat.le_of_ble_eq_true rfl) (Nat.le_of_ble_eq_true rfl) (Nat.le_of_ble_eq_true rfl) (Nat.le_of_ble_eq_true rfl) (fun e u hu => v_out C N F (Nat.le_of_ble_eq_true rfl) (Nat.le_of_ble_eq_true rfl) ?_) (fun r u hu => ?_)
  · obtain ⟨rfl, hz, rfl⟩ := hu
    exact ⟨by simp [Th3, cdL, hz], _, _, rfl⟩
  obtain ⟨hn0, hu⟩ := hu
  subst u
  have hMI := hMf hn0
  obtain ⟨hI, hE, hLK, hn1, hSB, hBY, hPR⟩ := id hMI
  have hbd := band_ok hSB
  refine V.stt (g2 := ((s, m), (sT, mT), rr, hh, sl, tx)) (rfl) ?_
  refine v_aload_n C dX5_write_4 rfl ?_
  refine v_iload_n C dX5_write_5 rfl ?_
  refine v_callVv C (c_X5_needPlace hl hn h96) ym_X5_needPlace ml_X5_111 emb_id_cS rfl rfl rfl rfl rfl dX5_write_6 (Nat.le_of_ble_eq_true rfl) (Nat.le_of_ble_eq_true rfl) (Nat.le_of_ble_eq_true rfl) (Nat.le_of_ble_eq_true rfl) (fun e u hu => v_out C N F (Nat.le_of_ble_eq_true rfl) (Nat.le_of_ble_eq_true rfl) ?_) (fun r u hu => ?_)
  · obtain ⟨rfl, hz, rfl⟩ := hu
    exact ⟨by simp [Th3, cdL, hn0, hz], _, _, rfl⟩
  obtain ⟨hp_p, hu⟩ := hu
  subst u
  obtain ⟨j, hj_j, e_j⟩ := pl_at hp_p
  subst e_j
  have t_j : tN (nI j) = j := tN_nI (by omega)
  refine V.stt (g2 := ((s, m), (sT, mT), rr, hh, sl, tx)) (rfl) ?_
  refine v_aload_n C dX5_write_9 rfl ?_
  refine v_iload_n C dX5_write_10 rfl ?_
  refine v_callVv C (c_X5_needByte hl) ym_X5_needByte ml_X5_173 emb_id_cS rfl rfl rfl rfl rfl dX5_write_11 (Nat.le_of_ble_eq_true rfl) (Nat.le_of_ble_eq_true rfl) (Nat.le_of_ble_eq_true rfl) (Nat.le_of_ble_eq_true rfl) (fun e u hu => v_out C N F (Nat.le_of_ble_eq_true rfl) (Nat.le_of_ble_eq_true rfl) ?_) (fun r u hu => ?_)
  · obtain ⟨rfl, hz, rfl⟩ := hu
    exact ⟨by simp [Th3, cdL, hn0, hp_p, hz], _, _, rfl⟩
  obtain ⟨hp_v, hu⟩ := hu
  subst u
  obtain ⟨jv, -, hj_jv, hk_jv, e_jv⟩ := in_at (a := 0) hp_v
  subst e_jv
  have t_jv : tN (nI jv) = jv := tN_nI hk_jv
  refine V.stt (g2 := ((s, m), (sT, mT), rr, hh, sl, tx)) (rfl) ?_
  refine v_aload_n C dX5_write_14 rfl ?_
  refine v_iload_n C dX5_write_15 rfl ?_
  refine v_iload_n C dX5_write_16 rfl ?_
  refine v_callVv C (c_X5_needUnlocked hl (n := n) hn h96 (by omega) (by omega)) ym_X5_needUnlocked ml_X5_197 emb_id_cS rfl rfl rfl rfl rfl dX5_write_17 (Nat.le_of_ble_eq_true rfl) (Nat.le_of_ble_eq_true rfl) (Nat.le_of_ble_eq_true rfl) (Nat.le_of_ble_eq_true rfl) (fun e u hu => v_out C N F (Nat.le_of_ble_eq_true rfl) (Nat.le_of_ble_eq_true rfl) ?_) (fun r u hu => ?_)
  · obtain ⟨rfl, hz, rfl⟩ := hu
    rw [any1] at hz
    exact ⟨by simp [Th3, cdL, hn0, hp_p, hp_v, t_j, hz], _, _, rfl⟩
  obtain ⟨hul, hu⟩ := hu
  subst u
  rw [any1] at hul
  refine V.stt (g2 := ((s, m), (sT, mT), rr, hh, sl, tx)) (rfl) ?_
  refine v_aload_n C dX5_write_20 rfl ?_
  refine v_getr C fl_X5_29 or_cS_0_3 dX5_write_21 ?_
  refine v_aload_n C dX5_write_24 rfl ?_
  refine v_getr C fl_X5_10 or_cS_0_0 dX5_write_25 ?_
  refine v_getr C fl_X5_74 or_cS_1_0 dX5_write_28 ?_
  refine v_callVv C (c_X1_remember hl (h := hmat h) (g := hh) (m := m) hH hLK) ym_X1_remember ml_X5_258 emb_c_hm rfl rfl rfl rfl rfl dX5_write_31 (Nat.le_of_ble_eq_true rfl) (Nat.le_of_ble_eq_true rfl) (Nat.le_of_ble_eq_true rfl) (Nat.le_of_ble_eq_true rfl) (fun _ _ hu => hu.elim) (fun r u hu => ?_)
  rcases u with ⟨hh2, m9⟩
  obtain ⟨hu, hH2⟩ := hu
  have hu : m9 = m := hu
  subst m9
  refine V.stt (g2 := ((s, m), (sT, mT), rr, hh2, sl, tx)) (rfl) ?_
  refine v_aload_n C dX5_write_34 rfl ?_
  refine v_getr C fl_X5_10 or_cS_0_0 dX5_write_35 ?_
  refine v_iload_n C dX5_write_38 rfl ?_
  refine v_iload_n C dX5_write_39 rfl ?_
  refine v_iload_n C dX5_write_40 rfl ?_
  refine v_callVi C (c_X0_fillRow hl (s := s) (m := m) (n := n) hI hE (Nat.le_refl _) hj_j) ym_X0_fillRow ml_X5_203 emb_c_live rfl rfl rfl rfl rfl dX5_write_41 (Nat.le_of_ble_eq_true rfl) (Nat.le_of_ble_eq_true rfl) (Nat.le_of_ble_eq_true rfl) (Nat.le_of_ble_eq_true rfl) (fun _ _ hu => hu.elim) (fun r u hu => ?_)
  obtain ⟨rfl, s3, hu⟩ := hu
  subst u
  refine v_iret C F (by first | rfl | exact bI_nar _) dX5_write_44 (Nat.le_of_ble_eq_true rfl) (Nat.le_of_ble_eq_true rfl) ?_
  exact ⟨⟨by simp [cdL, hn0, hp_p, hp_v, hul, t_j], by rw [t_j]⟩, _, _, _, by rw [t_j], hH2⟩
set_option maxHeartbeats 16000000 in
theorem c_X5_fill {l : Launch} (hl : l.stackTraces = false) {κ : Kp} {h : Nat → Nat} {s sT : G} {m mT : Mg} {rr : Rg} {hh : Hg} {sl : Nat → Mg} {tx : G} {n c : Nat} {L : List Mg} {a b v : Int32} (hW : WM n c m) (hH : HS L hh) : Ct SS MM l κ yX5_fill cX5_fill 4 (some FieldType.int) 4 6 36 [.ref (h 0), .int a, .int b, .int v] (cS κ h) ((s, m), (sT, mT), rr, hh, sl, tx) ri (fun r u => (cdL [(decide (n = 0), 1), (!plB n a, 2), (!plB n b, 2), (decide (b.toInt < a.toInt), 3), (!inB v 0 255, 3), (anyG (lockB m) (tN a) (tN b + 1 - tN a), 3)] = 0 ∧ r = nI (fillM n (tN a) (tN b) v m).1) ∧ MUp ((fillM n (tN a) (tN b) v m).2) ((m :: L).take 8) rr sl tx u) (fun e u => Th3 e (cdL [(decide (n = 0), 1), (!plB n a, 2), (!plB n b, 2), (decide (b.toInt < a.toInt), 3), (!inB v 0 255, 3), (anyG (lockB m) (tN a) (tN b + 1 - tN a), 3)]) ∧ ROp m rr hh sl tx u) := by
  refine Ct.of (own := RX5) (by decide) rfl hl (by intro v hv; simp only [List.mem_cons, List.not_mem_nil, or_false] at hv; first | (rcases hv with rfl | rfl | rfl | rfl | rfl | rfl <;> rfl) | (rcases hv with rfl | rfl | rfl | rfl | rfl <;> rfl) | (rcases hv with rfl | rfl | rfl | rfl <;> rfl) | (rcases hv with rfl | rfl | rfl <;> rfl) | (rcases hv with rfl | rfl <;> rfl) | (subst hv; rfl) | exact hv.elim) (Nat.le_of_ble_eq_true rfl) (fun X hxl hxk C F N => ?_)
  subst hxl hxk
  show V X (cS (xK X) h) 0 [some (.ref (h 0)), some (.int a), some (.int b), some (.int v)] [] ((s, m), (sT, mT), rr, hh, sl, tx) 0 0
  obtain ⟨h96, hn, hMf⟩ := id hW
  refine v_aload_n C dX5_fill_0 rfl ?_
  refine v_callVv C (c_X5_needMemory hl hn h96) ym_X5_needMemory ml_X5_100 emb_id_cS rfl rfl rfl rfl rfl dX5_fill_1 (Nat.le_of_ble_eq_true rfl) (Nat.le_of_ble_eq_true rfl) (Nat.le_of_ble_eq_true rfl) (Nat.le_of_ble_eq_true rfl) (fun e u hu => v_out C N F (Nat.le_of_ble_eq_true rfl) (Nat.le_of_ble_eq_true rfl) ?_) (fun r u hu => ?_)
  · obtain ⟨rfl, hz, rfl⟩ := hu
    exact ⟨by simp [Th3, cdL, hz], _, _, rfl⟩
  obtain ⟨hn0, hu⟩ := hu
  subst u
  have hMI := hMf hn0
  obtain ⟨hI, hE, hLK, hn1, hSB, hBY, hPR⟩ := id hMI
  have hbd := band_ok hSB
  refine V.stt (g2 := ((s, m), (sT, mT), rr, hh, sl, tx)) (rfl) ?_
  refine v_aload_n C dX5_fill_4 rfl ?_
  refine v_iload_n C dX5_fill_5 rfl ?_
  refine v_iload_n C dX5_fill_6 rfl ?_
  refine v_callVv C (c_X5_needRow hl hn h96) ym_X5_needRow ml_X5_145 emb_id_cS rfl rfl rfl rfl rfl dX5_fill_7 (Nat.le_of_ble_eq_true rfl) (Nat.le_of_ble_eq_true rfl) (Nat.le_of_ble_eq_true rfl) (Nat.le_of_ble_eq_true rfl) (fun e u hu => v_out C N F (Nat.le_of_ble_eq_true rfl) (Nat.le_of_ble_eq_true rfl) ?_) (fun r u hu => ?_)
  · obtain ⟨hu, rfl⟩ := hu
    rcases hu with ⟨rfl, hz⟩ | ⟨rfl, hz1, hz2, hz3⟩
    · refine ⟨?_, _, _, rfl⟩
      cases hza : plB n a
      · simp [Th3, cdL, hn0, hza]
      · rw [hza] at hz
        simp only [Bool.not_true, Bool.false_or, Bool.not_eq_true'] at hz
        simp [Th3, cdL, hn0, hza, hz]
    · exact ⟨by simp [Th3, cdL, hn0, hz1, hz2, hz3], _, _, rfl⟩
  obtain ⟨hp_a, hp_b, hlt, hu⟩ := hu
  subst u
  obtain ⟨ja, hj_ja, e_ja⟩ := pl_at hp_a
  subst e_ja
  obtain ⟨jb, hj_jb, e_jb⟩ := pl_at hp_b
  subst e_jb
  have t_ja : tN (nI ja) = ja := tN_nI (by omega)
  have t_jb : tN (nI jb) = jb := tN_nI (by omega)
  have hle := hlt
  rw [nI_toInt (by omega), nI_toInt (by omega)] at hle
  have hle : ja ≤ jb := by omega
  refine V.stt (g2 := ((s, m), (sT, mT), rr, hh, sl, tx)) (rfl) ?_
  refine v_aload_n C dX5_fill_10 rfl ?_
  refine v_iload_n C dX5_fill_11 rfl ?_
  refine v_callVv C (c_X5_needByte hl) ym_X5_needByte ml_X5_173 emb_id_cS rfl rfl rfl rfl rfl dX5_fill_12 (Nat.le_of_ble_eq_true rfl) (Nat.le_of_ble_eq_true rfl) (Nat.le_of_ble_eq_true rfl) (Nat.le_of_ble_eq_true rfl) (fun e u hu => v_out C N F (Nat.le_of_ble_eq_true rfl) (Nat.le_of_ble_eq_true rfl) ?_) (fun r u hu => ?_)
  · obtain ⟨rfl, hz, rfl⟩ := hu
    exact ⟨by simp [Th3, cdL, hn0, hp_a, hp_b, hlt, hz], _, _, rfl⟩
  obtain ⟨hp_v, hu⟩ := hu
  subst u
  obtain ⟨jv, -, hj_jv, hk_jv, e_jv⟩ := in_at (a := 0) hp_v
  subst e_jv
  have t_jv : tN (nI jv) = jv := tN_nI hk_jv
  refine V.stt (g2 := ((s, m), (sT, mT), rr, hh, sl, tx)) (rfl) ?_
  refine v_aload_n C dX5_fill_15 rfl ?_
  refine v_iload_n C dX5_fill_16 rfl ?_
  refine v_iload_n C dX5_fill_17 rfl ?_
  refine v_callVv C (c_X5_needUnlocked hl (n := n) hn h96 (by omega) (by omega)) ym_X5_needUnlocked ml_X5_197 emb_id_cS rfl rfl rfl rfl rfl dX5_fill_18 (Nat.le_of_ble_eq_true rfl) (Nat.le_of_ble_eq_true rfl) (Nat.le_of_ble_eq_true rfl) (Nat.le_of_ble_eq_true rfl) (fun e u hu => v_out C N F (Nat.le_of_ble_eq_true rfl) (Nat.le_of_ble_eq_true rfl) ?_) (fun r u hu => ?_)
  · obtain ⟨rfl, hz, rfl⟩ := hu
    exact ⟨by simp [Th3, cdL, hn0, hp_a, hp_b, hlt, hp_v, t_ja, t_jb, hz], _, _, rfl⟩
  obtain ⟨hul, hu⟩ := hu
  subst u
  refine V.stt (g2 := ((s, m), (sT, mT), rr, hh, sl, tx)) (rfl) ?_
  refine v_aload_n C dX5_fill_21 rfl ?_
  refine v_getr C fl_X5_29 or_cS_0_3 dX5_fill_22 ?_
  refine v_aload_n C dX5_fill_25 rfl ?_
  refine v_getr C fl_X5_10 or_cS_0_0 dX5_fill_26 ?_
  refine v_getr C fl_X5_74 or_cS_1_0 dX5_fill_29 ?_
  refine v_callVv C (c_X1_remember hl (h := hmat h) (g := hh) (m := m) hH hLK) ym_X1_remember ml_X5_258 emb_c_hm rfl rfl rfl rfl rfl dX5_fill_32 (Nat.le_of_ble_eq_true rfl) (Nat.le_of_ble_eq_true rfl) (Nat.le_of_ble_eq_true rfl) (Nat.le_of_ble_eq_true rfl) (fun _ _ hu => hu.elim) (fun r u hu => ?_)
  rcases u with ⟨hh2, m9⟩
  obtain ⟨hu, hH2⟩ := hu
  have hu : m9 = m := hu
  subst m9
  refine V.stt (g2 := ((s, m), (sT, mT), rr, hh2, sl, tx)) (rfl) ?_
  refine v_aload_n C dX5_fill_35 rfl ?_
  refine v_getr C fl_X5_10 or_cS_0_0 dX5_fill_36 ?_
  refine v_iload_n C dX5_fill_39 rfl ?_
  refine v_iload_n C dX5_fill_40 rfl ?_
  refine v_iload_n C dX5_fill_41 rfl ?_
  refine v_callVi C (c_X0_fillRow hl (s := s) (m := m) (n := n) hI hE hle hj_jb) ym_X0_fillRow ml_X5_203 emb_c_live rfl rfl rfl rfl rfl dX5_fill_42 (Nat.le_of_ble_eq_true rfl) (Nat.le_of_ble_eq_true rfl) (Nat.le_of_ble_eq_true rfl) (Nat.le_of_ble_eq_true rfl) (fun _ _ hu => hu.elim) (fun r u hu => ?_)
  obtain ⟨rfl, s3, hu⟩ := hu
  subst u
  refine v_iret C F (by first | rfl | exact bI_nar _) dX5_fill_45 (Nat.le_of_ble_eq_true rfl) (Nat.le_of_ble_eq_true rfl) ?_
  exact ⟨⟨by simp [cdL, hn0, hp_a, hp_b, hlt, hp_v, hul, t_ja, t_jb], by rw [t_ja, t_jb]⟩, _, _, _, by rw [t_ja, t_jb], hH2⟩
set_option maxHeartbeats 16000000 in
theorem c_X5_exchange {l : Launch} (hl : l.stackTraces = false) {κ : Kp} {h : Nat → Nat} {s sT : G} {m mT : Mg} {rr : Rg} {hh : Hg} {sl : Nat → Mg} {tx : G} {n c : Nat} {L : List Mg} {a b : Int32} (hW : WM n c m) (hH : HS L hh) : Ct SS MM l κ yX5_exchange cX5_exchange 3 (some FieldType.int) 4 6 36 [.ref (h 0), .int a, .int b] (cS κ h) ((s, m), (sT, mT), rr, hh, sl, tx) ri (fun r u => (cdL [(decide (n = 0), 1), (!plB n a, 2), (!plB n b, 2), (a == b, 3), (lockB m (tN a), 3), (lockB m (tN b), 3)] = 0 ∧ r = nI (swapM n (tN a) (tN b) m).1) ∧ MUp ((swapM n (tN a) (tN b) m).2) ((m :: L).take 8) rr sl tx u) (fun e u => Th3 e (cdL [(decide (n = 0), 1), (!plB n a, 2), (!plB n b, 2), (a == b, 3), (lockB m (tN a), 3), (lockB m (tN b), 3)]) ∧ ROp m rr hh sl tx u) := by
  refine Ct.of (own := RX5) (by decide) rfl hl (by intro v hv; simp only [List.mem_cons, List.not_mem_nil, or_false] at hv; first | (rcases hv with rfl | rfl | rfl | rfl | rfl | rfl <;> rfl) | (rcases hv with rfl | rfl | rfl | rfl | rfl <;> rfl) | (rcases hv with rfl | rfl | rfl | rfl <;> rfl) | (rcases hv with rfl | rfl | rfl <;> rfl) | (rcases hv with rfl | rfl <;> rfl) | (subst hv; rfl) | exact hv.elim) (Nat.le_of_ble_eq_true rfl) (fun X hxl hxk C F N => ?_)
  subst hxl hxk
  show V X (cS (xK X) h) 0 [some (.ref (h 0)), some (.int a), some (.int b)] [] ((s, m), (sT, mT), rr, hh, sl, tx) 0 0
  obtain ⟨h96, hn, hMf⟩ := id hW
  refine v_aload_n C dX5_exchange_0 rfl ?_
  refine v_callVv C (c_X5_needMemory hl hn h96) ym_X5_needMemory ml_X5_100 emb_id_cS rfl rfl rfl rfl rfl dX5_exchange_1 (Nat.le_of_ble_eq_true rfl) (Nat.le_of_ble_eq_true rfl) (Nat.le_of_ble_eq_true rfl) (Nat.le_of_ble_eq_true rfl) (fun e u hu => v_out C N F (Nat.le_of_ble_eq_true rfl) (Nat.le_of_ble_eq_true rfl) ?_) (fun r u hu => ?_)
  · obtain ⟨rfl, hz, rfl⟩ := hu
    exact ⟨by simp [Th3, cdL, hz], _, _, rfl⟩
  obtain ⟨hn0, hu⟩ := hu
  subst u
  have hMI := hMf hn0
  obtain ⟨hI, hE, hLK, hn1, hSB, hBY, hPR⟩ := id hMI
  have hbd := band_ok hSB
  refine V.stt (g2 := ((s, m), (sT, mT), rr, hh, sl, tx)) (rfl) ?_
  refine v_aload_n C dX5_exchange_4 rfl ?_
  refine v_iload_n C dX5_exchange_5 rfl ?_
  refine v_callVv C (c_X5_needPlace hl hn h96) ym_X5_needPlace ml_X5_111 emb_id_cS rfl rfl rfl rfl rfl dX5_exchange_6 (Nat.le_of_ble_eq_true rfl) (Nat.le_of_ble_eq_true rfl) (Nat.le_of_ble_eq_true rfl) (Nat.le_of_ble_eq_true rfl) (fun e u hu => v_out C N F (Nat.le_of_ble_eq_true rfl) (Nat.le_of_ble_eq_true rfl) ?_) (fun r u hu => ?_)
  · obtain ⟨rfl, hz, rfl⟩ := hu
    exact ⟨by simp [Th3, cdL, hn0, hz], _, _, rfl⟩
  obtain ⟨hp_a, hu⟩ := hu
  subst u
  obtain ⟨ja, hj_ja, e_ja⟩ := pl_at hp_a
  subst e_ja
  have t_ja : tN (nI ja) = ja := tN_nI (by omega)
  refine V.stt (g2 := ((s, m), (sT, mT), rr, hh, sl, tx)) (rfl) ?_
  refine v_aload_n C dX5_exchange_9 rfl ?_
  refine v_iload_n C dX5_exchange_10 rfl ?_
  refine v_callVv C (c_X5_needPlace hl hn h96) ym_X5_needPlace ml_X5_111 emb_id_cS rfl rfl rfl rfl rfl dX5_exchange_11 (Nat.le_of_ble_eq_true rfl) (Nat.le_of_ble_eq_true rfl) (Nat.le_of_ble_eq_true rfl) (Nat.le_of_ble_eq_true rfl) (fun e u hu => v_out C N F (Nat.le_of_ble_eq_true rfl) (Nat.le_of_ble_eq_true rfl) ?_) (fun r u hu => ?_)
  · obtain ⟨rfl, hz, rfl⟩ := hu
    exact ⟨by simp [Th3, cdL, hn0, hp_a, hz], _, _, rfl⟩
  obtain ⟨hp_b, hu⟩ := hu
  subst u
  obtain ⟨jb, hj_jb, e_jb⟩ := pl_at hp_b
  subst e_jb
  have t_jb : tN (nI jb) = jb := tN_nI (by omega)
  refine V.stt (g2 := ((s, m), (sT, mT), rr, hh, sl, tx)) (rfl) ?_
  refine v_iload_n C dX5_exchange_14 rfl ?_
  refine v_iload_n C dX5_exchange_15 rfl ?_
  refine v_icmp_ne C 30 dX5_exchange_16 (by decide) (fun c16 => ?_) (fun c16 => ?_)
  · have hne : (nI ja == nI jb) = false := beq_eq_false_iff_ne.mpr c16
    refine v_aload_n C dX5_exchange_30 rfl ?_
    refine v_iload_n C dX5_exchange_31 rfl ?_
    refine v_iload_n C dX5_exchange_32 rfl ?_
    refine v_callVv C (c_X5_needUnlocked hl (n := n) hn h96 (by omega) (by omega)) ym_X5_needUnlocked ml_X5_197 emb_id_cS rfl rfl rfl rfl rfl dX5_exchange_33 (Nat.le_of_ble_eq_true rfl) (Nat.le_of_ble_eq_true rfl) (Nat.le_of_ble_eq_true rfl) (Nat.le_of_ble_eq_true rfl) (fun e u hu => v_out C N F (Nat.le_of_ble_eq_true rfl) (Nat.le_of_ble_eq_true rfl) ?_) (fun r u hu => ?_)
    · obtain ⟨rfl, hz, rfl⟩ := hu
      rw [any1] at hz
      exact ⟨by simp [Th3, cdL, hn0, hp_a, hp_b, hne, t_ja, hz], _, _, rfl⟩
    obtain ⟨hu1, hu⟩ := hu
    subst u
    rw [any1] at hu1
    refine V.stt (g2 := ((s, m), (sT, mT), rr, hh, sl, tx)) (rfl) ?_
    refine v_aload_n C dX5_exchange_36 rfl ?_
    refine v_iload_n C dX5_exchange_37 rfl ?_
    refine v_iload_n C dX5_exchange_38 rfl ?_
    refine v_callVv C (c_X5_needUnlocked hl (n := n) hn h96 (by omega) (by omega)) ym_X5_needUnlocked ml_X5_197 emb_id_cS rfl rfl rfl rfl rfl dX5_exchange_39 (Nat.le_of_ble_eq_true rfl) (Nat.le_of_ble_eq_true rfl) (Nat.le_of_ble_eq_true rfl) (Nat.le_of_ble_eq_true rfl) (fun e u hu => v_out C N F (Nat.le_of_ble_eq_true rfl) (Nat.le_of_ble_eq_true rfl) ?_) (fun r u hu => ?_)
    · obtain ⟨rfl, hz, rfl⟩ := hu
      rw [any1] at hz
      exact ⟨by simp [Th3, cdL, hn0, hp_a, hp_b, hne, hu1, t_jb, hz], _, _, rfl⟩
    obtain ⟨hul, hu⟩ := hu
    subst u
    rw [any1] at hul
    refine V.stt (g2 := ((s, m), (sT, mT), rr, hh, sl, tx)) (rfl) ?_
    refine v_aload_n C dX5_exchange_42 rfl ?_
    refine v_getr C fl_X5_29 or_cS_0_3 dX5_exchange_43 ?_
    refine v_aload_n C dX5_exchange_46 rfl ?_
    refine v_getr C fl_X5_10 or_cS_0_0 dX5_exchange_47 ?_
    refine v_getr C fl_X5_74 or_cS_1_0 dX5_exchange_50 ?_
    refine v_callVv C (c_X1_remember hl (h := hmat h) (g := hh) (m := m) hH hLK) ym_X1_remember ml_X5_258 emb_c_hm rfl rfl rfl rfl rfl dX5_exchange_53 (Nat.le_of_ble_eq_true rfl) (Nat.le_of_ble_eq_true rfl) (Nat.le_of_ble_eq_true rfl) (Nat.le_of_ble_eq_true rfl) (fun _ _ hu => hu.elim) (fun r u hu => ?_)
    rcases u with ⟨hh2, m9⟩
    obtain ⟨hu, hH2⟩ := hu
    have hu : m9 = m := hu
    subst m9
    refine V.stt (g2 := ((s, m), (sT, mT), rr, hh2, sl, tx)) (rfl) ?_
    refine v_aload_n C dX5_exchange_56 rfl ?_
    refine v_getr C fl_X5_10 or_cS_0_0 dX5_exchange_57 ?_
    refine v_iload_n C dX5_exchange_60 rfl ?_
    refine v_iload_n C dX5_exchange_61 rfl ?_
    refine v_callVi C (c_X0_swapPlaces hl (s := s) (m := m) (n := n) hI hE hj_ja hj_jb) ym_X0_swapPlaces ml_X5_266 emb_c_live rfl rfl rfl rfl rfl dX5_exchange_62 (Nat.le_of_ble_eq_true rfl) (Nat.le_of_ble_eq_true rfl) (Nat.le_of_ble_eq_true rfl) (Nat.le_of_ble_eq_true rfl) (fun _ _ hu => hu.elim) (fun r u hu => ?_)
    obtain ⟨rfl, s3, hu⟩ := hu
    subst u
    refine v_iret C F (by first | rfl | exact bI_nar _) dX5_exchange_65 (Nat.le_of_ble_eq_true rfl) (Nat.le_of_ble_eq_true rfl) ?_
    exact ⟨⟨by simp [cdL, hn0, hp_a, hp_b, hne, hu1, hul, t_ja, t_jb], by rw [t_ja, t_jb]⟩, _, _, _, by rw [t_ja, t_jb], hH2⟩
  · have heq : (nI ja == nI jb) = true := beq_iff_eq.mpr c16
    refine v_throwW C N F thr_EIA mm_264 rfl dX5_exchange_19 dX5_exchange_22 dX5_exchange_23 dX5_exchange_26 dX5_exchange_29 (Nat.le_of_ble_eq_true rfl) (Nat.le_of_ble_eq_true rfl) (Nat.le_of_ble_eq_true rfl) ?_
    exact ⟨by simp [Th3, cdL, hn0, hp_a, hp_b, heq], _, _, rfl⟩
set_option maxHeartbeats 16000000 in
theorem c_X5_move {l : Launch} (hl : l.stackTraces = false) {κ : Kp} {h : Nat → Nat} {s sT : G} {m mT : Mg} {rr : Rg} {hh : Hg} {sl : Nat → Mg} {tx : G} {n c : Nat} {L : List Mg} {f t k : Int32} (hW : WM n c m) (hH : HS L hh) : Ct SS MM l κ yX5_move cX5_move 8 (some FieldType.int) 4 6 36 [.ref (h 0), .int f, .int t, .int k] (cS κ h) ((s, m), (sT, mT), rr, hh, sl, tx) ri (fun r u => (cdL [(decide (n = 0), 1), (!(refM m n f t k == 0), 2), (!(f == t) && anyG (lockB m) (lefA (tN f) (tN t) (tN k)) (lefZ (tN f) (tN t) (tN k) + 1 - lefA (tN f) (tN t) (tN k)), 2)] = 0 ∧ r = m 6 0) ∧ MUp (movM n (tN f) (tN t) (tN k) m) ((m :: L).take 8) rr sl tx u) (fun e u => ThA e (cdL [(decide (n = 0), 1), (!(refM m n f t k == 0), 2), (!(f == t) && anyG (lockB m) (lefA (tN f) (tN t) (tN k)) (lefZ (tN f) (tN t) (tN k) + 1 - lefA (tN f) (tN t) (tN k)), 2)]) ∧ ROp m rr hh sl tx u) := by
  refine Ct.of (own := RX5) (by decide) rfl hl (by intro v hv; simp only [List.mem_cons, List.not_mem_nil, or_false] at hv; first | (rcases hv with rfl | rfl | rfl | rfl | rfl | rfl <;> rfl) | (rcases hv with rfl | rfl | rfl | rfl | rfl <;> rfl) | (rcases hv with rfl | rfl | rfl | rfl <;> rfl) | (rcases hv with rfl | rfl | rfl <;> rfl) | (rcases hv with rfl | rfl <;> rfl) | (subst hv; rfl) | exact hv.elim) (Nat.le_of_ble_eq_true rfl) (fun X hxl hxk C F N => ?_)
  subst hxl hxk
  show V X (cS (xK X) h) 0 [some (.ref (h 0)), some (.int f), some (.int t), some (.int k), none, none, none, none] [] ((s, m), (sT, mT), rr, hh, sl, tx) 0 0
  obtain ⟨h96, hn, hMf⟩ := id hW
  refine v_aload_n C dX5_move_0 rfl ?_
  refine v_callVv C (c_X5_needMemory hl hn h96) ym_X5_needMemory ml_X5_100 emb_id_cS rfl rfl rfl rfl rfl dX5_move_1 (Nat.le_of_ble_eq_true rfl) (Nat.le_of_ble_eq_true rfl) (Nat.le_of_ble_eq_true rfl) (Nat.le_of_ble_eq_true rfl) (fun e u hu => v_out C N F (Nat.le_of_ble_eq_true rfl) (Nat.le_of_ble_eq_true rfl) ?_) (fun r u hu => ?_)
  · obtain ⟨rfl, hz, rfl⟩ := hu
    exact ⟨by simp [ThA, cdL, hz], _, _, rfl⟩
  obtain ⟨hn0, hu⟩ := hu
  subst u
  have hMI := hMf hn0
  obtain ⟨hI, hE, hLK, hn1, hSB, hBY, hPR⟩ := id hMI
  have hbd := band_ok hSB
  refine V.stt (g2 := ((s, m), (sT, mT), rr, hh, sl, tx)) (rfl) ?_
  refine v_aload_n C dX5_move_4 rfl ?_
  refine v_iload_n C dX5_move_5 rfl ?_
  refine v_iload_n C dX5_move_6 rfl ?_
  refine v_iload_n C dX5_move_7 rfl ?_
  refine v_callVv C (c_X5_needCopy hl hn h96) ym_X5_needCopy ml_X5_255 emb_id_cS rfl rfl rfl rfl rfl dX5_move_8 (Nat.le_of_ble_eq_true rfl) (Nat.le_of_ble_eq_true rfl) (Nat.le_of_ble_eq_true rfl) (Nat.le_of_ble_eq_true rfl) (fun e u hu => v_out C N F (Nat.le_of_ble_eq_true rfl) (Nat.le_of_ble_eq_true rfl) ?_) (fun r u hu => ?_)
  · obtain ⟨rfl, hz, rfl⟩ := hu
    exact ⟨by simp [ThA, cdL, hn0, hz], _, _, rfl⟩
  obtain ⟨hrf, hu⟩ := hu
  subst u
  obtain ⟨f1, t1, k1, ef, et, ek, b1, b2, b3⟩ := ref_at hn h96 hrf
  subst ef et ek
  have e3 : tN (nI f1) = f1 := tN_nI (by omega)
  have e4 : tN (nI t1) = t1 := tN_nI (by omega)
  have e5 : tN (nI k1) = k1 := tN_nI (by omega)
  obtain ⟨lim, hlim, hlim96⟩ := lim_ok hSB
  have hM2 := MI.copy hMI b1 b2 b3
  refine V.stt (g2 := ((s, m), (sT, mT), rr, hh, sl, tx)) (rfl) ?_
  refine v_iload_n C dX5_move_11 rfl ?_
  refine v_iload_n C dX5_move_12 rfl ?_
  first | refine v_icmp_geN C 26 dX5_move_13 (by decide) (by omega) (by omega) (fun c13 => ?_) (fun c13 => ?_) | refine v_icmp_ge C 26 dX5_move_13 (by decide) (fun c13 => ?_) (fun c13 => ?_)
  · have hA : lefA f1 t1 k1 = f1 := by unfold lefA; rw [if_neg (by omega)]
    refine v_iload_n C dX5_move_26 rfl ?_
    refine V.eq (Wd2 := cS (xK X) h) (st2 := .int (nI (lefA f1 t1 k1)) :: []) ?_ (by rw [hA]) rfl
    refine v_istore C (lo2 := [some _, some _, some _, some _, some _, none, none, none]) dX5_move_27 rfl (Nat.le_of_ble_eq_true rfl) rfl ?_
    refine v_iload_n C dX5_move_29 rfl ?_
    refine v_iload_n C dX5_move_30 rfl ?_
    first | refine v_icmp_leN C 46 dX5_move_31 (by decide) (by omega) (by omega) (fun c31 => ?_) (fun c31 => ?_) | refine v_icmp_le C 46 dX5_move_31 (by decide) (fun c31 => ?_) (fun c31 => ?_)
    · have hZ : lefZ f1 t1 k1 = f1 + k1 - 1 := by unfold lefZ; rw [if_neg (by omega)]
      refine v_iload_n C dX5_move_46 rfl ?_
      refine v_iload_n C dX5_move_47 rfl ?_
      first | refine v_iaddN C dX5_move_48 ?_ | refine v_iadd C dX5_move_48 ?_
      refine v_iconst (v := nI 1) C dX5_move_49 (by decide) ?_
      first | refine v_isubN C dX5_move_50 (by omega) ?_ | refine v_isub C dX5_move_50 ?_
      refine V.eq (Wd2 := cS (xK X) h) (st2 := .int (nI (lefZ f1 t1 k1)) :: []) ?_ (by rw [hZ]) rfl
      refine v_istore C (lo2 := [some _, some _, some _, some _, some _, some _, none, none]) dX5_move_51 rfl (Nat.le_of_ble_eq_true rfl) rfl ?_
      refine v_iload_n C dX5_move_53 rfl ?_
      refine v_iload_n C dX5_move_54 rfl ?_
      refine v_icmp_eq C 62 dX5_move_55 (by decide) (fun c55 => ?_) (fun c55 => ?_)
      · have heq : (nI f1 == nI t1) = true := beq_iff_eq.mpr c55
        have heq2 : f1 = t1 := nI_inj (by omega) (by omega) c55
        refine v_iconst (v := nI 0) C dX5_move_62 (by decide) ?_
        refine v_istore C (lo2 := [some _, some _, some _, some _, some _, some _, some _, none]) dX5_move_63 rfl (Nat.le_of_ble_eq_true rfl) rfl ?_
        refine v_iload C dX5_move_65 rfl ?_
        refine v_if_eq C 78 dX5_move_67 (by decide) (fun c67 => ?_) (fun c => absurd c (by decide))
        refine v_aload_n C dX5_move_78 rfl ?_
        refine v_getr C fl_X5_29 or_cS_0_3 dX5_move_79 ?_
        refine v_aload_n C dX5_move_82 rfl ?_
        refine v_getr C fl_X5_10 or_cS_0_0 dX5_move_83 ?_
        refine v_getr C fl_X5_74 or_cS_1_0 dX5_move_86 ?_
        refine v_callVv C (c_X1_remember hl (h := hmat h) (g := hh) (m := m) hH hLK) ym_X1_remember ml_X5_258 emb_c_hm rfl rfl rfl rfl rfl dX5_move_89 (Nat.le_of_ble_eq_true rfl) (Nat.le_of_ble_eq_true rfl) (Nat.le_of_ble_eq_true rfl) (Nat.le_of_ble_eq_true rfl) (fun _ _ hu => hu.elim) (fun r u hu => ?_)
        rcases u with ⟨hh2, m9⟩
        obtain ⟨hu, hH2⟩ := hu
        have hu : m9 = m := hu
        subst m9
        refine V.stt (g2 := ((s, m), (sT, mT), rr, hh2, sl, tx)) (rfl) ?_
        refine v_aload_n C dX5_move_92 rfl ?_
        refine v_getr C fl_X5_10 or_cS_0_0 dX5_move_93 ?_
        refine v_iload_n C dX5_move_96 rfl ?_
        refine v_iload_n C dX5_move_97 rfl ?_
        refine v_iload_n C dX5_move_98 rfl ?_
        refine v_callVi C (c_X0_makeCopy hl (s := s) (m := m) (n := n) (lim := lim) hI hE hlim hlim96 b1 b2 b3) ym_X0_makeCopy ml_X5_261 emb_c_live rfl rfl rfl rfl rfl dX5_move_99 (Nat.le_of_ble_eq_true rfl) (Nat.le_of_ble_eq_true rfl) (Nat.le_of_ble_eq_true rfl) (Nat.le_of_ble_eq_true rfl) (fun _ _ hu => hu.elim) (fun r u hu => ?_)
        obtain ⟨rfl, s3, hu⟩ := hu
        subst u
        refine v_istore C (lo2 := [some _, some _, some _, some _, some _, some _, some _, some _]) dX5_move_102 rfl (Nat.le_of_ble_eq_true rfl) rfl ?_
        refine v_iload C dX5_move_104 rfl ?_
        refine v_if_eq C 122 dX5_move_106 (by decide) (fun c106 => ?_) (fun c => absurd c (by decide))
        refine v_iload C dX5_move_122 rfl ?_
        refine v_iret C F (by first | rfl | exact bI_nar _) dX5_move_124 (Nat.le_of_ble_eq_true rfl) (Nat.le_of_ble_eq_true rfl) ?_
        first
        | exact ⟨⟨by simp [cdL, hn0, hrf, heq], rfl⟩, _, _, _, (by unfold movM; rw [e3, e4, e5, if_pos heq2]), hH2⟩
        | exact ⟨⟨by simp [cdL, hn0, hrf, hne, e3, e4, e5, hul], rfl⟩, _, _, _, (by unfold movM; rw [e3, e4, e5, if_neg hne2]; rfl), hH2⟩
      · have hne : (nI f1 == nI t1) = false := beq_eq_false_iff_ne.mpr c55
        have hne2 : ¬ f1 = t1 := fun z => c55 (by rw [z])
        have hAZ : lefA f1 t1 k1 ≤ lefZ f1 t1 k1 := by omega
        have hZn : lefZ f1 t1 k1 < n := by omega
        refine v_iconst (v := nI 1) C dX5_move_58 (by decide) ?_
        refine v_goto C 63 dX5_move_59 (by decide) ?_
        refine v_istore C (lo2 := [some _, some _, some _, some _, some _, some _, some _, none]) dX5_move_63 rfl (Nat.le_of_ble_eq_true rfl) rfl ?_
        refine v_iload C dX5_move_65 rfl ?_
        refine v_if_eq C 78 dX5_move_67 (by decide) (fun c => absurd c (by decide)) (fun c67 => ?_)
        refine v_aload_n C dX5_move_70 rfl ?_
        refine v_iload C dX5_move_71 rfl ?_
        refine v_iload C dX5_move_73 rfl ?_
        refine v_callVv C (c_X5_needUnlocked hl (n := n) hn h96 (by omega) (by omega)) ym_X5_needUnlocked ml_X5_197 emb_id_cS rfl rfl rfl rfl rfl dX5_move_75 (Nat.le_of_ble_eq_true rfl) (Nat.le_of_ble_eq_true rfl) (Nat.le_of_ble_eq_true rfl) (Nat.le_of_ble_eq_true rfl) (fun e u hu => v_out C N F (Nat.le_of_ble_eq_true rfl) (Nat.le_of_ble_eq_true rfl) ?_) (fun r u hu => ?_)
        · obtain ⟨rfl, hz, rfl⟩ := hu
          exact ⟨by simp [ThA, cdL, hn0, hrf, e3, e4, e5, hne, hz], _, _, rfl⟩
        obtain ⟨hul, hu⟩ := hu
        subst u
        refine V.stt (g2 := ((s, m), (sT, mT), rr, hh, sl, tx)) (rfl) ?_
        refine v_aload_n C dX5_move_78 rfl ?_
        refine v_getr C fl_X5_29 or_cS_0_3 dX5_move_79 ?_
        refine v_aload_n C dX5_move_82 rfl ?_
        refine v_getr C fl_X5_10 or_cS_0_0 dX5_move_83 ?_
        refine v_getr C fl_X5_74 or_cS_1_0 dX5_move_86 ?_
        refine v_callVv C (c_X1_remember hl (h := hmat h) (g := hh) (m := m) hH hLK) ym_X1_remember ml_X5_258 emb_c_hm rfl rfl rfl rfl rfl dX5_move_89 (Nat.le_of_ble_eq_true rfl) (Nat.le_of_ble_eq_true rfl) (Nat.le_of_ble_eq_true rfl) (Nat.le_of_ble_eq_true rfl) (fun _ _ hu => hu.elim) (fun r u hu => ?_)
        rcases u with ⟨hh2, m9⟩
        obtain ⟨hu, hH2⟩ := hu
        have hu : m9 = m := hu
        subst m9
        refine V.stt (g2 := ((s, m), (sT, mT), rr, hh2, sl, tx)) (rfl) ?_
        refine v_aload_n C dX5_move_92 rfl ?_
        refine v_getr C fl_X5_10 or_cS_0_0 dX5_move_93 ?_
        refine v_iload_n C dX5_move_96 rfl ?_
        refine v_iload_n C dX5_move_97 rfl ?_
        refine v_iload_n C dX5_move_98 rfl ?_
        refine v_callVi C (c_X0_makeCopy hl (s := s) (m := m) (n := n) (lim := lim) hI hE hlim hlim96 b1 b2 b3) ym_X0_makeCopy ml_X5_261 emb_c_live rfl rfl rfl rfl rfl dX5_move_99 (Nat.le_of_ble_eq_true rfl) (Nat.le_of_ble_eq_true rfl) (Nat.le_of_ble_eq_true rfl) (Nat.le_of_ble_eq_true rfl) (fun _ _ hu => hu.elim) (fun r u hu => ?_)
        obtain ⟨rfl, s3, hu⟩ := hu
        subst u
        refine v_istore C (lo2 := [some _, some _, some _, some _, some _, some _, some _, some _]) dX5_move_102 rfl (Nat.le_of_ble_eq_true rfl) rfl ?_
        refine v_iload C dX5_move_104 rfl ?_
        refine v_if_eq C 122 dX5_move_106 (by decide) (fun c => absurd c (by decide)) (fun c106 => ?_)
        refine v_aload_n C dX5_move_109 rfl ?_
        refine v_getr C fl_X5_10 or_cS_0_0 dX5_move_110 ?_
        refine v_iload C dX5_move_113 rfl ?_
        refine v_iload C dX5_move_115 rfl ?_
        refine v_iconst (v := nI 0) C dX5_move_117 (by decide) ?_
        refine v_callVi C (c_X0_fillRow hl (s := s3) (m := copyM n f1 t1 k1 m) (n := n) hM2.1 hM2.2.1 (by omega) (by omega)) ym_X0_fillRow ml_X5_203 emb_c_live rfl rfl rfl rfl rfl dX5_move_118 (Nat.le_of_ble_eq_true rfl) (Nat.le_of_ble_eq_true rfl) (Nat.le_of_ble_eq_true rfl) (Nat.le_of_ble_eq_true rfl) (fun _ _ hu => hu.elim) (fun r u hu => ?_)
        obtain ⟨rfl, s4, hu⟩ := hu
        subst u
        refine v_pop C dX5_move_121 rfl ?_
        refine v_iload C dX5_move_122 rfl ?_
        refine v_iret C F (by first | rfl | exact bI_nar _) dX5_move_124 (Nat.le_of_ble_eq_true rfl) (Nat.le_of_ble_eq_true rfl) ?_
        first
        | exact ⟨⟨by simp [cdL, hn0, hrf, heq], rfl⟩, _, _, _, (by unfold movM; rw [e3, e4, e5, if_pos heq2]), hH2⟩
        | exact ⟨⟨by simp [cdL, hn0, hrf, hne, e3, e4, e5, hul], rfl⟩, _, _, _, (by unfold movM; rw [e3, e4, e5, if_neg hne2]; rfl), hH2⟩
    · have hZ : lefZ f1 t1 k1 = min (f1 + k1) t1 - 1 := by unfold lefZ; rw [if_pos (by omega)]
      refine v_iload_n C dX5_move_34 rfl ?_
      refine v_iload_n C dX5_move_35 rfl ?_
      first | refine v_iaddN C dX5_move_36 ?_ | refine v_iadd C dX5_move_36 ?_
      refine v_iload_n C dX5_move_37 rfl ?_
      refine v_mmin (z := nI (lefZ f1 t1 k1 + 1)) C ml_X5_269 w_minS w_mI w_minC rfl (Nat.le_of_ble_eq_true rfl) dX5_move_38 (Nat.le_of_ble_eq_true rfl) (Nat.le_of_ble_eq_true rfl) ?_ ?_
      · exact move_min c31 (by omega) (by omega) (by omega) b1
      refine v_iconst (v := nI 1) C dX5_move_41 (by decide) ?_
      first | refine v_isubN C dX5_move_42 (by omega) ?_ | refine v_isub C dX5_move_42 ?_
      refine V.eq (Wd2 := cS (xK X) h) (st2 := .int (nI (lefZ f1 t1 k1)) :: []) ?_ (by rw [Nat.add_sub_cancel]) rfl
      refine v_goto C 51 dX5_move_43 (by decide) ?_
      refine v_istore C (lo2 := [some _, some _, some _, some _, some _, some _, none, none]) dX5_move_51 rfl (Nat.le_of_ble_eq_true rfl) rfl ?_
      refine v_iload_n C dX5_move_53 rfl ?_
      refine v_iload_n C dX5_move_54 rfl ?_
      refine v_icmp_eq C 62 dX5_move_55 (by decide) (fun c55 => ?_) (fun c55 => ?_)
      · have heq : (nI f1 == nI t1) = true := beq_iff_eq.mpr c55
        have heq2 : f1 = t1 := nI_inj (by omega) (by omega) c55
        refine v_iconst (v := nI 0) C dX5_move_62 (by decide) ?_
        refine v_istore C (lo2 := [some _, some _, some _, some _, some _, some _, some _, none]) dX5_move_63 rfl (Nat.le_of_ble_eq_true rfl) rfl ?_
        refine v_iload C dX5_move_65 rfl ?_
        refine v_if_eq C 78 dX5_move_67 (by decide) (fun c67 => ?_) (fun c => absurd c (by decide))
        refine v_aload_n C dX5_move_78 rfl ?_
        refine v_getr C fl_X5_29 or_cS_0_3 dX5_move_79 ?_
        refine v_aload_n C dX5_move_82 rfl ?_
        refine v_getr C fl_X5_10 or_cS_0_0 dX5_move_83 ?_
        refine v_getr C fl_X5_74 or_cS_1_0 dX5_move_86 ?_
        refine v_callVv C (c_X1_remember hl (h := hmat h) (g := hh) (m := m) hH hLK) ym_X1_remember ml_X5_258 emb_c_hm rfl rfl rfl rfl rfl dX5_move_89 (Nat.le_of_ble_eq_true rfl) (Nat.le_of_ble_eq_true rfl) (Nat.le_of_ble_eq_true rfl) (Nat.le_of_ble_eq_true rfl) (fun _ _ hu => hu.elim) (fun r u hu => ?_)
        rcases u with ⟨hh2, m9⟩
        obtain ⟨hu, hH2⟩ := hu
        have hu : m9 = m := hu
        subst m9
        refine V.stt (g2 := ((s, m), (sT, mT), rr, hh2, sl, tx)) (rfl) ?_
        refine v_aload_n C dX5_move_92 rfl ?_
        refine v_getr C fl_X5_10 or_cS_0_0 dX5_move_93 ?_
        refine v_iload_n C dX5_move_96 rfl ?_
        refine v_iload_n C dX5_move_97 rfl ?_
        refine v_iload_n C dX5_move_98 rfl ?_
        refine v_callVi C (c_X0_makeCopy hl (s := s) (m := m) (n := n) (lim := lim) hI hE hlim hlim96 b1 b2 b3) ym_X0_makeCopy ml_X5_261 emb_c_live rfl rfl rfl rfl rfl dX5_move_99 (Nat.le_of_ble_eq_true rfl) (Nat.le_of_ble_eq_true rfl) (Nat.le_of_ble_eq_true rfl) (Nat.le_of_ble_eq_true rfl) (fun _ _ hu => hu.elim) (fun r u hu => ?_)
        obtain ⟨rfl, s3, hu⟩ := hu
        subst u
        refine v_istore C (lo2 := [some _, some _, some _, some _, some _, some _, some _, some _]) dX5_move_102 rfl (Nat.le_of_ble_eq_true rfl) rfl ?_
        refine v_iload C dX5_move_104 rfl ?_
        refine v_if_eq C 122 dX5_move_106 (by decide) (fun c106 => ?_) (fun c => absurd c (by decide))
        refine v_iload C dX5_move_122 rfl ?_
        refine v_iret C F (by first | rfl | exact bI_nar _) dX5_move_124 (Nat.le_of_ble_eq_true rfl) (Nat.le_of_ble_eq_true rfl) ?_
        first
        | exact ⟨⟨by simp [cdL, hn0, hrf, heq], rfl⟩, _, _, _, (by unfold movM; rw [e3, e4, e5, if_pos heq2]), hH2⟩
        | exact ⟨⟨by simp [cdL, hn0, hrf, hne, e3, e4, e5, hul], rfl⟩, _, _, _, (by unfold movM; rw [e3, e4, e5, if_neg hne2]; rfl), hH2⟩
      · have hne : (nI f1 == nI t1) = false := beq_eq_false_iff_ne.mpr c55
        have hne2 : ¬ f1 = t1 := fun z => c55 (by rw [z])
        have hAZ : lefA f1 t1 k1 ≤ lefZ f1 t1 k1 := by omega
        have hZn : lefZ f1 t1 k1 < n := by omega
        refine v_iconst (v := nI 1) C dX5_move_58 (by decide) ?_
        refine v_goto C 63 dX5_move_59 (by decide) ?_
        refine v_istore C (lo2 := [some _, some _, some _, some _, some _, some _, some _, none]) dX5_move_63 rfl (Nat.le_of_ble_eq_true rfl) rfl ?_
        refine v_iload C dX5_move_65 rfl ?_
        refine v_if_eq C 78 dX5_move_67 (by decide) (fun c => absurd c (by decide)) (fun c67 => ?_)
        refine v_aload_n C dX5_move_70 rfl ?_
        refine v_iload C dX5_move_71 rfl ?_
        refine v_iload C dX5_move_73 rfl ?_
        refine v_callVv C (c_X5_needUnlocked hl (n := n) hn h96 (by omega) (by omega)) ym_X5_needUnlocked ml_X5_197 emb_id_cS rfl rfl rfl rfl rfl dX5_move_75 (Nat.le_of_ble_eq_true rfl) (Nat.le_of_ble_eq_true rfl) (Nat.le_of_ble_eq_true rfl) (Nat.le_of_ble_eq_true rfl) (fun e u hu => v_out C N F (Nat.le_of_ble_eq_true rfl) (Nat.le_of_ble_eq_true rfl) ?_) (fun r u hu => ?_)
        · obtain ⟨rfl, hz, rfl⟩ := hu
          exact ⟨by simp [ThA, cdL, hn0, hrf, e3, e4, e5, hne, hz], _, _, rfl⟩
        obtain ⟨hul, hu⟩ := hu
        subst u
        refine V.stt (g2 := ((s, m), (sT, mT), rr, hh, sl, tx)) (rfl) ?_
        refine v_aload_n C dX5_move_78 rfl ?_
        refine v_getr C fl_X5_29 or_cS_0_3 dX5_move_79 ?_
        refine v_aload_n C dX5_move_82 rfl ?_
        refine v_getr C fl_X5_10 or_cS_0_0 dX5_move_83 ?_
        refine v_getr C fl_X5_74 or_cS_1_0 dX5_move_86 ?_
        refine v_callVv C (c_X1_remember hl (h := hmat h) (g := hh) (m := m) hH hLK) ym_X1_remember ml_X5_258 emb_c_hm rfl rfl rfl rfl rfl dX5_move_89 (Nat.le_of_ble_eq_true rfl) (Nat.le_of_ble_eq_true rfl) (Nat.le_of_ble_eq_true rfl) (Nat.le_of_ble_eq_true rfl) (fun _ _ hu => hu.elim) (fun r u hu => ?_)
        rcases u with ⟨hh2, m9⟩
        obtain ⟨hu, hH2⟩ := hu
        have hu : m9 = m := hu
        subst m9
        refine V.stt (g2 := ((s, m), (sT, mT), rr, hh2, sl, tx)) (rfl) ?_
        refine v_aload_n C dX5_move_92 rfl ?_
        refine v_getr C fl_X5_10 or_cS_0_0 dX5_move_93 ?_
        refine v_iload_n C dX5_move_96 rfl ?_
        refine v_iload_n C dX5_move_97 rfl ?_
        refine v_iload_n C dX5_move_98 rfl ?_
        refine v_callVi C (c_X0_makeCopy hl (s := s) (m := m) (n := n) (lim := lim) hI hE hlim hlim96 b1 b2 b3) ym_X0_makeCopy ml_X5_261 emb_c_live rfl rfl rfl rfl rfl dX5_move_99 (Nat.le_of_ble_eq_true rfl) (Nat.le_of_ble_eq_true rfl) (Nat.le_of_ble_eq_true rfl) (Nat.le_of_ble_eq_true rfl) (fun _ _ hu => hu.elim) (fun r u hu => ?_)
        obtain ⟨rfl, s3, hu⟩ := hu
        subst u
        refine v_istore C (lo2 := [some _, some _, some _, some _, some _, some _, some _, some _]) dX5_move_102 rfl (Nat.le_of_ble_eq_true rfl) rfl ?_
        refine v_iload C dX5_move_104 rfl ?_
        refine v_if_eq C 122 dX5_move_106 (by decide) (fun c => absurd c (by decide)) (fun c106 => ?_)
        refine v_aload_n C dX5_move_109 rfl ?_
        refine v_getr C fl_X5_10 or_cS_0_0 dX5_move_110 ?_
        refine v_iload C dX5_move_113 rfl ?_
        refine v_iload C dX5_move_115 rfl ?_
        refine v_iconst (v := nI 0) C dX5_move_117 (by decide) ?_
        refine v_callVi C (c_X0_fillRow hl (s := s3) (m := copyM n f1 t1 k1 m) (n := n) hM2.1 hM2.2.1 (by omega) (by omega)) ym_X0_fillRow ml_X5_203 emb_c_live rfl rfl rfl rfl rfl dX5_move_118 (Nat.le_of_ble_eq_true rfl) (Nat.le_of_ble_eq_true rfl) (Nat.le_of_ble_eq_true rfl) (Nat.le_of_ble_eq_true rfl) (fun _ _ hu => hu.elim) (fun r u hu => ?_)
        obtain ⟨rfl, s4, hu⟩ := hu
        subst u
        refine v_pop C dX5_move_121 rfl ?_
        refine v_iload C dX5_move_122 rfl ?_
        refine v_iret C F (by first | rfl | exact bI_nar _) dX5_move_124 (Nat.le_of_ble_eq_true rfl) (Nat.le_of_ble_eq_true rfl) ?_
        first
        | exact ⟨⟨by simp [cdL, hn0, hrf, heq], rfl⟩, _, _, _, (by unfold movM; rw [e3, e4, e5, if_pos heq2]), hH2⟩
        | exact ⟨⟨by simp [cdL, hn0, hrf, hne, e3, e4, e5, hul], rfl⟩, _, _, _, (by unfold movM; rw [e3, e4, e5, if_neg hne2]; rfl), hH2⟩
  · have hA : lefA f1 t1 k1 = max f1 (t1 + k1) := by unfold lefA; rw [if_pos (by omega)]
    refine v_iload_n C dX5_move_16 rfl ?_
    refine v_iload_n C dX5_move_17 rfl ?_
    refine v_iload_n C dX5_move_18 rfl ?_
    first | refine v_iaddN C dX5_move_19 ?_ | refine v_iadd C dX5_move_19 ?_
    refine v_mmax (z := nI (lefA f1 t1 k1)) C ml_X5_212 w_maxS w_mI w_maxC rfl (Nat.le_of_ble_eq_true rfl) dX5_move_20 (Nat.le_of_ble_eq_true rfl) (Nat.le_of_ble_eq_true rfl) ?_ ?_
    · exact move_max c13 (by omega) (by omega) (by omega)
    refine v_goto C 27 dX5_move_23 (by decide) ?_
    refine v_istore C (lo2 := [some _, some _, some _, some _, some _, none, none, none]) dX5_move_27 rfl (Nat.le_of_ble_eq_true rfl) rfl ?_
    refine v_iload_n C dX5_move_29 rfl ?_
    refine v_iload_n C dX5_move_30 rfl ?_
    first | refine v_icmp_leN C 46 dX5_move_31 (by decide) (by omega) (by omega) (fun c31 => ?_) (fun c31 => ?_) | refine v_icmp_le C 46 dX5_move_31 (by decide) (fun c31 => ?_) (fun c31 => ?_)
    · have hZ : lefZ f1 t1 k1 = f1 + k1 - 1 := by unfold lefZ; rw [if_neg (by omega)]
      refine v_iload_n C dX5_move_46 rfl ?_
      refine v_iload_n C dX5_move_47 rfl ?_
      first | refine v_iaddN C dX5_move_48 ?_ | refine v_iadd C dX5_move_48 ?_
      refine v_iconst (v := nI 1) C dX5_move_49 (by decide) ?_
      first | refine v_isubN C dX5_move_50 (by omega) ?_ | refine v_isub C dX5_move_50 ?_
      refine V.eq (Wd2 := cS (xK X) h) (st2 := .int (nI (lefZ f1 t1 k1)) :: []) ?_ (by rw [hZ]) rfl
      refine v_istore C (lo2 := [some _, some _, some _, some _, some _, some _, none, none]) dX5_move_51 rfl (Nat.le_of_ble_eq_true rfl) rfl ?_
      refine v_iload_n C dX5_move_53 rfl ?_
      refine v_iload_n C dX5_move_54 rfl ?_
      refine v_icmp_eq C 62 dX5_move_55 (by decide) (fun c55 => ?_) (fun c55 => ?_)
      · have heq : (nI f1 == nI t1) = true := beq_iff_eq.mpr c55
        have heq2 : f1 = t1 := nI_inj (by omega) (by omega) c55
        refine v_iconst (v := nI 0) C dX5_move_62 (by decide) ?_
        refine v_istore C (lo2 := [some _, some _, some _, some _, some _, some _, some _, none]) dX5_move_63 rfl (Nat.le_of_ble_eq_true rfl) rfl ?_
        refine v_iload C dX5_move_65 rfl ?_
        refine v_if_eq C 78 dX5_move_67 (by decide) (fun c67 => ?_) (fun c => absurd c (by decide))
        refine v_aload_n C dX5_move_78 rfl ?_
        refine v_getr C fl_X5_29 or_cS_0_3 dX5_move_79 ?_
        refine v_aload_n C dX5_move_82 rfl ?_
        refine v_getr C fl_X5_10 or_cS_0_0 dX5_move_83 ?_
        refine v_getr C fl_X5_74 or_cS_1_0 dX5_move_86 ?_
        refine v_callVv C (c_X1_remember hl (h := hmat h) (g := hh) (m := m) hH hLK) ym_X1_remember ml_X5_258 emb_c_hm rfl rfl rfl rfl rfl dX5_move_89 (Nat.le_of_ble_eq_true rfl) (Nat.le_of_ble_eq_true rfl) (Nat.le_of_ble_eq_true rfl) (Nat.le_of_ble_eq_true rfl) (fun _ _ hu => hu.elim) (fun r u hu => ?_)
        rcases u with ⟨hh2, m9⟩
        obtain ⟨hu, hH2⟩ := hu
        have hu : m9 = m := hu
        subst m9
        refine V.stt (g2 := ((s, m), (sT, mT), rr, hh2, sl, tx)) (rfl) ?_
        refine v_aload_n C dX5_move_92 rfl ?_
        refine v_getr C fl_X5_10 or_cS_0_0 dX5_move_93 ?_
        refine v_iload_n C dX5_move_96 rfl ?_
        refine v_iload_n C dX5_move_97 rfl ?_
        refine v_iload_n C dX5_move_98 rfl ?_
        refine v_callVi C (c_X0_makeCopy hl (s := s) (m := m) (n := n) (lim := lim) hI hE hlim hlim96 b1 b2 b3) ym_X0_makeCopy ml_X5_261 emb_c_live rfl rfl rfl rfl rfl dX5_move_99 (Nat.le_of_ble_eq_true rfl) (Nat.le_of_ble_eq_true rfl) (Nat.le_of_ble_eq_true rfl) (Nat.le_of_ble_eq_true rfl) (fun _ _ hu => hu.elim) (fun r u hu => ?_)
        obtain ⟨rfl, s3, hu⟩ := hu
        subst u
        refine v_istore C (lo2 := [some _, some _, some _, some _, some _, some _, some _, some _]) dX5_move_102 rfl (Nat.le_of_ble_eq_true rfl) rfl ?_
        refine v_iload C dX5_move_104 rfl ?_
        refine v_if_eq C 122 dX5_move_106 (by decide) (fun c106 => ?_) (fun c => absurd c (by decide))
        refine v_iload C dX5_move_122 rfl ?_
        refine v_iret C F (by first | rfl | exact bI_nar _) dX5_move_124 (Nat.le_of_ble_eq_true rfl) (Nat.le_of_ble_eq_true rfl) ?_
        first
        | exact ⟨⟨by simp [cdL, hn0, hrf, heq], rfl⟩, _, _, _, (by unfold movM; rw [e3, e4, e5, if_pos heq2]), hH2⟩
        | exact ⟨⟨by simp [cdL, hn0, hrf, hne, e3, e4, e5, hul], rfl⟩, _, _, _, (by unfold movM; rw [e3, e4, e5, if_neg hne2]; rfl), hH2⟩
      · have hne : (nI f1 == nI t1) = false := beq_eq_false_iff_ne.mpr c55
        have hne2 : ¬ f1 = t1 := fun z => c55 (by rw [z])
        have hAZ : lefA f1 t1 k1 ≤ lefZ f1 t1 k1 := by omega
        have hZn : lefZ f1 t1 k1 < n := by omega
        refine v_iconst (v := nI 1) C dX5_move_58 (by decide) ?_
        refine v_goto C 63 dX5_move_59 (by decide) ?_
        refine v_istore C (lo2 := [some _, some _, some _, some _, some _, some _, some _, none]) dX5_move_63 rfl (Nat.le_of_ble_eq_true rfl) rfl ?_
        refine v_iload C dX5_move_65 rfl ?_
        refine v_if_eq C 78 dX5_move_67 (by decide) (fun c => absurd c (by decide)) (fun c67 => ?_)
        refine v_aload_n C dX5_move_70 rfl ?_
        refine v_iload C dX5_move_71 rfl ?_
        refine v_iload C dX5_move_73 rfl ?_
        refine v_callVv C (c_X5_needUnlocked hl (n := n) hn h96 (by omega) (by omega)) ym_X5_needUnlocked ml_X5_197 emb_id_cS rfl rfl rfl rfl rfl dX5_move_75 (Nat.le_of_ble_eq_true rfl) (Nat.le_of_ble_eq_true rfl) (Nat.le_of_ble_eq_true rfl) (Nat.le_of_ble_eq_true rfl) (fun e u hu => v_out C N F (Nat.le_of_ble_eq_true rfl) (Nat.le_of_ble_eq_true rfl) ?_) (fun r u hu => ?_)
        · obtain ⟨rfl, hz, rfl⟩ := hu
          exact ⟨by simp [ThA, cdL, hn0, hrf, e3, e4, e5, hne, hz], _, _, rfl⟩
        obtain ⟨hul, hu⟩ := hu
        subst u
        refine V.stt (g2 := ((s, m), (sT, mT), rr, hh, sl, tx)) (rfl) ?_
        refine v_aload_n C dX5_move_78 rfl ?_
        refine v_getr C fl_X5_29 or_cS_0_3 dX5_move_79 ?_
        refine v_aload_n C dX5_move_82 rfl ?_
        refine v_getr C fl_X5_10 or_cS_0_0 dX5_move_83 ?_
        refine v_getr C fl_X5_74 or_cS_1_0 dX5_move_86 ?_
        refine v_callVv C (c_X1_remember hl (h := hmat h) (g := hh) (m := m) hH hLK) ym_X1_remember ml_X5_258 emb_c_hm rfl rfl rfl rfl rfl dX5_move_89 (Nat.le_of_ble_eq_true rfl) (Nat.le_of_ble_eq_true rfl) (Nat.le_of_ble_eq_true rfl) (Nat.le_of_ble_eq_true rfl) (fun _ _ hu => hu.elim) (fun r u hu => ?_)
        rcases u with ⟨hh2, m9⟩
        obtain ⟨hu, hH2⟩ := hu
        have hu : m9 = m := hu
        subst m9
        refine V.stt (g2 := ((s, m), (sT, mT), rr, hh2, sl, tx)) (rfl) ?_
        refine v_aload_n C dX5_move_92 rfl ?_
        refine v_getr C fl_X5_10 or_cS_0_0 dX5_move_93 ?_
        refine v_iload_n C dX5_move_96 rfl ?_
        refine v_iload_n C dX5_move_97 rfl ?_
        refine v_iload_n C dX5_move_98 rfl ?_
        refine v_callVi C (c_X0_makeCopy hl (s := s) (m := m) (n := n) (lim := lim) hI hE hlim hlim96 b1 b2 b3) ym_X0_makeCopy ml_X5_261 emb_c_live rfl rfl rfl rfl rfl dX5_move_99 (Nat.le_of_ble_eq_true rfl) (Nat.le_of_ble_eq_true rfl) (Nat.le_of_ble_eq_true rfl) (Nat.le_of_ble_eq_true rfl) (fun _ _ hu => hu.elim) (fun r u hu => ?_)
        obtain ⟨rfl, s3, hu⟩ := hu
        subst u
        refine v_istore C (lo2 := [some _, some _, some _, some _, some _, some _, some _, some _]) dX5_move_102 rfl (Nat.le_of_ble_eq_true rfl) rfl ?_
        refine v_iload C dX5_move_104 rfl ?_
        refine v_if_eq C 122 dX5_move_106 (by decide) (fun c => absurd c (by decide)) (fun c106 => ?_)
        refine v_aload_n C dX5_move_109 rfl ?_
        refine v_getr C fl_X5_10 or_cS_0_0 dX5_move_110 ?_
        refine v_iload C dX5_move_113 rfl ?_
        refine v_iload C dX5_move_115 rfl ?_
        refine v_iconst (v := nI 0) C dX5_move_117 (by decide) ?_
        refine v_callVi C (c_X0_fillRow hl (s := s3) (m := copyM n f1 t1 k1 m) (n := n) hM2.1 hM2.2.1 (by omega) (by omega)) ym_X0_fillRow ml_X5_203 emb_c_live rfl rfl rfl rfl rfl dX5_move_118 (Nat.le_of_ble_eq_true rfl) (Nat.le_of_ble_eq_true rfl) (Nat.le_of_ble_eq_true rfl) (Nat.le_of_ble_eq_true rfl) (fun _ _ hu => hu.elim) (fun r u hu => ?_)
        obtain ⟨rfl, s4, hu⟩ := hu
        subst u
        refine v_pop C dX5_move_121 rfl ?_
        refine v_iload C dX5_move_122 rfl ?_
        refine v_iret C F (by first | rfl | exact bI_nar _) dX5_move_124 (Nat.le_of_ble_eq_true rfl) (Nat.le_of_ble_eq_true rfl) ?_
        first
        | exact ⟨⟨by simp [cdL, hn0, hrf, heq], rfl⟩, _, _, _, (by unfold movM; rw [e3, e4, e5, if_pos heq2]), hH2⟩
        | exact ⟨⟨by simp [cdL, hn0, hrf, hne, e3, e4, e5, hul], rfl⟩, _, _, _, (by unfold movM; rw [e3, e4, e5, if_neg hne2]; rfl), hH2⟩
    · have hZ : lefZ f1 t1 k1 = min (f1 + k1) t1 - 1 := by unfold lefZ; rw [if_pos (by omega)]
      refine v_iload_n C dX5_move_34 rfl ?_
      refine v_iload_n C dX5_move_35 rfl ?_
      first | refine v_iaddN C dX5_move_36 ?_ | refine v_iadd C dX5_move_36 ?_
      refine v_iload_n C dX5_move_37 rfl ?_
      refine v_mmin (z := nI (lefZ f1 t1 k1 + 1)) C ml_X5_269 w_minS w_mI w_minC rfl (Nat.le_of_ble_eq_true rfl) dX5_move_38 (Nat.le_of_ble_eq_true rfl) (Nat.le_of_ble_eq_true rfl) ?_ ?_
      · exact move_min c31 (by omega) (by omega) (by omega) b1
      refine v_iconst (v := nI 1) C dX5_move_41 (by decide) ?_
      first | refine v_isubN C dX5_move_42 (by omega) ?_ | refine v_isub C dX5_move_42 ?_
      refine V.eq (Wd2 := cS (xK X) h) (st2 := .int (nI (lefZ f1 t1 k1)) :: []) ?_ (by rw [Nat.add_sub_cancel]) rfl
      refine v_goto C 51 dX5_move_43 (by decide) ?_
      refine v_istore C (lo2 := [some _, some _, some _, some _, some _, some _, none, none]) dX5_move_51 rfl (Nat.le_of_ble_eq_true rfl) rfl ?_
      refine v_iload_n C dX5_move_53 rfl ?_
      refine v_iload_n C dX5_move_54 rfl ?_
      refine v_icmp_eq C 62 dX5_move_55 (by decide) (fun c55 => ?_) (fun c55 => ?_)
      · have heq : (nI f1 == nI t1) = true := beq_iff_eq.mpr c55
        have heq2 : f1 = t1 := nI_inj (by omega) (by omega) c55
        refine v_iconst (v := nI 0) C dX5_move_62 (by decide) ?_
        refine v_istore C (lo2 := [some _, some _, some _, some _, some _, some _, some _, none]) dX5_move_63 rfl (Nat.le_of_ble_eq_true rfl) rfl ?_
        refine v_iload C dX5_move_65 rfl ?_
        refine v_if_eq C 78 dX5_move_67 (by decide) (fun c67 => ?_) (fun c => absurd c (by decide))
        refine v_aload_n C dX5_move_78 rfl ?_
        refine v_getr C fl_X5_29 or_cS_0_3 dX5_move_79 ?_
        refine v_aload_n C dX5_move_82 rfl ?_
        refine v_getr C fl_X5_10 or_cS_0_0 dX5_move_83 ?_
        refine v_getr C fl_X5_74 or_cS_1_0 dX5_move_86 ?_
        refine v_callVv C (c_X1_remember hl (h := hmat h) (g := hh) (m := m) hH hLK) ym_X1_remember ml_X5_258 emb_c_hm rfl rfl rfl rfl rfl dX5_move_89 (Nat.le_of_ble_eq_true rfl) (Nat.le_of_ble_eq_true rfl) (Nat.le_of_ble_eq_true rfl) (Nat.le_of_ble_eq_true rfl) (fun _ _ hu => hu.elim) (fun r u hu => ?_)
        rcases u with ⟨hh2, m9⟩
        obtain ⟨hu, hH2⟩ := hu
        have hu : m9 = m := hu
        subst m9
        refine V.stt (g2 := ((s, m), (sT, mT), rr, hh2, sl, tx)) (rfl) ?_
        refine v_aload_n C dX5_move_92 rfl ?_
        refine v_getr C fl_X5_10 or_cS_0_0 dX5_move_93 ?_
        refine v_iload_n C dX5_move_96 rfl ?_
        refine v_iload_n C dX5_move_97 rfl ?_
        refine v_iload_n C dX5_move_98 rfl ?_
        refine v_callVi C (c_X0_makeCopy hl (s := s) (m := m) (n := n) (lim := lim) hI hE hlim hlim96 b1 b2 b3) ym_X0_makeCopy ml_X5_261 emb_c_live rfl rfl rfl rfl rfl dX5_move_99 (Nat.le_of_ble_eq_true rfl) (Nat.le_of_ble_eq_true rfl) (Nat.le_of_ble_eq_true rfl) (Nat.le_of_ble_eq_true rfl) (fun _ _ hu => hu.elim) (fun r u hu => ?_)
        obtain ⟨rfl, s3, hu⟩ := hu
        subst u
        refine v_istore C (lo2 := [some _, some _, some _, some _, some _, some _, some _, some _]) dX5_move_102 rfl (Nat.le_of_ble_eq_true rfl) rfl ?_
        refine v_iload C dX5_move_104 rfl ?_
        refine v_if_eq C 122 dX5_move_106 (by decide) (fun c106 => ?_) (fun c => absurd c (by decide))
        refine v_iload C dX5_move_122 rfl ?_
        refine v_iret C F (by first | rfl | exact bI_nar _) dX5_move_124 (Nat.le_of_ble_eq_true rfl) (Nat.le_of_ble_eq_true rfl) ?_
        first
        | exact ⟨⟨by simp [cdL, hn0, hrf, heq], rfl⟩, _, _, _, (by unfold movM; rw [e3, e4, e5, if_pos heq2]), hH2⟩
        | exact ⟨⟨by simp [cdL, hn0, hrf, hne, e3, e4, e5, hul], rfl⟩, _, _, _, (by unfold movM; rw [e3, e4, e5, if_neg hne2]; rfl), hH2⟩
      · have hne : (nI f1 == nI t1) = false := beq_eq_false_iff_ne.mpr c55
        have hne2 : ¬ f1 = t1 := fun z => c55 (by rw [z])
        have hAZ : lefA f1 t1 k1 ≤ lefZ f1 t1 k1 := by omega
        have hZn : lefZ f1 t1 k1 < n := by omega
        refine v_iconst (v := nI 1) C dX5_move_58 (by decide) ?_
        refine v_goto C 63 dX5_move_59 (by decide) ?_
        refine v_istore C (lo2 := [some _, some _, some _, some _, some _, some _, some _, none]) dX5_move_63 rfl (Nat.le_of_ble_eq_true rfl) rfl ?_
        refine v_iload C dX5_move_65 rfl ?_
        refine v_if_eq C 78 dX5_move_67 (by decide) (fun c => absurd c (by decide)) (fun c67 => ?_)
        refine v_aload_n C dX5_move_70 rfl ?_
        refine v_iload C dX5_move_71 rfl ?_
        refine v_iload C dX5_move_73 rfl ?_
        refine v_callVv C (c_X5_needUnlocked hl (n := n) hn h96 (by omega) (by omega)) ym_X5_needUnlocked ml_X5_197 emb_id_cS rfl rfl rfl rfl rfl dX5_move_75 (Nat.le_of_ble_eq_true rfl) (Nat.le_of_ble_eq_true rfl) (Nat.le_of_ble_eq_true rfl) (Nat.le_of_ble_eq_true rfl) (fun e u hu => v_out C N F (Nat.le_of_ble_eq_true rfl) (Nat.le_of_ble_eq_true rfl) ?_) (fun r u hu => ?_)
        · obtain ⟨rfl, hz, rfl⟩ := hu
          exact ⟨by simp [ThA, cdL, hn0, hrf, e3, e4, e5, hne, hz], _, _, rfl⟩
        obtain ⟨hul, hu⟩ := hu
        subst u
        refine V.stt (g2 := ((s, m), (sT, mT), rr, hh, sl, tx)) (rfl) ?_
        refine v_aload_n C dX5_move_78 rfl ?_
        refine v_getr C fl_X5_29 or_cS_0_3 dX5_move_79 ?_
        refine v_aload_n C dX5_move_82 rfl ?_
        refine v_getr C fl_X5_10 or_cS_0_0 dX5_move_83 ?_
        refine v_getr C fl_X5_74 or_cS_1_0 dX5_move_86 ?_
        refine v_callVv C (c_X1_remember hl (h := hmat h) (g := hh) (m := m) hH hLK) ym_X1_remember ml_X5_258 emb_c_hm rfl rfl rfl rfl rfl dX5_move_89 (Nat.le_of_ble_eq_true rfl) (Nat.le_of_ble_eq_true rfl) (Nat.le_of_ble_eq_true rfl) (Nat.le_of_ble_eq_true rfl) (fun _ _ hu => hu.elim) (fun r u hu => ?_)
        rcases u with ⟨hh2, m9⟩
        obtain ⟨hu, hH2⟩ := hu
        have hu : m9 = m := hu
        subst m9
        refine V.stt (g2 := ((s, m), (sT, mT), rr, hh2, sl, tx)) (rfl) ?_
        refine v_aload_n C dX5_move_92 rfl ?_
        refine v_getr C fl_X5_10 or_cS_0_0 dX5_move_93 ?_
        refine v_iload_n C dX5_move_96 rfl ?_
        refine v_iload_n C dX5_move_97 rfl ?_
        refine v_iload_n C dX5_move_98 rfl ?_
        refine v_callVi C (c_X0_makeCopy hl (s := s) (m := m) (n := n) (lim := lim) hI hE hlim hlim96 b1 b2 b3) ym_X0_makeCopy ml_X5_261 emb_c_live rfl rfl rfl rfl rfl dX5_move_99 (Nat.le_of_ble_eq_true rfl) (Nat.le_of_ble_eq_true rfl) (Nat.le_of_ble_eq_true rfl) (Nat.le_of_ble_eq_true rfl) (fun _ _ hu => hu.elim) (fun r u hu => ?_)
        obtain ⟨rfl, s3, hu⟩ := hu
        subst u
        refine v_istore C (lo2 := [some _, some _, some _, some _, some _, some _, some _, some _]) dX5_move_102 rfl (Nat.le_of_ble_eq_true rfl) rfl ?_
        refine v_iload C dX5_move_104 rfl ?_
        refine v_if_eq C 122 dX5_move_106 (by decide) (fun c => absurd c (by decide)) (fun c106 => ?_)
        refine v_aload_n C dX5_move_109 rfl ?_
        refine v_getr C fl_X5_10 or_cS_0_0 dX5_move_110 ?_
        refine v_iload C dX5_move_113 rfl ?_
        refine v_iload C dX5_move_115 rfl ?_
        refine v_iconst (v := nI 0) C dX5_move_117 (by decide) ?_
        refine v_callVi C (c_X0_fillRow hl (s := s3) (m := copyM n f1 t1 k1 m) (n := n) hM2.1 hM2.2.1 (by omega) (by omega)) ym_X0_fillRow ml_X5_203 emb_c_live rfl rfl rfl rfl rfl dX5_move_118 (Nat.le_of_ble_eq_true rfl) (Nat.le_of_ble_eq_true rfl) (Nat.le_of_ble_eq_true rfl) (Nat.le_of_ble_eq_true rfl) (fun _ _ hu => hu.elim) (fun r u hu => ?_)
        obtain ⟨rfl, s4, hu⟩ := hu
        subst u
        refine v_pop C dX5_move_121 rfl ?_
        refine v_iload C dX5_move_122 rfl ?_
        refine v_iret C F (by first | rfl | exact bI_nar _) dX5_move_124 (Nat.le_of_ble_eq_true rfl) (Nat.le_of_ble_eq_true rfl) ?_
        first
        | exact ⟨⟨by simp [cdL, hn0, hrf, heq], rfl⟩, _, _, _, (by unfold movM; rw [e3, e4, e5, if_pos heq2]), hH2⟩
        | exact ⟨⟨by simp [cdL, hn0, hrf, hne, e3, e4, e5, hul], rfl⟩, _, _, _, (by unfold movM; rw [e3, e4, e5, if_neg hne2]; rfl), hH2⟩
set_option maxHeartbeats 16000000 in
theorem c_X5_fetch {l : Launch} (hl : l.stackTraces = false) {κ : Kp} {h : Nat → Nat} {s sT : G} {m mT : Mg} {rr : Rg} {hh : Hg} {sl : Nat → Mg} {tx : G} {n c : Nat} {L : List Mg} {p : Int32} (hW : WM n c m) (hH : HS L hh) : Ct SS MM l κ yX5_fetch cX5_fetch 2 (some FieldType.int) 4 6 36 [.ref (h 0), .int p] (cS κ h) ((s, m), (sT, mT), rr, hh, sl, tx) ri (fun r u => (cdL [(decide (n = 0), 1), (!plB n p, 2)] = 0 ∧ r = valM (fetchM (tN p) m) (tN p)) ∧ MUp (fetchM (tN p) m) ((m :: L).take 8) rr sl tx u) (fun e u => Th3 e (cdL [(decide (n = 0), 1), (!plB n p, 2)]) ∧ ROp m rr hh sl tx u) := by
  refine Ct.of (own := RX5) (by decide) rfl hl (by intro v hv; simp only [List.mem_cons, List.not_mem_nil, or_false] at hv; first | (rcases hv with rfl | rfl | rfl | rfl | rfl | rfl <;> rfl) | (rcases hv with rfl | rfl | rfl | rfl | rfl <;> rfl) | (rcases hv with rfl | rfl | rfl | rfl <;> rfl) | (rcases hv with rfl | rfl | rfl <;> rfl) | (rcases hv with rfl | rfl <;> rfl) | (subst hv; rfl) | exact hv.elim) (Nat.le_of_ble_eq_true rfl) (fun X hxl hxk C F N => ?_)
  subst hxl hxk
  show V X (cS (xK X) h) 0 [some (.ref (h 0)), some (.int p)] [] ((s, m), (sT, mT), rr, hh, sl, tx) 0 0
  obtain ⟨h96, hn, hMf⟩ := id hW
  refine v_aload_n C dX5_fetch_0 rfl ?_
  refine v_callVv C (c_X5_needMemory hl hn h96) ym_X5_needMemory ml_X5_100 emb_id_cS rfl rfl rfl rfl rfl dX5_fetch_1 (Nat.le_of_ble_eq_true rfl) (Nat.le_of_ble_eq_true rfl) (Nat.le_of_ble_eq_true rfl) (Nat.le_of_ble_eq_true rfl) (fun e u hu => v_out C N F (Nat.le_of_ble_eq_true rfl) (Nat.le_of_ble_eq_true rfl) ?_) (fun r u hu => ?_)
  · obtain ⟨rfl, hz, rfl⟩ := hu
    exact ⟨by simp [Th3, cdL, hz], _, _, rfl⟩
  obtain ⟨hn0, hu⟩ := hu
  subst u
  have hMI := hMf hn0
  obtain ⟨hI, hE, hLK, hn1, hSB, hBY, hPR⟩ := id hMI
  have hbd := band_ok hSB
  refine V.stt (g2 := ((s, m), (sT, mT), rr, hh, sl, tx)) (rfl) ?_
  refine v_aload_n C dX5_fetch_4 rfl ?_
  refine v_iload_n C dX5_fetch_5 rfl ?_
  refine v_callVv C (c_X5_needPlace hl hn h96) ym_X5_needPlace ml_X5_111 emb_id_cS rfl rfl rfl rfl rfl dX5_fetch_6 (Nat.le_of_ble_eq_true rfl) (Nat.le_of_ble_eq_true rfl) (Nat.le_of_ble_eq_true rfl) (Nat.le_of_ble_eq_true rfl) (fun e u hu => v_out C N F (Nat.le_of_ble_eq_true rfl) (Nat.le_of_ble_eq_true rfl) ?_) (fun r u hu => ?_)
  · obtain ⟨rfl, hz, rfl⟩ := hu
    exact ⟨by simp [Th3, cdL, hn0, hz], _, _, rfl⟩
  obtain ⟨hp_p, hu⟩ := hu
  subst u
  obtain ⟨j, hj_j, e_j⟩ := pl_at hp_p
  subst e_j
  have t_j : tN (nI j) = j := tN_nI (by omega)
  refine V.stt (g2 := ((s, m), (sT, mT), rr, hh, sl, tx)) (rfl) ?_
  refine v_aload_n C dX5_fetch_9 rfl ?_
  refine v_getr C fl_X5_29 or_cS_0_3 dX5_fetch_10 ?_
  refine v_aload_n C dX5_fetch_13 rfl ?_
  refine v_getr C fl_X5_10 or_cS_0_0 dX5_fetch_14 ?_
  refine v_getr C fl_X5_74 or_cS_1_0 dX5_fetch_17 ?_
  refine v_callVv C (c_X1_remember hl (h := hmat h) (g := hh) (m := m) hH hLK) ym_X1_remember ml_X5_258 emb_c_hm rfl rfl rfl rfl rfl dX5_fetch_20 (Nat.le_of_ble_eq_true rfl) (Nat.le_of_ble_eq_true rfl) (Nat.le_of_ble_eq_true rfl) (Nat.le_of_ble_eq_true rfl) (fun _ _ hu => hu.elim) (fun r u hu => ?_)
  rcases u with ⟨hh2, m9⟩
  obtain ⟨hu, hH2⟩ := hu
  have hu : m9 = m := hu
  subst m9
  refine V.stt (g2 := ((s, m), (sT, mT), rr, hh2, sl, tx)) (rfl) ?_
  refine v_aload_n C dX5_fetch_23 rfl ?_
  refine v_getr C fl_X5_10 or_cS_0_0 dX5_fetch_24 ?_
  refine v_iload_n C dX5_fetch_27 rfl ?_
  refine v_callVi C (c_X0_fetchPlace hl (s := s) (m := m) (n := n) hI hE hj_j) ym_X0_fetchPlace ml_X5_272 emb_c_live rfl rfl rfl rfl rfl dX5_fetch_28 (Nat.le_of_ble_eq_true rfl) (Nat.le_of_ble_eq_true rfl) (Nat.le_of_ble_eq_true rfl) (Nat.le_of_ble_eq_true rfl) (fun _ _ hu => hu.elim) (fun r u hu => ?_)
  obtain ⟨rfl, hu⟩ := hu
  subst u
  refine v_iret C F (by first | rfl | exact bI_nar _) dX5_fetch_31 (Nat.le_of_ble_eq_true rfl) (Nat.le_of_ble_eq_true rfl) ?_
  exact ⟨⟨by simp [cdL, hn0, hp_p], by rw [t_j]⟩, _, _, _, by rw [t_j], hH2⟩
set_option maxHeartbeats 16000000 in
theorem c_X5_tick {l : Launch} (hl : l.stackTraces = false) {κ : Kp} {h : Nat → Nat} {s sT : G} {m mT : Mg} {rr : Rg} {hh : Hg} {sl : Nat → Mg} {tx : G} {n c : Nat} {L : List Mg} {t : Int32} (hW : WM n c m) (hH : HS L hh) : Ct SS MM l κ yX5_tick cX5_tick 2 (some FieldType.int) 3 6 36 [.ref (h 0), .int t] (cS κ h) ((s, m), (sT, mT), rr, hh, sl, tx) ri (fun r u => (cdL [(decide (n = 0), 1), (!inB t 1 100, 2)] = 0 ∧ r = nI (min (tN t * bandN m) (cntG (owb m) 0 n))) ∧ MUp (payK 1 n (min (tN t * bandN m) (cntG (owb m) 0 n)) m) ((m :: L).take 8) rr sl tx u) (fun e u => ThA e (cdL [(decide (n = 0), 1), (!inB t 1 100, 2)]) ∧ ROp m rr hh sl tx u) := by
  refine Ct.of (own := RX5) (by decide) rfl hl (by intro v hv; simp only [List.mem_cons, List.not_mem_nil, or_false] at hv; first | (rcases hv with rfl | rfl | rfl | rfl | rfl | rfl <;> rfl) | (rcases hv with rfl | rfl | rfl | rfl | rfl <;> rfl) | (rcases hv with rfl | rfl | rfl | rfl <;> rfl) | (rcases hv with rfl | rfl | rfl <;> rfl) | (rcases hv with rfl | rfl <;> rfl) | (subst hv; rfl) | exact hv.elim) (Nat.le_of_ble_eq_true rfl) (fun X hxl hxk C F N => ?_)
  subst hxl hxk
  show V X (cS (xK X) h) 0 [some (.ref (h 0)), some (.int t)] [] ((s, m), (sT, mT), rr, hh, sl, tx) 0 0
  obtain ⟨h96, hn, hMf⟩ := id hW
  refine v_aload_n C dX5_tick_0 rfl ?_
  refine v_callVv C (c_X5_needMemory hl hn h96) ym_X5_needMemory ml_X5_100 emb_id_cS rfl rfl rfl rfl rfl dX5_tick_1 (Nat.le_of_ble_eq_true rfl) (Nat.le_of_ble_eq_true rfl) (Nat.le_of_ble_eq_true rfl) (Nat.le_of_ble_eq_true rfl) (fun e u hu => v_out C N F (Nat.le_of_ble_eq_true rfl) (Nat.le_of_ble_eq_true rfl) ?_) (fun r u hu => ?_)
  · obtain ⟨rfl, hz, rfl⟩ := hu
    exact ⟨by simp [ThA, cdL, hz], _, _, rfl⟩
  obtain ⟨hn0, hu⟩ := hu
  subst u
  have hMI := hMf hn0
  obtain ⟨hI, hE, hLK, hn1, hSB, hBY, hPR⟩ := id hMI
  have hbd := band_ok hSB
  refine V.stt (g2 := ((s, m), (sT, mT), rr, hh, sl, tx)) (rfl) ?_
  refine v_aload_n C dX5_tick_4 rfl ?_
  refine v_iload_n C dX5_tick_5 rfl ?_
  refine v_callVv C (c_X5_needTicks hl) ym_X5_needTicks ml_X5_209 emb_id_cS rfl rfl rfl rfl rfl dX5_tick_6 (Nat.le_of_ble_eq_true rfl) (Nat.le_of_ble_eq_true rfl) (Nat.le_of_ble_eq_true rfl) (Nat.le_of_ble_eq_true rfl) (fun e u hu => v_out C N F (Nat.le_of_ble_eq_true rfl) (Nat.le_of_ble_eq_true rfl) ?_) (fun r u hu => ?_)
  · obtain ⟨rfl, hz, rfl⟩ := hu
    exact ⟨by simp [ThA, cdL, hn0, hz], _, _, rfl⟩
  obtain ⟨hp_t, hu⟩ := hu
  subst u
  obtain ⟨j, hi_j, hj_j, hk_j, e_j⟩ := in_at (a := 1) hp_t
  subst e_j
  have t_j : tN (nI j) = j := tN_nI hk_j
  refine V.stt (g2 := ((s, m), (sT, mT), rr, hh, sl, tx)) (rfl) ?_
  refine v_aload_n C dX5_tick_9 rfl ?_
  refine v_getr C fl_X5_29 or_cS_0_3 dX5_tick_10 ?_
  refine v_aload_n C dX5_tick_13 rfl ?_
  refine v_getr C fl_X5_10 or_cS_0_0 dX5_tick_14 ?_
  refine v_getr C fl_X5_74 or_cS_1_0 dX5_tick_17 ?_
  refine v_callVv C (c_X1_remember hl (h := hmat h) (g := hh) (m := m) hH hLK) ym_X1_remember ml_X5_258 emb_c_hm rfl rfl rfl rfl rfl dX5_tick_20 (Nat.le_of_ble_eq_true rfl) (Nat.le_of_ble_eq_true rfl) (Nat.le_of_ble_eq_true rfl) (Nat.le_of_ble_eq_true rfl) (fun _ _ hu => hu.elim) (fun r u hu => ?_)
  rcases u with ⟨hh2, m9⟩
  obtain ⟨hu, hH2⟩ := hu
  have hu : m9 = m := hu
  subst m9
  refine V.stt (g2 := ((s, m), (sT, mT), rr, hh2, sl, tx)) (rfl) ?_
  refine v_aload_n C dX5_tick_23 rfl ?_
  refine v_getr C fl_X5_10 or_cS_0_0 dX5_tick_24 ?_
  refine v_iload_n C dX5_tick_27 rfl ?_
  refine v_callVi C (c_X0_passTicks hl (s := s) (m := m) (n := n) (w := bandN m) hI hE hbd.1 hbd.2.2 (by omega)) ym_X0_passTicks ml_X5_220 emb_c_live rfl rfl rfl rfl rfl dX5_tick_28 (Nat.le_of_ble_eq_true rfl) (Nat.le_of_ble_eq_true rfl) (Nat.le_of_ble_eq_true rfl) (Nat.le_of_ble_eq_true rfl) (fun _ _ hu => hu.elim) (fun r u hu => ?_)
  obtain ⟨rfl, s3, hu⟩ := hu
  subst u
  refine v_iret C F (by first | rfl | exact bI_nar _) dX5_tick_31 (Nat.le_of_ble_eq_true rfl) (Nat.le_of_ble_eq_true rfl) ?_
  exact ⟨⟨by simp [cdL, hn0, hp_t], by rw [t_j]⟩, _, _, _, by rw [t_j], hH2⟩
set_option maxHeartbeats 16000000 in
theorem c_X5_payRange {l : Launch} (hl : l.stackTraces = false) {κ : Kp} {h : Nat → Nat} {s sT : G} {m mT : Mg} {rr : Rg} {hh : Hg} {sl : Nat → Mg} {tx : G} {n c : Nat} {L : List Mg} {a b : Int32} (hW : WM n c m) (hH : HS L hh) : Ct SS MM l κ yX5_payRange cX5_payRange 3 (some FieldType.int) 3 6 36 [.ref (h 0), .int a, .int b] (cS κ h) ((s, m), (sT, mT), rr, hh, sl, tx) ri (fun r u => (cdL [(decide (n = 0), 1), (!plB n a, 2), (!plB n b, 2), (decide (b.toInt < a.toInt), 3)] = 0 ∧ r = nI (cntG (owb m) (tN a) (tN b + 1 - tN a))) ∧ MUp (rowM (tN a) (tN b) m) ((m :: L).take 8) rr sl tx u) (fun e u => Th3 e (cdL [(decide (n = 0), 1), (!plB n a, 2), (!plB n b, 2), (decide (b.toInt < a.toInt), 3)]) ∧ ROp m rr hh sl tx u) := by
  refine Ct.of (own := RX5) (by decide) rfl hl (by intro v hv; simp only [List.mem_cons, List.not_mem_nil, or_false] at hv; first | (rcases hv with rfl | rfl | rfl | rfl | rfl | rfl <;> rfl) | (rcases hv with rfl | rfl | rfl | rfl | rfl <;> rfl) | (rcases hv with rfl | rfl | rfl | rfl <;> rfl) | (rcases hv with rfl | rfl | rfl <;> rfl) | (rcases hv with rfl | rfl <;> rfl) | (subst hv; rfl) | exact hv.elim) (Nat.le_of_ble_eq_true rfl) (fun X hxl hxk C F N => ?_)
  subst hxl hxk
  show V X (cS (xK X) h) 0 [some (.ref (h 0)), some (.int a), some (.int b)] [] ((s, m), (sT, mT), rr, hh, sl, tx) 0 0
  obtain ⟨h96, hn, hMf⟩ := id hW
  refine v_aload_n C dX5_payRange_0 rfl ?_
  refine v_callVv C (c_X5_needMemory hl hn h96) ym_X5_needMemory ml_X5_100 emb_id_cS rfl rfl rfl rfl rfl dX5_payRange_1 (Nat.le_of_ble_eq_true rfl) (Nat.le_of_ble_eq_true rfl) (Nat.le_of_ble_eq_true rfl) (Nat.le_of_ble_eq_true rfl) (fun e u hu => v_out C N F (Nat.le_of_ble_eq_true rfl) (Nat.le_of_ble_eq_true rfl) ?_) (fun r u hu => ?_)
  · obtain ⟨rfl, hz, rfl⟩ := hu
    exact ⟨by simp [Th3, cdL, hz], _, _, rfl⟩
  obtain ⟨hn0, hu⟩ := hu
  subst u
  have hMI := hMf hn0
  obtain ⟨hI, hE, hLK, hn1, hSB, hBY, hPR⟩ := id hMI
  have hbd := band_ok hSB
  refine V.stt (g2 := ((s, m), (sT, mT), rr, hh, sl, tx)) (rfl) ?_
  refine v_aload_n C dX5_payRange_4 rfl ?_
  refine v_iload_n C dX5_payRange_5 rfl ?_
  refine v_iload_n C dX5_payRange_6 rfl ?_
  refine v_callVv C (c_X5_needRow hl hn h96) ym_X5_needRow ml_X5_145 emb_id_cS rfl rfl rfl rfl rfl dX5_payRange_7 (Nat.le_of_ble_eq_true rfl) (Nat.le_of_ble_eq_true rfl) (Nat.le_of_ble_eq_true rfl) (Nat.le_of_ble_eq_true rfl) (fun e u hu => v_out C N F (Nat.le_of_ble_eq_true rfl) (Nat.le_of_ble_eq_true rfl) ?_) (fun r u hu => ?_)
  · obtain ⟨hu, rfl⟩ := hu
    rcases hu with ⟨rfl, hz⟩ | ⟨rfl, hz1, hz2, hz3⟩
    · refine ⟨?_, _, _, rfl⟩
      cases hza : plB n a
      · simp [Th3, cdL, hn0, hza]
      · rw [hza] at hz
        simp only [Bool.not_true, Bool.false_or, Bool.not_eq_true'] at hz
        simp [Th3, cdL, hn0, hza, hz]
    · exact ⟨by simp [Th3, cdL, hn0, hz1, hz2, hz3], _, _, rfl⟩
  obtain ⟨hp_a, hp_b, hlt, hu⟩ := hu
  subst u
  obtain ⟨ja, hj_ja, e_ja⟩ := pl_at hp_a
  subst e_ja
  obtain ⟨jb, hj_jb, e_jb⟩ := pl_at hp_b
  subst e_jb
  have t_ja : tN (nI ja) = ja := tN_nI (by omega)
  have t_jb : tN (nI jb) = jb := tN_nI (by omega)
  have hle := hlt
  rw [nI_toInt (by omega), nI_toInt (by omega)] at hle
  have hle : ja ≤ jb := by omega
  refine V.stt (g2 := ((s, m), (sT, mT), rr, hh, sl, tx)) (rfl) ?_
  refine v_aload_n C dX5_payRange_10 rfl ?_
  refine v_getr C fl_X5_29 or_cS_0_3 dX5_payRange_11 ?_
  refine v_aload_n C dX5_payRange_14 rfl ?_
  refine v_getr C fl_X5_10 or_cS_0_0 dX5_payRange_15 ?_
  refine v_getr C fl_X5_74 or_cS_1_0 dX5_payRange_18 ?_
  refine v_callVv C (c_X1_remember hl (h := hmat h) (g := hh) (m := m) hH hLK) ym_X1_remember ml_X5_258 emb_c_hm rfl rfl rfl rfl rfl dX5_payRange_21 (Nat.le_of_ble_eq_true rfl) (Nat.le_of_ble_eq_true rfl) (Nat.le_of_ble_eq_true rfl) (Nat.le_of_ble_eq_true rfl) (fun _ _ hu => hu.elim) (fun r u hu => ?_)
  rcases u with ⟨hh2, m9⟩
  obtain ⟨hu, hH2⟩ := hu
  have hu : m9 = m := hu
  subst m9
  refine V.stt (g2 := ((s, m), (sT, mT), rr, hh2, sl, tx)) (rfl) ?_
  refine v_aload_n C dX5_payRange_24 rfl ?_
  refine v_getr C fl_X5_10 or_cS_0_0 dX5_payRange_25 ?_
  refine v_iload_n C dX5_payRange_28 rfl ?_
  refine v_iload_n C dX5_payRange_29 rfl ?_
  refine v_callVi C (c_X0_payRow hl (s := s) (m := m) (n := n) hI hE hle hj_jb) ym_X0_payRow ml_X5_275 emb_c_live rfl rfl rfl rfl rfl dX5_payRange_30 (Nat.le_of_ble_eq_true rfl) (Nat.le_of_ble_eq_true rfl) (Nat.le_of_ble_eq_true rfl) (Nat.le_of_ble_eq_true rfl) (fun _ _ hu => hu.elim) (fun r u hu => ?_)
  obtain ⟨rfl, hu⟩ := hu
  subst u
  refine v_iret C F (by first | rfl | exact bI_nar _) dX5_payRange_33 (Nat.le_of_ble_eq_true rfl) (Nat.le_of_ble_eq_true rfl) ?_
  exact ⟨⟨by simp [cdL, hn0, hp_a, hp_b, hlt], by rw [t_ja, t_jb]⟩, _, _, _, by rw [t_ja, t_jb], hH2⟩
set_option maxHeartbeats 16000000 in
theorem c_X5_shorten {l : Launch} (hl : l.stackTraces = false) {κ : Kp} {h : Nat → Nat} {s sT : G} {m mT : Mg} {rr : Rg} {hh : Hg} {sl : Nat → Mg} {tx : G} {n c : Nat} {L : List Mg} {p : Int32} (hW : WM n c m) (hH : HS L hh) : Ct SS MM l κ yX5_shorten cX5_shorten 3 (some FieldType.int) 3 6 36 [.ref (h 0), .int p] (cS κ h) ((s, m), (sT, mT), rr, hh, sl, tx) ri (fun r u => (cdL [(decide (n = 0), 1), (!plB n p, 2), (!owb m (tN p), 3)] = 0 ∧ r = nI (hopsM m (tN p)) - nI 1) ∧ MUp (srcM m (tN p) (nI (rootM m (tN p)))) ((m :: L).take 8) rr sl tx u) (fun e u => Th3 e (cdL [(decide (n = 0), 1), (!plB n p, 2), (!owb m (tN p), 3)]) ∧ ROp m rr hh sl tx u) := by
  refine Ct.of (own := RX5) (by decide) rfl hl (by intro v hv; simp only [List.mem_cons, List.not_mem_nil, or_false] at hv; first | (rcases hv with rfl | rfl | rfl | rfl | rfl | rfl <;> rfl) | (rcases hv with rfl | rfl | rfl | rfl | rfl <;> rfl) | (rcases hv with rfl | rfl | rfl | rfl <;> rfl) | (rcases hv with rfl | rfl | rfl <;> rfl) | (rcases hv with rfl | rfl <;> rfl) | (subst hv; rfl) | exact hv.elim) (Nat.le_of_ble_eq_true rfl) (fun X hxl hxk C F N => ?_)
  subst hxl hxk
  show V X (cS (xK X) h) 0 [some (.ref (h 0)), some (.int p), none] [] ((s, m), (sT, mT), rr, hh, sl, tx) 0 0
  obtain ⟨h96, hn, hMf⟩ := id hW
  refine v_aload_n C dX5_shorten_0 rfl ?_
  refine v_callVv C (c_X5_needMemory hl hn h96) ym_X5_needMemory ml_X5_100 emb_id_cS rfl rfl rfl rfl rfl dX5_shorten_1 (Nat.le_of_ble_eq_true rfl) (Nat.le_of_ble_eq_true rfl) (Nat.le_of_ble_eq_true rfl) (Nat.le_of_ble_eq_true rfl) (fun e u hu => v_out C N F (Nat.le_of_ble_eq_true rfl) (Nat.le_of_ble_eq_true rfl) ?_) (fun r u hu => ?_)
  · obtain ⟨rfl, hz, rfl⟩ := hu
    exact ⟨by simp [Th3, cdL, hz], _, _, rfl⟩
  obtain ⟨hn0, hu⟩ := hu
  subst u
  have hMI := hMf hn0
  obtain ⟨hI, hE, hLK, hn1, hSB, hBY, hPR⟩ := id hMI
  have hbd := band_ok hSB
  refine V.stt (g2 := ((s, m), (sT, mT), rr, hh, sl, tx)) (rfl) ?_
  refine v_aload_n C dX5_shorten_4 rfl ?_
  refine v_iload_n C dX5_shorten_5 rfl ?_
  refine v_callVv C (c_X5_needPlace hl hn h96) ym_X5_needPlace ml_X5_111 emb_id_cS rfl rfl rfl rfl rfl dX5_shorten_6 (Nat.le_of_ble_eq_true rfl) (Nat.le_of_ble_eq_true rfl) (Nat.le_of_ble_eq_true rfl) (Nat.le_of_ble_eq_true rfl) (fun e u hu => v_out C N F (Nat.le_of_ble_eq_true rfl) (Nat.le_of_ble_eq_true rfl) ?_) (fun r u hu => ?_)
  · obtain ⟨rfl, hz, rfl⟩ := hu
    exact ⟨by simp [Th3, cdL, hn0, hz], _, _, rfl⟩
  obtain ⟨hp_p, hu⟩ := hu
  subst u
  obtain ⟨j, hj_j, e_j⟩ := pl_at hp_p
  subst e_j
  have t_j : tN (nI j) = j := tN_nI (by omega)
  refine V.stt (g2 := ((s, m), (sT, mT), rr, hh, sl, tx)) (rfl) ?_
  refine v_aload_n C dX5_shorten_9 rfl ?_
  refine v_getr C fl_X5_10 or_cS_0_0 dX5_shorten_10 ?_
  refine v_getr C fl_X5_74 or_cS_1_0 dX5_shorten_13 ?_
  refine v_iload_n C dX5_shorten_16 rfl ?_
  refine v_callVi C (c_X2_owesN hl (n := n) hn h96 hj_j) ym_X2_owes ml_X5_151 emb_c_lm rfl rfl rfl rfl rfl dX5_shorten_17 (Nat.le_of_ble_eq_true rfl) (Nat.le_of_ble_eq_true rfl) (Nat.le_of_ble_eq_true rfl) (Nat.le_of_ble_eq_true rfl) (fun _ _ hu => hu.elim) (fun r u hu => ?_)
  obtain ⟨rfl, hu⟩ := hu
  subst u
  refine V.stt (g2 := ((s, m), (sT, mT), rr, hh, sl, tx)) (rfl) ?_
  refine v_if_neB C 34 dX5_shorten_20 (by decide) (fun c20 => ?_) (fun c20 => ?_)
  · refine v_aload_n C dX5_shorten_34 rfl ?_
    refine v_getr C fl_X5_29 or_cS_0_3 dX5_shorten_35 ?_
    refine v_aload_n C dX5_shorten_38 rfl ?_
    refine v_getr C fl_X5_10 or_cS_0_0 dX5_shorten_39 ?_
    refine v_getr C fl_X5_74 or_cS_1_0 dX5_shorten_42 ?_
    refine v_callVv C (c_X1_remember hl (h := hmat h) (g := hh) (m := m) hH hLK) ym_X1_remember ml_X5_258 emb_c_hm rfl rfl rfl rfl rfl dX5_shorten_45 (Nat.le_of_ble_eq_true rfl) (Nat.le_of_ble_eq_true rfl) (Nat.le_of_ble_eq_true rfl) (Nat.le_of_ble_eq_true rfl) (fun _ _ hu => hu.elim) (fun r u hu => ?_)
    rcases u with ⟨hh2, m9⟩
    obtain ⟨hu, hH2⟩ := hu
    have hu : m9 = m := hu
    subst m9
    refine V.stt (g2 := ((s, m), (sT, mT), rr, hh2, sl, tx)) (rfl) ?_
    refine v_aload_n C dX5_shorten_48 rfl ?_
    refine v_getr C fl_X5_10 or_cS_0_0 dX5_shorten_49 ?_
    refine v_getr C fl_X5_74 or_cS_1_0 dX5_shorten_52 ?_
    refine v_iload_n C dX5_shorten_55 rfl ?_
    refine v_callVi C (c_X2_hopsOf hl hI hj_j) ym_X2_hopsOf ml_X5_127 emb_c_lm rfl rfl rfl rfl rfl dX5_shorten_56 (Nat.le_of_ble_eq_true rfl) (Nat.le_of_ble_eq_true rfl) (Nat.le_of_ble_eq_true rfl) (Nat.le_of_ble_eq_true rfl) (fun _ _ hu => hu.elim) (fun r u hu => ?_)
    obtain ⟨rfl, hu⟩ := hu
    subst u
    refine V.stt (g2 := ((s, m), (sT, mT), rr, hh2, sl, tx)) (rfl) ?_
    refine v_istore_n C (lo2 := [some _, some _, some _]) dX5_shorten_59 rfl (Nat.le_of_ble_eq_true rfl) rfl ?_
    refine v_aload_n C dX5_shorten_60 rfl ?_
    refine v_getr C fl_X5_10 or_cS_0_0 dX5_shorten_61 ?_
    refine v_getr C fl_X5_74 or_cS_1_0 dX5_shorten_64 ?_
    refine v_getr C fl_X5_121 or_cS_5_1 dX5_shorten_67 ?_
    refine v_iload_n C dX5_shorten_70 rfl ?_
    refine v_aload_n C dX5_shorten_71 rfl ?_
    refine v_getr C fl_X5_10 or_cS_0_0 dX5_shorten_72 ?_
    refine v_getr C fl_X5_74 or_cS_1_0 dX5_shorten_75 ?_
    refine v_iload_n C dX5_shorten_78 rfl ?_
    refine v_callVi C (c_X2_rootOf hl hI hj_j) ym_X2_rootOf ml_X5_130 emb_c_lm rfl rfl rfl rfl rfl dX5_shorten_79 (Nat.le_of_ble_eq_true rfl) (Nat.le_of_ble_eq_true rfl) (Nat.le_of_ble_eq_true rfl) (Nat.le_of_ble_eq_true rfl) (fun _ _ hu => hu.elim) (fun r u hu => ?_)
    obtain ⟨rfl, hu⟩ := hu
    subst u
    refine V.stt (g2 := ((s, m), (sT, mT), rr, hh2, sl, tx)) (rfl) ?_
    refine v_iast C ar_cS_7 (by decide) _ ?_ rfl dX5_shorten_82 ?_
    · omega
    refine v_iload_n C dX5_shorten_83 rfl ?_
    refine v_iconst (v := nI 1) C dX5_shorten_84 (by decide) ?_
    first | refine v_isubN C dX5_shorten_85 (by omega) ?_ | refine v_isub C dX5_shorten_85 ?_
    refine v_iret C F (by first | rfl | exact bI_nar _) dX5_shorten_86 (Nat.le_of_ble_eq_true rfl) (Nat.le_of_ble_eq_true rfl) ?_
    exact ⟨⟨by simp [cdL, hn0, hp_p, t_j, c20], by rw [t_j]⟩, _, _, _, by rw [t_j]; rfl, hH2⟩
  · refine v_throwW C N F thr_EIA mm_278 rfl dX5_shorten_23 dX5_shorten_26 dX5_shorten_27 dX5_shorten_30 dX5_shorten_33 (Nat.le_of_ble_eq_true rfl) (Nat.le_of_ble_eq_true rfl) (Nat.le_of_ble_eq_true rfl) ?_
    exact ⟨by simp [Th3, cdL, hn0, hp_p, t_j, c20], _, _, rfl⟩
set_option maxHeartbeats 16000000 in
theorem c_X5_setLock {l : Launch} (hl : l.stackTraces = false) {κ : Kp} {h : Nat → Nat} {s sT : G} {m mT : Mg} {rr : Rg} {hh : Hg} {sl : Nat → Mg} {tx : G} {n c : Nat} {L : List Mg} {p : Int32} {al : Bool} (hW : WM n c m) (hH : HS L hh) : Ct SS MM l κ yX5_setLock cX5_setLock 3 (some FieldType.int) 4 6 36 [.ref (h 0), .int p, .int (bI al)] (cS κ h) ((s, m), (sT, mT), rr, hh, sl, tx) ri (fun r u => (cdL [(decide (n = 0), 1), (!plB n p, 2)] = 0 ∧ r = (if al then nI (cntG (owb m) (tN p) (tN p + 1 - tN p)) else nI 0)) ∧ MUp (slkM (tN p) al m) ((m :: L).take 8) rr sl tx u) (fun e u => Th3 e (cdL [(decide (n = 0), 1), (!plB n p, 2)]) ∧ ROp m rr hh sl tx u) := by
  refine Ct.of (own := RX5) (by decide) rfl hl (by intro v hv; simp only [List.mem_cons, List.not_mem_nil, or_false] at hv; first | (rcases hv with rfl | rfl | rfl | rfl | rfl | rfl <;> rfl) | (rcases hv with rfl | rfl | rfl | rfl | rfl <;> rfl) | (rcases hv with rfl | rfl | rfl | rfl <;> rfl) | (rcases hv with rfl | rfl | rfl <;> rfl) | (rcases hv with rfl | rfl <;> rfl) | (subst hv; rfl) | exact hv.elim) (Nat.le_of_ble_eq_true rfl) (fun X hxl hxk C F N => ?_)
  subst hxl hxk
  show V X (cS (xK X) h) 0 [some (.ref (h 0)), some (.int p), some (.int (bI al))] [] ((s, m), (sT, mT), rr, hh, sl, tx) 0 0
  obtain ⟨h96, hn, hMf⟩ := id hW
  refine v_aload_n C dX5_setLock_0 rfl ?_
  refine v_callVv C (c_X5_needMemory hl hn h96) ym_X5_needMemory ml_X5_100 emb_id_cS rfl rfl rfl rfl rfl dX5_setLock_1 (Nat.le_of_ble_eq_true rfl) (Nat.le_of_ble_eq_true rfl) (Nat.le_of_ble_eq_true rfl) (Nat.le_of_ble_eq_true rfl) (fun e u hu => v_out C N F (Nat.le_of_ble_eq_true rfl) (Nat.le_of_ble_eq_true rfl) ?_) (fun r u hu => ?_)
  · obtain ⟨rfl, hz, rfl⟩ := hu
    exact ⟨by simp [Th3, cdL, hz], _, _, rfl⟩
  obtain ⟨hn0, hu⟩ := hu
  subst u
  have hMI := hMf hn0
  obtain ⟨hI, hE, hLK, hn1, hSB, hBY, hPR⟩ := id hMI
  have hbd := band_ok hSB
  refine V.stt (g2 := ((s, m), (sT, mT), rr, hh, sl, tx)) (rfl) ?_
  refine v_aload_n C dX5_setLock_4 rfl ?_
  refine v_iload_n C dX5_setLock_5 rfl ?_
  refine v_callVv C (c_X5_needPlace hl hn h96) ym_X5_needPlace ml_X5_111 emb_id_cS rfl rfl rfl rfl rfl dX5_setLock_6 (Nat.le_of_ble_eq_true rfl) (Nat.le_of_ble_eq_true rfl) (Nat.le_of_ble_eq_true rfl) (Nat.le_of_ble_eq_true rfl) (fun e u hu => v_out C N F (Nat.le_of_ble_eq_true rfl) (Nat.le_of_ble_eq_true rfl) ?_) (fun r u hu => ?_)
  · obtain ⟨rfl, hz, rfl⟩ := hu
    exact ⟨by simp [Th3, cdL, hn0, hz], _, _, rfl⟩
  obtain ⟨hp_p, hu⟩ := hu
  subst u
  obtain ⟨j, hj_j, e_j⟩ := pl_at hp_p
  subst e_j
  have t_j : tN (nI j) = j := tN_nI (by omega)
  refine V.stt (g2 := ((s, m), (sT, mT), rr, hh, sl, tx)) (rfl) ?_
  refine v_aload_n C dX5_setLock_9 rfl ?_
  refine v_getr C fl_X5_29 or_cS_0_3 dX5_setLock_10 ?_
  refine v_aload_n C dX5_setLock_13 rfl ?_
  refine v_getr C fl_X5_10 or_cS_0_0 dX5_setLock_14 ?_
  refine v_getr C fl_X5_74 or_cS_1_0 dX5_setLock_17 ?_
  refine v_callVv C (c_X1_remember hl (h := hmat h) (g := hh) (m := m) hH hLK) ym_X1_remember ml_X5_258 emb_c_hm rfl rfl rfl rfl rfl dX5_setLock_20 (Nat.le_of_ble_eq_true rfl) (Nat.le_of_ble_eq_true rfl) (Nat.le_of_ble_eq_true rfl) (Nat.le_of_ble_eq_true rfl) (fun _ _ hu => hu.elim) (fun r u hu => ?_)
  rcases u with ⟨hh2, m9⟩
  obtain ⟨hu, hH2⟩ := hu
  have hu : m9 = m := hu
  subst m9
  refine V.stt (g2 := ((s, m), (sT, mT), rr, hh2, sl, tx)) (rfl) ?_
  refine v_iload_n C dX5_setLock_23 rfl ?_
  refine v_if_eqB C 37 dX5_setLock_24 (by decide) (fun c24 => ?_) (fun c24 => ?_)
  · refine v_aload_n C dX5_setLock_37 rfl ?_
    refine v_getr C fl_X5_10 or_cS_0_0 dX5_setLock_38 ?_
    refine v_getr C fl_X5_74 or_cS_1_0 dX5_setLock_41 ?_
    refine v_getr C fl_X5_133 or_cS_5_3 dX5_setLock_44 ?_
    refine v_iload_n C dX5_setLock_47 rfl ?_
    refine v_iconst (v := nI 0) C dX5_setLock_48 (by decide) ?_
    refine v_zast C ar_cS_9 (by decide) _ ?_ rfl (by first | rfl | exact bI_vp _) dX5_setLock_49 ?_
    · omega
    refine v_iconst (v := nI 0) C dX5_setLock_50 (by decide) ?_
    refine v_iret C F (by first | rfl | exact bI_nar _) dX5_setLock_51 (Nat.le_of_ble_eq_true rfl) (Nat.le_of_ble_eq_true rfl) ?_
    exact ⟨⟨by simp [cdL, hn0, hp_p], by rw [c24]; rfl⟩, _, _, _, by rw [c24, t_j]; rfl, hH2⟩
  · refine v_aload_n C dX5_setLock_27 rfl ?_
    refine v_getr C fl_X5_10 or_cS_0_0 dX5_setLock_28 ?_
    refine v_iload_n C dX5_setLock_31 rfl ?_
    refine v_iload_n C dX5_setLock_32 rfl ?_
    refine v_callVi C (c_X0_lockRow hl (s := s) (m := m) (n := n) hI hE (Nat.le_refl _) hj_j) ym_X0_lockRow ml_X5_280 emb_c_live rfl rfl rfl rfl rfl dX5_setLock_33 (Nat.le_of_ble_eq_true rfl) (Nat.le_of_ble_eq_true rfl) (Nat.le_of_ble_eq_true rfl) (Nat.le_of_ble_eq_true rfl) (fun _ _ hu => hu.elim) (fun r u hu => ?_)
    obtain ⟨rfl, hu⟩ := hu
    subst u
    refine v_iret C F (by first | rfl | exact bI_nar _) dX5_setLock_36 (Nat.le_of_ble_eq_true rfl) (Nat.le_of_ble_eq_true rfl) ?_
    exact ⟨⟨by simp [cdL, hn0, hp_p], by rw [c24, t_j]; rfl⟩, _, _, _, by rw [c24, t_j]; rfl, hH2⟩
set_option maxHeartbeats 16000000 in
theorem c_X5_setSetting {l : Launch} (hl : l.stackTraces = false) {κ : Kp} {h : Nat → Nat} {s sT : G} {m mT : Mg} {rr : Rg} {hh : Hg} {sl : Nat → Mg} {tx : G} {n c : Nat} {L : List Mg} {w v : Int32} (hW : WM n c m) (hH : HS L hh) : Ct SS MM l κ yX5_setSetting cX5_setSetting 4 (some FieldType.int) 3 6 36 [.ref (h 0), .int w, .int v] (cS κ h) ((s, m), (sT, mT), rr, hh, sl, tx) ri (fun r u => (cdL [(decide (n = 0), 1), (!inB w 0 4, 2), (!inB v (lsV (tN w)) (gsV (tN w)), 2)] = 0 ∧ r = m 5 (tN w)) ∧ MUp (klM n (setM m (tN w) v)) ((m :: L).take 8) rr sl tx u) (fun e u => ThA e (cdL [(decide (n = 0), 1), (!inB w 0 4, 2), (!inB v (lsV (tN w)) (gsV (tN w)), 2)]) ∧ ROp m rr hh sl tx u) := by
  refine Ct.of (own := RX5) (by decide) rfl hl (by intro v hv; simp only [List.mem_cons, List.not_mem_nil, or_false] at hv; first | (rcases hv with rfl | rfl | rfl | rfl | rfl | rfl <;> rfl) | (rcases hv with rfl | rfl | rfl | rfl | rfl <;> rfl) | (rcases hv with rfl | rfl | rfl | rfl <;> rfl) | (rcases hv with rfl | rfl | rfl <;> rfl) | (rcases hv with rfl | rfl <;> rfl) | (subst hv; rfl) | exact hv.elim) (Nat.le_of_ble_eq_true rfl) (fun X hxl hxk C F N => ?_)
  subst hxl hxk
  show V X (cS (xK X) h) 0 [some (.ref (h 0)), some (.int w), some (.int v), none] [] ((s, m), (sT, mT), rr, hh, sl, tx) 0 0
  obtain ⟨h96, hn, hMf⟩ := id hW
  refine v_aload_n C dX5_setSetting_0 rfl ?_
  refine v_callVv C (c_X5_needMemory hl hn h96) ym_X5_needMemory ml_X5_100 emb_id_cS rfl rfl rfl rfl rfl dX5_setSetting_1 (Nat.le_of_ble_eq_true rfl) (Nat.le_of_ble_eq_true rfl) (Nat.le_of_ble_eq_true rfl) (Nat.le_of_ble_eq_true rfl) (fun e u hu => v_out C N F (Nat.le_of_ble_eq_true rfl) (Nat.le_of_ble_eq_true rfl) ?_) (fun r u hu => ?_)
  · obtain ⟨rfl, hz, rfl⟩ := hu
    exact ⟨by simp [ThA, cdL, hz], _, _, rfl⟩
  obtain ⟨hn0, hu⟩ := hu
  subst u
  have hMI := hMf hn0
  obtain ⟨hI, hE, hLK, hn1, hSB, hBY, hPR⟩ := id hMI
  have hbd := band_ok hSB
  refine V.stt (g2 := ((s, m), (sT, mT), rr, hh, sl, tx)) (rfl) ?_
  refine v_aload_n C dX5_setSetting_4 rfl ?_
  refine v_iload_n C dX5_setSetting_5 rfl ?_
  refine v_iconst (v := nI 5) C dX5_setSetting_6 (by decide) ?_
  refine v_callVv C (c_X5_needPart hl (k := 5) (b := 4) (by decide) (by decide)) ym_X5_needPart ml_X5_103 emb_id_cS rfl rfl rfl rfl rfl dX5_setSetting_7 (Nat.le_of_ble_eq_true rfl) (Nat.le_of_ble_eq_true rfl) (Nat.le_of_ble_eq_true rfl) (Nat.le_of_ble_eq_true rfl) (fun e u hu => v_out C N F (Nat.le_of_ble_eq_true rfl) (Nat.le_of_ble_eq_true rfl) ?_) (fun r u hu => ?_)
  · obtain ⟨rfl, hz, rfl⟩ := hu
    exact ⟨by simp [ThA, cdL, hn0, hz], _, _, rfl⟩
  obtain ⟨hp_w, hu⟩ := hu
  subst u
  obtain ⟨j, -, hj_j, hk_j, e_j⟩ := in_at (a := 0) hp_w
  subst e_j
  have t_j : tN (nI j) = j := tN_nI hk_j
  refine V.stt (g2 := ((s, m), (sT, mT), rr, hh, sl, tx)) (rfl) ?_
  refine v_iload_n C dX5_setSetting_10 rfl ?_
  refine v_iload_n C dX5_setSetting_11 rfl ?_
  refine v_callSi C (c_X5_leastSetting hl (w := j) (by omega)) ys_X5_leastSetting rfl ml_X5_283 (emb_n fix_cS) rfl rfl rfl dX5_setSetting_12 (Nat.le_of_ble_eq_true rfl) (Nat.le_of_ble_eq_true rfl) (Nat.le_of_ble_eq_true rfl) (Nat.le_of_ble_eq_true rfl) (fun _ _ hu => hu.elim) (fun r u hu => ?_)
  have hls := hu
  refine V.stt (g2 := ((s, m), (sT, mT), rr, hh, sl, tx)) (rfl) ?_
  refine v_icmp_lt C 26 dX5_setSetting_15 (by decide) (fun c15 => ?_) (fun c15 => ?_)
  · have hov : inB v (lsV j) (gsV j) = false := inB_no (by omega)
    refine v_throwW C N F thr_EIA mm_289 rfl dX5_setSetting_26 dX5_setSetting_29 dX5_setSetting_30 dX5_setSetting_33 dX5_setSetting_36 (Nat.le_of_ble_eq_true rfl) (Nat.le_of_ble_eq_true rfl) (Nat.le_of_ble_eq_true rfl) ?_
    exact ⟨by simp [ThA, cdL, hn0, hp_w, t_j, hov], _, _, rfl⟩
  · refine v_iload_n C dX5_setSetting_18 rfl ?_
    refine v_iload_n C dX5_setSetting_19 rfl ?_
    refine v_callSi C (c_X5_greatestSetting hl (w := j) (by omega)) ys_X5_greatestSetting rfl ml_X5_286 (emb_n fix_cS) rfl rfl rfl dX5_setSetting_20 (Nat.le_of_ble_eq_true rfl) (Nat.le_of_ble_eq_true rfl) (Nat.le_of_ble_eq_true rfl) (Nat.le_of_ble_eq_true rfl) (fun _ _ hu => hu.elim) (fun r u hu => ?_)
    have hgs := hu
    refine V.stt (g2 := ((s, m), (sT, mT), rr, hh, sl, tx)) (rfl) ?_
    refine v_icmp_le C 37 dX5_setSetting_23 (by decide) (fun c23 => ?_) (fun c23 => ?_)
    · have hov : inB v (lsV j) (gsV j) = true := inB_mk (by omega) (by omega)
      obtain ⟨lim, hlim, hlim96⟩ : ∃ lim, setM m j v 5 1 = nI lim ∧ lim ≤ 96 := setM_lim hSB hov
      refine v_aload_n C dX5_setSetting_37 rfl ?_
      refine v_getr C fl_X5_29 or_cS_0_3 dX5_setSetting_38 ?_
      refine v_aload_n C dX5_setSetting_41 rfl ?_
      refine v_getr C fl_X5_10 or_cS_0_0 dX5_setSetting_42 ?_
      refine v_getr C fl_X5_74 or_cS_1_0 dX5_setSetting_45 ?_
      refine v_callVv C (c_X1_remember hl (h := hmat h) (g := hh) (m := m) hH hLK) ym_X1_remember ml_X5_258 emb_c_hm rfl rfl rfl rfl rfl dX5_setSetting_48 (Nat.le_of_ble_eq_true rfl) (Nat.le_of_ble_eq_true rfl) (Nat.le_of_ble_eq_true rfl) (Nat.le_of_ble_eq_true rfl) (fun _ _ hu => hu.elim) (fun r u hu => ?_)
      rcases u with ⟨hh2, m9⟩
      obtain ⟨hu, hH2⟩ := hu
      have hu : m9 = m := hu
      subst m9
      refine V.stt (g2 := ((s, m), (sT, mT), rr, hh2, sl, tx)) (rfl) ?_
      refine v_aload_n C dX5_setSetting_51 rfl ?_
      refine v_getr C fl_X5_10 or_cS_0_0 dX5_setSetting_52 ?_
      refine v_getr C fl_X5_74 or_cS_1_0 dX5_setSetting_55 ?_
      refine v_getr C fl_X5_107 or_cS_5_4 dX5_setSetting_58 ?_
      refine v_iload_n C dX5_setSetting_61 rfl ?_
      refine v_ialdQ (x := m 5 j) C ar_cS_10 (by decide) _ (rfl) ?_ rfl dX5_setSetting_62 ?_
      · omega
      refine v_istore_n C (lo2 := [some _, some _, some _, some _]) dX5_setSetting_63 rfl (Nat.le_of_ble_eq_true rfl) rfl ?_
      refine v_aload_n C dX5_setSetting_64 rfl ?_
      refine v_getr C fl_X5_10 or_cS_0_0 dX5_setSetting_65 ?_
      refine v_getr C fl_X5_74 or_cS_1_0 dX5_setSetting_68 ?_
      refine v_getr C fl_X5_107 or_cS_5_4 dX5_setSetting_71 ?_
      refine v_iload_n C dX5_setSetting_74 rfl ?_
      refine v_iload_n C dX5_setSetting_75 rfl ?_
      refine v_iast C ar_cS_10 (by decide) _ ?_ rfl dX5_setSetting_76 ?_
      · omega
      refine v_aload_n C dX5_setSetting_77 rfl ?_
      refine v_getr C fl_X5_10 or_cS_0_0 dX5_setSetting_78 ?_
      refine v_callVv C (c_X0_keepLimit hl (s := s) (m := setM m j v) (n := n) (lim := lim) (IM_setM hI) (EvOK.of hE rfl) hlim hlim96) ym_X0_keepLimit ml_X5_291 emb_c_live rfl rfl rfl rfl rfl dX5_setSetting_81 (Nat.le_of_ble_eq_true rfl) (Nat.le_of_ble_eq_true rfl) (Nat.le_of_ble_eq_true rfl) (Nat.le_of_ble_eq_true rfl) (fun _ _ hu => hu.elim) (fun r u hu => ?_)
      obtain ⟨s3, hu⟩ := hu
      subst u
      refine v_iload_n C dX5_setSetting_84 rfl ?_
      refine v_iret C F (by first | rfl | exact bI_nar _) dX5_setSetting_85 (Nat.le_of_ble_eq_true rfl) (Nat.le_of_ble_eq_true rfl) ?_
      exact ⟨⟨by simp [cdL, hn0, hp_w, t_j, hov], by rw [t_j]⟩, _, _, _, by rw [t_j], hH2⟩
    · have hov : inB v (lsV j) (gsV j) = false := inB_no (by omega)
      refine v_throwW C N F thr_EIA mm_289 rfl dX5_setSetting_26 dX5_setSetting_29 dX5_setSetting_30 dX5_setSetting_33 dX5_setSetting_36 (Nat.le_of_ble_eq_true rfl) (Nat.le_of_ble_eq_true rfl) (Nat.le_of_ble_eq_true rfl) ?_
      exact ⟨by simp [ThA, cdL, hn0, hp_w, t_j, hov], _, _, rfl⟩
set_option maxHeartbeats 16000000 in
theorem c_X5_undo {l : Launch} (hl : l.stackTraces = false) {κ : Kp} {h : Nat → Nat} {s sT : G} {m mT : Mg} {rr : Rg} {hh : Hg} {sl : Nat → Mg} {tx : G} {L : List Mg} (hH : HS L hh) (hLL : ∀ x ∈ L, LK x) : Ct SS MM l κ yX5_undo cX5_undo 1 (some FieldType.int) 2 6 36 [.ref (h 0)] (cS κ h) ((s, m), (sT, mT), rr, hh, sl, tx) ri (fun r u => (cdL [(L.isEmpty, 1)] = 0 ∧ r = nI (L.length - 1)) ∧ ∃ x L2, L = x :: L2 ∧ MUp x L2 rr sl tx u) (fun e u => ThU e (cdL [(L.isEmpty, 1)]) ∧ ROp m rr hh sl tx u) := by
  refine Ct.of (own := RX5) (by decide) rfl hl (by intro v hv; simp only [List.mem_cons, List.not_mem_nil, or_false] at hv; first | (rcases hv with rfl | rfl | rfl | rfl | rfl | rfl <;> rfl) | (rcases hv with rfl | rfl | rfl | rfl | rfl <;> rfl) | (rcases hv with rfl | rfl | rfl | rfl <;> rfl) | (rcases hv with rfl | rfl | rfl <;> rfl) | (rcases hv with rfl | rfl <;> rfl) | (subst hv; rfl) | exact hv.elim) (Nat.le_of_ble_eq_true rfl) (fun X hxl hxk C F N => ?_)
  subst hxl hxk
  show V X (cS (xK X) h) 0 [some (.ref (h 0))] [] ((s, m), (sT, mT), rr, hh, sl, tx) 0 0
  obtain ⟨hat, hat1, hat2, hcn, hc8, hkk⟩ := id hH
  refine v_aload_n C dX5_undo_0 rfl ?_
  refine v_getr C fl_X5_29 or_cS_0_3 dX5_undo_1 ?_
  refine v_getiQ (x := nI L.length) C fl_X5_294 oi_cS_39_2 (hcn) dX5_undo_4 ?_
  refine v_if_ne C 21 dX5_undo_7 (by decide) (fun c7 => ?_) (fun c7 => ?_)
  · cases L with
    | nil => exact absurd rfl c7
    | cons x L2 =>
    refine v_aload_n C dX5_undo_21 rfl ?_
    refine v_getr C fl_X5_29 or_cS_0_3 dX5_undo_22 ?_
    refine v_aload_n C dX5_undo_25 rfl ?_
    refine v_getr C fl_X5_10 or_cS_0_0 dX5_undo_26 ?_
    refine v_getr C fl_X5_74 or_cS_1_0 dX5_undo_29 ?_
    refine v_callVv C (c_X1_goBack hl (h := hmat h) (g := hh) (m := m) hH (hLL x (List.mem_cons_self))) ym_X1_goBack ml_X5_302 emb_c_hm rfl rfl rfl rfl rfl dX5_undo_32 (Nat.le_of_ble_eq_true rfl) (Nat.le_of_ble_eq_true rfl) (Nat.le_of_ble_eq_true rfl) (Nat.le_of_ble_eq_true rfl) (fun _ _ hu => hu.elim) (fun r u hu => ?_)
    rcases u with ⟨hh2, m9⟩
    obtain ⟨hu, hH2⟩ := hu
    have hu : m9 = x := hu
    subst m9
    obtain ⟨-, -, -, hcn2, -, -⟩ := id hH2
    refine V.stt (g2 := ((s, x), (sT, mT), rr, hh2, sl, tx)) (rfl) ?_
    refine v_aload_n C dX5_undo_35 rfl ?_
    refine v_getr C fl_X5_29 or_cS_0_3 dX5_undo_36 ?_
    refine v_getiQ (x := nI L2.length) C fl_X5_294 oi_cS_39_2 (hcn2) dX5_undo_39 ?_
    refine v_iret C F (by first | rfl | exact bI_nar _) dX5_undo_42 (Nat.le_of_ble_eq_true rfl) (Nat.le_of_ble_eq_true rfl) ?_
    exact ⟨⟨rfl, rfl⟩, x, L2, rfl, _, _, _, rfl, hH2⟩
  · refine v_throwW C N F thr_EIS mm_299 rfl dX5_undo_10 dX5_undo_13 dX5_undo_14 dX5_undo_17 dX5_undo_20 (Nat.le_of_ble_eq_true rfl) (Nat.le_of_ble_eq_true rfl) (Nat.le_of_ble_eq_true rfl) ?_
    have hL0 : L = [] := List.eq_nil_of_length_eq_zero (nI_inj (b := 0) (by omega) (by omega) c7)
    exact ⟨by rw [hL0]; exact ⟨rfl, rfl⟩, _, _, rfl⟩
set_option maxHeartbeats 16000000 in
theorem c_X5_undoable {l : Launch} (hl : l.stackTraces = false) {κ : Kp} {h : Nat → Nat} {s sT : G} {m mT : Mg} {rr : Rg} {hh : Hg} {sl : Nat → Mg} {tx : G} {L : List Mg} (hH : HS L hh) : Ct SS MM l κ yX5_undoable cX5_undoable 1 (some FieldType.int) 0 0 0 [.ref (h 0)] (cS κ h) ((s, m), (sT, mT), rr, hh, sl, tx) ri (fun r u => r = nI L.length ∧ u = ((s, m), (sT, mT), rr, hh, sl, tx)) (fun _ _ => False) := by
  refine Ct.of (own := RX5) (by decide) rfl hl (by intro v hv; simp only [List.mem_cons, List.not_mem_nil, or_false] at hv; first | (rcases hv with rfl | rfl | rfl | rfl | rfl | rfl <;> rfl) | (rcases hv with rfl | rfl | rfl | rfl | rfl <;> rfl) | (rcases hv with rfl | rfl | rfl | rfl <;> rfl) | (rcases hv with rfl | rfl | rfl <;> rfl) | (rcases hv with rfl | rfl <;> rfl) | (subst hv; rfl) | exact hv.elim) (Nat.le_of_ble_eq_true rfl) (fun X hxl hxk C F N => ?_)
  subst hxl hxk
  show V X (cS (xK X) h) 0 [some (.ref (h 0))] [] ((s, m), (sT, mT), rr, hh, sl, tx) 0 0
  obtain ⟨hat, hat1, hat2, hcn, hc8, hkk⟩ := id hH
  refine v_aload_n C dX5_undoable_0 rfl ?_
  refine v_getr C fl_X5_29 or_cS_0_3 dX5_undoable_1 ?_
  refine v_getiQ (x := nI L.length) C fl_X5_294 oi_cS_39_2 (hcn) dX5_undoable_4 ?_
  refine v_iret C F (by first | rfl | exact bI_nar _) dX5_undoable_7 (Nat.le_of_ble_eq_true rfl) (Nat.le_of_ble_eq_true rfl) ?_
  first | exact rfl | exact ⟨rfl, rfl⟩
set_option maxHeartbeats 16000000 in
theorem c_X5_save_0 {l : Launch} (hl : l.stackTraces = false) {κ : Kp} {h : Nat → Nat} {s sT : G} {m mT : Mg} {rr : Rg} {hh : Hg} {sl : Nat → Mg} {tx : G} {n c : Nat} (hW : WM n c m) : Ct SS MM l κ yX5_save cX5_save 2 (some FieldType.int) 2 6 36 [.ref (h 0), .int (nI 0)] (cS κ h) ((s, m), (sT, mT), rr, hh, sl, tx) ri (fun r u => (¬ n = 0 ∧ r = nI (cntG (owb m) 0 n)) ∧ ROp m rr hh (fU sl 0 m) tx u) (fun e u => (e = EIS ∧ n = 0) ∧ ROp m rr hh sl tx u) := by
  refine Ct.of (own := RX5) (by decide) rfl hl (by intro v hv; simp only [List.mem_cons, List.not_mem_nil, or_false] at hv; first | (rcases hv with rfl | rfl | rfl | rfl | rfl | rfl <;> rfl) | (rcases hv with rfl | rfl | rfl | rfl | rfl <;> rfl) | (rcases hv with rfl | rfl | rfl | rfl <;> rfl) | (rcases hv with rfl | rfl | rfl <;> rfl) | (rcases hv with rfl | rfl <;> rfl) | (subst hv; rfl) | exact hv.elim) (Nat.le_of_ble_eq_true rfl) (fun X hxl hxk C F N => ?_)
  subst hxl hxk
  show V X (cS (xK X) h) 0 [some (.ref (h 0)), some (.int (nI 0))] [] ((s, m), (sT, mT), rr, hh, sl, tx) 0 0
  obtain ⟨h96, hn, hMf⟩ := id hW
  refine v_aload_n C dX5_save_0 rfl ?_
  refine v_callVv C (c_X5_needMemory hl hn h96) ym_X5_needMemory ml_X5_100 emb_id_cS rfl rfl rfl rfl rfl dX5_save_1 (Nat.le_of_ble_eq_true rfl) (Nat.le_of_ble_eq_true rfl) (Nat.le_of_ble_eq_true rfl) (Nat.le_of_ble_eq_true rfl) (fun e u hu => v_out C N F (Nat.le_of_ble_eq_true rfl) (Nat.le_of_ble_eq_true rfl) ?_) (fun r u hu => ?_)
  · obtain ⟨rfl, hz, rfl⟩ := hu
    exact ⟨⟨rfl, hz⟩, _, _, rfl⟩
  obtain ⟨hn0, hu⟩ := hu
  subst u
  have hMI := hMf hn0
  obtain ⟨hI, hE, hLK, hn1, hSB, hBY, hPR⟩ := id hMI
  have hbd := band_ok hSB
  refine V.stt (g2 := ((s, m), (sT, mT), rr, hh, sl, tx)) (rfl) ?_
  refine v_aload_n C dX5_save_4 rfl ?_
  refine v_iload_n C dX5_save_5 rfl ?_
  refine v_callVv C (c_X5_needSlot hl) ym_X5_needSlot ml_X5_305 emb_id_cS rfl rfl rfl rfl rfl dX5_save_6 (Nat.le_of_ble_eq_true rfl) (Nat.le_of_ble_eq_true rfl) (Nat.le_of_ble_eq_true rfl) (Nat.le_of_ble_eq_true rfl) (fun e u hu => v_out C N F (Nat.le_of_ble_eq_true rfl) (Nat.le_of_ble_eq_true rfl) ?_) (fun r u hu => ?_)
  · obtain ⟨rfl, hz, rfl⟩ := hu
    exact absurd hz (by decide)
  obtain ⟨-, hu⟩ := hu
  subst u
  refine V.stt (g2 := ((s, m), (sT, mT), rr, hh, sl, tx)) (rfl) ?_
  refine v_aload_n C dX5_save_9 rfl ?_
  refine v_getr C fl_X5_35 or_cS_0_4 dX5_save_10 ?_
  refine v_iload_n C dX5_save_13 rfl ?_
  refine v_aald C aq_cS_105 (by decide) _ ?_ rfl rfl dX5_save_14 ?_
  · omega
  refine v_aload_n C dX5_save_15 rfl ?_
  refine v_getr C fl_X5_10 or_cS_0_0 dX5_save_16 ?_
  refine v_getr C fl_X5_74 or_cS_1_0 dX5_save_19 ?_
  refine v_callVv C (c_X2_takeFrom hl (h := h2at 106 5 h) (g := (sl 0, m)) hLK) ym_X2_takeFrom ml_X5_81 emb_c_save0 rfl rfl rfl rfl rfl dX5_save_22 (Nat.le_of_ble_eq_true rfl) (Nat.le_of_ble_eq_true rfl) (Nat.le_of_ble_eq_true rfl) (Nat.le_of_ble_eq_true rfl) (fun _ _ hu => hu.elim) (fun r u hu => ?_)
  subst u
  refine V.stt (g2 := ((s, m), (sT, mT), rr, hh, fU sl 0 m, tx)) (rfl) ?_
  refine v_aload_n C dX5_save_25 rfl ?_
  refine v_getr C fl_X5_10 or_cS_0_0 dX5_save_26 ?_
  refine v_getr C fl_X5_74 or_cS_1_0 dX5_save_29 ?_
  refine v_callVi C (c_X2_countOwed hl hn h96) ym_X2_countOwed ml_X5_141 emb_c_lm rfl rfl rfl rfl rfl dX5_save_32 (Nat.le_of_ble_eq_true rfl) (Nat.le_of_ble_eq_true rfl) (Nat.le_of_ble_eq_true rfl) (Nat.le_of_ble_eq_true rfl) (fun _ _ hu => hu.elim) (fun r u hu => ?_)
  obtain ⟨rfl, hu⟩ := hu
  subst u
  refine V.stt (g2 := ((s, m), (sT, mT), rr, hh, fU sl 0 m, tx)) (rfl) ?_
  refine v_iret C F (by first | rfl | exact bI_nar _) dX5_save_35 (Nat.le_of_ble_eq_true rfl) (Nat.le_of_ble_eq_true rfl) ?_
  exact ⟨⟨hn0, rfl⟩, _, _, rfl⟩
set_option maxHeartbeats 16000000 in
theorem c_X5_restore_0 {l : Launch} (hl : l.stackTraces = false) {κ : Kp} {h : Nat → Nat} {s sT : G} {m mT : Mg} {rr : Rg} {hh : Hg} {sl : Nat → Mg} {tx : G} {n n0 : Nat} {L : List Mg} (hH : HS L hh) (hn0 : sl 0 0 7 = nI n0) (hnn : n0 ≤ 96) (hLK : LK (sl 0)) : Ct SS MM l κ yX5_restore cX5_restore 2 (some FieldType.int) 2 6 36 [.ref (h 0), .int (nI 0)] (cS κ h) ((s, m), (sT, mT), rr, hh, sl, tx) ri (fun r u => (¬ n0 = 0 ∧ r = nI (cntG (owb (sl 0)) 0 n0)) ∧ MUp (sl 0) [] rr (fU sl 0 (sl 0)) tx u) (fun e u => (e = EIS ∧ n0 = 0) ∧ ROp m rr hh sl tx u) := by
  refine Ct.of (own := RX5) (by decide) rfl hl (by intro v hv; simp only [List.mem_cons, List.not_mem_nil, or_false] at hv; first | (rcases hv with rfl | rfl | rfl | rfl | rfl | rfl <;> rfl) | (rcases hv with rfl | rfl | rfl | rfl | rfl <;> rfl) | (rcases hv with rfl | rfl | rfl | rfl <;> rfl) | (rcases hv with rfl | rfl | rfl <;> rfl) | (rcases hv with rfl | rfl <;> rfl) | (subst hv; rfl) | exact hv.elim) (Nat.le_of_ble_eq_true rfl) (fun X hxl hxk C F N => ?_)
  subst hxl hxk
  show V X (cS (xK X) h) 0 [some (.ref (h 0)), some (.int (nI 0))] [] ((s, m), (sT, mT), rr, hh, sl, tx) 0 0
  refine v_aload_n C dX5_restore_0 rfl ?_
  refine v_iload_n C dX5_restore_1 rfl ?_
  refine v_callVv C (c_X5_needSlot hl) ym_X5_needSlot ml_X5_305 emb_id_cS rfl rfl rfl rfl rfl dX5_restore_2 (Nat.le_of_ble_eq_true rfl) (Nat.le_of_ble_eq_true rfl) (Nat.le_of_ble_eq_true rfl) (Nat.le_of_ble_eq_true rfl) (fun e u hu => v_out C N F (Nat.le_of_ble_eq_true rfl) (Nat.le_of_ble_eq_true rfl) ?_) (fun r u hu => ?_)
  · obtain ⟨rfl, hz, rfl⟩ := hu
    exact absurd hz (by decide)
  obtain ⟨-, hu⟩ := hu
  subst u
  refine V.stt (g2 := ((s, m), (sT, mT), rr, hh, sl, tx)) (rfl) ?_
  refine v_aload_n C dX5_restore_5 rfl ?_
  refine v_getr C fl_X5_35 or_cS_0_4 dX5_restore_6 ?_
  refine v_iload_n C dX5_restore_9 rfl ?_
  refine v_aald C aq_cS_105 (by decide) _ ?_ rfl rfl dX5_restore_10 ?_
  · omega
  refine v_getiQ (x := nI n0) C fl_X5_91 oi_cS_106_7 (hn0) dX5_restore_11 ?_
  refine v_if_ne C 28 dX5_restore_14 (by decide) (fun c14 => ?_) (fun c14 => ?_)
  · refine v_aload_n C dX5_restore_28 rfl ?_
    refine v_getr C fl_X5_10 or_cS_0_0 dX5_restore_29 ?_
    refine v_getr C fl_X5_74 or_cS_1_0 dX5_restore_32 ?_
    refine v_aload_n C dX5_restore_35 rfl ?_
    refine v_getr C fl_X5_35 or_cS_0_4 dX5_restore_36 ?_
    refine v_iload_n C dX5_restore_39 rfl ?_
    refine v_aald C aq_cS_105 (by decide) _ ?_ rfl rfl dX5_restore_40 ?_
    · omega
    refine v_callVv C (c_X2_takeFrom hl (h := h2at 5 106 h) (g := (m, sl 0)) hLK) ym_X2_takeFrom ml_X5_81 emb_c_rest0 rfl rfl rfl rfl rfl dX5_restore_41 (Nat.le_of_ble_eq_true rfl) (Nat.le_of_ble_eq_true rfl) (Nat.le_of_ble_eq_true rfl) (Nat.le_of_ble_eq_true rfl) (fun _ _ hu => hu.elim) (fun r u hu => ?_)
    subst u
    refine V.stt (g2 := ((s, sl 0), (sT, mT), rr, hh, fU sl 0 (sl 0), tx)) (rfl) ?_
    refine v_aload_n C dX5_restore_44 rfl ?_
    refine v_getr C fl_X5_29 or_cS_0_3 dX5_restore_45 ?_
    refine v_callVv C (c_X1_forget hl hH) ym_X1_forget ml_X5_85 emb_c_h rfl rfl rfl rfl rfl dX5_restore_48 (Nat.le_of_ble_eq_true rfl) (Nat.le_of_ble_eq_true rfl) (Nat.le_of_ble_eq_true rfl) (Nat.le_of_ble_eq_true rfl) (fun _ _ hu => hu.elim) (fun r u hu => ?_)
    obtain ⟨hh2, ehh⟩ : ∃ x, x = u := ⟨u, rfl⟩
    subst ehh
    have hH2 : HS [] hh2 := hu
    refine v_aload_n C dX5_restore_51 rfl ?_
    refine v_getr C fl_X5_10 or_cS_0_0 dX5_restore_52 ?_
    refine v_getr C fl_X5_74 or_cS_1_0 dX5_restore_55 ?_
    refine v_callVi C (c_X2_countOwed hl hn0 hnn) ym_X2_countOwed ml_X5_141 emb_c_lm rfl rfl rfl rfl rfl dX5_restore_58 (Nat.le_of_ble_eq_true rfl) (Nat.le_of_ble_eq_true rfl) (Nat.le_of_ble_eq_true rfl) (Nat.le_of_ble_eq_true rfl) (fun _ _ hu => hu.elim) (fun r u hu => ?_)
    obtain ⟨rfl, hu⟩ := hu
    subst u
    refine v_iret C F (by first | rfl | exact bI_nar _) dX5_restore_61 (Nat.le_of_ble_eq_true rfl) (Nat.le_of_ble_eq_true rfl) ?_
    exact ⟨⟨fun z => c14 (by rw [z]; rfl), rfl⟩, _, _, _, rfl, hH2⟩
  · refine v_throwW C N F thr_EIS mm_308 rfl dX5_restore_17 dX5_restore_20 dX5_restore_21 dX5_restore_24 dX5_restore_27 (Nat.le_of_ble_eq_true rfl) (Nat.le_of_ble_eq_true rfl) (Nat.le_of_ble_eq_true rfl) ?_
    exact ⟨⟨rfl, nI_inj (b := 0) (by omega) (by omega) c14⟩, _, _, rfl⟩
set_option maxHeartbeats 16000000 in
theorem c_X5_save_1 {l : Launch} (hl : l.stackTraces = false) {κ : Kp} {h : Nat → Nat} {s sT : G} {m mT : Mg} {rr : Rg} {hh : Hg} {sl : Nat → Mg} {tx : G} {n c : Nat} (hW : WM n c m) : Ct SS MM l κ yX5_save cX5_save 2 (some FieldType.int) 2 6 36 [.ref (h 0), .int (nI 1)] (cS κ h) ((s, m), (sT, mT), rr, hh, sl, tx) ri (fun r u => (¬ n = 0 ∧ r = nI (cntG (owb m) 0 n)) ∧ ROp m rr hh (fU sl 1 m) tx u) (fun e u => (e = EIS ∧ n = 0) ∧ ROp m rr hh sl tx u) := by
  refine Ct.of (own := RX5) (by decide) rfl hl (by intro v hv; simp only [List.mem_cons, List.not_mem_nil, or_false] at hv; first | (rcases hv with rfl | rfl | rfl | rfl | rfl | rfl <;> rfl) | (rcases hv with rfl | rfl | rfl | rfl | rfl <;> rfl) | (rcases hv with rfl | rfl | rfl | rfl <;> rfl) | (rcases hv with rfl | rfl | rfl <;> rfl) | (rcases hv with rfl | rfl <;> rfl) | (subst hv; rfl) | exact hv.elim) (Nat.le_of_ble_eq_true rfl) (fun X hxl hxk C F N => ?_)
  subst hxl hxk
  show V X (cS (xK X) h) 0 [some (.ref (h 0)), some (.int (nI 1))] [] ((s, m), (sT, mT), rr, hh, sl, tx) 0 0
  obtain ⟨h96, hn, hMf⟩ := id hW
  refine v_aload_n C dX5_save_0 rfl ?_
  refine v_callVv C (c_X5_needMemory hl hn h96) ym_X5_needMemory ml_X5_100 emb_id_cS rfl rfl rfl rfl rfl dX5_save_1 (Nat.le_of_ble_eq_true rfl) (Nat.le_of_ble_eq_true rfl) (Nat.le_of_ble_eq_true rfl) (Nat.le_of_ble_eq_true rfl) (fun e u hu => v_out C N F (Nat.le_of_ble_eq_true rfl) (Nat.le_of_ble_eq_true rfl) ?_) (fun r u hu => ?_)
  · obtain ⟨rfl, hz, rfl⟩ := hu
    exact ⟨⟨rfl, hz⟩, _, _, rfl⟩
  obtain ⟨hn0, hu⟩ := hu
  subst u
  have hMI := hMf hn0
  obtain ⟨hI, hE, hLK, hn1, hSB, hBY, hPR⟩ := id hMI
  have hbd := band_ok hSB
  refine V.stt (g2 := ((s, m), (sT, mT), rr, hh, sl, tx)) (rfl) ?_
  refine v_aload_n C dX5_save_4 rfl ?_
  refine v_iload_n C dX5_save_5 rfl ?_
  refine v_callVv C (c_X5_needSlot hl) ym_X5_needSlot ml_X5_305 emb_id_cS rfl rfl rfl rfl rfl dX5_save_6 (Nat.le_of_ble_eq_true rfl) (Nat.le_of_ble_eq_true rfl) (Nat.le_of_ble_eq_true rfl) (Nat.le_of_ble_eq_true rfl) (fun e u hu => v_out C N F (Nat.le_of_ble_eq_true rfl) (Nat.le_of_ble_eq_true rfl) ?_) (fun r u hu => ?_)
  · obtain ⟨rfl, hz, rfl⟩ := hu
    exact absurd hz (by decide)
  obtain ⟨-, hu⟩ := hu
  subst u
  refine V.stt (g2 := ((s, m), (sT, mT), rr, hh, sl, tx)) (rfl) ?_
  refine v_aload_n C dX5_save_9 rfl ?_
  refine v_getr C fl_X5_35 or_cS_0_4 dX5_save_10 ?_
  refine v_iload_n C dX5_save_13 rfl ?_
  refine v_aald C aq_cS_105 (by decide) _ ?_ rfl rfl dX5_save_14 ?_
  · omega
  refine v_aload_n C dX5_save_15 rfl ?_
  refine v_getr C fl_X5_10 or_cS_0_0 dX5_save_16 ?_
  refine v_getr C fl_X5_74 or_cS_1_0 dX5_save_19 ?_
  refine v_callVv C (c_X2_takeFrom hl (h := h2at 114 5 h) (g := (sl 1, m)) hLK) ym_X2_takeFrom ml_X5_81 emb_c_save1 rfl rfl rfl rfl rfl dX5_save_22 (Nat.le_of_ble_eq_true rfl) (Nat.le_of_ble_eq_true rfl) (Nat.le_of_ble_eq_true rfl) (Nat.le_of_ble_eq_true rfl) (fun _ _ hu => hu.elim) (fun r u hu => ?_)
  subst u
  refine V.stt (g2 := ((s, m), (sT, mT), rr, hh, fU sl 1 m, tx)) (rfl) ?_
  refine v_aload_n C dX5_save_25 rfl ?_
  refine v_getr C fl_X5_10 or_cS_0_0 dX5_save_26 ?_
  refine v_getr C fl_X5_74 or_cS_1_0 dX5_save_29 ?_
  refine v_callVi C (c_X2_countOwed hl hn h96) ym_X2_countOwed ml_X5_141 emb_c_lm rfl rfl rfl rfl rfl dX5_save_32 (Nat.le_of_ble_eq_true rfl) (Nat.le_of_ble_eq_true rfl) (Nat.le_of_ble_eq_true rfl) (Nat.le_of_ble_eq_true rfl) (fun _ _ hu => hu.elim) (fun r u hu => ?_)
  obtain ⟨rfl, hu⟩ := hu
  subst u
  refine V.stt (g2 := ((s, m), (sT, mT), rr, hh, fU sl 1 m, tx)) (rfl) ?_
  refine v_iret C F (by first | rfl | exact bI_nar _) dX5_save_35 (Nat.le_of_ble_eq_true rfl) (Nat.le_of_ble_eq_true rfl) ?_
  exact ⟨⟨hn0, rfl⟩, _, _, rfl⟩
set_option maxHeartbeats 16000000 in
theorem c_X5_restore_1 {l : Launch} (hl : l.stackTraces = false) {κ : Kp} {h : Nat → Nat} {s sT : G} {m mT : Mg} {rr : Rg} {hh : Hg} {sl : Nat → Mg} {tx : G} {n n0 : Nat} {L : List Mg} (hH : HS L hh) (hn0 : sl 1 0 7 = nI n0) (hnn : n0 ≤ 96) (hLK : LK (sl 1)) : Ct SS MM l κ yX5_restore cX5_restore 2 (some FieldType.int) 2 6 36 [.ref (h 0), .int (nI 1)] (cS κ h) ((s, m), (sT, mT), rr, hh, sl, tx) ri (fun r u => (¬ n0 = 0 ∧ r = nI (cntG (owb (sl 1)) 0 n0)) ∧ MUp (sl 1) [] rr (fU sl 1 (sl 1)) tx u) (fun e u => (e = EIS ∧ n0 = 0) ∧ ROp m rr hh sl tx u) := by
  refine Ct.of (own := RX5) (by decide) rfl hl (by intro v hv; simp only [List.mem_cons, List.not_mem_nil, or_false] at hv; first | (rcases hv with rfl | rfl | rfl | rfl | rfl | rfl <;> rfl) | (rcases hv with rfl | rfl | rfl | rfl | rfl <;> rfl) | (rcases hv with rfl | rfl | rfl | rfl <;> rfl) | (rcases hv with rfl | rfl | rfl <;> rfl) | (rcases hv with rfl | rfl <;> rfl) | (subst hv; rfl) | exact hv.elim) (Nat.le_of_ble_eq_true rfl) (fun X hxl hxk C F N => ?_)
  subst hxl hxk
  show V X (cS (xK X) h) 0 [some (.ref (h 0)), some (.int (nI 1))] [] ((s, m), (sT, mT), rr, hh, sl, tx) 0 0
  refine v_aload_n C dX5_restore_0 rfl ?_
  refine v_iload_n C dX5_restore_1 rfl ?_
  refine v_callVv C (c_X5_needSlot hl) ym_X5_needSlot ml_X5_305 emb_id_cS rfl rfl rfl rfl rfl dX5_restore_2 (Nat.le_of_ble_eq_true rfl) (Nat.le_of_ble_eq_true rfl) (Nat.le_of_ble_eq_true rfl) (Nat.le_of_ble_eq_true rfl) (fun e u hu => v_out C N F (Nat.le_of_ble_eq_true rfl) (Nat.le_of_ble_eq_true rfl) ?_) (fun r u hu => ?_)
  · obtain ⟨rfl, hz, rfl⟩ := hu
    exact absurd hz (by decide)
  obtain ⟨-, hu⟩ := hu
  subst u
  refine V.stt (g2 := ((s, m), (sT, mT), rr, hh, sl, tx)) (rfl) ?_
  refine v_aload_n C dX5_restore_5 rfl ?_
  refine v_getr C fl_X5_35 or_cS_0_4 dX5_restore_6 ?_
  refine v_iload_n C dX5_restore_9 rfl ?_
  refine v_aald C aq_cS_105 (by decide) _ ?_ rfl rfl dX5_restore_10 ?_
  · omega
  refine v_getiQ (x := nI n0) C fl_X5_91 oi_cS_114_7 (hn0) dX5_restore_11 ?_
  refine v_if_ne C 28 dX5_restore_14 (by decide) (fun c14 => ?_) (fun c14 => ?_)
  · refine v_aload_n C dX5_restore_28 rfl ?_
    refine v_getr C fl_X5_10 or_cS_0_0 dX5_restore_29 ?_
    refine v_getr C fl_X5_74 or_cS_1_0 dX5_restore_32 ?_
    refine v_aload_n C dX5_restore_35 rfl ?_
    refine v_getr C fl_X5_35 or_cS_0_4 dX5_restore_36 ?_
    refine v_iload_n C dX5_restore_39 rfl ?_
    refine v_aald C aq_cS_105 (by decide) _ ?_ rfl rfl dX5_restore_40 ?_
    · omega
    refine v_callVv C (c_X2_takeFrom hl (h := h2at 5 114 h) (g := (m, sl 1)) hLK) ym_X2_takeFrom ml_X5_81 emb_c_rest1 rfl rfl rfl rfl rfl dX5_restore_41 (Nat.le_of_ble_eq_true rfl) (Nat.le_of_ble_eq_true rfl) (Nat.le_of_ble_eq_true rfl) (Nat.le_of_ble_eq_true rfl) (fun _ _ hu => hu.elim) (fun r u hu => ?_)
    subst u
    refine V.stt (g2 := ((s, sl 1), (sT, mT), rr, hh, fU sl 1 (sl 1), tx)) (rfl) ?_
    refine v_aload_n C dX5_restore_44 rfl ?_
    refine v_getr C fl_X5_29 or_cS_0_3 dX5_restore_45 ?_
    refine v_callVv C (c_X1_forget hl hH) ym_X1_forget ml_X5_85 emb_c_h rfl rfl rfl rfl rfl dX5_restore_48 (Nat.le_of_ble_eq_true rfl) (Nat.le_of_ble_eq_true rfl) (Nat.le_of_ble_eq_true rfl) (Nat.le_of_ble_eq_true rfl) (fun _ _ hu => hu.elim) (fun r u hu => ?_)
    obtain ⟨hh2, ehh⟩ : ∃ x, x = u := ⟨u, rfl⟩
    subst ehh
    have hH2 : HS [] hh2 := hu
    refine v_aload_n C dX5_restore_51 rfl ?_
    refine v_getr C fl_X5_10 or_cS_0_0 dX5_restore_52 ?_
    refine v_getr C fl_X5_74 or_cS_1_0 dX5_restore_55 ?_
    refine v_callVi C (c_X2_countOwed hl hn0 hnn) ym_X2_countOwed ml_X5_141 emb_c_lm rfl rfl rfl rfl rfl dX5_restore_58 (Nat.le_of_ble_eq_true rfl) (Nat.le_of_ble_eq_true rfl) (Nat.le_of_ble_eq_true rfl) (Nat.le_of_ble_eq_true rfl) (fun _ _ hu => hu.elim) (fun r u hu => ?_)
    obtain ⟨rfl, hu⟩ := hu
    subst u
    refine v_iret C F (by first | rfl | exact bI_nar _) dX5_restore_61 (Nat.le_of_ble_eq_true rfl) (Nat.le_of_ble_eq_true rfl) ?_
    exact ⟨⟨fun z => c14 (by rw [z]; rfl), rfl⟩, _, _, _, rfl, hH2⟩
  · refine v_throwW C N F thr_EIS mm_308 rfl dX5_restore_17 dX5_restore_20 dX5_restore_21 dX5_restore_24 dX5_restore_27 (Nat.le_of_ble_eq_true rfl) (Nat.le_of_ble_eq_true rfl) (Nat.le_of_ble_eq_true rfl) ?_
    exact ⟨⟨rfl, nI_inj (b := 0) (by omega) (by omega) c14⟩, _, _, rfl⟩
set_option maxHeartbeats 16000000 in
theorem c_X5_save_n {l : Launch} (hl : l.stackTraces = false) {κ : Kp} {h : Nat → Nat} {s sT : G} {m mT : Mg} {rr : Rg} {hh : Hg} {sl : Nat → Mg} {tx : G} {n c : Nat} {k : Int32} (hW : WM n c m) (hk : inB k 0 1 = false) : Ct SS MM l κ yX5_save cX5_save 2 (some FieldType.int) 1 6 36 [.ref (h 0), .int k] (cS κ h) ((s, m), (sT, mT), rr, hh, sl, tx) ri (fun _ _ => False) (fun e u => Th3 e (cdL [(decide (n = 0), 1), (!inB k 0 1, 2)]) ∧ ROp m rr hh sl tx u) := by
  refine Ct.of (own := RX5) (by decide) rfl hl (by intro v hv; simp only [List.mem_cons, List.not_mem_nil, or_false] at hv; first | (rcases hv with rfl | rfl | rfl | rfl | rfl | rfl <;> rfl) | (rcases hv with rfl | rfl | rfl | rfl | rfl <;> rfl) | (rcases hv with rfl | rfl | rfl | rfl <;> rfl) | (rcases hv with rfl | rfl | rfl <;> rfl) | (rcases hv with rfl | rfl <;> rfl) | (subst hv; rfl) | exact hv.elim) (Nat.le_of_ble_eq_true rfl) (fun X hxl hxk C F N => ?_)
  subst hxl hxk
  show V X (cS (xK X) h) 0 [some (.ref (h 0)), some (.int k)] [] ((s, m), (sT, mT), rr, hh, sl, tx) 0 0
  obtain ⟨h96, hn, hMf⟩ := id hW
  refine v_aload_n C dX5_save_0 rfl ?_
  refine v_callVv C (c_X5_needMemory hl hn h96) ym_X5_needMemory ml_X5_100 emb_id_cS rfl rfl rfl rfl rfl dX5_save_1 (Nat.le_of_ble_eq_true rfl) (Nat.le_of_ble_eq_true rfl) (Nat.le_of_ble_eq_true rfl) (Nat.le_of_ble_eq_true rfl) (fun e u hu => v_out C N F (Nat.le_of_ble_eq_true rfl) (Nat.le_of_ble_eq_true rfl) ?_) (fun r u hu => ?_)
  · obtain ⟨rfl, hz, rfl⟩ := hu
    exact ⟨by simp [Th3, cdL, hz], _, _, rfl⟩
  obtain ⟨hn0, hu⟩ := hu
  subst u
  have hMI := hMf hn0
  obtain ⟨hI, hE, hLK, hn1, hSB, hBY, hPR⟩ := id hMI
  have hbd := band_ok hSB
  refine V.stt (g2 := ((s, m), (sT, mT), rr, hh, sl, tx)) (rfl) ?_
  refine v_aload_n C dX5_save_4 rfl ?_
  refine v_iload_n C dX5_save_5 rfl ?_
  refine v_callVv C (c_X5_needSlot hl) ym_X5_needSlot ml_X5_305 emb_id_cS rfl rfl rfl rfl rfl dX5_save_6 (Nat.le_of_ble_eq_true rfl) (Nat.le_of_ble_eq_true rfl) (Nat.le_of_ble_eq_true rfl) (Nat.le_of_ble_eq_true rfl) (fun e u hu => v_out C N F (Nat.le_of_ble_eq_true rfl) (Nat.le_of_ble_eq_true rfl) ?_) (fun r u hu => ?_)
  · obtain ⟨rfl, hz, rfl⟩ := hu
    exact ⟨by simp [Th3, cdL, hn0, hz], _, _, rfl⟩
  obtain ⟨hp_k, hu⟩ := hu
  subst u
  refine V.stt (g2 := ((s, m), (sT, mT), rr, hh, sl, tx)) (rfl) ?_
  exact absurd hp_k (by rw [hk]; exact Bool.false_ne_true)
set_option maxHeartbeats 16000000 in
theorem c_X5_restore_n {l : Launch} (hl : l.stackTraces = false) {κ : Kp} {h : Nat → Nat} {s sT : G} {m mT : Mg} {rr : Rg} {hh : Hg} {sl : Nat → Mg} {tx : G} {k : Int32} (hk : inB k 0 1 = false) : Ct SS MM l κ yX5_restore cX5_restore 2 (some FieldType.int) 1 6 36 [.ref (h 0), .int k] (cS κ h) ((s, m), (sT, mT), rr, hh, sl, tx) ri (fun _ _ => False) (fun e u => e = EIO ∧ ROp m rr hh sl tx u) := by
  refine Ct.of (own := RX5) (by decide) rfl hl (by intro v hv; simp only [List.mem_cons, List.not_mem_nil, or_false] at hv; first | (rcases hv with rfl | rfl | rfl | rfl | rfl | rfl <;> rfl) | (rcases hv with rfl | rfl | rfl | rfl | rfl <;> rfl) | (rcases hv with rfl | rfl | rfl | rfl <;> rfl) | (rcases hv with rfl | rfl | rfl <;> rfl) | (rcases hv with rfl | rfl <;> rfl) | (subst hv; rfl) | exact hv.elim) (Nat.le_of_ble_eq_true rfl) (fun X hxl hxk C F N => ?_)
  subst hxl hxk
  show V X (cS (xK X) h) 0 [some (.ref (h 0)), some (.int k)] [] ((s, m), (sT, mT), rr, hh, sl, tx) 0 0
  refine v_aload_n C dX5_restore_0 rfl ?_
  refine v_iload_n C dX5_restore_1 rfl ?_
  refine v_callVv C (c_X5_needSlot hl) ym_X5_needSlot ml_X5_305 emb_id_cS rfl rfl rfl rfl rfl dX5_restore_2 (Nat.le_of_ble_eq_true rfl) (Nat.le_of_ble_eq_true rfl) (Nat.le_of_ble_eq_true rfl) (Nat.le_of_ble_eq_true rfl) (fun e u hu => v_out C N F (Nat.le_of_ble_eq_true rfl) (Nat.le_of_ble_eq_true rfl) ?_) (fun r u hu => ?_)
  · obtain ⟨rfl, hz, rfl⟩ := hu
    exact ⟨rfl, _, _, rfl⟩
  obtain ⟨hp_k, hu⟩ := hu
  subst u
  refine V.stt (g2 := ((s, m), (sT, mT), rr, hh, sl, tx)) (rfl) ?_
  exact absurd hp_k (by rw [hk]; exact Bool.false_ne_true)

theorem chn_s {m : Mg} {n a : Nat} {rk : Nat → Nat} (hI : IM m n) (hr : Rk m n rk) : ∀ (f : Nat), rk a ≤ f → a < n → ∀ T, chnF f m a T = if m 2 a = -1 then T else chnF (f - 1) m (src m a) (T ++ [nI 60] ++ numL (src m a))
  | 0, h, ha, T => by
    have e : m 2 a = -1 := Classical.byContradiction fun z => by have := hr.2 a ha z; omega
    rw [if_pos e]
    rfl
  | f + 1, h, ha, T => rfl
set_option maxHeartbeats 16000000 in
theorem c_X5_textByte {l : Launch} (hl : l.stackTraces = false) {κ : Kp} {h : Nat → Nat} {s sT : G} {m mT : Mg} {rr : Rg} {hh : Hg} {sl : Nat → Mg} {tx : G} {T : List Int32} {v : Int32} (hT : TX T tx) (hT1 : T.length ≤ 864) : Ct SS MM l κ yX5_textByte cX5_textByte 2 (some FieldType.int) 0 6 36 [.ref (h 0), .int v] (cS κ h) ((s, m), (sT, mT), rr, hh, sl, tx) ri (fun r u => ((cdL [(!inB v 0 ((T.length : Int) - 1), 1)]) = 0 ∧ r = T.getD (tN v) 0) ∧ u = ((s, m), (sT, mT), rr, hh, sl, tx)) (fun e u => ThO e (cdL [(!inB v 0 ((T.length : Int) - 1), 1)]) ∧ u = ((s, m), (sT, mT), rr, hh, sl, tx)) := by
  refine Ct.of (own := RX5) (by decide) rfl hl (by intro v hv; simp only [List.mem_cons, List.not_mem_nil, or_false] at hv; first | (rcases hv with rfl | rfl | rfl | rfl | rfl | rfl <;> rfl) | (rcases hv with rfl | rfl | rfl | rfl | rfl <;> rfl) | (rcases hv with rfl | rfl | rfl | rfl <;> rfl) | (rcases hv with rfl | rfl | rfl <;> rfl) | (rcases hv with rfl | rfl <;> rfl) | (subst hv; rfl) | exact hv.elim) (Nat.le_of_ble_eq_true rfl) (fun X hxl hxk C F N => ?_)
  subst hxl hxk
  show V X (cS (xK X) h) 0 [some (.ref (h 0)), some (.int v)] [] ((s, m), (sT, mT), rr, hh, sl, tx) 0 0
  have e7 := nI_toInt (n := T.length) (by omega)
  refine v_iload_n C dX5_textByte_0 rfl ?_
  refine v_if_lt C 15 dX5_textByte_1 (by decide) (fun c1 => ?_) (fun c1 => ?_)
  · refine v_throw C N F thr_EIO mm_250 rfl dX5_textByte_15 dX5_textByte_18 dX5_textByte_19 dX5_textByte_21 dX5_textByte_24 (Nat.le_of_ble_eq_true rfl) (Nat.le_of_ble_eq_true rfl) (Nat.le_of_ble_eq_true rfl) ?_
    exact ⟨by rw [inB_no (by omega)]; exact ⟨rfl, rfl⟩, rfl⟩
  · refine v_iload_n C dX5_textByte_4 rfl ?_
    refine v_aload_n C dX5_textByte_5 rfl ?_
    refine v_getr C fl_X5_42 or_cS_0_5 dX5_textByte_6 ?_
    refine v_getiQ (x := nI T.length) C fl_X5_241 oi_cS_122_1 (hT.1) dX5_textByte_9 ?_
    refine v_icmp_lt C 25 dX5_textByte_12 (by decide) (fun c12 => ?_) (fun c12 => ?_)
    · rw [e7] at c12
      have hin : inB v 0 ((T.length : Int) - 1) = true := inB_mk (by omega) (by omega)
      obtain ⟨j, -, hkf, hk31, ek⟩ := in_at (a := 0) hin
      subst ek
      have t_j : tN (nI j) = j := tN_nI hk31
      refine v_aload_n C dX5_textByte_25 rfl ?_
      refine v_getr C fl_X5_42 or_cS_0_5 dX5_textByte_26 ?_
      refine v_getr C fl_X5_252 or_cS_122_0 dX5_textByte_29 ?_
      refine v_iload_n C dX5_textByte_32 rfl ?_
      refine v_ialdQ (x := T.getD j 0) C ar_cS_123 (by decide) _ (hT.2 j (by omega)) ?_ rfl dX5_textByte_33 ?_
      · omega
      refine v_iret C F (by first | rfl | exact bI_nar _) dX5_textByte_34 (Nat.le_of_ble_eq_true rfl) (Nat.le_of_ble_eq_true rfl) ?_
      exact ⟨⟨by rw [hin]; rfl, by rw [t_j]⟩, rfl⟩
    · rw [e7] at c12
      refine v_throw C N F thr_EIO mm_250 rfl dX5_textByte_15 dX5_textByte_18 dX5_textByte_19 dX5_textByte_21 dX5_textByte_24 (Nat.le_of_ble_eq_true rfl) (Nat.le_of_ble_eq_true rfl) (Nat.le_of_ble_eq_true rfl) ?_
      exact ⟨by rw [inB_no (by omega)]; exact ⟨rfl, rfl⟩, rfl⟩
set_option maxHeartbeats 16000000 in
theorem c_X5_writeDebts {l : Launch} (hl : l.stackTraces = false) {κ : Kp} {h : Nat → Nat} {s sT : G} {m mT : Mg} {rr : Rg} {hh : Hg} {sl : Nat → Mg} {tx : G} {n c : Nat} (hW : WM n c m) : Ct SS MM l κ yX5_writeDebts cX5_writeDebts 3 (some FieldType.int) 4 6 36 [.ref (h 0)] (cS κ h) ((s, m), (sT, mT), rr, hh, sl, tx) ri (fun r u => (cdL [(decide (n = 0), 1)] = 0 ∧ r = nI (dbsT m n).length) ∧ TXp m (dbsT m n) rr hh sl u) (fun e u => ThU e (cdL [(decide (n = 0), 1)]) ∧ ROp m rr hh sl tx u) := by
  refine Ct.of (own := RX5) (by decide) rfl hl (by intro v hv; simp only [List.mem_cons, List.not_mem_nil, or_false] at hv; first | (rcases hv with rfl | rfl | rfl | rfl | rfl | rfl <;> rfl) | (rcases hv with rfl | rfl | rfl | rfl | rfl <;> rfl) | (rcases hv with rfl | rfl | rfl | rfl <;> rfl) | (rcases hv with rfl | rfl | rfl <;> rfl) | (rcases hv with rfl | rfl <;> rfl) | (subst hv; rfl) | exact hv.elim) (Nat.le_of_ble_eq_true rfl) (fun X hxl hxk C F N => ?_)
  subst hxl hxk
  show V X (cS (xK X) h) 0 [some (.ref (h 0)), none, none] [] ((s, m), (sT, mT), rr, hh, sl, tx) 0 0
  obtain ⟨h96, hn, hMf⟩ := id hW
  refine v_aload_n C dX5_writeDebts_0 rfl ?_
  refine v_callVv C (c_X5_needMemory hl hn h96) ym_X5_needMemory ml_X5_100 emb_id_cS rfl rfl rfl rfl rfl dX5_writeDebts_1 (Nat.le_of_ble_eq_true rfl) (Nat.le_of_ble_eq_true rfl) (Nat.le_of_ble_eq_true rfl) (Nat.le_of_ble_eq_true rfl) (fun e u hu => v_out C N F (Nat.le_of_ble_eq_true rfl) (Nat.le_of_ble_eq_true rfl) ?_) (fun r u hu => ?_)
  · obtain ⟨rfl, hz, rfl⟩ := hu
    exact ⟨by simp [ThU, cdL, hz], _, _, rfl⟩
  obtain ⟨hn0, hu⟩ := hu
  subst u
  have hMI := hMf hn0
  obtain ⟨hI, hE, hLK, hn1, hSB, hBY, hPR⟩ := id hMI
  have hbd := band_ok hSB
  refine V.stt (g2 := ((s, m), (sT, mT), rr, hh, sl, tx)) (rfl) ?_
  refine v_aload_n C dX5_writeDebts_4 rfl ?_
  refine v_getr C fl_X5_10 or_cS_0_0 dX5_writeDebts_5 ?_
  refine v_getr C fl_X5_74 or_cS_1_0 dX5_writeDebts_8 ?_
  refine v_astore_n C (lo2 := [some _, some _, none]) dX5_writeDebts_11 rfl (Nat.le_of_ble_eq_true rfl) rfl ?_
  refine v_aload_n C dX5_writeDebts_12 rfl ?_
  refine v_getr C fl_X5_42 or_cS_0_5 dX5_writeDebts_13 ?_
  refine v_callVv C (c_X4_clear hl) ym_X4_clear ml_X5_237 emb_c_t rfl rfl rfl rfl rfl dX5_writeDebts_16 (Nat.le_of_ble_eq_true rfl) (Nat.le_of_ble_eq_true rfl) (Nat.le_of_ble_eq_true rfl) (Nat.le_of_ble_eq_true rfl) (fun _ _ hu => hu.elim) (fun r u hu => ?_)
  obtain ⟨t0, et0⟩ : ∃ x, x = u := ⟨u, rfl⟩
  subst et0
  have hT0 : TX [] t0 := hu
  refine V.stt (g2 := ((s, m), (sT, mT), rr, hh, sl, t0)) (rfl) ?_
  refine v_iconst (v := nI 0) C dX5_writeDebts_19 (by decide) ?_
  refine v_istore_n C (lo2 := [some _, some _, some _]) dX5_writeDebts_20 rfl (Nat.le_of_ble_eq_true rfl) rfl ?_
  have L21 : ∀ (t : Nat × List Int32 × G), (fun t => t.1 ≤ n ∧ t.2.1.length ≤ 9 * t.1 ∧ TX t.2.1 t.2.2 ∧ forG (dbsS m n) t.1 (n - t.1) t.2.1 = forG (dbsS m n) 0 n []) t → (fun t : Nat × List Int32 × G => V X (cS (xK X) h) 21 [some (.ref (h 0)), some (.ref (h 5)), some (.int (nI t.1))] [] ((s, m), (sT, mT), rr, hh, sl, t.2.2) 5 30) t := by
    refine v_ind (fun t : Nat × List Int32 × G => n - t.1) ?_
    rintro ⟨i, T, tc⟩ ih21 hI21
    try dsimp only at hI21 ⊢
    obtain ⟨i1, i2, hTx, i3⟩ := hI21
    have i2 : T.length ≤ 9 * i := i2
    have hTx : TX T tc := hTx
    refine v_iload_n C dX5_writeDebts_21 rfl ?_
    refine v_aload_n C dX5_writeDebts_22 rfl ?_
    refine v_getiQ (x := nI n) C fl_X5_91 oi_cS_5_7 (hn) dX5_writeDebts_23 ?_
    first | refine v_icmp_geN C 48 dX5_writeDebts_26 (by decide) (by omega) (by omega) (fun c26 => ?_) (fun c26 => ?_) | refine v_icmp_ge C 48 dX5_writeDebts_26 (by decide) (fun c26 => ?_) (fun c26 => ?_)
    · refine v_aload_n C dX5_writeDebts_48 rfl ?_
      refine v_getr C fl_X5_42 or_cS_0_5 dX5_writeDebts_49 ?_
      refine v_getiQ (x := nI T.length) C fl_X5_241 oi_cS_122_1 (hTx.1) dX5_writeDebts_52 ?_
      refine v_if_ne C 67 dX5_writeDebts_55 (by decide) (fun c55 => ?_) (fun c55 => ?_)
      · rw [forG_0 (by omega)] at i3
        have hTn : ¬ T.length = 0 := fun z => c55 (by rw [z]; rfl)
        have hfT : dbsT m n = T := by unfold dbsT; rw [← i3, if_neg hTn]
        have hfin : tc 0 1 = nI (dbsT m n).length := by rw [hfT]; exact hTx.1
        have hTF : TX (dbsT m n) tc := by rw [hfT]; exact hTx
        refine v_aload_n C dX5_writeDebts_67 rfl ?_
        refine v_getr C fl_X5_42 or_cS_0_5 dX5_writeDebts_68 ?_
        refine v_getiQ (x := nI (dbsT m n).length) C fl_X5_241 oi_cS_122_1 (hfin) dX5_writeDebts_71 ?_
        refine v_iret C F (by first | rfl | exact bI_nar _) dX5_writeDebts_74 (Nat.le_of_ble_eq_true rfl) (Nat.le_of_ble_eq_true rfl) ?_
        exact ⟨⟨by simp [cdL, hn0], rfl⟩, _, _, _, rfl, hTF⟩
      · rw [forG_0 (by omega)] at i3
        have hTn : T.length = 0 := nI_inj (b := 0) (by omega) (by omega) c55
        refine v_aload_n C dX5_writeDebts_58 rfl ?_
        refine v_getr C fl_X5_42 or_cS_0_5 dX5_writeDebts_59 ?_
        refine v_bipush (v := nI 45) C dX5_writeDebts_62 (by decide) ?_
        refine v_callVv C (c_X4_addSign hl hTx (by omega)) ym_X4_addSign ml_X5_244 emb_c_t rfl rfl rfl rfl rfl dX5_writeDebts_64 (Nat.le_of_ble_eq_true rfl) (Nat.le_of_ble_eq_true rfl) (Nat.le_of_ble_eq_true rfl) (Nat.le_of_ble_eq_true rfl) (fun _ _ hu => hu.elim) (fun r u hu => ?_)
        obtain ⟨t2, et2⟩ : ∃ x, x = u := ⟨u, rfl⟩
        subst et2
        have hT2 : TX (T ++ [nI 45]) t2 := hu
        have hTe : T = [] := List.eq_nil_of_length_eq_zero hTn
        have hfT : dbsT m n = [nI 45] := by unfold dbsT; rw [← i3, if_pos hTn]
        have hTF : TX (dbsT m n) t2 := by rw [hfT]; rw [hTe] at hT2; exact hT2
        have hfin : t2 0 1 = nI (dbsT m n).length := hTF.1
        refine V.stt (g2 := ((s, m), (sT, mT), rr, hh, sl, t2)) (rfl) ?_
        refine v_aload_n C dX5_writeDebts_67 rfl ?_
        refine v_getr C fl_X5_42 or_cS_0_5 dX5_writeDebts_68 ?_
        refine v_getiQ (x := nI (dbsT m n).length) C fl_X5_241 oi_cS_122_1 (hfin) dX5_writeDebts_71 ?_
        refine v_iret C F (by first | rfl | exact bI_nar _) dX5_writeDebts_74 (Nat.le_of_ble_eq_true rfl) (Nat.le_of_ble_eq_true rfl) ?_
        exact ⟨⟨by simp [cdL, hn0], rfl⟩, _, _, _, rfl, hTF⟩
    · refine v_aload_n C dX5_writeDebts_29 rfl ?_
      refine v_iload_n C dX5_writeDebts_30 rfl ?_
      refine v_callVi C (c_X2_startsDebt hl (n := n) hn h96 (by omega)) ym_X2_startsDebt ml_X5_154 emb_c_lm rfl rfl rfl rfl rfl dX5_writeDebts_31 (Nat.le_of_ble_eq_true rfl) (Nat.le_of_ble_eq_true rfl) (Nat.le_of_ble_eq_true rfl) (Nat.le_of_ble_eq_true rfl) (fun _ _ hu => hu.elim) (fun r u hu => ?_)
      obtain ⟨rfl, hu⟩ := hu
      subst u
      refine V.stt (g2 := ((s, m), (sT, mT), rr, hh, sl, tc)) (rfl) ?_
      refine v_if_eqB C 42 dX5_writeDebts_34 (by decide) (fun c34 => ?_) (fun c34 => ?_)
      · have hstep : dbsS m n i T = T := if_neg (by rw [c34]; exact Bool.false_ne_true)
        first | refine v_iinc1 C (lo2 := [some _, some _, some _]) dX5_writeDebts_42 rfl rfl rfl ?_ | refine v_iinc C (lo2 := [some _, some _, some _]) dX5_writeDebts_42 rfl rfl rfl rfl ?_
        refine v_goto C 21 dX5_writeDebts_45 (by decide) ?_
        have hib : i < n := by omega
        rw [forG_s hib, hstep] at i3
        first
        | exact ih21 (i + 1, dbT m n i T, t2) (by show n - (i + 1) < n - i; omega) ⟨by show i + 1 ≤ n; omega, by show (dbT m n i T).length ≤ 9 * (i + 1); omega, hT2, i3⟩
        | exact ih21 (i + 1, T, tc) (by show n - (i + 1) < n - i; omega) ⟨by show i + 1 ≤ n; omega, by show T.length ≤ 9 * (i + 1); omega, hTx, i3⟩
      · have hlm := dbT_len (m := m) (T := T) h96 (show i < n by omega) (start_src hI (show i < n by omega) c34).1
        have hstep : dbsS m n i T = dbT m n i T := if_pos c34
        refine v_aload_n C dX5_writeDebts_37 rfl ?_
        refine v_iload_n C dX5_writeDebts_38 rfl ?_
        refine v_callVv C (c_X5_writeDebt hl (n := n) (j := i) (T := T) hI (by omega) c34 hTx (by omega)) ym_X5_writeDebt ml_X5_238 emb_id_cS rfl rfl rfl rfl rfl dX5_writeDebts_39 (Nat.le_of_ble_eq_true rfl) (Nat.le_of_ble_eq_true rfl) (Nat.le_of_ble_eq_true rfl) (Nat.le_of_ble_eq_true rfl) (fun _ _ hu => hu.elim) (fun r u hu => ?_)
        obtain ⟨t2, hu, hT2⟩ := hu
        subst u
        refine V.stt (g2 := ((s, m), (sT, mT), rr, hh, sl, t2)) (rfl) ?_
        first | refine v_iinc1 C (lo2 := [some _, some _, some _]) dX5_writeDebts_42 rfl rfl rfl ?_ | refine v_iinc C (lo2 := [some _, some _, some _]) dX5_writeDebts_42 rfl rfl rfl rfl ?_
        refine v_goto C 21 dX5_writeDebts_45 (by decide) ?_
        have hib : i < n := by omega
        rw [forG_s hib, hstep] at i3
        first
        | exact ih21 (i + 1, dbT m n i T, t2) (by show n - (i + 1) < n - i; omega) ⟨by show i + 1 ≤ n; omega, by show (dbT m n i T).length ≤ 9 * (i + 1); omega, hT2, i3⟩
        | exact ih21 (i + 1, T, tc) (by show n - (i + 1) < n - i; omega) ⟨by show i + 1 ≤ n; omega, by show T.length ≤ 9 * (i + 1); omega, hTx, i3⟩
  refine V.wid (k2 := 5) (n2 := 30) (Nat.le_of_ble_eq_true rfl) (Nat.le_of_ble_eq_true rfl) ?_
  exact L21 (0, [], t0) ⟨Nat.zero_le _, Nat.zero_le _, hT0, rfl⟩
set_option maxHeartbeats 16000000 in
theorem c_X5_writeChain {l : Launch} (hl : l.stackTraces = false) {κ : Kp} {h : Nat → Nat} {s sT : G} {m mT : Mg} {rr : Rg} {hh : Hg} {sl : Nat → Mg} {tx : G} {n c : Nat} {p : Int32} (hW : WM n c m) : Ct SS MM l κ yX5_writeChain cX5_writeChain 5 (some FieldType.int) 2 6 36 [.ref (h 0), .int p] (cS κ h) ((s, m), (sT, mT), rr, hh, sl, tx) ri (fun r u => (cdL [(decide (n = 0), 1), (!plB n p, 2)] = 0 ∧ r = nI (chnT m (tN p)).length) ∧ TXp m (chnT m (tN p)) rr hh sl u) (fun e u => Th3 e (cdL [(decide (n = 0), 1), (!plB n p, 2)]) ∧ ROp m rr hh sl tx u) := by
  refine Ct.of (own := RX5) (by decide) rfl hl (by intro v hv; simp only [List.mem_cons, List.not_mem_nil, or_false] at hv; first | (rcases hv with rfl | rfl | rfl | rfl | rfl | rfl <;> rfl) | (rcases hv with rfl | rfl | rfl | rfl | rfl <;> rfl) | (rcases hv with rfl | rfl | rfl | rfl <;> rfl) | (rcases hv with rfl | rfl | rfl <;> rfl) | (rcases hv with rfl | rfl <;> rfl) | (subst hv; rfl) | exact hv.elim) (Nat.le_of_ble_eq_true rfl) (fun X hxl hxk C F N => ?_)
  subst hxl hxk
  show V X (cS (xK X) h) 0 [some (.ref (h 0)), some (.int p), none, none, none] [] ((s, m), (sT, mT), rr, hh, sl, tx) 0 0
  obtain ⟨h96, hn, hMf⟩ := id hW
  refine v_aload_n C dX5_writeChain_0 rfl ?_
  refine v_callVv C (c_X5_needMemory hl hn h96) ym_X5_needMemory ml_X5_100 emb_id_cS rfl rfl rfl rfl rfl dX5_writeChain_1 (Nat.le_of_ble_eq_true rfl) (Nat.le_of_ble_eq_true rfl) (Nat.le_of_ble_eq_true rfl) (Nat.le_of_ble_eq_true rfl) (fun e u hu => v_out C N F (Nat.le_of_ble_eq_true rfl) (Nat.le_of_ble_eq_true rfl) ?_) (fun r u hu => ?_)
  · obtain ⟨rfl, hz, rfl⟩ := hu
    exact ⟨by simp [Th3, cdL, hz], _, _, rfl⟩
  obtain ⟨hn0, hu⟩ := hu
  subst u
  have hMI := hMf hn0
  obtain ⟨hI, hE, hLK, hn1, hSB, hBY, hPR⟩ := id hMI
  have hbd := band_ok hSB
  refine V.stt (g2 := ((s, m), (sT, mT), rr, hh, sl, tx)) (rfl) ?_
  refine v_aload_n C dX5_writeChain_4 rfl ?_
  refine v_iload_n C dX5_writeChain_5 rfl ?_
  refine v_callVv C (c_X5_needPlace hl hn h96) ym_X5_needPlace ml_X5_111 emb_id_cS rfl rfl rfl rfl rfl dX5_writeChain_6 (Nat.le_of_ble_eq_true rfl) (Nat.le_of_ble_eq_true rfl) (Nat.le_of_ble_eq_true rfl) (Nat.le_of_ble_eq_true rfl) (fun e u hu => v_out C N F (Nat.le_of_ble_eq_true rfl) (Nat.le_of_ble_eq_true rfl) ?_) (fun r u hu => ?_)
  · obtain ⟨rfl, hz, rfl⟩ := hu
    exact ⟨by simp [Th3, cdL, hn0, hz], _, _, rfl⟩
  obtain ⟨hp_p, hu⟩ := hu
  subst u
  obtain ⟨j, hj_j, e_j⟩ := pl_at hp_p
  subst e_j
  have t_j : tN (nI j) = j := tN_nI (by omega)
  refine V.stt (g2 := ((s, m), (sT, mT), rr, hh, sl, tx)) (rfl) ?_
  refine v_aload_n C dX5_writeChain_9 rfl ?_
  refine v_getr C fl_X5_10 or_cS_0_0 dX5_writeChain_10 ?_
  refine v_getr C fl_X5_74 or_cS_1_0 dX5_writeChain_13 ?_
  refine v_astore_n C (lo2 := [some _, some _, some _, none, none]) dX5_writeChain_16 rfl (Nat.le_of_ble_eq_true rfl) rfl ?_
  refine v_aload_n C dX5_writeChain_17 rfl ?_
  refine v_getr C fl_X5_42 or_cS_0_5 dX5_writeChain_18 ?_
  refine v_callVv C (c_X4_clear hl) ym_X4_clear ml_X5_237 emb_c_t rfl rfl rfl rfl rfl dX5_writeChain_21 (Nat.le_of_ble_eq_true rfl) (Nat.le_of_ble_eq_true rfl) (Nat.le_of_ble_eq_true rfl) (Nat.le_of_ble_eq_true rfl) (fun _ _ hu => hu.elim) (fun r u hu => ?_)
  obtain ⟨t0, et0⟩ : ∃ x, x = u := ⟨u, rfl⟩
  subst et0
  have hT0 : TX [] t0 := hu
  refine V.stt (g2 := ((s, m), (sT, mT), rr, hh, sl, t0)) (rfl) ?_
  refine v_aload_n C dX5_writeChain_24 rfl ?_
  refine v_getr C fl_X5_42 or_cS_0_5 dX5_writeChain_25 ?_
  refine v_iload_n C dX5_writeChain_28 rfl ?_
  refine v_callVv C (c_X4_addNumber2 hl (v := j) hT0 (by decide) (by omega)) ym_X4_addNumber ml_X5_247 emb_c_t rfl rfl rfl rfl rfl dX5_writeChain_29 (Nat.le_of_ble_eq_true rfl) (Nat.le_of_ble_eq_true rfl) (Nat.le_of_ble_eq_true rfl) (Nat.le_of_ble_eq_true rfl) (fun _ _ hu => hu.elim) (fun r u hu => ?_)
  obtain ⟨t1, et1⟩ : ∃ x, x = u := ⟨u, rfl⟩
  subst et1
  have hT1 : TX ([] ++ numL j) t1 := hu
  refine V.stt (g2 := ((s, m), (sT, mT), rr, hh, sl, t1)) (rfl) ?_
  refine v_iload_n C dX5_writeChain_32 rfl ?_
  refine v_istore_n C (lo2 := [some _, some _, some _, some _, none]) dX5_writeChain_33 rfl (Nat.le_of_ble_eq_true rfl) rfl ?_
  refine v_iconst (v := nI 0) C dX5_writeChain_34 (by decide) ?_
  refine v_istore C (lo2 := [some _, some _, some _, some _, some _]) dX5_writeChain_35 rfl (Nat.le_of_ble_eq_true rfl) rfl ?_
  obtain ⟨rk, hrk⟩ := IM_rk hI
  have hrj := hrk.1 j hj_j
  have l0 := numL_len (v := j) (by omega)
  have L37 : ∀ (t : Nat × Nat × List Int32 × G), (fun t => t.2.1 < n ∧ rk t.2.1 + t.1 ≤ rk j ∧ t.2.2.1.length ≤ 2 + 3 * t.1 ∧ TX t.2.2.1 t.2.2.2 ∧ chnF (96 - t.1) m t.2.1 t.2.2.1 = chnF 96 m j (numL j)) t → (fun t : Nat × Nat × List Int32 × G => V X (cS (xK X) h) 37 [some (.ref (h 0)), some (.int (nI j)), some (.ref (h 5)), some (.int (nI t.2.1)), some (.int (nI t.1))] [] ((s, m), (sT, mT), rr, hh, sl, t.2.2.2) 5 30) t := by
    refine v_ind (fun t : Nat × Nat × List Int32 × G => rk t.2.1) ?_
    rintro ⟨k, a, T, tc⟩ ih37 hI37
    try dsimp only at hI37 ⊢
    obtain ⟨ha, i1, i2, hTx, i4⟩ := hI37
    have ha : a < n := ha
    have i1 : rk a + k ≤ rk j := i1
    have i2 : T.length ≤ 2 + 3 * k := i2
    have hTx : TX T tc := hTx
    refine v_iload C dX5_writeChain_37 rfl ?_
    refine v_bipush (v := nI 96) C dX5_writeChain_39 (by decide) ?_
    first | refine v_icmp_geN C 82 dX5_writeChain_41 (by decide) (by omega) (by omega) (fun c41 => ?_) (fun c41 => ?_) | refine v_icmp_ge C 82 dX5_writeChain_41 (by decide) (fun c41 => ?_) (fun c41 => ?_)
    · exfalso
      omega
    · refine v_aload_n C dX5_writeChain_44 rfl ?_
      refine v_iload_n C dX5_writeChain_45 rfl ?_
      refine v_callVi C (c_X2_owesN hl (n := n) hn h96 ha) ym_X2_owes ml_X5_151 emb_c_lm rfl rfl rfl rfl rfl dX5_writeChain_46 (Nat.le_of_ble_eq_true rfl) (Nat.le_of_ble_eq_true rfl) (Nat.le_of_ble_eq_true rfl) (Nat.le_of_ble_eq_true rfl) (fun _ _ hu => hu.elim) (fun r u hu => ?_)
      obtain ⟨rfl, hu⟩ := hu
      subst u
      refine V.stt (g2 := ((s, m), (sT, mT), rr, hh, sl, tc)) (rfl) ?_
      refine v_if_eqB C 82 dX5_writeChain_49 (by decide) (fun c49 => ?_) (fun c49 => ?_)
      · have hTe : T = chnF 96 m j (numL j) := by rw [← i4, chn_s hI hrk (96 - k) (by omega) ha, if_pos (owb_f.mp c49)]
        obtain ⟨v, hv, ev⟩ := val_by hI hBY hj_j
        refine v_aload_n C dX5_writeChain_82 rfl ?_
        refine v_getr C fl_X5_42 or_cS_0_5 dX5_writeChain_83 ?_
        refine v_bipush (v := nI 61) C dX5_writeChain_86 (by decide) ?_
        refine v_callVv C (c_X4_addSign hl hTx (by omega)) ym_X4_addSign ml_X5_244 emb_c_t rfl rfl rfl rfl rfl dX5_writeChain_88 (Nat.le_of_ble_eq_true rfl) (Nat.le_of_ble_eq_true rfl) (Nat.le_of_ble_eq_true rfl) (Nat.le_of_ble_eq_true rfl) (fun _ _ hu => hu.elim) (fun r u hu => ?_)
        obtain ⟨t4, et4⟩ : ∃ x, x = u := ⟨u, rfl⟩
        subst et4
        have hT4 : TX (T ++ [nI 61]) t4 := hu
        refine V.stt (g2 := ((s, m), (sT, mT), rr, hh, sl, t4)) (rfl) ?_
        refine v_aload_n C dX5_writeChain_91 rfl ?_
        refine v_getr C fl_X5_42 or_cS_0_5 dX5_writeChain_92 ?_
        refine v_aload_n C dX5_writeChain_95 rfl ?_
        refine v_iload_n C dX5_writeChain_96 rfl ?_
        refine v_callVi C (c_X2_valueOf hl hI hj_j) ym_X2_valueOf ml_X5_117 emb_c_lm rfl rfl rfl rfl rfl dX5_writeChain_97 (Nat.le_of_ble_eq_true rfl) (Nat.le_of_ble_eq_true rfl) (Nat.le_of_ble_eq_true rfl) (Nat.le_of_ble_eq_true rfl) (fun _ _ hu => hu.elim) (fun r u hu => ?_)
        obtain ⟨rfl, hu⟩ := hu
        subst u
        rw [ev]
        refine V.stt (g2 := ((s, m), (sT, mT), rr, hh, sl, t4)) (rfl) ?_
        refine v_callVv C (c_X4_addNumber hl (v := v) hT4 (by simp only [List.length_append, List.length_cons, List.length_nil]; omega) (by omega)) ym_X4_addNumber ml_X5_247 emb_c_t rfl rfl rfl rfl rfl dX5_writeChain_100 (Nat.le_of_ble_eq_true rfl) (Nat.le_of_ble_eq_true rfl) (Nat.le_of_ble_eq_true rfl) (Nat.le_of_ble_eq_true rfl) (fun _ _ hu => hu.elim) (fun r u hu => ?_)
        obtain ⟨t5, et5⟩ : ∃ x, x = u := ⟨u, rfl⟩
        subst et5
        have hT5 : TX (T ++ [nI 61] ++ numL v) t5 := hu
        have hTF : TX (chnT m j) t5 := by
          unfold chnT
          rw [← hTe, ev, tN_nI (by omega)]
          exact hT5
        have hfin : t5 0 1 = nI (chnT m j).length := hTF.1
        refine V.stt (g2 := ((s, m), (sT, mT), rr, hh, sl, t5)) (rfl) ?_
        refine v_aload_n C dX5_writeChain_103 rfl ?_
        refine v_getr C fl_X5_42 or_cS_0_5 dX5_writeChain_104 ?_
        refine v_getiQ (x := nI (chnT m j).length) C fl_X5_241 oi_cS_122_1 (hfin) dX5_writeChain_107 ?_
        refine v_iret C F (by first | rfl | exact bI_nar _) dX5_writeChain_110 (Nat.le_of_ble_eq_true rfl) (Nat.le_of_ble_eq_true rfl) ?_
        exact ⟨⟨by simp [cdL, hn0, hp_p], by rw [t_j]⟩, _, _, _, rfl, by rw [t_j]; exact hTF⟩
      · have hsr := IM_src hI ha (owb_t.mp c49)
        have hrk2 := hrk.2 a ha (owb_t.mp c49)
        have l1 := numL_len (v := src m a) (by omega)
        refine v_aload_n C dX5_writeChain_52 rfl ?_
        refine v_getr C fl_X5_121 or_cS_5_1 dX5_writeChain_53 ?_
        refine v_iload_n C dX5_writeChain_56 rfl ?_
        refine v_ialdQ (x := nI (src m a)) C ar_cS_7 (by decide) _ (hsr.2) ?_ rfl dX5_writeChain_57 ?_
        · omega
        refine v_istore_n C (lo2 := [some _, some _, some _, some _, some _]) dX5_writeChain_58 rfl (Nat.le_of_ble_eq_true rfl) rfl ?_
        refine v_aload_n C dX5_writeChain_59 rfl ?_
        refine v_getr C fl_X5_42 or_cS_0_5 dX5_writeChain_60 ?_
        refine v_bipush (v := nI 60) C dX5_writeChain_63 (by decide) ?_
        refine v_callVv C (c_X4_addSign hl hTx (by omega)) ym_X4_addSign ml_X5_244 emb_c_t rfl rfl rfl rfl rfl dX5_writeChain_65 (Nat.le_of_ble_eq_true rfl) (Nat.le_of_ble_eq_true rfl) (Nat.le_of_ble_eq_true rfl) (Nat.le_of_ble_eq_true rfl) (fun _ _ hu => hu.elim) (fun r u hu => ?_)
        obtain ⟨t2, et2⟩ : ∃ x, x = u := ⟨u, rfl⟩
        subst et2
        have hT2 : TX (T ++ [nI 60]) t2 := hu
        refine V.stt (g2 := ((s, m), (sT, mT), rr, hh, sl, t2)) (rfl) ?_
        refine v_aload_n C dX5_writeChain_68 rfl ?_
        refine v_getr C fl_X5_42 or_cS_0_5 dX5_writeChain_69 ?_
        refine v_iload_n C dX5_writeChain_72 rfl ?_
        refine v_callVv C (c_X4_addNumber2 hl (v := src m a) hT2 (by simp only [List.length_append, List.length_cons, List.length_nil]; omega) (by omega)) ym_X4_addNumber ml_X5_247 emb_c_t rfl rfl rfl rfl rfl dX5_writeChain_73 (Nat.le_of_ble_eq_true rfl) (Nat.le_of_ble_eq_true rfl) (Nat.le_of_ble_eq_true rfl) (Nat.le_of_ble_eq_true rfl) (fun _ _ hu => hu.elim) (fun r u hu => ?_)
        obtain ⟨t3, et3⟩ : ∃ x, x = u := ⟨u, rfl⟩
        subst et3
        have hT3 : TX (T ++ [nI 60] ++ numL (src m a)) t3 := hu
        refine V.stt (g2 := ((s, m), (sT, mT), rr, hh, sl, t3)) (rfl) ?_
        first | refine v_iinc1 C (lo2 := [some _, some _, some _, some _, some _]) dX5_writeChain_76 rfl rfl rfl ?_ | refine v_iinc C (lo2 := [some _, some _, some _, some _, some _]) dX5_writeChain_76 rfl rfl rfl rfl ?_
        refine v_goto C 37 dX5_writeChain_79 (by decide) ?_
        exact ih37 (k + 1, src m a, T ++ [nI 60] ++ numL (src m a), t3) (by show rk (src m a) < rk a; omega) ⟨hsr.1, by show rk (src m a) + (k + 1) ≤ rk j; omega, by show (T ++ [nI 60] ++ numL (src m a)).length ≤ 2 + 3 * (k + 1); simp only [List.length_append, List.length_cons, List.length_nil]; omega, hT3, by rw [← i4, chn_s hI hrk (96 - k) (by omega) ha, if_neg (owb_t.mp c49), show 96 - k - 1 = 96 - (k + 1) by omega]⟩
  refine V.wid (k2 := 5) (n2 := 30) (Nat.le_of_ble_eq_true rfl) (Nat.le_of_ble_eq_true rfl) ?_
  exact L37 (0, j, numL j, t1) ⟨hj_j, Nat.le_refl _, by show (numL j).length ≤ 2 + 3 * 0; omega, (by rw [List.nil_append] at hT1; exact hT1), rfl⟩


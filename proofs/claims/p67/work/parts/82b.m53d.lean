set_option maxHeartbeats 2000000 in
theorem vl_D {X : Cx} {g h e : Nat → Nat} {n cM : Nat} {m : Mg} {u : Cg} {b i a c Q K0 N0 : Nat}  (hl : (xl X).stackTraces = false) (C : Ok SS MM X RL cL_values 25 17 5000 70000) (F : FinG X (some FieldType.boolean) ri (fun r w => r = nI 1 ∧ ∃ u' i', GU m u' ∧ i' ≤ i + 10 ∧ w = cS (xK X) g u' ++ (lmW (xK X) h n (m, e, m 6 0) ++ dS (xK X) b i')) (fun _ _ => False) 5000 70000) (hG : GU m u) (hW : WM n cM m) (hI : LI n m) (n1 : ¬ n = 0) (hac : a ≤ c ∧ c < n) (hQ : Q < n) (hK0 : K0 ≤ 80) (hN0 : N0 ≤ 4000)  : V X iW 687 [some (.ref (g 0)), some (.ref (h 0)), none, none, none, some (.int (nI c)), none, none, none, none, none, none, none, none, none, none, none, none, none, none, none, none, none, none, none] [] (cS (xK X) g u ++ (lmW (xK X) h n (m, e, m 6 0) ++ dS (xK X) b (i + 1 + 1 + 1 + 1))) K0 N0 := by
  obtain ⟨s, ⟨sT, mT⟩, rr, hh, sl, tx, L0, rfl, hH⟩ := hG
  have h14 := hI.1
  have hIM := hI.im
  have hE := hI.ev
  have hset := hI.set
  have hn31 : n < 2 ^ 31 := by omega
  have hn96 : n ≤ 96 := by omega
  obtain ⟨rk, hrk⟩ := IM_rk hIM
  refine v_new C nw_L_268 dL_values_687 (by first | omega | exact Nat.le_of_ble_eq_true rfl) (by first | omega | exact Nat.le_of_ble_eq_true rfl) (fun sq => ?_)
  refine v_dup C dL_values_690 rfl ?_
  refine v_gNv (K := fun w => w ++ (cS (xK X) g ((s, m), (sT, mT), rr, hh, sl, tx) ++ (lmW (xK X) h n (m, e, m 6 0) ++ dS (xK X) b (i + 1 + 1 + 1 + 1)))) C (Cxt.r _ Cxt.id) (c_J4_init_da8c8 hl) yc_J4_init_da8c8 ml_L_270 rfl rfl dL_values_691 (by first | omega | exact Nat.le_of_ble_eq_true rfl) (by first | omega | exact Nat.le_of_ble_eq_true rfl) (by first | omega | exact Nat.le_of_ble_eq_true rfl) (Nat.le_of_ble_eq_true rfl) (fun _ _ hu => hu.elim) (fun r u hu => ?_)
  obtain ⟨sv, rfl⟩ := hu
  have hS : SbOK 16 [] := ⟨by decide, by decide, fun b hb => by cases hb⟩
  refine V.perm (ws' := (cS (xK X) g ((s, m), (sT, mT), rr, hh, sl, tx) ++ sbW (xK X) sq sv 16 []) ++ (lmW (xK X) h n (m, e, m 6 0) ++ dS (xK X) b (i + 1 + 1 + 1 + 1))) (by rw [← List.append_assoc]; exact List.perm_append_comm.append_right _) ?_
  refine v_iload C dL_values_694 rfl ?_
  refine v_gVr (K := fun w => (cS (xK X) g ((s, m), (sT, mT), rr, hh, sl, tx) ++ w) ++ (lmW (xK X) h n (m, e, m 6 0) ++ dS (xK X) b (i + 1 + 1 + 1 + 1))) C (Cxt.r _ (Cxt.l _ Cxt.id)) 0 (c_J4_append_bf812 hl (x := c) (by omega) hS (by decide)) ym_J4_append_bf812 ml_L_278 rfl rfl rfl rfl dL_values_696 (by first | omega | exact Nat.le_of_ble_eq_true rfl) (by first | omega | exact Nat.le_of_ble_eq_true rfl) (by first | omega | exact Nat.le_of_ble_eq_true rfl) (Nat.le_of_ble_eq_true rfl) (fun _ _ hu => hu.elim) (fun r u hu => ?_)
  obtain ⟨e9, sv, N, hS, rfl⟩ := hu
  rw [e9]
  refine v_astore C (lo2 := [some _, some _, none, none, none, some _, none, none, none, none, none, none, none, none, none, none, none, none, none, none, some _, none, none, none, none]) dL_values_699 rfl (Nat.le_of_ble_eq_true rfl) rfl ?_
  refine v_aload_n C dL_values_701 rfl ?_
  refine v_gFN (K := fun w => (cS (xK X) g ((s, m), (sT, mT), rr, hh, sl, tx) ++ sbW (xK X) sq sv N ([] ++ digs c)) ++ (w ++ dS (xK X) b (i + 1 + 1 + 1 + 1))) C (Cxt.l _ (Cxt.r _ Cxt.id)) (v := .ref (h 1)) 0 fln_L_154 lm_0 rfl dL_values_702 ?_
  refine v_iload C dL_values_705 rfl ?_
  refine v_gP (K := fun w => (cS (xK X) g ((s, m), (sT, mT), rr, hh, sl, tx) ++ sbW (xK X) sq sv N ([] ++ digs c)) ++ (w ++ dS (xK X) b (i + 1 + 1 + 1 + 1))) C (Cxt.l _ (Cxt.r _ Cxt.id)) (x := (some (h (8 + c)))) 1 lm_1 (by first | decide | omega) c (if_pos (by omega)) ?_ rfl dL_values_707 ?_
  · omega
  refine v_astore C (lo2 := [some _, some _, none, none, none, some _, none, none, none, none, none, none, none, none, none, none, none, none, none, none, some _, some _, none, none, none]) dL_values_708 rfl (Nat.le_of_ble_eq_true rfl) rfl ?_
  have L710 : ∀ (t : Nat × List Nat × Nat × Nat), (fun t => t.1 < n ∧ SbOK t.2.2.2 t.2.1 ∧ t.2.1.length + 4 * rk t.1 ≤ 70 ∧ ∃ f, rk t.1 ≤ f ∧ chnF f m t.1 (t.2.1.map nI) = chnF 96 m c (numL c)) t → (fun t : Nat × List Nat × Nat × Nat => V X iW 710 [some (.ref (g 0)), some (.ref (h 0)), none, none, none, some (.int (nI c)), none, none, none, none, none, none, none, none, none, none, none, none, none, none, some (.ref sq), some (.ref (h (8 + t.1))), none, none, none] [] ((cS (xK X) g ((s, m), (sT, mT), rr, hh, sl, tx) ++ sbW (xK X) sq t.2.2.1 t.2.2.2 t.2.1) ++ (lmW (xK X) h n (m, e, m 6 0) ++ dS (xK X) b (i + 1 + 1 + 1 + 1))) (120 - 2 * rk t.1) (34000 - 2000 * rk t.1)) t := by
    refine v_ind (fun t : Nat × List Nat × Nat × Nat => rk t.1) ?_
    rintro ⟨p, T, sv, N⟩ ih710 hI710
    try dsimp only at hI710 ⊢
    obtain ⟨hp, hS, hTl, f, hf, hch⟩ := hI710
    have hrp := hrk.1 p hp
    refine v_aload C dL_values_710 rfl ?_
    refine v_gFN (K := fun w => (cS (xK X) g ((s, m), (sT, mT), rr, hh, sl, tx) ++ sbW (xK X) sq sv N (T)) ++ (w ++ dS (xK X) b (i + 1 + 1 + 1 + 1))) C (Cxt.l _ (Cxt.r _ Cxt.id)) (v := va_rf (srcV h m p)) (5 + p) fln_L_190 (plc_at hp) rfl dL_values_712 ?_
    refine v_ifnull C (x := (srcV h m p)) 747 dL_values_715 (by decide) (fun c715 => ?_) (fun a715 c715 => ?_)
    · have ho := srcV_no.mp c715
      have hT : T.map nI = chnF 96 m c (numL c) := by rw [chn_s hIM hrk f hf hp, if_pos ho] at hch; exact hch
      refine v_aload C dL_values_747 rfl ?_
      refine v_bipush (v := nI 61) C dL_values_749 (by decide) ?_
      refine v_gVr (K := fun w => (cS (xK X) g ((s, m), (sT, mT), rr, hh, sl, tx) ++ w) ++ (lmW (xK X) h n (m, e, m 6 0) ++ dS (xK X) b (i + 1 + 1 + 1 + 1))) C (Cxt.r _ (Cxt.l _ Cxt.id)) 0 (c_J4_append_cf468 hl (c := 61) (by decide) hS (by omega)) ym_J4_append_cf468 ml_L_275 rfl rfl rfl rfl dL_values_751 (by first | omega | exact Nat.le_of_ble_eq_true rfl) (by first | omega | exact Nat.le_of_ble_eq_true rfl) (by first | omega | exact Nat.le_of_ble_eq_true rfl) (Nat.le_of_ble_eq_true rfl) (fun _ _ hu => hu.elim) (fun r u hu => ?_)
      obtain ⟨e9, sv, N, hS, rfl⟩ := hu
      rw [e9]
      refine v_aload_n C dL_values_754 rfl ?_
      refine v_gFN (K := fun w => (cS (xK X) g ((s, m), (sT, mT), rr, hh, sl, tx) ++ sbW (xK X) sq sv N (T ++ [61])) ++ (w ++ dS (xK X) b (i + 1 + 1 + 1 + 1))) C (Cxt.l _ (Cxt.r _ Cxt.id)) (v := .ref (h 1)) 0 fln_L_154 lm_0 rfl dL_values_755 ?_
      refine v_iload C dL_values_758 rfl ?_
      refine v_gP (K := fun w => (cS (xK X) g ((s, m), (sT, mT), rr, hh, sl, tx) ++ sbW (xK X) sq sv N (T ++ [61])) ++ (w ++ dS (xK X) b (i + 1 + 1 + 1 + 1))) C (Cxt.l _ (Cxt.r _ Cxt.id)) (x := (some (h (8 + c)))) 1 lm_1 (by first | decide | omega) c (if_pos (by omega)) ?_ rfl dL_values_760 ?_
      · omega
      refine v_gVi (K := fun w => (cS (xK X) g ((s, m), (sT, mT), rr, hh, sl, tx) ++ sbW (xK X) sq sv N (T ++ [61])) ++ (w ++ dS (xK X) b (i + 1 + 1 + 1 + 1))) C (Cxt.l _ (Cxt.r _ Cxt.id)) (5 + c) (c_X8_value hl hIM h14 hac.2) ym_X8_value ml_L_185 (plc_at hac.2) rfl rfl rfl dL_values_761 (by first | omega | exact Nat.le_of_ble_eq_true rfl) (by first | omega | exact Nat.le_of_ble_eq_true rfl) (by first | omega | exact Nat.le_of_ble_eq_true rfl) (Nat.le_of_ble_eq_true rfl) (fun _ _ hu => hu.elim) (fun r u hu => ?_)
      obtain ⟨rfl, rfl⟩ := hu
      obtain ⟨bv, hbv, ebv⟩ := hI.by hac.2
      rw [ebv]
      refine v_gVr (K := fun w => (cS (xK X) g ((s, m), (sT, mT), rr, hh, sl, tx) ++ w) ++ (lmW (xK X) h n (m, e, m 6 0) ++ dS (xK X) b (i + 1 + 1 + 1 + 1))) C (Cxt.r _ (Cxt.l _ Cxt.id)) 0 (c_J4_append_bf812 hl (x := bv) (by omega) hS (by simp only [List.length_append, List.length_cons, List.length_nil]; omega)) ym_J4_append_bf812 ml_L_278 rfl rfl rfl rfl dL_values_764 (by first | omega | exact Nat.le_of_ble_eq_true rfl) (by first | omega | exact Nat.le_of_ble_eq_true rfl) (by first | omega | exact Nat.le_of_ble_eq_true rfl) (Nat.le_of_ble_eq_true rfl) (fun _ _ hu => hu.elim) (fun r u hu => ?_)
      obtain ⟨e9, sv, N, hS, rfl⟩ := hu
      rw [e9]
      refine v_pop C dL_values_767 rfl ?_
      have hTT : (((T ++ [61]) ++ digs bv).map nI) = chnT m c := by
        rw [map_c (by omega), hT]
        unfold chnT
        rw [ebv, tN_nI (by omega)]
      have hTL : ((T ++ [61]) ++ digs bv).length ≤ 80 := by have := dig_le bv; simp only [List.length_append, List.length_cons, List.length_nil, digs_len]; omega
      generalize (T ++ [61]) ++ digs bv = TT at hS hTT hTL ⊢
      refine v_aload_n C dL_values_768 rfl ?_
      refine v_iload C dL_values_769 rfl ?_
      refine v_kVi (K := fun w => (w ++ sbW (xK X) sq sv N (TT)) ++ (lmW (xK X) h n (m, e, m 6 0) ++ dS (xK X) b (i + 1 + 1 + 1 + 1))) C (Cxt.r _ (Cxt.r _ Cxt.id)) (c_X5_writeChain hl (c := cM) hW) ym_X5_writeChain ml_L_76 fix_cS cS_0 rfl rfl rfl dL_values_771 (by first | omega | exact Nat.le_of_ble_eq_true rfl) (by first | omega | exact Nat.le_of_ble_eq_true rfl) (by first | omega | exact Nat.le_of_ble_eq_true rfl) (Nat.le_of_ble_eq_true rfl) (fun _ _ hu => (no3 (cd_1 n1 hac.2 hn31) hu.1).elim) (fun r u hu => ?_)
      obtain ⟨⟨-, rfl⟩, s, ⟨sT, mT⟩, tx, rfl, hX⟩ := hu
      rw [tN_nI (show c < 2 ^ 31 by omega), ← hTT] at hX ⊢
      rw [List.length_map]
      refine v_aload C dL_values_774 rfl ?_
      refine v_gVi (K := fun w => (cS (xK X) g ((s, m), (sT, mT), rr, hh, sl, tx) ++ w) ++ (lmW (xK X) h n (m, e, m 6 0) ++ dS (xK X) b (i + 1 + 1 + 1 + 1))) C (Cxt.r _ (Cxt.l _ Cxt.id)) 0 (c_J4_length_8abf5 hl) ym_J4_length_8abf5 ml_L_303 rfl rfl rfl rfl dL_values_776 (by first | omega | exact Nat.le_of_ble_eq_true rfl) (by first | omega | exact Nat.le_of_ble_eq_true rfl) (by first | omega | exact Nat.le_of_ble_eq_true rfl) (Nat.le_of_ble_eq_true rfl) (fun _ _ hu => hu.elim) (fun r u hu => ?_)
      obtain ⟨rfl, rfl⟩ := hu
      refine v_icmp_ne C 791 dL_values_779 (by decide) (fun c779 => ?_) (fun c779 => ?_)
      · exact absurd rfl c779
      · refine v_aload_n C dL_values_782 rfl ?_
        refine v_aload C dL_values_783 rfl ?_
        refine v_gSi (K := fun w => w ++ (lmW (xK X) h n (m, e, m 6 0) ++ dS (xK X) b (i + 1 + 1 + 1 + 1))) C (Cxt.r _ Cxt.id) (c_L_isText hl ⟨s, (sT, mT), rr, hh, sl, tx, _, rfl, hH, hX⟩ hS (by omega)) ys_L_isText ml_L_304 rfl rfl dL_values_785 (by first | omega | exact Nat.le_of_ble_eq_true rfl) (by first | omega | exact Nat.le_of_ble_eq_true rfl) (by first | omega | exact Nat.le_of_ble_eq_true rfl) (Nat.le_of_ble_eq_true rfl) (fun _ _ hu => hu.elim) (fun r u hu => ?_)
        obtain ⟨rfl, u1, hG1, rfl⟩ := hu
        refine v_if_ne C 793 dL_values_788 (by decide) (fun c788 => ?_) (fun c => absurd c (by decide))
        refine V.drop (ws' := cS (xK X) g u1 ++ (lmW (xK X) h n (m, e, m 6 0) ++ dS (xK X) b (i + 1 + 1 + 1 + 1))) ((List.sublist_append_left _ _).append (List.Sublist.refl _)) ?_
        refine V.sub (lo2 := [some _, some _, none, none, none, none, none, none, none, none, none, none, none, none, none, none, none, none, none, none, none, none, none, none, none]) ⟨rfl, rfl, trivial⟩ ?_
        exact vl_E (a := a) (c := c) (Q := Q) hl C F hG1.gu hW hI n1 hac hQ (by omega) (by omega)
    · have ho := (srcV_yes c715).1
      have hsr := IM_src hIM hp ho
      refine v_aload C dL_values_718 rfl ?_
      refine v_bipush (v := nI 60) C dL_values_720 (by decide) ?_
      refine v_gVr (K := fun w => (cS (xK X) g ((s, m), (sT, mT), rr, hh, sl, tx) ++ w) ++ (lmW (xK X) h n (m, e, m 6 0) ++ dS (xK X) b (i + 1 + 1 + 1 + 1))) C (Cxt.r _ (Cxt.l _ Cxt.id)) 0 (c_J4_append_cf468 hl (c := 60) (by decide) hS (by omega)) ym_J4_append_cf468 ml_L_275 rfl rfl rfl rfl dL_values_722 (by first | omega | exact Nat.le_of_ble_eq_true rfl) (by first | omega | exact Nat.le_of_ble_eq_true rfl) (by first | omega | exact Nat.le_of_ble_eq_true rfl) (Nat.le_of_ble_eq_true rfl) (fun _ _ hu => hu.elim) (fun r u hu => ?_)
      obtain ⟨e9, sv, N, hS, rfl⟩ := hu
      rw [e9]
      refine v_aload C dL_values_725 rfl ?_
      refine v_gFN (K := fun w => (cS (xK X) g ((s, m), (sT, mT), rr, hh, sl, tx) ++ sbW (xK X) sq sv N (T ++ [60])) ++ (w ++ dS (xK X) b (i + 1 + 1 + 1 + 1))) C (Cxt.l _ (Cxt.r _ Cxt.id)) (v := va_rf (srcV h m p)) (5 + p) fln_L_190 (plc_at hp) rfl dL_values_727 ?_
      rw [srcV_t ho]
      refine v_gFN (K := fun w => (cS (xK X) g ((s, m), (sT, mT), rr, hh, sl, tx) ++ sbW (xK X) sq sv N (T ++ [60])) ++ (w ++ dS (xK X) b (i + 1 + 1 + 1 + 1))) C (Cxt.l _ (Cxt.r _ Cxt.id)) (v := .int (nI (src m p))) (5 + (src m p)) fln_L_175 (plc_at hsr.1) rfl dL_values_730 ?_
      refine v_gVr (K := fun w => (cS (xK X) g ((s, m), (sT, mT), rr, hh, sl, tx) ++ w) ++ (lmW (xK X) h n (m, e, m 6 0) ++ dS (xK X) b (i + 1 + 1 + 1 + 1))) C (Cxt.r _ (Cxt.l _ Cxt.id)) 0 (c_J4_append_bf812 hl (x := (src m p)) (by omega) hS (by simp only [List.length_append, List.length_cons, List.length_nil]; omega)) ym_J4_append_bf812 ml_L_278 rfl rfl rfl rfl dL_values_733 (by first | omega | exact Nat.le_of_ble_eq_true rfl) (by first | omega | exact Nat.le_of_ble_eq_true rfl) (by first | omega | exact Nat.le_of_ble_eq_true rfl) (Nat.le_of_ble_eq_true rfl) (fun _ _ hu => hu.elim) (fun r u hu => ?_)
      obtain ⟨e9, sv, N, hS, rfl⟩ := hu
      rw [e9]
      refine v_pop C dL_values_736 rfl ?_
      refine v_aload C dL_values_737 rfl ?_
      refine v_gFN (K := fun w => (cS (xK X) g ((s, m), (sT, mT), rr, hh, sl, tx) ++ sbW (xK X) sq sv N ((T ++ [60]) ++ digs (src m p))) ++ (w ++ dS (xK X) b (i + 1 + 1 + 1 + 1))) C (Cxt.l _ (Cxt.r _ Cxt.id)) (v := va_rf (srcV h m p)) (5 + p) fln_L_190 (plc_at hp) rfl dL_values_739 ?_
      rw [srcV_t ho]
      refine v_astore C (lo2 := [some _, some _, none, none, none, some _, none, none, none, none, none, none, none, none, none, none, none, none, none, none, some _, some _, none, none, none]) dL_values_742 rfl (Nat.le_of_ble_eq_true rfl) rfl ?_
      refine v_goto C 710 dL_values_744 (by decide) ?_
      rw [chn_s hIM hrk f hf hp, if_neg ho, ← map_c (show src m p < 1000 by omega)] at hch
      have h3 := hrk.2 p hp ho
      refine V.wid (k2 := 120 - 2 * rk (src m p)) (n2 := 34000 - 2000 * rk (src m p)) (by omega) (by omega) ?_
      exact ih710 (src m p, (T ++ [60]) ++ digs (src m p), sv, N) h3 ⟨hsr.1, hS, by show ((T ++ [60]) ++ digs (src m p)).length + 4 * rk (src m p) ≤ 70; have := dig_le (src m p); simp only [List.length_append, List.length_cons, List.length_nil, digs_len]; omega, f - 1, by show rk (src m p) ≤ f - 1; omega, hch⟩
  have hrc := hrk.1 c hac.2
  refine V.wid (k2 := 120 - 2 * rk c) (n2 := 34000 - 2000 * rk c) (by omega) (by omega) ?_
  exact L710 (c, [] ++ digs c, sv, N) ⟨hac.2, hS, by show (digs c).length + 4 * rk c ≤ 70; have := dig_le c; rw [digs_len]; omega, 96, by show rk c ≤ 96; omega, by show chnF 96 m c ((digs c).map nI) = _; rw [digs_num (by omega)]⟩

theorem c_X3_parseP {l : Launch} (hl : l.stackTraces = false) {κ : Kp} {h : Nat → Nat} {rb sr : G} {mr : Mg} {k f : Nat} {P : RX} (hf : rb 0 2 = nI f) (hf7 : f ≤ 700) (hk : k ≤ f) (hP : parS (rb 13) k (mr 7) = P) : Ct SS MM l κ yX3_parse cX3_parse 3 (some FieldType.boolean) 7 0 0 [.ref (h 0), .int (nI k)] (rS κ h) (rb, sr, mr) ri (fun v u => v = bI (ok P.1) ∧ RXP (rb 13) k P (nI 0) u) (fun _ _ => False) := by
  subst hP
  exact c_X3_parse (r := rb) (s := sr) (m := mr) hl hf hf7 hk
set_option maxHeartbeats 1000000 in
theorem c_X5_load {l : Launch} (hl : l.stackTraces = false) {κ : Kp} {h : Nat → Nat} {s sT rb sr : G} {m mT mr : Mg} {hh : Hg} {sl : Nat → Mg} {tx : G} {f : Nat} {v : Int32} {P : RX} {L : List Mg} (hf : rb 0 2 = nI f) (h7 : f ≤ 700) (hP : parS (rb 13) (tN v) (mr 7) = P) (hLK : LK P.2.1) (hH : HS L hh) : Ct SS MM l κ yX5_load cX5_load 3 (some FieldType.int) 8 6 36 [.ref (h 0), .int v] (cS κ h) ((s, m), (sT, mT), (rb, sr, mr), hh, sl, tx) ri (fun x u => ∃ ru hh2 sl2, inB v 0 f = true ∧ ok P.1 = true ∧ RXP (rb 13) (tN v) P (nI 0) ru ∧ HS [] hh2 ∧ sl2 0 = clrM (sl 0 7) ∧ sl2 1 = clrM (sl 1 7) ∧ x = P.2.1 0 7 ∧ u = ((s, P.2.1), (sT, mT), ru, hh2, sl2, tx)) (fun e u => (e = EIO ∧ inB v 0 f = false ∧ u = ((s, m), (sT, mT), (rb, sr, mr), hh, sl, tx)) ∨ (e = EIA ∧ inB v 0 f = true ∧ ok P.1 = false ∧ ∃ ru, RXP (rb 13) (tN v) P (nI 0) ru ∧ u = ((s, m), (sT, mT), ru, hh, sl, tx))) := by
  refine Ct.of (own := RX5) (by decide) rfl hl (by intro v hv; simp only [List.mem_cons, List.not_mem_nil, or_false] at hv; first | (rcases hv with rfl | rfl | rfl | rfl | rfl | rfl <;> rfl) | (rcases hv with rfl | rfl | rfl | rfl | rfl <;> rfl) | (rcases hv with rfl | rfl | rfl | rfl <;> rfl) | (rcases hv with rfl | rfl | rfl <;> rfl) | (rcases hv with rfl | rfl <;> rfl) | (subst hv; rfl) | exact hv.elim) (Nat.le_of_ble_eq_true rfl) (fun X hxl hxk C F N => ?_)
  subst hxl hxk
  show V X (cS (xK X) h) 0 [some (.ref (h 0)), some (.int v), none] [] ((s, m), (sT, mT), (rb, sr, mr), hh, sl, tx) 0 0
  have e7 := nI_toInt (n := f) (by omega)
  refine v_iload_n C dX5_load_0 rfl ?_
  refine v_if_lt C 15 dX5_load_1 (by decide) (fun c1 => ?_) (fun c1 => ?_)
  · refine v_throw C N F thr_EIO mm_61 rfl dX5_load_15 dX5_load_18 dX5_load_19 dX5_load_21 dX5_load_24 (Nat.le_of_ble_eq_true rfl) (Nat.le_of_ble_eq_true rfl) (Nat.le_of_ble_eq_true rfl) ?_
    first
    | exact Or.inl ⟨rfl, inB_no (by omega), rfl⟩
    | exact Or.inl ⟨rfl, inB_no (by rw [e7] at c12; omega), rfl⟩
  · refine v_iload_n C dX5_load_4 rfl ?_
    refine v_aload_n C dX5_load_5 rfl ?_
    refine v_getr C fl_X5_22 or_cS_0_2 dX5_load_6 ?_
    refine v_getiQ (x := nI f) C fl_X5_55 oi_cS_25_2 (hf) dX5_load_9 ?_
    refine v_icmp_le C 25 dX5_load_12 (by decide) (fun c12 => ?_) (fun c12 => ?_)
    · have hin : inB v 0 f = true := inB_mk (by omega) (by omega)
      obtain ⟨k, -, hkf, hk31, ek⟩ := in_at (a := 0) hin
      subst ek
      have t_k : tN (nI k) = k := tN_nI hk31
      rw [t_k] at hP
      refine v_aload_n C dX5_load_25 rfl ?_
      refine v_getr C fl_X5_22 or_cS_0_2 dX5_load_26 ?_
      refine v_iload_n C dX5_load_29 rfl ?_
      refine v_callVi C (c_X3_parseP hl (rb := rb) (sr := sr) (mr := mr) (k := k) (f := f) (P := P) hf h7 (by omega) hP) ym_X3_parse ml_X5_66 emb_c_r rfl rfl rfl rfl rfl dX5_load_30 (Nat.le_of_ble_eq_true rfl) (Nat.le_of_ble_eq_true rfl) (Nat.le_of_ble_eq_true rfl) (Nat.le_of_ble_eq_true rfl) (fun _ _ hu => hu.elim) (fun r u hu => ?_)
      obtain ⟨rfl, hX⟩ := hu
      rcases u with ⟨r2, s2, m2⟩
      have hm2 : m2 = P.2.1 := hX.2.2.2
      subst m2
      refine V.stt (g2 := ((s, m), (sT, mT), (r2, s2, P.2.1), hh, sl, tx)) (rfl) ?_
      refine v_if_neB C 46 dX5_load_33 (by decide) (fun c33 => ?_) (fun c33 => ?_)
      · refine v_aload_n C dX5_load_46 rfl ?_
        refine v_getr C fl_X5_10 or_cS_0_0 dX5_load_47 ?_
        refine v_getr C fl_X5_74 or_cS_1_0 dX5_load_50 ?_
        refine v_aload_n C dX5_load_53 rfl ?_
        refine v_getr C fl_X5_22 or_cS_0_2 dX5_load_54 ?_
        refine v_getr C fl_X5_78 or_cS_25_0 dX5_load_57 ?_
        refine v_getr C fl_X5_74 or_cS_26_0 dX5_load_60 ?_
        refine v_callVv C (c_X2_takeFrom hl (h := h2at 5 30 h) (g := (m, P.2.1)) hLK) ym_X2_takeFrom ml_X5_81 emb_c_load rfl rfl rfl rfl rfl dX5_load_63 (Nat.le_of_ble_eq_true rfl) (Nat.le_of_ble_eq_true rfl) (Nat.le_of_ble_eq_true rfl) (Nat.le_of_ble_eq_true rfl) (fun _ _ hu => hu.elim) (fun r u hu => ?_)
        subst u
        refine V.stt (g2 := ((s, P.2.1), (sT, mT), (r2, s2, P.2.1), hh, sl, tx)) (rfl) ?_
        refine v_aload_n C dX5_load_66 rfl ?_
        refine v_getr C fl_X5_29 or_cS_0_3 dX5_load_67 ?_
        refine v_callVv C (c_X1_forget hl hH) ym_X1_forget ml_X5_85 emb_c_h rfl rfl rfl rfl rfl dX5_load_70 (Nat.le_of_ble_eq_true rfl) (Nat.le_of_ble_eq_true rfl) (Nat.le_of_ble_eq_true rfl) (Nat.le_of_ble_eq_true rfl) (fun _ _ hu => hu.elim) (fun r u hu => ?_)
        obtain ⟨hh2, ehh⟩ : ∃ x, x = u := ⟨u, rfl⟩
        subst ehh
        have hH2 : HS [] hh2 := hu
        refine V.stt (g2 := ((s, P.2.1), (sT, mT), (r2, s2, P.2.1), hh2, sl, tx)) (rfl) ?_
        refine v_iconst (v := nI 0) C dX5_load_73 (by decide) ?_
        refine v_istore_n C (lo2 := [some _, some _, some _]) dX5_load_74 rfl (Nat.le_of_ble_eq_true rfl) rfl ?_
        refine v_iload_n C dX5_load_75 rfl ?_
        refine v_iconst (v := nI 2) C dX5_load_76 (by decide) ?_
        refine v_icmp_ge C 95 dX5_load_77 (by decide) (fun c => absurd c (by decide)) (fun c77 => ?_)
        refine v_aload_n C dX5_load_80 rfl ?_
        refine v_getr C fl_X5_35 or_cS_0_4 dX5_load_81 ?_
        refine v_iload_n C dX5_load_84 rfl ?_
        refine v_aald C aq_cS_105 (by decide) _ ?_ rfl rfl dX5_load_85 ?_
        · omega
        refine v_callVv C (c_X2_clear hl) ym_X2_clear ml_X5_88 emb_c_slot0 rfl rfl rfl rfl rfl dX5_load_86 (Nat.le_of_ble_eq_true rfl) (Nat.le_of_ble_eq_true rfl) (Nat.le_of_ble_eq_true rfl) (Nat.le_of_ble_eq_true rfl) (fun _ _ hu => hu.elim) (fun r u hu => ?_)
        subst u
        refine V.stt (g2 := ((s, P.2.1), (sT, mT), (r2, s2, P.2.1), hh2, fU sl 0 (clrM (sl 0 7)), tx)) (rfl) ?_
        refine v_iinc (v := nI 1) C (lo2 := [some _, some _, some _]) dX5_load_89 rfl (by decide) rfl rfl ?_
        refine v_goto C 75 dX5_load_92 (by decide) ?_
        refine v_iload_n C dX5_load_75 rfl ?_
        refine v_iconst (v := nI 2) C dX5_load_76 (by decide) ?_
        refine v_icmp_ge C 95 dX5_load_77 (by decide) (fun c => absurd c (by decide)) (fun c77 => ?_)
        refine v_aload_n C dX5_load_80 rfl ?_
        refine v_getr C fl_X5_35 or_cS_0_4 dX5_load_81 ?_
        refine v_iload_n C dX5_load_84 rfl ?_
        refine v_aald C aq_cS_105 (by decide) _ ?_ rfl rfl dX5_load_85 ?_
        · omega
        refine v_callVv C (c_X2_clear hl) ym_X2_clear ml_X5_88 emb_c_slot1 rfl rfl rfl rfl rfl dX5_load_86 (Nat.le_of_ble_eq_true rfl) (Nat.le_of_ble_eq_true rfl) (Nat.le_of_ble_eq_true rfl) (Nat.le_of_ble_eq_true rfl) (fun _ _ hu => hu.elim) (fun r u hu => ?_)
        subst u
        refine V.stt (g2 := ((s, P.2.1), (sT, mT), (r2, s2, P.2.1), hh2, fU (fU sl 0 (clrM (sl 0 7))) 1 (clrM (sl 1 7)), tx)) (rfl) ?_
        refine v_iinc (v := nI 2) C (lo2 := [some _, some _, some _]) dX5_load_89 rfl (by decide) rfl rfl ?_
        refine v_goto C 75 dX5_load_92 (by decide) ?_
        refine v_iload_n C dX5_load_75 rfl ?_
        refine v_iconst (v := nI 2) C dX5_load_76 (by decide) ?_
        refine v_icmp_ge C 95 dX5_load_77 (by decide) (fun c77 => ?_) (fun c => absurd c (by decide))
        refine v_aload_n C dX5_load_95 rfl ?_
        refine v_getr C fl_X5_10 or_cS_0_0 dX5_load_96 ?_
        refine v_getr C fl_X5_74 or_cS_1_0 dX5_load_99 ?_
        refine v_geti C fl_X5_91 oi_cS_5_7 dX5_load_102 ?_
        refine v_iret C F (by first | rfl | exact bI_nar _) dX5_load_105 (Nat.le_of_ble_eq_true rfl) (Nat.le_of_ble_eq_true rfl) ?_
        exact ⟨(r2, s2, P.2.1), hh2, _, hin, c33, (by rw [t_k]; exact hX), hH2, rfl, rfl, rfl, rfl⟩
      · refine v_throw C N F thr_EIA mm_71 rfl dX5_load_36 dX5_load_39 dX5_load_40 dX5_load_42 dX5_load_45 (Nat.le_of_ble_eq_true rfl) (Nat.le_of_ble_eq_true rfl) (Nat.le_of_ble_eq_true rfl) ?_
        exact Or.inr ⟨rfl, hin, c33, (r2, s2, P.2.1), (by rw [t_k]; exact hX), rfl⟩
    · refine v_throw C N F thr_EIO mm_61 rfl dX5_load_15 dX5_load_18 dX5_load_19 dX5_load_21 dX5_load_24 (Nat.le_of_ble_eq_true rfl) (Nat.le_of_ble_eq_true rfl) (Nat.le_of_ble_eq_true rfl) ?_
      first
      | exact Or.inl ⟨rfl, inB_no (by omega), rfl⟩
      | exact Or.inl ⟨rfl, inB_no (by rw [e7] at c12; omega), rfl⟩


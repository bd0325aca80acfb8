/-- .. behind a change was remembered -/
def kaG (g : G) (c : Nat) : G := sG (sG g 0 (upd (upd (g 0) 0 (nI 0)) 5 (nI (kaN c + 1)))) 2 (kaS (g 2) (g 1) c)
theorem ka_eq {g : G} {c : Nat} : sG (sG (tg g 0) 0 (upd (tg g 0 0) 5 (nI (kaN c + 1)))) 2 (kaS (tg g 0 2) (tg g 0 1) c) = kaG g c := by
  unfold kaG tg
  rw [sG_sG]
  rfl
theorem cd_or {a b : Bool} {k : Nat} {t : List (Bool × Nat)} : cdL ((a, k) :: (b, k) :: t) = cdL ((a || b, k) :: t) := by cases a <;> rfl
def QMp (g : G) (c : Nat) (m : Mg) (u : G) : Prop := ∃ hd f, u = sG (sG (kaG g c) 5 hd) 1 f ∧ RowR m f
theorem QMp.mk1 {g u : G} {c : Nat} {m : Mg} {f : Nat → Int32} (e : u = sG (kaG g c) 1 f) (h : RowR m f) : QMp g c m u := ⟨g 5, f, by rw [e, show sG (kaG g c) 5 (g 5) = kaG g c from sG_id rfl], h⟩
set_option maxHeartbeats 16000000 in
theorem c_X6_copy {l : Launch} (hl : l.stackTraces = false) {κ : Kp} {h : Nat → Nat} {g : G} {m : Mg} {n c : Nat} {L : List Mg} {f t k : Int32} (hQ : QMm n m g) (hW : WM n c m) (hH : QHs L g) : Ct SS MM l κ yX6_copy cX6_copy 4 (some FieldType.int) 6 0 0 [.ref (h 0), .int f, .int t, .int k] (qS κ h) g ri (fun r u => (cdL [(decide (n = 0), 1), (!(refM m n f t k == 0), 2)] = 0 → r = m 6 0 ∧ QMp g L.length ((copyM n (tN f) (tN t) (tN k) m)) u) ∧ (¬ cdL [(decide (n = 0), 1), (!(refM m n f t k == 0), 2)] = 0 → u = tg g (cdL [(decide (n = 0), 1), (!(refM m n f t k == 0), 2)]))) (fun _ _ => False) := by
  refine Ct.of (own := RX6) (by decide) rfl hl (by intro v hv; simp only [List.mem_cons, List.not_mem_nil, or_false] at hv; first | (rcases hv with rfl | rfl | rfl | rfl | rfl | rfl <;> rfl) | (rcases hv with rfl | rfl | rfl | rfl | rfl <;> rfl) | (rcases hv with rfl | rfl | rfl | rfl <;> rfl) | (rcases hv with rfl | rfl | rfl <;> rfl) | (rcases hv with rfl | rfl <;> rfl) | (subst hv; rfl) | exact hv.elim) (Nat.le_of_ble_eq_true rfl) (fun X hxl hxk C F N => ?_)
  subst hxl hxk
  show V X (qS (xK X) h) 0 [some (.ref (h 0)), some (.int f), some (.int t), some (.int k)] [] g 0 0
  obtain ⟨hm, hs, h96, hRR⟩ := id hQ
  obtain ⟨-, hn7, hMf⟩ := id hW
  refine v_aload_n C dX6_copy_0 rfl ?_
  refine v_callVi C (c_X6_noMemory hl (n := n) hm) ym_X6_noMemory ml_X6_207 emb_id_qS rfl rfl rfl rfl rfl dX6_copy_1 (Nat.le_of_ble_eq_true rfl) (Nat.le_of_ble_eq_true rfl) (Nat.le_of_ble_eq_true rfl) (Nat.le_of_ble_eq_true rfl) (fun _ _ hu => hu.elim) (fun r u hu => ?_)
  obtain ⟨rfl, hu⟩ := hu
  subst u
  refine v_if_neB C 30 dX6_copy_4 (by decide) (fun c4 => ?_) (fun c4 => ?_)
  · have hz0 : n = 0 := of_decide_eq_true c4
    refine V.stt (g2 := tg g 1) (by rw [c4]; rfl) ?_
    refine v_iconst (v := nI 0) C dX6_copy_30 (by decide) ?_
    refine v_iret C F (by first | rfl | exact bI_nar _) dX6_copy_31 (Nat.le_of_ble_eq_true rfl) (Nat.le_of_ble_eq_true rfl) ?_
    first
    | (refine ⟨fun _ => ⟨?_, ?_⟩, fun z => absurd ?_ z⟩; (rw [hPR.1, Nat.add_sub_cancel]); (exact ⟨hd2, f2, rfl, by rw [e3, e4, e5]; exact hR2⟩); (simp [cdL, hn0, c27]); done)
    | (refine ⟨fun z => absurd z ?_, fun _ => ?_⟩; (simp [cdL, hz0]); (simp [cdL, hz0]); done)
    | (refine ⟨fun z => absurd z ?_, fun _ => ?_⟩; (simp [cdL, hn0, c27]); (simp [cdL, hn0, c27]); done)
  · have hn0 : ¬ n = 0 := of_decide_eq_false c4
    have hR := hRR hn0
    have hMI := hMf hn0
    obtain ⟨hI, hE, hLK, hn1, hSB, hBY, hPR⟩ := id hMI
    have hbd := band_ok hSB
    have hn := hI.1
    refine V.stt (g2 := tg g 0) (by rw [c4]; rfl) ?_
    refine v_aload_n C dX6_copy_7 rfl ?_
    refine v_aload_n C dX6_copy_8 rfl ?_
    refine v_iload_n C dX6_copy_9 rfl ?_
    refine v_iload_n C dX6_copy_10 rfl ?_
    refine v_iload_n C dX6_copy_11 rfl ?_
    refine v_callVi C (c_X6_whyNot hl (g := tg g 0) (m := m) (n := n) hR hs hn h96 hLK) ym_X6_whyNot ml_X6_135 emb_id_qS rfl rfl rfl rfl rfl dX6_copy_12 (Nat.le_of_ble_eq_true rfl) (Nat.le_of_ble_eq_true rfl) (Nat.le_of_ble_eq_true rfl) (Nat.le_of_ble_eq_true rfl) (fun _ _ hu => hu.elim) (fun r u hu => ?_)
    obtain ⟨rfl, hu⟩ := hu
    subst u
    refine V.stt (g2 := (tg g 0)) (rfl) ?_
    refine v_if_eq C 22 dX6_copy_15 (by decide) (fun c15 => ?_) (fun c15 => ?_)
    · refine v_iconst (v := nI 0) C dX6_copy_22 (by decide) ?_
      refine V.eqs (st2 := [.int (bI (!(refM m n f t k == 0))), .ref (h 0)]) ?_ (congrArg (fun z => [Value.int z, Value.ref (h 0)]) (by first | exact bI_t (by simp [c15]) | exact bI_f (by simp [c15])))
      refine v_iconst (v := nI 2) C dX6_copy_23 (by decide) ?_
      refine v_callVi C (c_X6_refuse hl (b := !(refM m n f t k == 0)) (k := 2) (by decide) (by decide)) ym_X6_refuse ml_X6_40 emb_id_qS rfl rfl rfl rfl rfl dX6_copy_24 (Nat.le_of_ble_eq_true rfl) (Nat.le_of_ble_eq_true rfl) (Nat.le_of_ble_eq_true rfl) (Nat.le_of_ble_eq_true rfl) (fun _ _ hu => hu.elim) (fun r u hu => ?_)
      obtain ⟨rfl, hu⟩ := hu
      subst u
      refine v_if_eqB C 32 dX6_copy_27 (by decide) (fun c27 => ?_) (fun c27 => ?_)
      · refine V.stt (g2 := tg g 0) (by rw [c27]; rfl) ?_
        have hrf : refM m n f t k = 0 := by simpa using c27
        obtain ⟨f1, t1, k1, ef, et, ek, b1, b2, b3⟩ := ref_at hn h96 hrf
        subst ef et ek
        have e3 : tN (nI f1) = f1 := tN_nI (by omega)
        have e4 : tN (nI t1) = t1 := tN_nI (by omega)
        have e5 : tN (nI k1) = k1 := tN_nI (by omega)
        obtain ⟨lim, hlim, hlim96⟩ := lim_ok hSB
        have hM2 := MI.copy hMI b1 b2 b3
        refine v_aload_n C dX6_copy_32 rfl ?_
        refine v_callVv C (c_X6_keepsAll hl (g := tg g 0) (c := L.length) hH.1 hH.2.1) ym_X6_keepsAll ml_X6_316 emb_id_qS rfl rfl rfl rfl rfl dX6_copy_33 (Nat.le_of_ble_eq_true rfl) (Nat.le_of_ble_eq_true rfl) (Nat.le_of_ble_eq_true rfl) (Nat.le_of_ble_eq_true rfl) (fun _ _ hu => hu.elim) (fun r u hu => ?_)
        subst u
        refine V.stt (g2 := (kaG g L.length)) (ka_eq) ?_
        refine v_aload_n C dX6_copy_36 rfl ?_
        refine v_iload_n C dX6_copy_37 rfl ?_
        refine v_iload_n C dX6_copy_38 rfl ?_
        refine v_iload_n C dX6_copy_39 rfl ?_
        refine v_callVv C (c_X6_copies hl (g := (kaG g L.length)) (m := m) (n := n) (lim := lim) hR hE hI hs hlim hlim96 b1 b2 b3) ym_X6_copies ml_X6_139 emb_id_qS rfl rfl rfl rfl rfl dX6_copy_40 (Nat.le_of_ble_eq_true rfl) (Nat.le_of_ble_eq_true rfl) (Nat.le_of_ble_eq_true rfl) (Nat.le_of_ble_eq_true rfl) (fun _ _ hu => hu.elim) (fun r u hu => ?_)
        obtain ⟨hd2, f2, hu, hR2⟩ := hu
        subst u
        refine v_aload_n C dX6_copy_43 rfl ?_
        refine v_getr C fl_X6_7 or_qS_0_3 dX6_copy_44 ?_
        refine v_sipush (v := nI 389) C dX6_copy_47 (by decide) ?_
        refine v_ialdQ (x := nI (c + 1)) C ar_qS_1 (by decide) _ (hR2.c.trans hM2.2.2.2.2.2.2.1) ?_ rfl dX6_copy_50 ?_
        · omega
        refine v_iconst (v := nI 1) C dX6_copy_51 (by decide) ?_
        first | refine v_isubN C dX6_copy_52 (by omega) ?_ | refine v_isub C dX6_copy_52 ?_
        refine v_iret C F (by first | rfl | exact bI_nar _) dX6_copy_53 (Nat.le_of_ble_eq_true rfl) (Nat.le_of_ble_eq_true rfl) ?_
        first
        | (refine ⟨fun _ => ⟨?_, ?_⟩, fun z => absurd ?_ z⟩; (rw [hPR.1, Nat.add_sub_cancel]); (exact ⟨hd2, f2, rfl, by rw [e3, e4, e5]; exact hR2⟩); (simp [cdL, hn0, c27]); done)
        | (refine ⟨fun z => absurd z ?_, fun _ => ?_⟩; (simp [cdL, hz0]); (simp [cdL, hz0]); done)
        | (refine ⟨fun z => absurd z ?_, fun _ => ?_⟩; (simp [cdL, hn0, c27]); (simp [cdL, hn0, c27]); done)
      · refine V.stt (g2 := tg g 2) (by rw [c27]; rfl) ?_
        refine v_iconst (v := nI 0) C dX6_copy_30 (by decide) ?_
        refine v_iret C F (by first | rfl | exact bI_nar _) dX6_copy_31 (Nat.le_of_ble_eq_true rfl) (Nat.le_of_ble_eq_true rfl) ?_
        first
        | (refine ⟨fun _ => ⟨?_, ?_⟩, fun z => absurd ?_ z⟩; (rw [hPR.1, Nat.add_sub_cancel]); (exact ⟨hd2, f2, rfl, by rw [e3, e4, e5]; exact hR2⟩); (simp [cdL, hn0, c27]); done)
        | (refine ⟨fun z => absurd z ?_, fun _ => ?_⟩; (simp [cdL, hz0]); (simp [cdL, hz0]); done)
        | (refine ⟨fun z => absurd z ?_, fun _ => ?_⟩; (simp [cdL, hn0, c27]); (simp [cdL, hn0, c27]); done)
    · refine v_iconst (v := nI 1) C dX6_copy_18 (by decide) ?_
      refine v_goto C 23 dX6_copy_19 (by decide) ?_
      refine V.eqs (st2 := [.int (bI (!(refM m n f t k == 0))), .ref (h 0)]) ?_ (congrArg (fun z => [Value.int z, Value.ref (h 0)]) (by first | exact bI_t (by simp [c15]) | exact bI_f (by simp [c15])))
      refine v_iconst (v := nI 2) C dX6_copy_23 (by decide) ?_
      refine v_callVi C (c_X6_refuse hl (b := !(refM m n f t k == 0)) (k := 2) (by decide) (by decide)) ym_X6_refuse ml_X6_40 emb_id_qS rfl rfl rfl rfl rfl dX6_copy_24 (Nat.le_of_ble_eq_true rfl) (Nat.le_of_ble_eq_true rfl) (Nat.le_of_ble_eq_true rfl) (Nat.le_of_ble_eq_true rfl) (fun _ _ hu => hu.elim) (fun r u hu => ?_)
      obtain ⟨rfl, hu⟩ := hu
      subst u
      refine v_if_eqB C 32 dX6_copy_27 (by decide) (fun c27 => ?_) (fun c27 => ?_)
      · refine V.stt (g2 := tg g 0) (by rw [c27]; rfl) ?_
        have hrf : refM m n f t k = 0 := by simpa using c27
        obtain ⟨f1, t1, k1, ef, et, ek, b1, b2, b3⟩ := ref_at hn h96 hrf
        subst ef et ek
        have e3 : tN (nI f1) = f1 := tN_nI (by omega)
        have e4 : tN (nI t1) = t1 := tN_nI (by omega)
        have e5 : tN (nI k1) = k1 := tN_nI (by omega)
        obtain ⟨lim, hlim, hlim96⟩ := lim_ok hSB
        have hM2 := MI.copy hMI b1 b2 b3
        refine v_aload_n C dX6_copy_32 rfl ?_
        refine v_callVv C (c_X6_keepsAll hl (g := tg g 0) (c := L.length) hH.1 hH.2.1) ym_X6_keepsAll ml_X6_316 emb_id_qS rfl rfl rfl rfl rfl dX6_copy_33 (Nat.le_of_ble_eq_true rfl) (Nat.le_of_ble_eq_true rfl) (Nat.le_of_ble_eq_true rfl) (Nat.le_of_ble_eq_true rfl) (fun _ _ hu => hu.elim) (fun r u hu => ?_)
        subst u
        refine V.stt (g2 := (kaG g L.length)) (ka_eq) ?_
        refine v_aload_n C dX6_copy_36 rfl ?_
        refine v_iload_n C dX6_copy_37 rfl ?_
        refine v_iload_n C dX6_copy_38 rfl ?_
        refine v_iload_n C dX6_copy_39 rfl ?_
        refine v_callVv C (c_X6_copies hl (g := (kaG g L.length)) (m := m) (n := n) (lim := lim) hR hE hI hs hlim hlim96 b1 b2 b3) ym_X6_copies ml_X6_139 emb_id_qS rfl rfl rfl rfl rfl dX6_copy_40 (Nat.le_of_ble_eq_true rfl) (Nat.le_of_ble_eq_true rfl) (Nat.le_of_ble_eq_true rfl) (Nat.le_of_ble_eq_true rfl) (fun _ _ hu => hu.elim) (fun r u hu => ?_)
        obtain ⟨hd2, f2, hu, hR2⟩ := hu
        subst u
        refine v_aload_n C dX6_copy_43 rfl ?_
        refine v_getr C fl_X6_7 or_qS_0_3 dX6_copy_44 ?_
        refine v_sipush (v := nI 389) C dX6_copy_47 (by decide) ?_
        refine v_ialdQ (x := nI (c + 1)) C ar_qS_1 (by decide) _ (hR2.c.trans hM2.2.2.2.2.2.2.1) ?_ rfl dX6_copy_50 ?_
        · omega
        refine v_iconst (v := nI 1) C dX6_copy_51 (by decide) ?_
        first | refine v_isubN C dX6_copy_52 (by omega) ?_ | refine v_isub C dX6_copy_52 ?_
        refine v_iret C F (by first | rfl | exact bI_nar _) dX6_copy_53 (Nat.le_of_ble_eq_true rfl) (Nat.le_of_ble_eq_true rfl) ?_
        first
        | (refine ⟨fun _ => ⟨?_, ?_⟩, fun z => absurd ?_ z⟩; (rw [hPR.1, Nat.add_sub_cancel]); (exact ⟨hd2, f2, rfl, by rw [e3, e4, e5]; exact hR2⟩); (simp [cdL, hn0, c27]); done)
        | (refine ⟨fun z => absurd z ?_, fun _ => ?_⟩; (simp [cdL, hz0]); (simp [cdL, hz0]); done)
        | (refine ⟨fun z => absurd z ?_, fun _ => ?_⟩; (simp [cdL, hn0, c27]); (simp [cdL, hn0, c27]); done)
      · refine V.stt (g2 := tg g 2) (by rw [c27]; rfl) ?_
        refine v_iconst (v := nI 0) C dX6_copy_30 (by decide) ?_
        refine v_iret C F (by first | rfl | exact bI_nar _) dX6_copy_31 (Nat.le_of_ble_eq_true rfl) (Nat.le_of_ble_eq_true rfl) ?_
        first
        | (refine ⟨fun _ => ⟨?_, ?_⟩, fun z => absurd ?_ z⟩; (rw [hPR.1, Nat.add_sub_cancel]); (exact ⟨hd2, f2, rfl, by rw [e3, e4, e5]; exact hR2⟩); (simp [cdL, hn0, c27]); done)
        | (refine ⟨fun z => absurd z ?_, fun _ => ?_⟩; (simp [cdL, hz0]); (simp [cdL, hz0]); done)
        | (refine ⟨fun z => absurd z ?_, fun _ => ?_⟩; (simp [cdL, hn0, c27]); (simp [cdL, hn0, c27]); done)
set_option maxHeartbeats 16000000 in
theorem c_X6_write {l : Launch} (hl : l.stackTraces = false) {κ : Kp} {h : Nat → Nat} {g : G} {m : Mg} {n c : Nat} {L : List Mg} {p v : Int32} (hQ : QMm n m g) (hW : WM n c m) (hH : QHs L g) : Ct SS MM l κ yX6_write cX6_write 3 (some FieldType.int) 6 0 0 [.ref (h 0), .int p, .int v] (qS κ h) g ri (fun r u => (cdL [(decide (n = 0), 1), (!plB n p, 2), (!inB v 0 255, 3), (lockB m (tN p), 3)] = 0 → r = nI (fillM n (tN p) (tN p) v m).1 ∧ QMp g L.length ((fillM n (tN p) (tN p) v m).2) u) ∧ (¬ cdL [(decide (n = 0), 1), (!plB n p, 2), (!inB v 0 255, 3), (lockB m (tN p), 3)] = 0 → u = tg g (cdL [(decide (n = 0), 1), (!plB n p, 2), (!inB v 0 255, 3), (lockB m (tN p), 3)]))) (fun _ _ => False) := by
  refine Ct.of (own := RX6) (by decide) rfl hl (by intro v hv; simp only [List.mem_cons, List.not_mem_nil, or_false] at hv; first | (rcases hv with rfl | rfl | rfl | rfl | rfl | rfl <;> rfl) | (rcases hv with rfl | rfl | rfl | rfl | rfl <;> rfl) | (rcases hv with rfl | rfl | rfl | rfl <;> rfl) | (rcases hv with rfl | rfl | rfl <;> rfl) | (rcases hv with rfl | rfl <;> rfl) | (subst hv; rfl) | exact hv.elim) (Nat.le_of_ble_eq_true rfl) (fun X hxl hxk C F N => ?_)
  subst hxl hxk
  show V X (qS (xK X) h) 0 [some (.ref (h 0)), some (.int p), some (.int v)] [] g 0 0
  obtain ⟨hm, hs, h96, hRR⟩ := id hQ
  obtain ⟨-, hn7, hMf⟩ := id hW
  refine v_aload_n C dX6_write_0 rfl ?_
  refine v_iload_n C dX6_write_1 rfl ?_
  refine v_callVi C (c_X6_noPlace hl (g := g) (m := m) (n := n) hQ) ym_X6_noPlace ml_X6_223 emb_id_qS rfl rfl rfl rfl rfl dX6_write_2 (Nat.le_of_ble_eq_true rfl) (Nat.le_of_ble_eq_true rfl) (Nat.le_of_ble_eq_true rfl) (Nat.le_of_ble_eq_true rfl) (fun _ _ hu => hu.elim) (fun r u hu => ?_)
  obtain ⟨rfl, hu⟩ := hu
  subst u
  refine v_if_neB C 46 dX6_write_5 (by decide) (fun c5 => ?_) (fun c5 => ?_)
  · skip
    refine v_iconst (v := nI 0) C dX6_write_46 (by decide) ?_
    refine v_iret C F (by first | rfl | exact bI_nar _) dX6_write_47 (Nat.le_of_ble_eq_true rfl) (Nat.le_of_ble_eq_true rfl) ?_
    first
    | (refine ⟨fun _ => ⟨?_, ?_⟩, fun z => absurd ?_ z⟩; (rw [t_j]); (exact QMp.mk1 rfl (by rw [t_j]; exact hR2)); (rw [t_j, cdL_f (decide_eq_false hn0), cdL_f (show (!plB n (nI j)) = false by rw [hp_p]; rfl), cd_or, cdL_f c43]; rfl); done)
    | (refine ⟨fun z => absurd z ?_, fun _ => ?_⟩; (exact fun z => absurd ((cd2 c5).symm.trans z) (nz_t c5)); (exact congrArg (tg g) (cd2 c5).symm); done)
    | (refine ⟨fun z => absurd z ?_, fun _ => ?_⟩; (rw [t_j, cdL_f (decide_eq_false hn0), cdL_f (show (!plB n (nI j)) = false by rw [hp_p]; rfl), cd_or, cdL_t c43]; decide); (rw [t_j, cdL_f (decide_eq_false hn0), cdL_f (show (!plB n (nI j)) = false by rw [hp_p]; rfl), cd_or, cdL_t c43]); done)
  · have hcd := nz_f c5
    obtain ⟨hd1, hd2⟩ := cd_0 (by decide) hcd
    obtain ⟨hd2, -⟩ := cd_0 (by decide) hd2
    have hn0 : ¬ n = 0 := of_decide_eq_false hd1
    have hp_p : plB n p = true := by simpa using hd2
    have hR := hRR hn0
    have hMI := hMf hn0
    obtain ⟨hI, hE, hLK, hn1, hSB, hBY, hPR⟩ := id hMI
    have hbd := band_ok hSB
    have hn := hI.1
    refine V.stt (g2 := tg g 0) (by rw [hcd]) ?_
    clear hcd hd2 hd1 c5
    obtain ⟨j, hj_j, e_j⟩ := pl_at hp_p
    subst e_j
    have t_j : tN (nI j) = j := tN_nI (by omega)
    refine v_aload_n C dX6_write_8 rfl ?_
    refine v_iload_n C dX6_write_9 rfl ?_
    refine v_iconst (v := nI 0) C dX6_write_10 (by decide) ?_
    refine v_sipush (v := nI 255) C dX6_write_11 (by decide) ?_
    refine v_callSi C (c_X6_in hl (v := v) (a := 0) (b := 255) (by decide) (by decide)) ys_X6_in rfl ml_X6_98 (emb_n fix_qS) rfl rfl rfl dX6_write_14 (Nat.le_of_ble_eq_true rfl) (Nat.le_of_ble_eq_true rfl) (Nat.le_of_ble_eq_true rfl) (Nat.le_of_ble_eq_true rfl) (fun _ _ hu => hu.elim) (fun r u hu => ?_)
    subst r
    refine v_if_eqB C 34 dX6_write_17 (by decide) (fun c17 => ?_) (fun c17 => ?_)
    · refine v_iconst (v := nI 1) C dX6_write_34 (by decide) ?_
      refine v_goto C 39 dX6_write_35 (by decide) ?_
      refine V.eqs (st2 := [.int (bI (!inB v 0 255 || lockB m j)), .ref (h 0)]) ?_ (congrArg (fun z => [Value.int z, Value.ref (h 0)]) (by first | exact bI_t (by rw [c17]; rfl) | (rw [c17]; cases hq : lockB m j <;> rw [hq] at c31 <;> first | rfl | exact absurd rfl c31 | exact absurd c31 (by decide))))
      refine v_iconst (v := nI 3) C dX6_write_39 (by decide) ?_
      refine v_callVi C (c_X6_refuse hl (b := !inB v 0 255 || lockB m j) (k := 3) (by decide) (by decide)) ym_X6_refuse ml_X6_40 emb_id_qS rfl rfl rfl rfl rfl dX6_write_40 (Nat.le_of_ble_eq_true rfl) (Nat.le_of_ble_eq_true rfl) (Nat.le_of_ble_eq_true rfl) (Nat.le_of_ble_eq_true rfl) (fun _ _ hu => hu.elim) (fun r u hu => ?_)
      obtain ⟨rfl, hu⟩ := hu
      subst u
      refine v_if_eqB C 48 dX6_write_43 (by decide) (fun c43 => ?_) (fun c43 => ?_)
      · refine V.stt (g2 := tg g 0) (by rw [c43]; rfl) ?_
        have hvb : inB v 0 255 = true ∧ lockB m j = false := by simpa using c43
        refine v_aload_n C dX6_write_48 rfl ?_
        refine v_callVv C (c_X6_keepsAll hl (g := tg g 0) (c := L.length) hH.1 hH.2.1) ym_X6_keepsAll ml_X6_316 emb_id_qS rfl rfl rfl rfl rfl dX6_write_49 (Nat.le_of_ble_eq_true rfl) (Nat.le_of_ble_eq_true rfl) (Nat.le_of_ble_eq_true rfl) (Nat.le_of_ble_eq_true rfl) (fun _ _ hu => hu.elim) (fun r u hu => ?_)
        subst u
        refine V.stt (g2 := (kaG g L.length)) (ka_eq) ?_
        refine v_aload_n C dX6_write_52 rfl ?_
        refine v_iload_n C dX6_write_53 rfl ?_
        refine v_iload_n C dX6_write_54 rfl ?_
        refine v_iload_n C dX6_write_55 rfl ?_
        refine v_callVi C (c_X6_fills hl (g := (kaG g L.length)) (m := m) (n := n) (a := j) (b := j) (v := v) hR hE hI hs (Nat.le_refl _) hj_j) ym_X6_fills ml_X6_150 emb_id_qS rfl rfl rfl rfl rfl dX6_write_56 (Nat.le_of_ble_eq_true rfl) (Nat.le_of_ble_eq_true rfl) (Nat.le_of_ble_eq_true rfl) (Nat.le_of_ble_eq_true rfl) (fun _ _ hu => hu.elim) (fun r u hu => ?_)
        obtain ⟨rfl, f2, hu, hR2⟩ := hu
        subst u
        refine v_iret C F (by first | rfl | exact bI_nar _) dX6_write_59 (Nat.le_of_ble_eq_true rfl) (Nat.le_of_ble_eq_true rfl) ?_
        first
        | (refine ⟨fun _ => ⟨?_, ?_⟩, fun z => absurd ?_ z⟩; (rw [t_j]); (exact QMp.mk1 rfl (by rw [t_j]; exact hR2)); (rw [t_j, cdL_f (decide_eq_false hn0), cdL_f (show (!plB n (nI j)) = false by rw [hp_p]; rfl), cd_or, cdL_f c43]; rfl); done)
        | (refine ⟨fun z => absurd z ?_, fun _ => ?_⟩; (exact fun z => absurd ((cd2 c5).symm.trans z) (nz_t c5)); (exact congrArg (tg g) (cd2 c5).symm); done)
        | (refine ⟨fun z => absurd z ?_, fun _ => ?_⟩; (rw [t_j, cdL_f (decide_eq_false hn0), cdL_f (show (!plB n (nI j)) = false by rw [hp_p]; rfl), cd_or, cdL_t c43]; decide); (rw [t_j, cdL_f (decide_eq_false hn0), cdL_f (show (!plB n (nI j)) = false by rw [hp_p]; rfl), cd_or, cdL_t c43]); done)
      · refine V.stt (g2 := tg g 3) (by rw [c43]; rfl) ?_
        refine v_iconst (v := nI 0) C dX6_write_46 (by decide) ?_
        refine v_iret C F (by first | rfl | exact bI_nar _) dX6_write_47 (Nat.le_of_ble_eq_true rfl) (Nat.le_of_ble_eq_true rfl) ?_
        first
        | (refine ⟨fun _ => ⟨?_, ?_⟩, fun z => absurd ?_ z⟩; (rw [t_j]); (exact QMp.mk1 rfl (by rw [t_j]; exact hR2)); (rw [t_j, cdL_f (decide_eq_false hn0), cdL_f (show (!plB n (nI j)) = false by rw [hp_p]; rfl), cd_or, cdL_f c43]; rfl); done)
        | (refine ⟨fun z => absurd z ?_, fun _ => ?_⟩; (exact fun z => absurd ((cd2 c5).symm.trans z) (nz_t c5)); (exact congrArg (tg g) (cd2 c5).symm); done)
        | (refine ⟨fun z => absurd z ?_, fun _ => ?_⟩; (rw [t_j, cdL_f (decide_eq_false hn0), cdL_f (show (!plB n (nI j)) = false by rw [hp_p]; rfl), cd_or, cdL_t c43]; decide); (rw [t_j, cdL_f (decide_eq_false hn0), cdL_f (show (!plB n (nI j)) = false by rw [hp_p]; rfl), cd_or, cdL_t c43]); done)
    · refine v_aload_n C dX6_write_20 rfl ?_
      refine v_getr C fl_X6_7 or_qS_0_3 dX6_write_21 ?_
      refine v_sipush (v := nI 288) C dX6_write_24 (by decide) ?_
      refine v_iload_n C dX6_write_27 rfl ?_
      first | refine v_iaddN C dX6_write_28 ?_ | refine v_iadd C dX6_write_28 ?_
      refine v_ialdQ (x := bI (lockB m j)) C ar_qS_1 (by decide) _ ((hR.l (by omega)).trans (LK_at hLK (by omega))) ?_ rfl dX6_write_29 ?_
      · omega
      refine v_iconst (v := nI 1) C dX6_write_30 (by decide) ?_
      refine v_icmp_ne C 38 dX6_write_31 (by decide) (fun c31 => ?_) (fun c31 => ?_)
      · refine v_iconst (v := nI 0) C dX6_write_38 (by decide) ?_
        refine V.eqs (st2 := [.int (bI (!inB v 0 255 || lockB m j)), .ref (h 0)]) ?_ (congrArg (fun z => [Value.int z, Value.ref (h 0)]) (by first | exact bI_t (by rw [c17]; rfl) | (rw [c17]; cases hq : lockB m j <;> rw [hq] at c31 <;> first | rfl | exact absurd rfl c31 | exact absurd c31 (by decide))))
        refine v_iconst (v := nI 3) C dX6_write_39 (by decide) ?_
        refine v_callVi C (c_X6_refuse hl (b := !inB v 0 255 || lockB m j) (k := 3) (by decide) (by decide)) ym_X6_refuse ml_X6_40 emb_id_qS rfl rfl rfl rfl rfl dX6_write_40 (Nat.le_of_ble_eq_true rfl) (Nat.le_of_ble_eq_true rfl) (Nat.le_of_ble_eq_true rfl) (Nat.le_of_ble_eq_true rfl) (fun _ _ hu => hu.elim) (fun r u hu => ?_)
        obtain ⟨rfl, hu⟩ := hu
        subst u
        refine v_if_eqB C 48 dX6_write_43 (by decide) (fun c43 => ?_) (fun c43 => ?_)
        · refine V.stt (g2 := tg g 0) (by rw [c43]; rfl) ?_
          have hvb : inB v 0 255 = true ∧ lockB m j = false := by simpa using c43
          refine v_aload_n C dX6_write_48 rfl ?_
          refine v_callVv C (c_X6_keepsAll hl (g := tg g 0) (c := L.length) hH.1 hH.2.1) ym_X6_keepsAll ml_X6_316 emb_id_qS rfl rfl rfl rfl rfl dX6_write_49 (Nat.le_of_ble_eq_true rfl) (Nat.le_of_ble_eq_true rfl) (Nat.le_of_ble_eq_true rfl) (Nat.le_of_ble_eq_true rfl) (fun _ _ hu => hu.elim) (fun r u hu => ?_)
          subst u
          refine V.stt (g2 := (kaG g L.length)) (ka_eq) ?_
          refine v_aload_n C dX6_write_52 rfl ?_
          refine v_iload_n C dX6_write_53 rfl ?_
          refine v_iload_n C dX6_write_54 rfl ?_
          refine v_iload_n C dX6_write_55 rfl ?_
          refine v_callVi C (c_X6_fills hl (g := (kaG g L.length)) (m := m) (n := n) (a := j) (b := j) (v := v) hR hE hI hs (Nat.le_refl _) hj_j) ym_X6_fills ml_X6_150 emb_id_qS rfl rfl rfl rfl rfl dX6_write_56 (Nat.le_of_ble_eq_true rfl) (Nat.le_of_ble_eq_true rfl) (Nat.le_of_ble_eq_true rfl) (Nat.le_of_ble_eq_true rfl) (fun _ _ hu => hu.elim) (fun r u hu => ?_)
          obtain ⟨rfl, f2, hu, hR2⟩ := hu
          subst u
          refine v_iret C F (by first | rfl | exact bI_nar _) dX6_write_59 (Nat.le_of_ble_eq_true rfl) (Nat.le_of_ble_eq_true rfl) ?_
          first
          | (refine ⟨fun _ => ⟨?_, ?_⟩, fun z => absurd ?_ z⟩; (rw [t_j]); (exact QMp.mk1 rfl (by rw [t_j]; exact hR2)); (rw [t_j, cdL_f (decide_eq_false hn0), cdL_f (show (!plB n (nI j)) = false by rw [hp_p]; rfl), cd_or, cdL_f c43]; rfl); done)
          | (refine ⟨fun z => absurd z ?_, fun _ => ?_⟩; (exact fun z => absurd ((cd2 c5).symm.trans z) (nz_t c5)); (exact congrArg (tg g) (cd2 c5).symm); done)
          | (refine ⟨fun z => absurd z ?_, fun _ => ?_⟩; (rw [t_j, cdL_f (decide_eq_false hn0), cdL_f (show (!plB n (nI j)) = false by rw [hp_p]; rfl), cd_or, cdL_t c43]; decide); (rw [t_j, cdL_f (decide_eq_false hn0), cdL_f (show (!plB n (nI j)) = false by rw [hp_p]; rfl), cd_or, cdL_t c43]); done)
        · refine V.stt (g2 := tg g 3) (by rw [c43]; rfl) ?_
          refine v_iconst (v := nI 0) C dX6_write_46 (by decide) ?_
          refine v_iret C F (by first | rfl | exact bI_nar _) dX6_write_47 (Nat.le_of_ble_eq_true rfl) (Nat.le_of_ble_eq_true rfl) ?_
          first
          | (refine ⟨fun _ => ⟨?_, ?_⟩, fun z => absurd ?_ z⟩; (rw [t_j]); (exact QMp.mk1 rfl (by rw [t_j]; exact hR2)); (rw [t_j, cdL_f (decide_eq_false hn0), cdL_f (show (!plB n (nI j)) = false by rw [hp_p]; rfl), cd_or, cdL_f c43]; rfl); done)
          | (refine ⟨fun z => absurd z ?_, fun _ => ?_⟩; (exact fun z => absurd ((cd2 c5).symm.trans z) (nz_t c5)); (exact congrArg (tg g) (cd2 c5).symm); done)
          | (refine ⟨fun z => absurd z ?_, fun _ => ?_⟩; (rw [t_j, cdL_f (decide_eq_false hn0), cdL_f (show (!plB n (nI j)) = false by rw [hp_p]; rfl), cd_or, cdL_t c43]; decide); (rw [t_j, cdL_f (decide_eq_false hn0), cdL_f (show (!plB n (nI j)) = false by rw [hp_p]; rfl), cd_or, cdL_t c43]); done)
      · refine v_iconst (v := nI 1) C dX6_write_34 (by decide) ?_
        refine v_goto C 39 dX6_write_35 (by decide) ?_
        refine V.eqs (st2 := [.int (bI (!inB v 0 255 || lockB m j)), .ref (h 0)]) ?_ (congrArg (fun z => [Value.int z, Value.ref (h 0)]) (by first | exact bI_t (by rw [c17]; rfl) | (rw [c17]; cases hq : lockB m j <;> rw [hq] at c31 <;> first | rfl | exact absurd rfl c31 | exact absurd c31 (by decide))))
        refine v_iconst (v := nI 3) C dX6_write_39 (by decide) ?_
        refine v_callVi C (c_X6_refuse hl (b := !inB v 0 255 || lockB m j) (k := 3) (by decide) (by decide)) ym_X6_refuse ml_X6_40 emb_id_qS rfl rfl rfl rfl rfl dX6_write_40 (Nat.le_of_ble_eq_true rfl) (Nat.le_of_ble_eq_true rfl) (Nat.le_of_ble_eq_true rfl) (Nat.le_of_ble_eq_true rfl) (fun _ _ hu => hu.elim) (fun r u hu => ?_)
        obtain ⟨rfl, hu⟩ := hu
        subst u
        refine v_if_eqB C 48 dX6_write_43 (by decide) (fun c43 => ?_) (fun c43 => ?_)
        · refine V.stt (g2 := tg g 0) (by rw [c43]; rfl) ?_
          have hvb : inB v 0 255 = true ∧ lockB m j = false := by simpa using c43
          refine v_aload_n C dX6_write_48 rfl ?_
          refine v_callVv C (c_X6_keepsAll hl (g := tg g 0) (c := L.length) hH.1 hH.2.1) ym_X6_keepsAll ml_X6_316 emb_id_qS rfl rfl rfl rfl rfl dX6_write_49 (Nat.le_of_ble_eq_true rfl) (Nat.le_of_ble_eq_true rfl) (Nat.le_of_ble_eq_true rfl) (Nat.le_of_ble_eq_true rfl) (fun _ _ hu => hu.elim) (fun r u hu => ?_)
          subst u
          refine V.stt (g2 := (kaG g L.length)) (ka_eq) ?_
          refine v_aload_n C dX6_write_52 rfl ?_
          refine v_iload_n C dX6_write_53 rfl ?_
          refine v_iload_n C dX6_write_54 rfl ?_
          refine v_iload_n C dX6_write_55 rfl ?_
          refine v_callVi C (c_X6_fills hl (g := (kaG g L.length)) (m := m) (n := n) (a := j) (b := j) (v := v) hR hE hI hs (Nat.le_refl _) hj_j) ym_X6_fills ml_X6_150 emb_id_qS rfl rfl rfl rfl rfl dX6_write_56 (Nat.le_of_ble_eq_true rfl) (Nat.le_of_ble_eq_true rfl) (Nat.le_of_ble_eq_true rfl) (Nat.le_of_ble_eq_true rfl) (fun _ _ hu => hu.elim) (fun r u hu => ?_)
          obtain ⟨rfl, f2, hu, hR2⟩ := hu
          subst u
          refine v_iret C F (by first | rfl | exact bI_nar _) dX6_write_59 (Nat.le_of_ble_eq_true rfl) (Nat.le_of_ble_eq_true rfl) ?_
          first
          | (refine ⟨fun _ => ⟨?_, ?_⟩, fun z => absurd ?_ z⟩; (rw [t_j]); (exact QMp.mk1 rfl (by rw [t_j]; exact hR2)); (rw [t_j, cdL_f (decide_eq_false hn0), cdL_f (show (!plB n (nI j)) = false by rw [hp_p]; rfl), cd_or, cdL_f c43]; rfl); done)
          | (refine ⟨fun z => absurd z ?_, fun _ => ?_⟩; (exact fun z => absurd ((cd2 c5).symm.trans z) (nz_t c5)); (exact congrArg (tg g) (cd2 c5).symm); done)
          | (refine ⟨fun z => absurd z ?_, fun _ => ?_⟩; (rw [t_j, cdL_f (decide_eq_false hn0), cdL_f (show (!plB n (nI j)) = false by rw [hp_p]; rfl), cd_or, cdL_t c43]; decide); (rw [t_j, cdL_f (decide_eq_false hn0), cdL_f (show (!plB n (nI j)) = false by rw [hp_p]; rfl), cd_or, cdL_t c43]); done)
        · refine V.stt (g2 := tg g 3) (by rw [c43]; rfl) ?_
          refine v_iconst (v := nI 0) C dX6_write_46 (by decide) ?_
          refine v_iret C F (by first | rfl | exact bI_nar _) dX6_write_47 (Nat.le_of_ble_eq_true rfl) (Nat.le_of_ble_eq_true rfl) ?_
          first
          | (refine ⟨fun _ => ⟨?_, ?_⟩, fun z => absurd ?_ z⟩; (rw [t_j]); (exact QMp.mk1 rfl (by rw [t_j]; exact hR2)); (rw [t_j, cdL_f (decide_eq_false hn0), cdL_f (show (!plB n (nI j)) = false by rw [hp_p]; rfl), cd_or, cdL_f c43]; rfl); done)
          | (refine ⟨fun z => absurd z ?_, fun _ => ?_⟩; (exact fun z => absurd ((cd2 c5).symm.trans z) (nz_t c5)); (exact congrArg (tg g) (cd2 c5).symm); done)
          | (refine ⟨fun z => absurd z ?_, fun _ => ?_⟩; (rw [t_j, cdL_f (decide_eq_false hn0), cdL_f (show (!plB n (nI j)) = false by rw [hp_p]; rfl), cd_or, cdL_t c43]; decide); (rw [t_j, cdL_f (decide_eq_false hn0), cdL_f (show (!plB n (nI j)) = false by rw [hp_p]; rfl), cd_or, cdL_t c43]); done)
set_option maxHeartbeats 16000000 in
theorem c_X6_fill {l : Launch} (hl : l.stackTraces = false) {κ : Kp} {h : Nat → Nat} {g : G} {m : Mg} {n c : Nat} {L : List Mg} {a b v : Int32} (hQ : QMm n m g) (hW : WM n c m) (hH : QHs L g) : Ct SS MM l κ yX6_fill cX6_fill 4 (some FieldType.int) 6 0 0 [.ref (h 0), .int a, .int b, .int v] (qS κ h) g ri (fun r u => (cdL [(decide (n = 0), 1), (!plB n a, 2), (!plB n b, 2), (decide (b.toInt < a.toInt), 3), (!inB v 0 255, 3), (anyG (lockB m) (tN a) (tN b + 1 - tN a), 3)] = 0 → r = nI (fillM n (tN a) (tN b) v m).1 ∧ QMp g L.length ((fillM n (tN a) (tN b) v m).2) u) ∧ (¬ cdL [(decide (n = 0), 1), (!plB n a, 2), (!plB n b, 2), (decide (b.toInt < a.toInt), 3), (!inB v 0 255, 3), (anyG (lockB m) (tN a) (tN b + 1 - tN a), 3)] = 0 → u = tg g (cdL [(decide (n = 0), 1), (!plB n a, 2), (!plB n b, 2), (decide (b.toInt < a.toInt), 3), (!inB v 0 255, 3), (anyG (lockB m) (tN a) (tN b + 1 - tN a), 3)]))) (fun _ _ => False) := by
  refine Ct.of (own := RX6) (by decide) rfl hl (by intro v hv; simp only [List.mem_cons, List.not_mem_nil, or_false] at hv; first | (rcases hv with rfl | rfl | rfl | rfl | rfl | rfl <;> rfl) | (rcases hv with rfl | rfl | rfl | rfl | rfl <;> rfl) | (rcases hv with rfl | rfl | rfl | rfl <;> rfl) | (rcases hv with rfl | rfl | rfl <;> rfl) | (rcases hv with rfl | rfl <;> rfl) | (subst hv; rfl) | exact hv.elim) (Nat.le_of_ble_eq_true rfl) (fun X hxl hxk C F N => ?_)
  subst hxl hxk
  show V X (qS (xK X) h) 0 [some (.ref (h 0)), some (.int a), some (.int b), some (.int v)] [] g 0 0
  obtain ⟨hm, hs, h96, hRR⟩ := id hQ
  obtain ⟨-, hn7, hMf⟩ := id hW
  refine v_aload_n C dX6_fill_0 rfl ?_
  refine v_iload_n C dX6_fill_1 rfl ?_
  refine v_iload_n C dX6_fill_2 rfl ?_
  refine v_callVi C (c_X6_noRange hl (g := g) (m := m) (n := n) hQ) ym_X6_noRange ml_X6_251 emb_id_qS rfl rfl rfl rfl rfl dX6_fill_3 (Nat.le_of_ble_eq_true rfl) (Nat.le_of_ble_eq_true rfl) (Nat.le_of_ble_eq_true rfl) (Nat.le_of_ble_eq_true rfl) (fun _ _ hu => hu.elim) (fun r u hu => ?_)
  obtain ⟨rfl, hu⟩ := hu
  subst u
  refine v_if_neB C 42 dX6_fill_6 (by decide) (fun c6 => ?_) (fun c6 => ?_)
  · skip
    refine v_iconst (v := nI 0) C dX6_fill_42 (by decide) ?_
    refine v_iret C F (by first | rfl | exact bI_nar _) dX6_fill_43 (Nat.le_of_ble_eq_true rfl) (Nat.le_of_ble_eq_true rfl) ?_
    first
    | (refine ⟨fun _ => ⟨?_, ?_⟩, fun z => absurd ?_ z⟩; (rw [t_ja, t_jb]); (exact QMp.mk1 rfl (by rw [t_ja, t_jb]; exact hR2)); (rw [t_ja, t_jb, cdL_f (decide_eq_false hn0), cdL_f (show (!plB n (nI ja)) = false by rw [hp_a]; rfl), cdL_f (show (!plB n (nI jb)) = false by rw [hp_b]; rfl), cdL_f (decide_eq_false hlt), cd_or, cdL_f c39]; rfl); done)
    | (refine ⟨fun z => absurd z ?_, fun _ => ?_⟩; (exact fun z => absurd ((cd4 c6).symm.trans z) (nz_t c6)); (exact congrArg (tg g) (cd4 c6).symm); done)
    | (refine ⟨fun z => absurd z ?_, fun _ => ?_⟩; (rw [t_ja, t_jb, cdL_f (decide_eq_false hn0), cdL_f (show (!plB n (nI ja)) = false by rw [hp_a]; rfl), cdL_f (show (!plB n (nI jb)) = false by rw [hp_b]; rfl), cdL_f (decide_eq_false hlt), cd_or, cdL_t c39]; decide); (rw [t_ja, t_jb, cdL_f (decide_eq_false hn0), cdL_f (show (!plB n (nI ja)) = false by rw [hp_a]; rfl), cdL_f (show (!plB n (nI jb)) = false by rw [hp_b]; rfl), cdL_f (decide_eq_false hlt), cd_or, cdL_t c39]); done)
  · have hcd := nz_f c6
    obtain ⟨hd1, hd2⟩ := cd_0 (by decide) hcd
    obtain ⟨hd2, hd3⟩ := cd_0 (by decide) hd2
    obtain ⟨hd3, hd4⟩ := cd_0 (by decide) hd3
    obtain ⟨hd4, -⟩ := cd_0 (by decide) hd4
    have hn0 : ¬ n = 0 := of_decide_eq_false hd1
    have hp_a : plB n a = true := by simpa using hd2
    have hp_b : plB n b = true := by simpa using hd3
    have hlt : ¬ b.toInt < a.toInt := of_decide_eq_false hd4
    have hR := hRR hn0
    have hMI := hMf hn0
    obtain ⟨hI, hE, hLK, hn1, hSB, hBY, hPR⟩ := id hMI
    have hbd := band_ok hSB
    have hn := hI.1
    refine V.stt (g2 := tg g 0) (by rw [hcd]) ?_
    clear hcd hd4 hd3 hd2 hd1 c6
    obtain ⟨ja, hj_ja, e_ja⟩ := pl_at hp_a
    subst e_ja
    obtain ⟨jb, hj_jb, e_jb⟩ := pl_at hp_b
    subst e_jb
    have t_ja : tN (nI ja) = ja := tN_nI (by omega)
    have t_jb : tN (nI jb) = jb := tN_nI (by omega)
    have hle := hlt
    rw [nI_toInt (by omega), nI_toInt (by omega)] at hle
    have hle : ja ≤ jb := by omega
    refine v_aload_n C dX6_fill_9 rfl ?_
    refine v_iload_n C dX6_fill_10 rfl ?_
    refine v_iconst (v := nI 0) C dX6_fill_11 (by decide) ?_
    refine v_sipush (v := nI 255) C dX6_fill_12 (by decide) ?_
    refine v_callSi C (c_X6_in hl (v := v) (a := 0) (b := 255) (by decide) (by decide)) ys_X6_in rfl ml_X6_98 (emb_n fix_qS) rfl rfl rfl dX6_fill_15 (Nat.le_of_ble_eq_true rfl) (Nat.le_of_ble_eq_true rfl) (Nat.le_of_ble_eq_true rfl) (Nat.le_of_ble_eq_true rfl) (fun _ _ hu => hu.elim) (fun r u hu => ?_)
    subst r
    refine v_if_eqB C 30 dX6_fill_18 (by decide) (fun c18 => ?_) (fun c18 => ?_)
    · refine v_iconst (v := nI 1) C dX6_fill_30 (by decide) ?_
      refine v_goto C 35 dX6_fill_31 (by decide) ?_
      refine V.eqs (st2 := [.int (bI (!inB v 0 255 || anyG (lockB m) ja (jb + 1 - ja))), .ref (h 0)]) ?_ (congrArg (fun z => [Value.int z, Value.ref (h 0)]) (by first | exact bI_t (by rw [c18]; rfl) | exact bI_t (by rw [c18, c27]; rfl) | exact bI_f (by rw [c18, c27]; rfl)))
      refine v_iconst (v := nI 3) C dX6_fill_35 (by decide) ?_
      refine v_callVi C (c_X6_refuse hl (b := !inB v 0 255 || anyG (lockB m) ja (jb + 1 - ja)) (k := 3) (by decide) (by decide)) ym_X6_refuse ml_X6_40 emb_id_qS rfl rfl rfl rfl rfl dX6_fill_36 (Nat.le_of_ble_eq_true rfl) (Nat.le_of_ble_eq_true rfl) (Nat.le_of_ble_eq_true rfl) (Nat.le_of_ble_eq_true rfl) (fun _ _ hu => hu.elim) (fun r u hu => ?_)
      obtain ⟨rfl, hu⟩ := hu
      subst u
      refine v_if_eqB C 44 dX6_fill_39 (by decide) (fun c39 => ?_) (fun c39 => ?_)
      · refine V.stt (g2 := tg g 0) (by rw [c39]; rfl) ?_
        refine v_aload_n C dX6_fill_44 rfl ?_
        refine v_callVv C (c_X6_keepsAll hl (g := tg g 0) (c := L.length) hH.1 hH.2.1) ym_X6_keepsAll ml_X6_316 emb_id_qS rfl rfl rfl rfl rfl dX6_fill_45 (Nat.le_of_ble_eq_true rfl) (Nat.le_of_ble_eq_true rfl) (Nat.le_of_ble_eq_true rfl) (Nat.le_of_ble_eq_true rfl) (fun _ _ hu => hu.elim) (fun r u hu => ?_)
        subst u
        refine V.stt (g2 := (kaG g L.length)) (ka_eq) ?_
        refine v_aload_n C dX6_fill_48 rfl ?_
        refine v_iload_n C dX6_fill_49 rfl ?_
        refine v_iload_n C dX6_fill_50 rfl ?_
        refine v_iload_n C dX6_fill_51 rfl ?_
        refine v_callVi C (c_X6_fills hl (g := (kaG g L.length)) (m := m) (n := n) (a := ja) (b := jb) (v := v) hR hE hI hs hle hj_jb) ym_X6_fills ml_X6_150 emb_id_qS rfl rfl rfl rfl rfl dX6_fill_52 (Nat.le_of_ble_eq_true rfl) (Nat.le_of_ble_eq_true rfl) (Nat.le_of_ble_eq_true rfl) (Nat.le_of_ble_eq_true rfl) (fun _ _ hu => hu.elim) (fun r u hu => ?_)
        obtain ⟨rfl, f2, hu, hR2⟩ := hu
        subst u
        refine v_iret C F (by first | rfl | exact bI_nar _) dX6_fill_55 (Nat.le_of_ble_eq_true rfl) (Nat.le_of_ble_eq_true rfl) ?_
        first
        | (refine ⟨fun _ => ⟨?_, ?_⟩, fun z => absurd ?_ z⟩; (rw [t_ja, t_jb]); (exact QMp.mk1 rfl (by rw [t_ja, t_jb]; exact hR2)); (rw [t_ja, t_jb, cdL_f (decide_eq_false hn0), cdL_f (show (!plB n (nI ja)) = false by rw [hp_a]; rfl), cdL_f (show (!plB n (nI jb)) = false by rw [hp_b]; rfl), cdL_f (decide_eq_false hlt), cd_or, cdL_f c39]; rfl); done)
        | (refine ⟨fun z => absurd z ?_, fun _ => ?_⟩; (exact fun z => absurd ((cd4 c6).symm.trans z) (nz_t c6)); (exact congrArg (tg g) (cd4 c6).symm); done)
        | (refine ⟨fun z => absurd z ?_, fun _ => ?_⟩; (rw [t_ja, t_jb, cdL_f (decide_eq_false hn0), cdL_f (show (!plB n (nI ja)) = false by rw [hp_a]; rfl), cdL_f (show (!plB n (nI jb)) = false by rw [hp_b]; rfl), cdL_f (decide_eq_false hlt), cd_or, cdL_t c39]; decide); (rw [t_ja, t_jb, cdL_f (decide_eq_false hn0), cdL_f (show (!plB n (nI ja)) = false by rw [hp_a]; rfl), cdL_f (show (!plB n (nI jb)) = false by rw [hp_b]; rfl), cdL_f (decide_eq_false hlt), cd_or, cdL_t c39]); done)
      · refine V.stt (g2 := tg g 3) (by rw [c39]; rfl) ?_
        refine v_iconst (v := nI 0) C dX6_fill_42 (by decide) ?_
        refine v_iret C F (by first | rfl | exact bI_nar _) dX6_fill_43 (Nat.le_of_ble_eq_true rfl) (Nat.le_of_ble_eq_true rfl) ?_
        first
        | (refine ⟨fun _ => ⟨?_, ?_⟩, fun z => absurd ?_ z⟩; (rw [t_ja, t_jb]); (exact QMp.mk1 rfl (by rw [t_ja, t_jb]; exact hR2)); (rw [t_ja, t_jb, cdL_f (decide_eq_false hn0), cdL_f (show (!plB n (nI ja)) = false by rw [hp_a]; rfl), cdL_f (show (!plB n (nI jb)) = false by rw [hp_b]; rfl), cdL_f (decide_eq_false hlt), cd_or, cdL_f c39]; rfl); done)
        | (refine ⟨fun z => absurd z ?_, fun _ => ?_⟩; (exact fun z => absurd ((cd4 c6).symm.trans z) (nz_t c6)); (exact congrArg (tg g) (cd4 c6).symm); done)
        | (refine ⟨fun z => absurd z ?_, fun _ => ?_⟩; (rw [t_ja, t_jb, cdL_f (decide_eq_false hn0), cdL_f (show (!plB n (nI ja)) = false by rw [hp_a]; rfl), cdL_f (show (!plB n (nI jb)) = false by rw [hp_b]; rfl), cdL_f (decide_eq_false hlt), cd_or, cdL_t c39]; decide); (rw [t_ja, t_jb, cdL_f (decide_eq_false hn0), cdL_f (show (!plB n (nI ja)) = false by rw [hp_a]; rfl), cdL_f (show (!plB n (nI jb)) = false by rw [hp_b]; rfl), cdL_f (decide_eq_false hlt), cd_or, cdL_t c39]); done)
    · refine v_aload_n C dX6_fill_21 rfl ?_
      refine v_iload_n C dX6_fill_22 rfl ?_
      refine v_iload_n C dX6_fill_23 rfl ?_
      refine v_callVi C (c_X6_anyLocked hl (g := tg g 0) (m := m) hR hLK (by omega) (by omega)) ym_X6_anyLocked ml_X6_146 emb_id_qS rfl rfl rfl rfl rfl dX6_fill_24 (Nat.le_of_ble_eq_true rfl) (Nat.le_of_ble_eq_true rfl) (Nat.le_of_ble_eq_true rfl) (Nat.le_of_ble_eq_true rfl) (fun _ _ hu => hu.elim) (fun r u hu => ?_)
      obtain ⟨rfl, hu⟩ := hu
      subst u
      refine V.stt (g2 := (tg g 0)) (rfl) ?_
      refine v_if_eqB C 34 dX6_fill_27 (by decide) (fun c27 => ?_) (fun c27 => ?_)
      · refine v_iconst (v := nI 0) C dX6_fill_34 (by decide) ?_
        refine V.eqs (st2 := [.int (bI (!inB v 0 255 || anyG (lockB m) ja (jb + 1 - ja))), .ref (h 0)]) ?_ (congrArg (fun z => [Value.int z, Value.ref (h 0)]) (by first | exact bI_t (by rw [c18]; rfl) | exact bI_t (by rw [c18, c27]; rfl) | exact bI_f (by rw [c18, c27]; rfl)))
        refine v_iconst (v := nI 3) C dX6_fill_35 (by decide) ?_
        refine v_callVi C (c_X6_refuse hl (b := !inB v 0 255 || anyG (lockB m) ja (jb + 1 - ja)) (k := 3) (by decide) (by decide)) ym_X6_refuse ml_X6_40 emb_id_qS rfl rfl rfl rfl rfl dX6_fill_36 (Nat.le_of_ble_eq_true rfl) (Nat.le_of_ble_eq_true rfl) (Nat.le_of_ble_eq_true rfl) (Nat.le_of_ble_eq_true rfl) (fun _ _ hu => hu.elim) (fun r u hu => ?_)
        obtain ⟨rfl, hu⟩ := hu
        subst u
        refine v_if_eqB C 44 dX6_fill_39 (by decide) (fun c39 => ?_) (fun c39 => ?_)
        · refine V.stt (g2 := tg g 0) (by rw [c39]; rfl) ?_
          refine v_aload_n C dX6_fill_44 rfl ?_
          refine v_callVv C (c_X6_keepsAll hl (g := tg g 0) (c := L.length) hH.1 hH.2.1) ym_X6_keepsAll ml_X6_316 emb_id_qS rfl rfl rfl rfl rfl dX6_fill_45 (Nat.le_of_ble_eq_true rfl) (Nat.le_of_ble_eq_true rfl) (Nat.le_of_ble_eq_true rfl) (Nat.le_of_ble_eq_true rfl) (fun _ _ hu => hu.elim) (fun r u hu => ?_)
          subst u
          refine V.stt (g2 := (kaG g L.length)) (ka_eq) ?_
          refine v_aload_n C dX6_fill_48 rfl ?_
          refine v_iload_n C dX6_fill_49 rfl ?_
          refine v_iload_n C dX6_fill_50 rfl ?_
          refine v_iload_n C dX6_fill_51 rfl ?_
          refine v_callVi C (c_X6_fills hl (g := (kaG g L.length)) (m := m) (n := n) (a := ja) (b := jb) (v := v) hR hE hI hs hle hj_jb) ym_X6_fills ml_X6_150 emb_id_qS rfl rfl rfl rfl rfl dX6_fill_52 (Nat.le_of_ble_eq_true rfl) (Nat.le_of_ble_eq_true rfl) (Nat.le_of_ble_eq_true rfl) (Nat.le_of_ble_eq_true rfl) (fun _ _ hu => hu.elim) (fun r u hu => ?_)
          obtain ⟨rfl, f2, hu, hR2⟩ := hu
          subst u
          refine v_iret C F (by first | rfl | exact bI_nar _) dX6_fill_55 (Nat.le_of_ble_eq_true rfl) (Nat.le_of_ble_eq_true rfl) ?_
          first
          | (refine ⟨fun _ => ⟨?_, ?_⟩, fun z => absurd ?_ z⟩; (rw [t_ja, t_jb]); (exact QMp.mk1 rfl (by rw [t_ja, t_jb]; exact hR2)); (rw [t_ja, t_jb, cdL_f (decide_eq_false hn0), cdL_f (show (!plB n (nI ja)) = false by rw [hp_a]; rfl), cdL_f (show (!plB n (nI jb)) = false by rw [hp_b]; rfl), cdL_f (decide_eq_false hlt), cd_or, cdL_f c39]; rfl); done)
          | (refine ⟨fun z => absurd z ?_, fun _ => ?_⟩; (exact fun z => absurd ((cd4 c6).symm.trans z) (nz_t c6)); (exact congrArg (tg g) (cd4 c6).symm); done)
          | (refine ⟨fun z => absurd z ?_, fun _ => ?_⟩; (rw [t_ja, t_jb, cdL_f (decide_eq_false hn0), cdL_f (show (!plB n (nI ja)) = false by rw [hp_a]; rfl), cdL_f (show (!plB n (nI jb)) = false by rw [hp_b]; rfl), cdL_f (decide_eq_false hlt), cd_or, cdL_t c39]; decide); (rw [t_ja, t_jb, cdL_f (decide_eq_false hn0), cdL_f (show (!plB n (nI ja)) = false by rw [hp_a]; rfl), cdL_f (show (!plB n (nI jb)) = false by rw [hp_b]; rfl), cdL_f (decide_eq_false hlt), cd_or, cdL_t c39]); done)
        · refine V.stt (g2 := tg g 3) (by rw [c39]; rfl) ?_
          refine v_iconst (v := nI 0) C dX6_fill_42 (by decide) ?_
          refine v_iret C F (by first | rfl | exact bI_nar _) dX6_fill_43 (Nat.le_of_ble_eq_true rfl) (Nat.le_of_ble_eq_true rfl) ?_
          first
          | (refine ⟨fun _ => ⟨?_, ?_⟩, fun z => absurd ?_ z⟩; (rw [t_ja, t_jb]); (exact QMp.mk1 rfl (by rw [t_ja, t_jb]; exact hR2)); (rw [t_ja, t_jb, cdL_f (decide_eq_false hn0), cdL_f (show (!plB n (nI ja)) = false by rw [hp_a]; rfl), cdL_f (show (!plB n (nI jb)) = false by rw [hp_b]; rfl), cdL_f (decide_eq_false hlt), cd_or, cdL_f c39]; rfl); done)
          | (refine ⟨fun z => absurd z ?_, fun _ => ?_⟩; (exact fun z => absurd ((cd4 c6).symm.trans z) (nz_t c6)); (exact congrArg (tg g) (cd4 c6).symm); done)
          | (refine ⟨fun z => absurd z ?_, fun _ => ?_⟩; (rw [t_ja, t_jb, cdL_f (decide_eq_false hn0), cdL_f (show (!plB n (nI ja)) = false by rw [hp_a]; rfl), cdL_f (show (!plB n (nI jb)) = false by rw [hp_b]; rfl), cdL_f (decide_eq_false hlt), cd_or, cdL_t c39]; decide); (rw [t_ja, t_jb, cdL_f (decide_eq_false hn0), cdL_f (show (!plB n (nI ja)) = false by rw [hp_a]; rfl), cdL_f (show (!plB n (nI jb)) = false by rw [hp_b]; rfl), cdL_f (decide_eq_false hlt), cd_or, cdL_t c39]); done)
      · refine v_iconst (v := nI 1) C dX6_fill_30 (by decide) ?_
        refine v_goto C 35 dX6_fill_31 (by decide) ?_
        refine V.eqs (st2 := [.int (bI (!inB v 0 255 || anyG (lockB m) ja (jb + 1 - ja))), .ref (h 0)]) ?_ (congrArg (fun z => [Value.int z, Value.ref (h 0)]) (by first | exact bI_t (by rw [c18]; rfl) | exact bI_t (by rw [c18, c27]; rfl) | exact bI_f (by rw [c18, c27]; rfl)))
        refine v_iconst (v := nI 3) C dX6_fill_35 (by decide) ?_
        refine v_callVi C (c_X6_refuse hl (b := !inB v 0 255 || anyG (lockB m) ja (jb + 1 - ja)) (k := 3) (by decide) (by decide)) ym_X6_refuse ml_X6_40 emb_id_qS rfl rfl rfl rfl rfl dX6_fill_36 (Nat.le_of_ble_eq_true rfl) (Nat.le_of_ble_eq_true rfl) (Nat.le_of_ble_eq_true rfl) (Nat.le_of_ble_eq_true rfl) (fun _ _ hu => hu.elim) (fun r u hu => ?_)
        obtain ⟨rfl, hu⟩ := hu
        subst u
        refine v_if_eqB C 44 dX6_fill_39 (by decide) (fun c39 => ?_) (fun c39 => ?_)
        · refine V.stt (g2 := tg g 0) (by rw [c39]; rfl) ?_
          refine v_aload_n C dX6_fill_44 rfl ?_
          refine v_callVv C (c_X6_keepsAll hl (g := tg g 0) (c := L.length) hH.1 hH.2.1) ym_X6_keepsAll ml_X6_316 emb_id_qS rfl rfl rfl rfl rfl dX6_fill_45 (Nat.le_of_ble_eq_true rfl) (Nat.le_of_ble_eq_true rfl) (Nat.le_of_ble_eq_true rfl) (Nat.le_of_ble_eq_true rfl) (fun _ _ hu => hu.elim) (fun r u hu => ?_)
          subst u
          refine V.stt (g2 := (kaG g L.length)) (ka_eq) ?_
          refine v_aload_n C dX6_fill_48 rfl ?_
          refine v_iload_n C dX6_fill_49 rfl ?_
          refine v_iload_n C dX6_fill_50 rfl ?_
          refine v_iload_n C dX6_fill_51 rfl ?_
          refine v_callVi C (c_X6_fills hl (g := (kaG g L.length)) (m := m) (n := n) (a := ja) (b := jb) (v := v) hR hE hI hs hle hj_jb) ym_X6_fills ml_X6_150 emb_id_qS rfl rfl rfl rfl rfl dX6_fill_52 (Nat.le_of_ble_eq_true rfl) (Nat.le_of_ble_eq_true rfl) (Nat.le_of_ble_eq_true rfl) (Nat.le_of_ble_eq_true rfl) (fun _ _ hu => hu.elim) (fun r u hu => ?_)
          obtain ⟨rfl, f2, hu, hR2⟩ := hu
          subst u
          refine v_iret C F (by first | rfl | exact bI_nar _) dX6_fill_55 (Nat.le_of_ble_eq_true rfl) (Nat.le_of_ble_eq_true rfl) ?_
          first
          | (refine ⟨fun _ => ⟨?_, ?_⟩, fun z => absurd ?_ z⟩; (rw [t_ja, t_jb]); (exact QMp.mk1 rfl (by rw [t_ja, t_jb]; exact hR2)); (rw [t_ja, t_jb, cdL_f (decide_eq_false hn0), cdL_f (show (!plB n (nI ja)) = false by rw [hp_a]; rfl), cdL_f (show (!plB n (nI jb)) = false by rw [hp_b]; rfl), cdL_f (decide_eq_false hlt), cd_or, cdL_f c39]; rfl); done)
          | (refine ⟨fun z => absurd z ?_, fun _ => ?_⟩; (exact fun z => absurd ((cd4 c6).symm.trans z) (nz_t c6)); (exact congrArg (tg g) (cd4 c6).symm); done)
          | (refine ⟨fun z => absurd z ?_, fun _ => ?_⟩; (rw [t_ja, t_jb, cdL_f (decide_eq_false hn0), cdL_f (show (!plB n (nI ja)) = false by rw [hp_a]; rfl), cdL_f (show (!plB n (nI jb)) = false by rw [hp_b]; rfl), cdL_f (decide_eq_false hlt), cd_or, cdL_t c39]; decide); (rw [t_ja, t_jb, cdL_f (decide_eq_false hn0), cdL_f (show (!plB n (nI ja)) = false by rw [hp_a]; rfl), cdL_f (show (!plB n (nI jb)) = false by rw [hp_b]; rfl), cdL_f (decide_eq_false hlt), cd_or, cdL_t c39]); done)
        · refine V.stt (g2 := tg g 3) (by rw [c39]; rfl) ?_
          refine v_iconst (v := nI 0) C dX6_fill_42 (by decide) ?_
          refine v_iret C F (by first | rfl | exact bI_nar _) dX6_fill_43 (Nat.le_of_ble_eq_true rfl) (Nat.le_of_ble_eq_true rfl) ?_
          first
          | (refine ⟨fun _ => ⟨?_, ?_⟩, fun z => absurd ?_ z⟩; (rw [t_ja, t_jb]); (exact QMp.mk1 rfl (by rw [t_ja, t_jb]; exact hR2)); (rw [t_ja, t_jb, cdL_f (decide_eq_false hn0), cdL_f (show (!plB n (nI ja)) = false by rw [hp_a]; rfl), cdL_f (show (!plB n (nI jb)) = false by rw [hp_b]; rfl), cdL_f (decide_eq_false hlt), cd_or, cdL_f c39]; rfl); done)
          | (refine ⟨fun z => absurd z ?_, fun _ => ?_⟩; (exact fun z => absurd ((cd4 c6).symm.trans z) (nz_t c6)); (exact congrArg (tg g) (cd4 c6).symm); done)
          | (refine ⟨fun z => absurd z ?_, fun _ => ?_⟩; (rw [t_ja, t_jb, cdL_f (decide_eq_false hn0), cdL_f (show (!plB n (nI ja)) = false by rw [hp_a]; rfl), cdL_f (show (!plB n (nI jb)) = false by rw [hp_b]; rfl), cdL_f (decide_eq_false hlt), cd_or, cdL_t c39]; decide); (rw [t_ja, t_jb, cdL_f (decide_eq_false hn0), cdL_f (show (!plB n (nI ja)) = false by rw [hp_a]; rfl), cdL_f (show (!plB n (nI jb)) = false by rw [hp_b]; rfl), cdL_f (decide_eq_false hlt), cd_or, cdL_t c39]); done)
theorem lk_t {m : Mg} {j : Nat} (h : bI (lockB m j) = nI 1) : lockB m j = true := by
  cases hq : lockB m j
  · rw [hq] at h; exact absurd h (by decide)
  · rfl
theorem lk_f {m : Mg} {j : Nat} (h : ¬ bI (lockB m j) = nI 1) : lockB m j = false := by
  cases hq : lockB m j
  · rfl
  · exact absurd (by rw [hq]; rfl) h
theorem lk_t2 {m : Mg} {j : Nat} (h : bI (lockB m j) = nI 1) : lockB m j = true := lk_t h
theorem lk_f2 {m : Mg} {j : Nat} (h : ¬ bI (lockB m j) = nI 1) : lockB m j = false := lk_f h
theorem cd_or3 {a b c : Bool} {k : Nat} {t : List (Bool × Nat)} : cdL ((a, k) :: (b, k) :: (c, k) :: t) = cdL ((a || (b || c), k) :: t) := by cases a <;> cases b <;> rfl
set_option maxHeartbeats 16000000 in
theorem c_X6_exchange {l : Launch} (hl : l.stackTraces = false) {κ : Kp} {h : Nat → Nat} {g : G} {m : Mg} {n c : Nat} {L : List Mg} {a b : Int32} (hQ : QMm n m g) (hW : WM n c m) (hH : QHs L g) : Ct SS MM l κ yX6_exchange cX6_exchange 3 (some FieldType.int) 5 0 0 [.ref (h 0), .int a, .int b] (qS κ h) g ri (fun r u => (cdL [(decide (n = 0), 1), (!plB n a, 2), (!plB n b, 2), (a == b, 3), (lockB m (tN a), 3), (lockB m (tN b), 3)] = 0 → r = nI (swapM n (tN a) (tN b) m).1 ∧ QMp g L.length ((swapM n (tN a) (tN b) m).2) u) ∧ (¬ cdL [(decide (n = 0), 1), (!plB n a, 2), (!plB n b, 2), (a == b, 3), (lockB m (tN a), 3), (lockB m (tN b), 3)] = 0 → u = tg g (cdL [(decide (n = 0), 1), (!plB n a, 2), (!plB n b, 2), (a == b, 3), (lockB m (tN a), 3), (lockB m (tN b), 3)]))) (fun _ _ => False) := by
  refine Ct.of (own := RX6) (by decide) rfl hl (by intro v hv; simp only [List.mem_cons, List.not_mem_nil, or_false] at hv; first | (rcases hv with rfl | rfl | rfl | rfl | rfl | rfl <;> rfl) | (rcases hv with rfl | rfl | rfl | rfl | rfl <;> rfl) | (rcases hv with rfl | rfl | rfl | rfl <;> rfl) | (rcases hv with rfl | rfl | rfl <;> rfl) | (rcases hv with rfl | rfl <;> rfl) | (subst hv; rfl) | exact hv.elim) (Nat.le_of_ble_eq_true rfl) (fun X hxl hxk C F N => ?_)
  subst hxl hxk
  show V X (qS (xK X) h) 0 [some (.ref (h 0)), some (.int a), some (.int b)] [] g 0 0
  obtain ⟨hm, hs, h96, hRR⟩ := id hQ
  obtain ⟨-, hn7, hMf⟩ := id hW
  refine v_aload_n C dX6_exchange_0 rfl ?_
  refine v_iload_n C dX6_exchange_1 rfl ?_
  refine v_callVi C (c_X6_noPlace hl (g := g) (m := m) (n := n) hQ) ym_X6_noPlace ml_X6_223 emb_id_qS rfl rfl rfl rfl rfl dX6_exchange_2 (Nat.le_of_ble_eq_true rfl) (Nat.le_of_ble_eq_true rfl) (Nat.le_of_ble_eq_true rfl) (Nat.le_of_ble_eq_true rfl) (fun _ _ hu => hu.elim) (fun r u hu => ?_)
  obtain ⟨rfl, hu⟩ := hu
  subst u
  refine v_if_neB C 75 dX6_exchange_5 (by decide) (fun c5 => ?_) (fun c5 => ?_)
  · skip
    refine v_iconst (v := nI 0) C dX6_exchange_75 (by decide) ?_
    refine v_iret C F (by first | rfl | exact bI_nar _) dX6_exchange_76 (Nat.le_of_ble_eq_true rfl) (Nat.le_of_ble_eq_true rfl) ?_
    first
    | (refine ⟨fun _ => ⟨?_, ?_⟩, fun z => absurd ?_ z⟩; (rw [t_ja, t_jb]); (exact QMp.mk1 rfl (by rw [t_ja, t_jb]; exact hR2)); (rw [t_ja, t_jb, cdL_f (decide_eq_false hn0), cdL_f (show (!plB n (nI ja)) = false by rw [hp_a]; rfl), cdL_f (show (!plB n (nI jb)) = false by rw [hp_b]; rfl), cd_or3, cdL_f c72]; rfl); done)
    | (refine ⟨fun z => absurd z ?_, fun _ => ?_⟩; (exact fun z => absurd ((cd2 c5).symm.trans z) (nz_t c5)); (exact congrArg (tg g) (cd2 c5).symm); done)
    | (refine ⟨fun z => absurd z ?_, fun _ => ?_⟩; (simp [cdL, hn0, hp_a, c26]); (simp [cdL, hn0, hp_a, c26]); done)
    | (refine ⟨fun z => absurd z ?_, fun _ => ?_⟩; (rw [t_ja, t_jb, cdL_f (decide_eq_false hn0), cdL_f (show (!plB n (nI ja)) = false by rw [hp_a]; rfl), cdL_f (show (!plB n (nI jb)) = false by rw [hp_b]; rfl), cd_or3, cdL_t c72]; decide); (rw [t_ja, t_jb, cdL_f (decide_eq_false hn0), cdL_f (show (!plB n (nI ja)) = false by rw [hp_a]; rfl), cdL_f (show (!plB n (nI jb)) = false by rw [hp_b]; rfl), cd_or3, cdL_t c72]); done)
  · have hcd := nz_f c5
    obtain ⟨hd1, hd2⟩ := cd_0 (by decide) hcd
    obtain ⟨hd2, -⟩ := cd_0 (by decide) hd2
    have hn0 : ¬ n = 0 := of_decide_eq_false hd1
    have hp_a : plB n a = true := by simpa using hd2
    have hR := hRR hn0
    have hMI := hMf hn0
    obtain ⟨hI, hE, hLK, hn1, hSB, hBY, hPR⟩ := id hMI
    have hbd := band_ok hSB
    have hn := hI.1
    refine V.stt (g2 := tg g 0) (by rw [hcd]) ?_
    clear hcd hd2 hd1 c5
    obtain ⟨ja, hj_ja, e_ja⟩ := pl_at hp_a
    subst e_ja
    have t_ja : tN (nI ja) = ja := tN_nI (by omega)
    refine v_aload_n C dX6_exchange_8 rfl ?_
    refine v_aload_n C dX6_exchange_9 rfl ?_
    refine v_iload_n C dX6_exchange_10 rfl ?_
    refine v_callVi C (c_X6_isPlace hl (g := tg g 0) hs h96) ym_X6_isPlace ml_X6_211 emb_id_qS rfl rfl rfl rfl rfl dX6_exchange_11 (Nat.le_of_ble_eq_true rfl) (Nat.le_of_ble_eq_true rfl) (Nat.le_of_ble_eq_true rfl) (Nat.le_of_ble_eq_true rfl) (fun _ _ hu => hu.elim) (fun r u hu => ?_)
    obtain ⟨rfl, hu⟩ := hu
    subst u
    refine V.stt (g2 := (tg g 0)) (rfl) ?_
    refine v_if_neB C 21 dX6_exchange_14 (by decide) (fun c14 => ?_) (fun c14 => ?_)
    · refine v_iconst (v := nI 0) C dX6_exchange_21 (by decide) ?_
      refine V.eqs (st2 := [.int (bI (!plB n b)), .ref (h 0)]) ?_ (congrArg (fun z => [Value.int z, Value.ref (h 0)]) (by first | exact bI_t (by simp [c14]) | exact bI_f (by simp [c14])))
      refine v_iconst (v := nI 2) C dX6_exchange_22 (by decide) ?_
      refine v_callVi C (c_X6_refuse hl (b := !plB n b) (k := 2) (by decide) (by decide)) ym_X6_refuse ml_X6_40 emb_id_qS rfl rfl rfl rfl rfl dX6_exchange_23 (Nat.le_of_ble_eq_true rfl) (Nat.le_of_ble_eq_true rfl) (Nat.le_of_ble_eq_true rfl) (Nat.le_of_ble_eq_true rfl) (fun _ _ hu => hu.elim) (fun r u hu => ?_)
      obtain ⟨rfl, hu⟩ := hu
      subst u
      refine v_if_neB C 75 dX6_exchange_26 (by decide) (fun c26 => ?_) (fun c26 => ?_)
      · refine V.stt (g2 := tg g 2) (by rw [c26]; rfl) ?_
        refine v_iconst (v := nI 0) C dX6_exchange_75 (by decide) ?_
        refine v_iret C F (by first | rfl | exact bI_nar _) dX6_exchange_76 (Nat.le_of_ble_eq_true rfl) (Nat.le_of_ble_eq_true rfl) ?_
        first
        | (refine ⟨fun _ => ⟨?_, ?_⟩, fun z => absurd ?_ z⟩; (rw [t_ja, t_jb]); (exact QMp.mk1 rfl (by rw [t_ja, t_jb]; exact hR2)); (rw [t_ja, t_jb, cdL_f (decide_eq_false hn0), cdL_f (show (!plB n (nI ja)) = false by rw [hp_a]; rfl), cdL_f (show (!plB n (nI jb)) = false by rw [hp_b]; rfl), cd_or3, cdL_f c72]; rfl); done)
        | (refine ⟨fun z => absurd z ?_, fun _ => ?_⟩; (exact fun z => absurd ((cd2 c5).symm.trans z) (nz_t c5)); (exact congrArg (tg g) (cd2 c5).symm); done)
        | (refine ⟨fun z => absurd z ?_, fun _ => ?_⟩; (simp [cdL, hn0, hp_a, c26]); (simp [cdL, hn0, hp_a, c26]); done)
        | (refine ⟨fun z => absurd z ?_, fun _ => ?_⟩; (rw [t_ja, t_jb, cdL_f (decide_eq_false hn0), cdL_f (show (!plB n (nI ja)) = false by rw [hp_a]; rfl), cdL_f (show (!plB n (nI jb)) = false by rw [hp_b]; rfl), cd_or3, cdL_t c72]; decide); (rw [t_ja, t_jb, cdL_f (decide_eq_false hn0), cdL_f (show (!plB n (nI ja)) = false by rw [hp_a]; rfl), cdL_f (show (!plB n (nI jb)) = false by rw [hp_b]; rfl), cd_or3, cdL_t c72]); done)
      · refine V.stt (g2 := tg g 0) (by rw [c26]; rfl) ?_
        have hp_b : plB n b = true := by simpa using c26
        obtain ⟨jb, hj_jb, e_jb⟩ := pl_at hp_b
        subst e_jb
        have t_jb : tN (nI jb) = jb := tN_nI (by omega)
        refine v_aload_n C dX6_exchange_29 rfl ?_
        refine v_iload_n C dX6_exchange_30 rfl ?_
        refine v_iload_n C dX6_exchange_31 rfl ?_
        refine v_icmp_eq C 63 dX6_exchange_32 (by decide) (fun c32 => ?_) (fun c32 => ?_)
        · refine v_iconst (v := nI 1) C dX6_exchange_63 (by decide) ?_
          refine v_goto C 68 dX6_exchange_64 (by decide) ?_
          refine V.eqs (st2 := [.int (bI ((nI ja == nI jb) || (lockB m ja || lockB m jb))), .ref (h 0)]) ?_ (congrArg (fun z => [Value.int z, Value.ref (h 0)]) (by first | exact bI_t (by rw [beq_iff_eq.mpr c32]; rfl) | exact bI_t (by rw [lk_t c46, Bool.true_or, Bool.or_true]) | exact bI_t (by rw [lk_t2 c60, Bool.or_true, Bool.or_true]) | exact bI_f (by rw [beq_eq_false_iff_ne.mpr c32, lk_f c46, lk_f2 c60]; rfl)))
          refine v_iconst (v := nI 3) C dX6_exchange_68 (by decide) ?_
          refine v_callVi C (c_X6_refuse hl (b := (nI ja == nI jb) || (lockB m ja || lockB m jb)) (k := 3) (by decide) (by decide)) ym_X6_refuse ml_X6_40 emb_id_qS rfl rfl rfl rfl rfl dX6_exchange_69 (Nat.le_of_ble_eq_true rfl) (Nat.le_of_ble_eq_true rfl) (Nat.le_of_ble_eq_true rfl) (Nat.le_of_ble_eq_true rfl) (fun _ _ hu => hu.elim) (fun r u hu => ?_)
          obtain ⟨rfl, hu⟩ := hu
          subst u
          refine v_if_eqB C 77 dX6_exchange_72 (by decide) (fun c72 => ?_) (fun c72 => ?_)
          · refine V.stt (g2 := tg g 0) (by rw [c72]; rfl) ?_
            have hne : ¬ ja = jb := fun z => by rw [z, beq_self_eq_true] at c72; cases c72
            refine v_aload_n C dX6_exchange_77 rfl ?_
            refine v_callVv C (c_X6_keepsAll hl (g := tg g 0) (c := L.length) hH.1 hH.2.1) ym_X6_keepsAll ml_X6_316 emb_id_qS rfl rfl rfl rfl rfl dX6_exchange_78 (Nat.le_of_ble_eq_true rfl) (Nat.le_of_ble_eq_true rfl) (Nat.le_of_ble_eq_true rfl) (Nat.le_of_ble_eq_true rfl) (fun _ _ hu => hu.elim) (fun r u hu => ?_)
            subst u
            refine V.stt (g2 := (kaG g L.length)) (ka_eq) ?_
            refine v_aload_n C dX6_exchange_81 rfl ?_
            refine v_iload_n C dX6_exchange_82 rfl ?_
            refine v_iload_n C dX6_exchange_83 rfl ?_
            refine v_callVi C (c_X6_swaps hl (g := (kaG g L.length)) (m := m) (n := n) (a := ja) (b := jb) hR hE hI hs hj_ja hj_jb hne) ym_X6_swaps ml_X6_319 emb_id_qS rfl rfl rfl rfl rfl dX6_exchange_84 (Nat.le_of_ble_eq_true rfl) (Nat.le_of_ble_eq_true rfl) (Nat.le_of_ble_eq_true rfl) (Nat.le_of_ble_eq_true rfl) (fun _ _ hu => hu.elim) (fun r u hu => ?_)
            obtain ⟨rfl, f2, hu, hR2⟩ := hu
            subst u
            refine v_iret C F (by first | rfl | exact bI_nar _) dX6_exchange_87 (Nat.le_of_ble_eq_true rfl) (Nat.le_of_ble_eq_true rfl) ?_
            first
            | (refine ⟨fun _ => ⟨?_, ?_⟩, fun z => absurd ?_ z⟩; (rw [t_ja, t_jb]); (exact QMp.mk1 rfl (by rw [t_ja, t_jb]; exact hR2)); (rw [t_ja, t_jb, cdL_f (decide_eq_false hn0), cdL_f (show (!plB n (nI ja)) = false by rw [hp_a]; rfl), cdL_f (show (!plB n (nI jb)) = false by rw [hp_b]; rfl), cd_or3, cdL_f c72]; rfl); done)
            | (refine ⟨fun z => absurd z ?_, fun _ => ?_⟩; (exact fun z => absurd ((cd2 c5).symm.trans z) (nz_t c5)); (exact congrArg (tg g) (cd2 c5).symm); done)
            | (refine ⟨fun z => absurd z ?_, fun _ => ?_⟩; (simp [cdL, hn0, hp_a, c26]); (simp [cdL, hn0, hp_a, c26]); done)
            | (refine ⟨fun z => absurd z ?_, fun _ => ?_⟩; (rw [t_ja, t_jb, cdL_f (decide_eq_false hn0), cdL_f (show (!plB n (nI ja)) = false by rw [hp_a]; rfl), cdL_f (show (!plB n (nI jb)) = false by rw [hp_b]; rfl), cd_or3, cdL_t c72]; decide); (rw [t_ja, t_jb, cdL_f (decide_eq_false hn0), cdL_f (show (!plB n (nI ja)) = false by rw [hp_a]; rfl), cdL_f (show (!plB n (nI jb)) = false by rw [hp_b]; rfl), cd_or3, cdL_t c72]); done)
          · refine V.stt (g2 := tg g 3) (by rw [c72]; rfl) ?_
            refine v_iconst (v := nI 0) C dX6_exchange_75 (by decide) ?_
            refine v_iret C F (by first | rfl | exact bI_nar _) dX6_exchange_76 (Nat.le_of_ble_eq_true rfl) (Nat.le_of_ble_eq_true rfl) ?_
            first
            | (refine ⟨fun _ => ⟨?_, ?_⟩, fun z => absurd ?_ z⟩; (rw [t_ja, t_jb]); (exact QMp.mk1 rfl (by rw [t_ja, t_jb]; exact hR2)); (rw [t_ja, t_jb, cdL_f (decide_eq_false hn0), cdL_f (show (!plB n (nI ja)) = false by rw [hp_a]; rfl), cdL_f (show (!plB n (nI jb)) = false by rw [hp_b]; rfl), cd_or3, cdL_f c72]; rfl); done)
            | (refine ⟨fun z => absurd z ?_, fun _ => ?_⟩; (exact fun z => absurd ((cd2 c5).symm.trans z) (nz_t c5)); (exact congrArg (tg g) (cd2 c5).symm); done)
            | (refine ⟨fun z => absurd z ?_, fun _ => ?_⟩; (simp [cdL, hn0, hp_a, c26]); (simp [cdL, hn0, hp_a, c26]); done)
            | (refine ⟨fun z => absurd z ?_, fun _ => ?_⟩; (rw [t_ja, t_jb, cdL_f (decide_eq_false hn0), cdL_f (show (!plB n (nI ja)) = false by rw [hp_a]; rfl), cdL_f (show (!plB n (nI jb)) = false by rw [hp_b]; rfl), cd_or3, cdL_t c72]; decide); (rw [t_ja, t_jb, cdL_f (decide_eq_false hn0), cdL_f (show (!plB n (nI ja)) = false by rw [hp_a]; rfl), cdL_f (show (!plB n (nI jb)) = false by rw [hp_b]; rfl), cd_or3, cdL_t c72]); done)
        · refine v_aload_n C dX6_exchange_35 rfl ?_
          refine v_getr C fl_X6_7 or_qS_0_3 dX6_exchange_36 ?_
          refine v_sipush (v := nI 288) C dX6_exchange_39 (by decide) ?_
          refine v_iload_n C dX6_exchange_42 rfl ?_
          first | refine v_iaddN C dX6_exchange_43 ?_ | refine v_iadd C dX6_exchange_43 ?_
          refine v_ialdQ (x := bI (lockB m ja)) C ar_qS_1 (by decide) _ ((hR.l (by omega)).trans (LK_at hLK (by omega))) ?_ rfl dX6_exchange_44 ?_
          · omega
          refine v_iconst (v := nI 1) C dX6_exchange_45 (by decide) ?_
          refine v_icmp_eq C 63 dX6_exchange_46 (by decide) (fun c46 => ?_) (fun c46 => ?_)
          · refine v_iconst (v := nI 1) C dX6_exchange_63 (by decide) ?_
            refine v_goto C 68 dX6_exchange_64 (by decide) ?_
            refine V.eqs (st2 := [.int (bI ((nI ja == nI jb) || (lockB m ja || lockB m jb))), .ref (h 0)]) ?_ (congrArg (fun z => [Value.int z, Value.ref (h 0)]) (by first | exact bI_t (by rw [beq_iff_eq.mpr c32]; rfl) | exact bI_t (by rw [lk_t c46, Bool.true_or, Bool.or_true]) | exact bI_t (by rw [lk_t2 c60, Bool.or_true, Bool.or_true]) | exact bI_f (by rw [beq_eq_false_iff_ne.mpr c32, lk_f c46, lk_f2 c60]; rfl)))
            refine v_iconst (v := nI 3) C dX6_exchange_68 (by decide) ?_
            refine v_callVi C (c_X6_refuse hl (b := (nI ja == nI jb) || (lockB m ja || lockB m jb)) (k := 3) (by decide) (by decide)) ym_X6_refuse ml_X6_40 emb_id_qS rfl rfl rfl rfl rfl dX6_exchange_69 (Nat.le_of_ble_eq_true rfl) (Nat.le_of_ble_eq_true rfl) (Nat.le_of_ble_eq_true rfl) (Nat.le_of_ble_eq_true rfl) (fun _ _ hu => hu.elim) (fun r u hu => ?_)
            obtain ⟨rfl, hu⟩ := hu
            subst u
            refine v_if_eqB C 77 dX6_exchange_72 (by decide) (fun c72 => ?_) (fun c72 => ?_)
            · refine V.stt (g2 := tg g 0) (by rw [c72]; rfl) ?_
              have hne : ¬ ja = jb := fun z => by rw [z, beq_self_eq_true] at c72; cases c72
              refine v_aload_n C dX6_exchange_77 rfl ?_
              refine v_callVv C (c_X6_keepsAll hl (g := tg g 0) (c := L.length) hH.1 hH.2.1) ym_X6_keepsAll ml_X6_316 emb_id_qS rfl rfl rfl rfl rfl dX6_exchange_78 (Nat.le_of_ble_eq_true rfl) (Nat.le_of_ble_eq_true rfl) (Nat.le_of_ble_eq_true rfl) (Nat.le_of_ble_eq_true rfl) (fun _ _ hu => hu.elim) (fun r u hu => ?_)
              subst u
              refine V.stt (g2 := (kaG g L.length)) (ka_eq) ?_
              refine v_aload_n C dX6_exchange_81 rfl ?_
              refine v_iload_n C dX6_exchange_82 rfl ?_
              refine v_iload_n C dX6_exchange_83 rfl ?_
              refine v_callVi C (c_X6_swaps hl (g := (kaG g L.length)) (m := m) (n := n) (a := ja) (b := jb) hR hE hI hs hj_ja hj_jb hne) ym_X6_swaps ml_X6_319 emb_id_qS rfl rfl rfl rfl rfl dX6_exchange_84 (Nat.le_of_ble_eq_true rfl) (Nat.le_of_ble_eq_true rfl) (Nat.le_of_ble_eq_true rfl) (Nat.le_of_ble_eq_true rfl) (fun _ _ hu => hu.elim) (fun r u hu => ?_)
              obtain ⟨rfl, f2, hu, hR2⟩ := hu
              subst u
              refine v_iret C F (by first | rfl | exact bI_nar _) dX6_exchange_87 (Nat.le_of_ble_eq_true rfl) (Nat.le_of_ble_eq_true rfl) ?_
              first
              | (refine ⟨fun _ => ⟨?_, ?_⟩, fun z => absurd ?_ z⟩; (rw [t_ja, t_jb]); (exact QMp.mk1 rfl (by rw [t_ja, t_jb]; exact hR2)); (rw [t_ja, t_jb, cdL_f (decide_eq_false hn0), cdL_f (show (!plB n (nI ja)) = false by rw [hp_a]; rfl), cdL_f (show (!plB n (nI jb)) = false by rw [hp_b]; rfl), cd_or3, cdL_f c72]; rfl); done)
              | (refine ⟨fun z => absurd z ?_, fun _ => ?_⟩; (exact fun z => absurd ((cd2 c5).symm.trans z) (nz_t c5)); (exact congrArg (tg g) (cd2 c5).symm); done)
              | (refine ⟨fun z => absurd z ?_, fun _ => ?_⟩; (simp [cdL, hn0, hp_a, c26]); (simp [cdL, hn0, hp_a, c26]); done)
              | (refine ⟨fun z => absurd z ?_, fun _ => ?_⟩; (rw [t_ja, t_jb, cdL_f (decide_eq_false hn0), cdL_f (show (!plB n (nI ja)) = false by rw [hp_a]; rfl), cdL_f (show (!plB n (nI jb)) = false by rw [hp_b]; rfl), cd_or3, cdL_t c72]; decide); (rw [t_ja, t_jb, cdL_f (decide_eq_false hn0), cdL_f (show (!plB n (nI ja)) = false by rw [hp_a]; rfl), cdL_f (show (!plB n (nI jb)) = false by rw [hp_b]; rfl), cd_or3, cdL_t c72]); done)
            · refine V.stt (g2 := tg g 3) (by rw [c72]; rfl) ?_
              refine v_iconst (v := nI 0) C dX6_exchange_75 (by decide) ?_
              refine v_iret C F (by first | rfl | exact bI_nar _) dX6_exchange_76 (Nat.le_of_ble_eq_true rfl) (Nat.le_of_ble_eq_true rfl) ?_
              first
              | (refine ⟨fun _ => ⟨?_, ?_⟩, fun z => absurd ?_ z⟩; (rw [t_ja, t_jb]); (exact QMp.mk1 rfl (by rw [t_ja, t_jb]; exact hR2)); (rw [t_ja, t_jb, cdL_f (decide_eq_false hn0), cdL_f (show (!plB n (nI ja)) = false by rw [hp_a]; rfl), cdL_f (show (!plB n (nI jb)) = false by rw [hp_b]; rfl), cd_or3, cdL_f c72]; rfl); done)
              | (refine ⟨fun z => absurd z ?_, fun _ => ?_⟩; (exact fun z => absurd ((cd2 c5).symm.trans z) (nz_t c5)); (exact congrArg (tg g) (cd2 c5).symm); done)
              | (refine ⟨fun z => absurd z ?_, fun _ => ?_⟩; (simp [cdL, hn0, hp_a, c26]); (simp [cdL, hn0, hp_a, c26]); done)
              | (refine ⟨fun z => absurd z ?_, fun _ => ?_⟩; (rw [t_ja, t_jb, cdL_f (decide_eq_false hn0), cdL_f (show (!plB n (nI ja)) = false by rw [hp_a]; rfl), cdL_f (show (!plB n (nI jb)) = false by rw [hp_b]; rfl), cd_or3, cdL_t c72]; decide); (rw [t_ja, t_jb, cdL_f (decide_eq_false hn0), cdL_f (show (!plB n (nI ja)) = false by rw [hp_a]; rfl), cdL_f (show (!plB n (nI jb)) = false by rw [hp_b]; rfl), cd_or3, cdL_t c72]); done)
          · refine v_aload_n C dX6_exchange_49 rfl ?_
            refine v_getr C fl_X6_7 or_qS_0_3 dX6_exchange_50 ?_
            refine v_sipush (v := nI 288) C dX6_exchange_53 (by decide) ?_
            refine v_iload_n C dX6_exchange_56 rfl ?_
            first | refine v_iaddN C dX6_exchange_57 ?_ | refine v_iadd C dX6_exchange_57 ?_
            refine v_ialdQ (x := bI (lockB m jb)) C ar_qS_1 (by decide) _ ((hR.l (by omega)).trans (LK_at hLK (by omega))) ?_ rfl dX6_exchange_58 ?_
            · omega
            refine v_iconst (v := nI 1) C dX6_exchange_59 (by decide) ?_
            refine v_icmp_ne C 67 dX6_exchange_60 (by decide) (fun c60 => ?_) (fun c60 => ?_)
            · refine v_iconst (v := nI 0) C dX6_exchange_67 (by decide) ?_
              refine V.eqs (st2 := [.int (bI ((nI ja == nI jb) || (lockB m ja || lockB m jb))), .ref (h 0)]) ?_ (congrArg (fun z => [Value.int z, Value.ref (h 0)]) (by first | exact bI_t (by rw [beq_iff_eq.mpr c32]; rfl) | exact bI_t (by rw [lk_t c46, Bool.true_or, Bool.or_true]) | exact bI_t (by rw [lk_t2 c60, Bool.or_true, Bool.or_true]) | exact bI_f (by rw [beq_eq_false_iff_ne.mpr c32, lk_f c46, lk_f2 c60]; rfl)))
              refine v_iconst (v := nI 3) C dX6_exchange_68 (by decide) ?_
              refine v_callVi C (c_X6_refuse hl (b := (nI ja == nI jb) || (lockB m ja || lockB m jb)) (k := 3) (by decide) (by decide)) ym_X6_refuse ml_X6_40 emb_id_qS rfl rfl rfl rfl rfl dX6_exchange_69 (Nat.le_of_ble_eq_true rfl) (Nat.le_of_ble_eq_true rfl) (Nat.le_of_ble_eq_true rfl) (Nat.le_of_ble_eq_true rfl) (fun _ _ hu => hu.elim) (fun r u hu => ?_)
              obtain ⟨rfl, hu⟩ := hu
              subst u
              refine v_if_eqB C 77 dX6_exchange_72 (by decide) (fun c72 => ?_) (fun c72 => ?_)
              · refine V.stt (g2 := tg g 0) (by rw [c72]; rfl) ?_
                have hne : ¬ ja = jb := fun z => by rw [z, beq_self_eq_true] at c72; cases c72
                refine v_aload_n C dX6_exchange_77 rfl ?_
                refine v_callVv C (c_X6_keepsAll hl (g := tg g 0) (c := L.length) hH.1 hH.2.1) ym_X6_keepsAll ml_X6_316 emb_id_qS rfl rfl rfl rfl rfl dX6_exchange_78 (Nat.le_of_ble_eq_true rfl) (Nat.le_of_ble_eq_true rfl) (Nat.le_of_ble_eq_true rfl) (Nat.le_of_ble_eq_true rfl) (fun _ _ hu => hu.elim) (fun r u hu => ?_)
                subst u
                refine V.stt (g2 := (kaG g L.length)) (ka_eq) ?_
                refine v_aload_n C dX6_exchange_81 rfl ?_
                refine v_iload_n C dX6_exchange_82 rfl ?_
                refine v_iload_n C dX6_exchange_83 rfl ?_
                refine v_callVi C (c_X6_swaps hl (g := (kaG g L.length)) (m := m) (n := n) (a := ja) (b := jb) hR hE hI hs hj_ja hj_jb hne) ym_X6_swaps ml_X6_319 emb_id_qS rfl rfl rfl rfl rfl dX6_exchange_84 (Nat.le_of_ble_eq_true rfl) (Nat.le_of_ble_eq_true rfl) (Nat.le_of_ble_eq_true rfl) (Nat.le_of_ble_eq_true rfl) (fun _ _ hu => hu.elim) (fun r u hu => ?_)
                obtain ⟨rfl, f2, hu, hR2⟩ := hu
                subst u
                refine v_iret C F (by first | rfl | exact bI_nar _) dX6_exchange_87 (Nat.le_of_ble_eq_true rfl) (Nat.le_of_ble_eq_true rfl) ?_
                first
                | (refine ⟨fun _ => ⟨?_, ?_⟩, fun z => absurd ?_ z⟩; (rw [t_ja, t_jb]); (exact QMp.mk1 rfl (by rw [t_ja, t_jb]; exact hR2)); (rw [t_ja, t_jb, cdL_f (decide_eq_false hn0), cdL_f (show (!plB n (nI ja)) = false by rw [hp_a]; rfl), cdL_f (show (!plB n (nI jb)) = false by rw [hp_b]; rfl), cd_or3, cdL_f c72]; rfl); done)
                | (refine ⟨fun z => absurd z ?_, fun _ => ?_⟩; (exact fun z => absurd ((cd2 c5).symm.trans z) (nz_t c5)); (exact congrArg (tg g) (cd2 c5).symm); done)
                | (refine ⟨fun z => absurd z ?_, fun _ => ?_⟩; (simp [cdL, hn0, hp_a, c26]); (simp [cdL, hn0, hp_a, c26]); done)
                | (refine ⟨fun z => absurd z ?_, fun _ => ?_⟩; (rw [t_ja, t_jb, cdL_f (decide_eq_false hn0), cdL_f (show (!plB n (nI ja)) = false by rw [hp_a]; rfl), cdL_f (show (!plB n (nI jb)) = false by rw [hp_b]; rfl), cd_or3, cdL_t c72]; decide); (rw [t_ja, t_jb, cdL_f (decide_eq_false hn0), cdL_f (show (!plB n (nI ja)) = false by rw [hp_a]; rfl), cdL_f (show (!plB n (nI jb)) = false by rw [hp_b]; rfl), cd_or3, cdL_t c72]); done)
              · refine V.stt (g2 := tg g 3) (by rw [c72]; rfl) ?_
                refine v_iconst (v := nI 0) C dX6_exchange_75 (by decide) ?_
                refine v_iret C F (by first | rfl | exact bI_nar _) dX6_exchange_76 (Nat.le_of_ble_eq_true rfl) (Nat.le_of_ble_eq_true rfl) ?_
                first
                | (refine ⟨fun _ => ⟨?_, ?_⟩, fun z => absurd ?_ z⟩; (rw [t_ja, t_jb]); (exact QMp.mk1 rfl (by rw [t_ja, t_jb]; exact hR2)); (rw [t_ja, t_jb, cdL_f (decide_eq_false hn0), cdL_f (show (!plB n (nI ja)) = false by rw [hp_a]; rfl), cdL_f (show (!plB n (nI jb)) = false by rw [hp_b]; rfl), cd_or3, cdL_f c72]; rfl); done)
                | (refine ⟨fun z => absurd z ?_, fun _ => ?_⟩; (exact fun z => absurd ((cd2 c5).symm.trans z) (nz_t c5)); (exact congrArg (tg g) (cd2 c5).symm); done)
                | (refine ⟨fun z => absurd z ?_, fun _ => ?_⟩; (simp [cdL, hn0, hp_a, c26]); (simp [cdL, hn0, hp_a, c26]); done)
                | (refine ⟨fun z => absurd z ?_, fun _ => ?_⟩; (rw [t_ja, t_jb, cdL_f (decide_eq_false hn0), cdL_f (show (!plB n (nI ja)) = false by rw [hp_a]; rfl), cdL_f (show (!plB n (nI jb)) = false by rw [hp_b]; rfl), cd_or3, cdL_t c72]; decide); (rw [t_ja, t_jb, cdL_f (decide_eq_false hn0), cdL_f (show (!plB n (nI ja)) = false by rw [hp_a]; rfl), cdL_f (show (!plB n (nI jb)) = false by rw [hp_b]; rfl), cd_or3, cdL_t c72]); done)
            · refine v_iconst (v := nI 1) C dX6_exchange_63 (by decide) ?_
              refine v_goto C 68 dX6_exchange_64 (by decide) ?_
              refine V.eqs (st2 := [.int (bI ((nI ja == nI jb) || (lockB m ja || lockB m jb))), .ref (h 0)]) ?_ (congrArg (fun z => [Value.int z, Value.ref (h 0)]) (by first | exact bI_t (by rw [beq_iff_eq.mpr c32]; rfl) | exact bI_t (by rw [lk_t c46, Bool.true_or, Bool.or_true]) | exact bI_t (by rw [lk_t2 c60, Bool.or_true, Bool.or_true]) | exact bI_f (by rw [beq_eq_false_iff_ne.mpr c32, lk_f c46, lk_f2 c60]; rfl)))
              refine v_iconst (v := nI 3) C dX6_exchange_68 (by decide) ?_
              refine v_callVi C (c_X6_refuse hl (b := (nI ja == nI jb) || (lockB m ja || lockB m jb)) (k := 3) (by decide) (by decide)) ym_X6_refuse ml_X6_40 emb_id_qS rfl rfl rfl rfl rfl dX6_exchange_69 (Nat.le_of_ble_eq_true rfl) (Nat.le_of_ble_eq_true rfl) (Nat.le_of_ble_eq_true rfl) (Nat.le_of_ble_eq_true rfl) (fun _ _ hu => hu.elim) (fun r u hu => ?_)
              obtain ⟨rfl, hu⟩ := hu
              subst u
              refine v_if_eqB C 77 dX6_exchange_72 (by decide) (fun c72 => ?_) (fun c72 => ?_)
              · refine V.stt (g2 := tg g 0) (by rw [c72]; rfl) ?_
                have hne : ¬ ja = jb := fun z => by rw [z, beq_self_eq_true] at c72; cases c72
                refine v_aload_n C dX6_exchange_77 rfl ?_
                refine v_callVv C (c_X6_keepsAll hl (g := tg g 0) (c := L.length) hH.1 hH.2.1) ym_X6_keepsAll ml_X6_316 emb_id_qS rfl rfl rfl rfl rfl dX6_exchange_78 (Nat.le_of_ble_eq_true rfl) (Nat.le_of_ble_eq_true rfl) (Nat.le_of_ble_eq_true rfl) (Nat.le_of_ble_eq_true rfl) (fun _ _ hu => hu.elim) (fun r u hu => ?_)
                subst u
                refine V.stt (g2 := (kaG g L.length)) (ka_eq) ?_
                refine v_aload_n C dX6_exchange_81 rfl ?_
                refine v_iload_n C dX6_exchange_82 rfl ?_
                refine v_iload_n C dX6_exchange_83 rfl ?_
                refine v_callVi C (c_X6_swaps hl (g := (kaG g L.length)) (m := m) (n := n) (a := ja) (b := jb) hR hE hI hs hj_ja hj_jb hne) ym_X6_swaps ml_X6_319 emb_id_qS rfl rfl rfl rfl rfl dX6_exchange_84 (Nat.le_of_ble_eq_true rfl) (Nat.le_of_ble_eq_true rfl) (Nat.le_of_ble_eq_true rfl) (Nat.le_of_ble_eq_true rfl) (fun _ _ hu => hu.elim) (fun r u hu => ?_)
                obtain ⟨rfl, f2, hu, hR2⟩ := hu
                subst u
                refine v_iret C F (by first | rfl | exact bI_nar _) dX6_exchange_87 (Nat.le_of_ble_eq_true rfl) (Nat.le_of_ble_eq_true rfl) ?_
                first
                | (refine ⟨fun _ => ⟨?_, ?_⟩, fun z => absurd ?_ z⟩; (rw [t_ja, t_jb]); (exact QMp.mk1 rfl (by rw [t_ja, t_jb]; exact hR2)); (rw [t_ja, t_jb, cdL_f (decide_eq_false hn0), cdL_f (show (!plB n (nI ja)) = false by rw [hp_a]; rfl), cdL_f (show (!plB n (nI jb)) = false by rw [hp_b]; rfl), cd_or3, cdL_f c72]; rfl); done)
                | (refine ⟨fun z => absurd z ?_, fun _ => ?_⟩; (exact fun z => absurd ((cd2 c5).symm.trans z) (nz_t c5)); (exact congrArg (tg g) (cd2 c5).symm); done)
                | (refine ⟨fun z => absurd z ?_, fun _ => ?_⟩; (simp [cdL, hn0, hp_a, c26]); (simp [cdL, hn0, hp_a, c26]); done)
                | (refine ⟨fun z => absurd z ?_, fun _ => ?_⟩; (rw [t_ja, t_jb, cdL_f (decide_eq_false hn0), cdL_f (show (!plB n (nI ja)) = false by rw [hp_a]; rfl), cdL_f (show (!plB n (nI jb)) = false by rw [hp_b]; rfl), cd_or3, cdL_t c72]; decide); (rw [t_ja, t_jb, cdL_f (decide_eq_false hn0), cdL_f (show (!plB n (nI ja)) = false by rw [hp_a]; rfl), cdL_f (show (!plB n (nI jb)) = false by rw [hp_b]; rfl), cd_or3, cdL_t c72]); done)
              · refine V.stt (g2 := tg g 3) (by rw [c72]; rfl) ?_
                refine v_iconst (v := nI 0) C dX6_exchange_75 (by decide) ?_
                refine v_iret C F (by first | rfl | exact bI_nar _) dX6_exchange_76 (Nat.le_of_ble_eq_true rfl) (Nat.le_of_ble_eq_true rfl) ?_
                first
                | (refine ⟨fun _ => ⟨?_, ?_⟩, fun z => absurd ?_ z⟩; (rw [t_ja, t_jb]); (exact QMp.mk1 rfl (by rw [t_ja, t_jb]; exact hR2)); (rw [t_ja, t_jb, cdL_f (decide_eq_false hn0), cdL_f (show (!plB n (nI ja)) = false by rw [hp_a]; rfl), cdL_f (show (!plB n (nI jb)) = false by rw [hp_b]; rfl), cd_or3, cdL_f c72]; rfl); done)
                | (refine ⟨fun z => absurd z ?_, fun _ => ?_⟩; (exact fun z => absurd ((cd2 c5).symm.trans z) (nz_t c5)); (exact congrArg (tg g) (cd2 c5).symm); done)
                | (refine ⟨fun z => absurd z ?_, fun _ => ?_⟩; (simp [cdL, hn0, hp_a, c26]); (simp [cdL, hn0, hp_a, c26]); done)
                | (refine ⟨fun z => absurd z ?_, fun _ => ?_⟩; (rw [t_ja, t_jb, cdL_f (decide_eq_false hn0), cdL_f (show (!plB n (nI ja)) = false by rw [hp_a]; rfl), cdL_f (show (!plB n (nI jb)) = false by rw [hp_b]; rfl), cd_or3, cdL_t c72]; decide); (rw [t_ja, t_jb, cdL_f (decide_eq_false hn0), cdL_f (show (!plB n (nI ja)) = false by rw [hp_a]; rfl), cdL_f (show (!plB n (nI jb)) = false by rw [hp_b]; rfl), cd_or3, cdL_t c72]); done)
    · refine v_iconst (v := nI 1) C dX6_exchange_17 (by decide) ?_
      refine v_goto C 22 dX6_exchange_18 (by decide) ?_
      refine V.eqs (st2 := [.int (bI (!plB n b)), .ref (h 0)]) ?_ (congrArg (fun z => [Value.int z, Value.ref (h 0)]) (by first | exact bI_t (by simp [c14]) | exact bI_f (by simp [c14])))
      refine v_iconst (v := nI 2) C dX6_exchange_22 (by decide) ?_
      refine v_callVi C (c_X6_refuse hl (b := !plB n b) (k := 2) (by decide) (by decide)) ym_X6_refuse ml_X6_40 emb_id_qS rfl rfl rfl rfl rfl dX6_exchange_23 (Nat.le_of_ble_eq_true rfl) (Nat.le_of_ble_eq_true rfl) (Nat.le_of_ble_eq_true rfl) (Nat.le_of_ble_eq_true rfl) (fun _ _ hu => hu.elim) (fun r u hu => ?_)
      obtain ⟨rfl, hu⟩ := hu
      subst u
      refine v_if_neB C 75 dX6_exchange_26 (by decide) (fun c26 => ?_) (fun c26 => ?_)
      · refine V.stt (g2 := tg g 2) (by rw [c26]; rfl) ?_
        refine v_iconst (v := nI 0) C dX6_exchange_75 (by decide) ?_
        refine v_iret C F (by first | rfl | exact bI_nar _) dX6_exchange_76 (Nat.le_of_ble_eq_true rfl) (Nat.le_of_ble_eq_true rfl) ?_
        first
        | (refine ⟨fun _ => ⟨?_, ?_⟩, fun z => absurd ?_ z⟩; (rw [t_ja, t_jb]); (exact QMp.mk1 rfl (by rw [t_ja, t_jb]; exact hR2)); (rw [t_ja, t_jb, cdL_f (decide_eq_false hn0), cdL_f (show (!plB n (nI ja)) = false by rw [hp_a]; rfl), cdL_f (show (!plB n (nI jb)) = false by rw [hp_b]; rfl), cd_or3, cdL_f c72]; rfl); done)
        | (refine ⟨fun z => absurd z ?_, fun _ => ?_⟩; (exact fun z => absurd ((cd2 c5).symm.trans z) (nz_t c5)); (exact congrArg (tg g) (cd2 c5).symm); done)
        | (refine ⟨fun z => absurd z ?_, fun _ => ?_⟩; (simp [cdL, hn0, hp_a, c26]); (simp [cdL, hn0, hp_a, c26]); done)
        | (refine ⟨fun z => absurd z ?_, fun _ => ?_⟩; (rw [t_ja, t_jb, cdL_f (decide_eq_false hn0), cdL_f (show (!plB n (nI ja)) = false by rw [hp_a]; rfl), cdL_f (show (!plB n (nI jb)) = false by rw [hp_b]; rfl), cd_or3, cdL_t c72]; decide); (rw [t_ja, t_jb, cdL_f (decide_eq_false hn0), cdL_f (show (!plB n (nI ja)) = false by rw [hp_a]; rfl), cdL_f (show (!plB n (nI jb)) = false by rw [hp_b]; rfl), cd_or3, cdL_t c72]); done)
      · refine V.stt (g2 := tg g 0) (by rw [c26]; rfl) ?_
        have hp_b : plB n b = true := by simpa using c26
        obtain ⟨jb, hj_jb, e_jb⟩ := pl_at hp_b
        subst e_jb
        have t_jb : tN (nI jb) = jb := tN_nI (by omega)
        refine v_aload_n C dX6_exchange_29 rfl ?_
        refine v_iload_n C dX6_exchange_30 rfl ?_
        refine v_iload_n C dX6_exchange_31 rfl ?_
        refine v_icmp_eq C 63 dX6_exchange_32 (by decide) (fun c32 => ?_) (fun c32 => ?_)
        · refine v_iconst (v := nI 1) C dX6_exchange_63 (by decide) ?_
          refine v_goto C 68 dX6_exchange_64 (by decide) ?_
          refine V.eqs (st2 := [.int (bI ((nI ja == nI jb) || (lockB m ja || lockB m jb))), .ref (h 0)]) ?_ (congrArg (fun z => [Value.int z, Value.ref (h 0)]) (by first | exact bI_t (by rw [beq_iff_eq.mpr c32]; rfl) | exact bI_t (by rw [lk_t c46, Bool.true_or, Bool.or_true]) | exact bI_t (by rw [lk_t2 c60, Bool.or_true, Bool.or_true]) | exact bI_f (by rw [beq_eq_false_iff_ne.mpr c32, lk_f c46, lk_f2 c60]; rfl)))
          refine v_iconst (v := nI 3) C dX6_exchange_68 (by decide) ?_
          refine v_callVi C (c_X6_refuse hl (b := (nI ja == nI jb) || (lockB m ja || lockB m jb)) (k := 3) (by decide) (by decide)) ym_X6_refuse ml_X6_40 emb_id_qS rfl rfl rfl rfl rfl dX6_exchange_69 (Nat.le_of_ble_eq_true rfl) (Nat.le_of_ble_eq_true rfl) (Nat.le_of_ble_eq_true rfl) (Nat.le_of_ble_eq_true rfl) (fun _ _ hu => hu.elim) (fun r u hu => ?_)
          obtain ⟨rfl, hu⟩ := hu
          subst u
          refine v_if_eqB C 77 dX6_exchange_72 (by decide) (fun c72 => ?_) (fun c72 => ?_)
          · refine V.stt (g2 := tg g 0) (by rw [c72]; rfl) ?_
            have hne : ¬ ja = jb := fun z => by rw [z, beq_self_eq_true] at c72; cases c72
            refine v_aload_n C dX6_exchange_77 rfl ?_
            refine v_callVv C (c_X6_keepsAll hl (g := tg g 0) (c := L.length) hH.1 hH.2.1) ym_X6_keepsAll ml_X6_316 emb_id_qS rfl rfl rfl rfl rfl dX6_exchange_78 (Nat.le_of_ble_eq_true rfl) (Nat.le_of_ble_eq_true rfl) (Nat.le_of_ble_eq_true rfl) (Nat.le_of_ble_eq_true rfl) (fun _ _ hu => hu.elim) (fun r u hu => ?_)
            subst u
            refine V.stt (g2 := (kaG g L.length)) (ka_eq) ?_
            refine v_aload_n C dX6_exchange_81 rfl ?_
            refine v_iload_n C dX6_exchange_82 rfl ?_
            refine v_iload_n C dX6_exchange_83 rfl ?_
            refine v_callVi C (c_X6_swaps hl (g := (kaG g L.length)) (m := m) (n := n) (a := ja) (b := jb) hR hE hI hs hj_ja hj_jb hne) ym_X6_swaps ml_X6_319 emb_id_qS rfl rfl rfl rfl rfl dX6_exchange_84 (Nat.le_of_ble_eq_true rfl) (Nat.le_of_ble_eq_true rfl) (Nat.le_of_ble_eq_true rfl) (Nat.le_of_ble_eq_true rfl) (fun _ _ hu => hu.elim) (fun r u hu => ?_)
            obtain ⟨rfl, f2, hu, hR2⟩ := hu
            subst u
            refine v_iret C F (by first | rfl | exact bI_nar _) dX6_exchange_87 (Nat.le_of_ble_eq_true rfl) (Nat.le_of_ble_eq_true rfl) ?_
            first
            | (refine ⟨fun _ => ⟨?_, ?_⟩, fun z => absurd ?_ z⟩; (rw [t_ja, t_jb]); (exact QMp.mk1 rfl (by rw [t_ja, t_jb]; exact hR2)); (rw [t_ja, t_jb, cdL_f (decide_eq_false hn0), cdL_f (show (!plB n (nI ja)) = false by rw [hp_a]; rfl), cdL_f (show (!plB n (nI jb)) = false by rw [hp_b]; rfl), cd_or3, cdL_f c72]; rfl); done)
            | (refine ⟨fun z => absurd z ?_, fun _ => ?_⟩; (exact fun z => absurd ((cd2 c5).symm.trans z) (nz_t c5)); (exact congrArg (tg g) (cd2 c5).symm); done)
            | (refine ⟨fun z => absurd z ?_, fun _ => ?_⟩; (simp [cdL, hn0, hp_a, c26]); (simp [cdL, hn0, hp_a, c26]); done)
            | (refine ⟨fun z => absurd z ?_, fun _ => ?_⟩; (rw [t_ja, t_jb, cdL_f (decide_eq_false hn0), cdL_f (show (!plB n (nI ja)) = false by rw [hp_a]; rfl), cdL_f (show (!plB n (nI jb)) = false by rw [hp_b]; rfl), cd_or3, cdL_t c72]; decide); (rw [t_ja, t_jb, cdL_f (decide_eq_false hn0), cdL_f (show (!plB n (nI ja)) = false by rw [hp_a]; rfl), cdL_f (show (!plB n (nI jb)) = false by rw [hp_b]; rfl), cd_or3, cdL_t c72]); done)
          · refine V.stt (g2 := tg g 3) (by rw [c72]; rfl) ?_
            refine v_iconst (v := nI 0) C dX6_exchange_75 (by decide) ?_
            refine v_iret C F (by first | rfl | exact bI_nar _) dX6_exchange_76 (Nat.le_of_ble_eq_true rfl) (Nat.le_of_ble_eq_true rfl) ?_
            first
            | (refine ⟨fun _ => ⟨?_, ?_⟩, fun z => absurd ?_ z⟩; (rw [t_ja, t_jb]); (exact QMp.mk1 rfl (by rw [t_ja, t_jb]; exact hR2)); (rw [t_ja, t_jb, cdL_f (decide_eq_false hn0), cdL_f (show (!plB n (nI ja)) = false by rw [hp_a]; rfl), cdL_f (show (!plB n (nI jb)) = false by rw [hp_b]; rfl), cd_or3, cdL_f c72]; rfl); done)
            | (refine ⟨fun z => absurd z ?_, fun _ => ?_⟩; (exact fun z => absurd ((cd2 c5).symm.trans z) (nz_t c5)); (exact congrArg (tg g) (cd2 c5).symm); done)
            | (refine ⟨fun z => absurd z ?_, fun _ => ?_⟩; (simp [cdL, hn0, hp_a, c26]); (simp [cdL, hn0, hp_a, c26]); done)
            | (refine ⟨fun z => absurd z ?_, fun _ => ?_⟩; (rw [t_ja, t_jb, cdL_f (decide_eq_false hn0), cdL_f (show (!plB n (nI ja)) = false by rw [hp_a]; rfl), cdL_f (show (!plB n (nI jb)) = false by rw [hp_b]; rfl), cd_or3, cdL_t c72]; decide); (rw [t_ja, t_jb, cdL_f (decide_eq_false hn0), cdL_f (show (!plB n (nI ja)) = false by rw [hp_a]; rfl), cdL_f (show (!plB n (nI jb)) = false by rw [hp_b]; rfl), cd_or3, cdL_t c72]); done)
        · refine v_aload_n C dX6_exchange_35 rfl ?_
          refine v_getr C fl_X6_7 or_qS_0_3 dX6_exchange_36 ?_
          refine v_sipush (v := nI 288) C dX6_exchange_39 (by decide) ?_
          refine v_iload_n C dX6_exchange_42 rfl ?_
          first | refine v_iaddN C dX6_exchange_43 ?_ | refine v_iadd C dX6_exchange_43 ?_
          refine v_ialdQ (x := bI (lockB m ja)) C ar_qS_1 (by decide) _ ((hR.l (by omega)).trans (LK_at hLK (by omega))) ?_ rfl dX6_exchange_44 ?_
          · omega
          refine v_iconst (v := nI 1) C dX6_exchange_45 (by decide) ?_
          refine v_icmp_eq C 63 dX6_exchange_46 (by decide) (fun c46 => ?_) (fun c46 => ?_)
          · refine v_iconst (v := nI 1) C dX6_exchange_63 (by decide) ?_
            refine v_goto C 68 dX6_exchange_64 (by decide) ?_
            refine V.eqs (st2 := [.int (bI ((nI ja == nI jb) || (lockB m ja || lockB m jb))), .ref (h 0)]) ?_ (congrArg (fun z => [Value.int z, Value.ref (h 0)]) (by first | exact bI_t (by rw [beq_iff_eq.mpr c32]; rfl) | exact bI_t (by rw [lk_t c46, Bool.true_or, Bool.or_true]) | exact bI_t (by rw [lk_t2 c60, Bool.or_true, Bool.or_true]) | exact bI_f (by rw [beq_eq_false_iff_ne.mpr c32, lk_f c46, lk_f2 c60]; rfl)))
            refine v_iconst (v := nI 3) C dX6_exchange_68 (by decide) ?_
            refine v_callVi C (c_X6_refuse hl (b := (nI ja == nI jb) || (lockB m ja || lockB m jb)) (k := 3) (by decide) (by decide)) ym_X6_refuse ml_X6_40 emb_id_qS rfl rfl rfl rfl rfl dX6_exchange_69 (Nat.le_of_ble_eq_true rfl) (Nat.le_of_ble_eq_true rfl) (Nat.le_of_ble_eq_true rfl) (Nat.le_of_ble_eq_true rfl) (fun _ _ hu => hu.elim) (fun r u hu => ?_)
            obtain ⟨rfl, hu⟩ := hu
            subst u
            refine v_if_eqB C 77 dX6_exchange_72 (by decide) (fun c72 => ?_) (fun c72 => ?_)
            · refine V.stt (g2 := tg g 0) (by rw [c72]; rfl) ?_
              have hne : ¬ ja = jb := fun z => by rw [z, beq_self_eq_true] at c72; cases c72
              refine v_aload_n C dX6_exchange_77 rfl ?_
              refine v_callVv C (c_X6_keepsAll hl (g := tg g 0) (c := L.length) hH.1 hH.2.1) ym_X6_keepsAll ml_X6_316 emb_id_qS rfl rfl rfl rfl rfl dX6_exchange_78 (Nat.le_of_ble_eq_true rfl) (Nat.le_of_ble_eq_true rfl) (Nat.le_of_ble_eq_true rfl) (Nat.le_of_ble_eq_true rfl) (fun _ _ hu => hu.elim) (fun r u hu => ?_)
              subst u
              refine V.stt (g2 := (kaG g L.length)) (ka_eq) ?_
              refine v_aload_n C dX6_exchange_81 rfl ?_
              refine v_iload_n C dX6_exchange_82 rfl ?_
              refine v_iload_n C dX6_exchange_83 rfl ?_
              refine v_callVi C (c_X6_swaps hl (g := (kaG g L.length)) (m := m) (n := n) (a := ja) (b := jb) hR hE hI hs hj_ja hj_jb hne) ym_X6_swaps ml_X6_319 emb_id_qS rfl rfl rfl rfl rfl dX6_exchange_84 (Nat.le_of_ble_eq_true rfl) (Nat.le_of_ble_eq_true rfl) (Nat.le_of_ble_eq_true rfl) (Nat.le_of_ble_eq_true rfl) (fun _ _ hu => hu.elim) (fun r u hu => ?_)
              obtain ⟨rfl, f2, hu, hR2⟩ := hu
              subst u
              refine v_iret C F (by first | rfl | exact bI_nar _) dX6_exchange_87 (Nat.le_of_ble_eq_true rfl) (Nat.le_of_ble_eq_true rfl) ?_
              first
              | (refine ⟨fun _ => ⟨?_, ?_⟩, fun z => absurd ?_ z⟩; (rw [t_ja, t_jb]); (exact QMp.mk1 rfl (by rw [t_ja, t_jb]; exact hR2)); (rw [t_ja, t_jb, cdL_f (decide_eq_false hn0), cdL_f (show (!plB n (nI ja)) = false by rw [hp_a]; rfl), cdL_f (show (!plB n (nI jb)) = false by rw [hp_b]; rfl), cd_or3, cdL_f c72]; rfl); done)
              | (refine ⟨fun z => absurd z ?_, fun _ => ?_⟩; (exact fun z => absurd ((cd2 c5).symm.trans z) (nz_t c5)); (exact congrArg (tg g) (cd2 c5).symm); done)
              | (refine ⟨fun z => absurd z ?_, fun _ => ?_⟩; (simp [cdL, hn0, hp_a, c26]); (simp [cdL, hn0, hp_a, c26]); done)
              | (refine ⟨fun z => absurd z ?_, fun _ => ?_⟩; (rw [t_ja, t_jb, cdL_f (decide_eq_false hn0), cdL_f (show (!plB n (nI ja)) = false by rw [hp_a]; rfl), cdL_f (show (!plB n (nI jb)) = false by rw [hp_b]; rfl), cd_or3, cdL_t c72]; decide); (rw [t_ja, t_jb, cdL_f (decide_eq_false hn0), cdL_f (show (!plB n (nI ja)) = false by rw [hp_a]; rfl), cdL_f (show (!plB n (nI jb)) = false by rw [hp_b]; rfl), cd_or3, cdL_t c72]); done)
            · refine V.stt (g2 := tg g 3) (by rw [c72]; rfl) ?_
              refine v_iconst (v := nI 0) C dX6_exchange_75 (by decide) ?_
              refine v_iret C F (by first | rfl | exact bI_nar _) dX6_exchange_76 (Nat.le_of_ble_eq_true rfl) (Nat.le_of_ble_eq_true rfl) ?_
              first
              | (refine ⟨fun _ => ⟨?_, ?_⟩, fun z => absurd ?_ z⟩; (rw [t_ja, t_jb]); (exact QMp.mk1 rfl (by rw [t_ja, t_jb]; exact hR2)); (rw [t_ja, t_jb, cdL_f (decide_eq_false hn0), cdL_f (show (!plB n (nI ja)) = false by rw [hp_a]; rfl), cdL_f (show (!plB n (nI jb)) = false by rw [hp_b]; rfl), cd_or3, cdL_f c72]; rfl); done)
              | (refine ⟨fun z => absurd z ?_, fun _ => ?_⟩; (exact fun z => absurd ((cd2 c5).symm.trans z) (nz_t c5)); (exact congrArg (tg g) (cd2 c5).symm); done)
              | (refine ⟨fun z => absurd z ?_, fun _ => ?_⟩; (simp [cdL, hn0, hp_a, c26]); (simp [cdL, hn0, hp_a, c26]); done)
              | (refine ⟨fun z => absurd z ?_, fun _ => ?_⟩; (rw [t_ja, t_jb, cdL_f (decide_eq_false hn0), cdL_f (show (!plB n (nI ja)) = false by rw [hp_a]; rfl), cdL_f (show (!plB n (nI jb)) = false by rw [hp_b]; rfl), cd_or3, cdL_t c72]; decide); (rw [t_ja, t_jb, cdL_f (decide_eq_false hn0), cdL_f (show (!plB n (nI ja)) = false by rw [hp_a]; rfl), cdL_f (show (!plB n (nI jb)) = false by rw [hp_b]; rfl), cd_or3, cdL_t c72]); done)
          · refine v_aload_n C dX6_exchange_49 rfl ?_
            refine v_getr C fl_X6_7 or_qS_0_3 dX6_exchange_50 ?_
            refine v_sipush (v := nI 288) C dX6_exchange_53 (by decide) ?_
            refine v_iload_n C dX6_exchange_56 rfl ?_
            first | refine v_iaddN C dX6_exchange_57 ?_ | refine v_iadd C dX6_exchange_57 ?_
            refine v_ialdQ (x := bI (lockB m jb)) C ar_qS_1 (by decide) _ ((hR.l (by omega)).trans (LK_at hLK (by omega))) ?_ rfl dX6_exchange_58 ?_
            · omega
            refine v_iconst (v := nI 1) C dX6_exchange_59 (by decide) ?_
            refine v_icmp_ne C 67 dX6_exchange_60 (by decide) (fun c60 => ?_) (fun c60 => ?_)
            · refine v_iconst (v := nI 0) C dX6_exchange_67 (by decide) ?_
              refine V.eqs (st2 := [.int (bI ((nI ja == nI jb) || (lockB m ja || lockB m jb))), .ref (h 0)]) ?_ (congrArg (fun z => [Value.int z, Value.ref (h 0)]) (by first | exact bI_t (by rw [beq_iff_eq.mpr c32]; rfl) | exact bI_t (by rw [lk_t c46, Bool.true_or, Bool.or_true]) | exact bI_t (by rw [lk_t2 c60, Bool.or_true, Bool.or_true]) | exact bI_f (by rw [beq_eq_false_iff_ne.mpr c32, lk_f c46, lk_f2 c60]; rfl)))
              refine v_iconst (v := nI 3) C dX6_exchange_68 (by decide) ?_
              refine v_callVi C (c_X6_refuse hl (b := (nI ja == nI jb) || (lockB m ja || lockB m jb)) (k := 3) (by decide) (by decide)) ym_X6_refuse ml_X6_40 emb_id_qS rfl rfl rfl rfl rfl dX6_exchange_69 (Nat.le_of_ble_eq_true rfl) (Nat.le_of_ble_eq_true rfl) (Nat.le_of_ble_eq_true rfl) (Nat.le_of_ble_eq_true rfl) (fun _ _ hu => hu.elim) (fun r u hu => ?_)
              obtain ⟨rfl, hu⟩ := hu
              subst u
              refine v_if_eqB C 77 dX6_exchange_72 (by decide) (fun c72 => ?_) (fun c72 => ?_)
              · refine V.stt (g2 := tg g 0) (by rw [c72]; rfl) ?_
                have hne : ¬ ja = jb := fun z => by rw [z, beq_self_eq_true] at c72; cases c72
                refine v_aload_n C dX6_exchange_77 rfl ?_
                refine v_callVv C (c_X6_keepsAll hl (g := tg g 0) (c := L.length) hH.1 hH.2.1) ym_X6_keepsAll ml_X6_316 emb_id_qS rfl rfl rfl rfl rfl dX6_exchange_78 (Nat.le_of_ble_eq_true rfl) (Nat.le_of_ble_eq_true rfl) (Nat.le_of_ble_eq_true rfl) (Nat.le_of_ble_eq_true rfl) (fun _ _ hu => hu.elim) (fun r u hu => ?_)
                subst u
                refine V.stt (g2 := (kaG g L.length)) (ka_eq) ?_
                refine v_aload_n C dX6_exchange_81 rfl ?_
                refine v_iload_n C dX6_exchange_82 rfl ?_
                refine v_iload_n C dX6_exchange_83 rfl ?_
                refine v_callVi C (c_X6_swaps hl (g := (kaG g L.length)) (m := m) (n := n) (a := ja) (b := jb) hR hE hI hs hj_ja hj_jb hne) ym_X6_swaps ml_X6_319 emb_id_qS rfl rfl rfl rfl rfl dX6_exchange_84 (Nat.le_of_ble_eq_true rfl) (Nat.le_of_ble_eq_true rfl) (Nat.le_of_ble_eq_true rfl) (Nat.le_of_ble_eq_true rfl) (fun _ _ hu => hu.elim) (fun r u hu => ?_)
                obtain ⟨rfl, f2, hu, hR2⟩ := hu
                subst u
                refine v_iret C F (by first | rfl | exact bI_nar _) dX6_exchange_87 (Nat.le_of_ble_eq_true rfl) (Nat.le_of_ble_eq_true rfl) ?_
                first
                | (refine ⟨fun _ => ⟨?_, ?_⟩, fun z => absurd ?_ z⟩; (rw [t_ja, t_jb]); (exact QMp.mk1 rfl (by rw [t_ja, t_jb]; exact hR2)); (rw [t_ja, t_jb, cdL_f (decide_eq_false hn0), cdL_f (show (!plB n (nI ja)) = false by rw [hp_a]; rfl), cdL_f (show (!plB n (nI jb)) = false by rw [hp_b]; rfl), cd_or3, cdL_f c72]; rfl); done)
                | (refine ⟨fun z => absurd z ?_, fun _ => ?_⟩; (exact fun z => absurd ((cd2 c5).symm.trans z) (nz_t c5)); (exact congrArg (tg g) (cd2 c5).symm); done)
                | (refine ⟨fun z => absurd z ?_, fun _ => ?_⟩; (simp [cdL, hn0, hp_a, c26]); (simp [cdL, hn0, hp_a, c26]); done)
                | (refine ⟨fun z => absurd z ?_, fun _ => ?_⟩; (rw [t_ja, t_jb, cdL_f (decide_eq_false hn0), cdL_f (show (!plB n (nI ja)) = false by rw [hp_a]; rfl), cdL_f (show (!plB n (nI jb)) = false by rw [hp_b]; rfl), cd_or3, cdL_t c72]; decide); (rw [t_ja, t_jb, cdL_f (decide_eq_false hn0), cdL_f (show (!plB n (nI ja)) = false by rw [hp_a]; rfl), cdL_f (show (!plB n (nI jb)) = false by rw [hp_b]; rfl), cd_or3, cdL_t c72]); done)
              · refine V.stt (g2 := tg g 3) (by rw [c72]; rfl) ?_
                refine v_iconst (v := nI 0) C dX6_exchange_75 (by decide) ?_
                refine v_iret C F (by first | rfl | exact bI_nar _) dX6_exchange_76 (Nat.le_of_ble_eq_true rfl) (Nat.le_of_ble_eq_true rfl) ?_
                first
                | (refine ⟨fun _ => ⟨?_, ?_⟩, fun z => absurd ?_ z⟩; (rw [t_ja, t_jb]); (exact QMp.mk1 rfl (by rw [t_ja, t_jb]; exact hR2)); (rw [t_ja, t_jb, cdL_f (decide_eq_false hn0), cdL_f (show (!plB n (nI ja)) = false by rw [hp_a]; rfl), cdL_f (show (!plB n (nI jb)) = false by rw [hp_b]; rfl), cd_or3, cdL_f c72]; rfl); done)
                | (refine ⟨fun z => absurd z ?_, fun _ => ?_⟩; (exact fun z => absurd ((cd2 c5).symm.trans z) (nz_t c5)); (exact congrArg (tg g) (cd2 c5).symm); done)
                | (refine ⟨fun z => absurd z ?_, fun _ => ?_⟩; (simp [cdL, hn0, hp_a, c26]); (simp [cdL, hn0, hp_a, c26]); done)
                | (refine ⟨fun z => absurd z ?_, fun _ => ?_⟩; (rw [t_ja, t_jb, cdL_f (decide_eq_false hn0), cdL_f (show (!plB n (nI ja)) = false by rw [hp_a]; rfl), cdL_f (show (!plB n (nI jb)) = false by rw [hp_b]; rfl), cd_or3, cdL_t c72]; decide); (rw [t_ja, t_jb, cdL_f (decide_eq_false hn0), cdL_f (show (!plB n (nI ja)) = false by rw [hp_a]; rfl), cdL_f (show (!plB n (nI jb)) = false by rw [hp_b]; rfl), cd_or3, cdL_t c72]); done)
            · refine v_iconst (v := nI 1) C dX6_exchange_63 (by decide) ?_
              refine v_goto C 68 dX6_exchange_64 (by decide) ?_
              refine V.eqs (st2 := [.int (bI ((nI ja == nI jb) || (lockB m ja || lockB m jb))), .ref (h 0)]) ?_ (congrArg (fun z => [Value.int z, Value.ref (h 0)]) (by first | exact bI_t (by rw [beq_iff_eq.mpr c32]; rfl) | exact bI_t (by rw [lk_t c46, Bool.true_or, Bool.or_true]) | exact bI_t (by rw [lk_t2 c60, Bool.or_true, Bool.or_true]) | exact bI_f (by rw [beq_eq_false_iff_ne.mpr c32, lk_f c46, lk_f2 c60]; rfl)))
              refine v_iconst (v := nI 3) C dX6_exchange_68 (by decide) ?_
              refine v_callVi C (c_X6_refuse hl (b := (nI ja == nI jb) || (lockB m ja || lockB m jb)) (k := 3) (by decide) (by decide)) ym_X6_refuse ml_X6_40 emb_id_qS rfl rfl rfl rfl rfl dX6_exchange_69 (Nat.le_of_ble_eq_true rfl) (Nat.le_of_ble_eq_true rfl) (Nat.le_of_ble_eq_true rfl) (Nat.le_of_ble_eq_true rfl) (fun _ _ hu => hu.elim) (fun r u hu => ?_)
              obtain ⟨rfl, hu⟩ := hu
              subst u
              refine v_if_eqB C 77 dX6_exchange_72 (by decide) (fun c72 => ?_) (fun c72 => ?_)
              · refine V.stt (g2 := tg g 0) (by rw [c72]; rfl) ?_
                have hne : ¬ ja = jb := fun z => by rw [z, beq_self_eq_true] at c72; cases c72
                refine v_aload_n C dX6_exchange_77 rfl ?_
                refine v_callVv C (c_X6_keepsAll hl (g := tg g 0) (c := L.length) hH.1 hH.2.1) ym_X6_keepsAll ml_X6_316 emb_id_qS rfl rfl rfl rfl rfl dX6_exchange_78 (Nat.le_of_ble_eq_true rfl) (Nat.le_of_ble_eq_true rfl) (Nat.le_of_ble_eq_true rfl) (Nat.le_of_ble_eq_true rfl) (fun _ _ hu => hu.elim) (fun r u hu => ?_)
                subst u
                refine V.stt (g2 := (kaG g L.length)) (ka_eq) ?_
                refine v_aload_n C dX6_exchange_81 rfl ?_
                refine v_iload_n C dX6_exchange_82 rfl ?_
                refine v_iload_n C dX6_exchange_83 rfl ?_
                refine v_callVi C (c_X6_swaps hl (g := (kaG g L.length)) (m := m) (n := n) (a := ja) (b := jb) hR hE hI hs hj_ja hj_jb hne) ym_X6_swaps ml_X6_319 emb_id_qS rfl rfl rfl rfl rfl dX6_exchange_84 (Nat.le_of_ble_eq_true rfl) (Nat.le_of_ble_eq_true rfl) (Nat.le_of_ble_eq_true rfl) (Nat.le_of_ble_eq_true rfl) (fun _ _ hu => hu.elim) (fun r u hu => ?_)
                obtain ⟨rfl, f2, hu, hR2⟩ := hu
                subst u
                refine v_iret C F (by first | rfl | exact bI_nar _) dX6_exchange_87 (Nat.le_of_ble_eq_true rfl) (Nat.le_of_ble_eq_true rfl) ?_
                first
                | (refine ⟨fun _ => ⟨?_, ?_⟩, fun z => absurd ?_ z⟩; (rw [t_ja, t_jb]); (exact QMp.mk1 rfl (by rw [t_ja, t_jb]; exact hR2)); (rw [t_ja, t_jb, cdL_f (decide_eq_false hn0), cdL_f (show (!plB n (nI ja)) = false by rw [hp_a]; rfl), cdL_f (show (!plB n (nI jb)) = false by rw [hp_b]; rfl), cd_or3, cdL_f c72]; rfl); done)
                | (refine ⟨fun z => absurd z ?_, fun _ => ?_⟩; (exact fun z => absurd ((cd2 c5).symm.trans z) (nz_t c5)); (exact congrArg (tg g) (cd2 c5).symm); done)
                | (refine ⟨fun z => absurd z ?_, fun _ => ?_⟩; (simp [cdL, hn0, hp_a, c26]); (simp [cdL, hn0, hp_a, c26]); done)
                | (refine ⟨fun z => absurd z ?_, fun _ => ?_⟩; (rw [t_ja, t_jb, cdL_f (decide_eq_false hn0), cdL_f (show (!plB n (nI ja)) = false by rw [hp_a]; rfl), cdL_f (show (!plB n (nI jb)) = false by rw [hp_b]; rfl), cd_or3, cdL_t c72]; decide); (rw [t_ja, t_jb, cdL_f (decide_eq_false hn0), cdL_f (show (!plB n (nI ja)) = false by rw [hp_a]; rfl), cdL_f (show (!plB n (nI jb)) = false by rw [hp_b]; rfl), cd_or3, cdL_t c72]); done)
              · refine V.stt (g2 := tg g 3) (by rw [c72]; rfl) ?_
                refine v_iconst (v := nI 0) C dX6_exchange_75 (by decide) ?_
                refine v_iret C F (by first | rfl | exact bI_nar _) dX6_exchange_76 (Nat.le_of_ble_eq_true rfl) (Nat.le_of_ble_eq_true rfl) ?_
                first
                | (refine ⟨fun _ => ⟨?_, ?_⟩, fun z => absurd ?_ z⟩; (rw [t_ja, t_jb]); (exact QMp.mk1 rfl (by rw [t_ja, t_jb]; exact hR2)); (rw [t_ja, t_jb, cdL_f (decide_eq_false hn0), cdL_f (show (!plB n (nI ja)) = false by rw [hp_a]; rfl), cdL_f (show (!plB n (nI jb)) = false by rw [hp_b]; rfl), cd_or3, cdL_f c72]; rfl); done)
                | (refine ⟨fun z => absurd z ?_, fun _ => ?_⟩; (exact fun z => absurd ((cd2 c5).symm.trans z) (nz_t c5)); (exact congrArg (tg g) (cd2 c5).symm); done)
                | (refine ⟨fun z => absurd z ?_, fun _ => ?_⟩; (simp [cdL, hn0, hp_a, c26]); (simp [cdL, hn0, hp_a, c26]); done)
                | (refine ⟨fun z => absurd z ?_, fun _ => ?_⟩; (rw [t_ja, t_jb, cdL_f (decide_eq_false hn0), cdL_f (show (!plB n (nI ja)) = false by rw [hp_a]; rfl), cdL_f (show (!plB n (nI jb)) = false by rw [hp_b]; rfl), cd_or3, cdL_t c72]; decide); (rw [t_ja, t_jb, cdL_f (decide_eq_false hn0), cdL_f (show (!plB n (nI ja)) = false by rw [hp_a]; rfl), cdL_f (show (!plB n (nI jb)) = false by rw [hp_b]; rfl), cd_or3, cdL_t c72]); done)
def lfA (f t k : Nat) : Nat := if t ≤ f then max f (t + k) else f
theorem lef_any {m : Mg} {f t k : Nat} (hk : 1 ≤ k) (hf : f < 2 ^ 30) (ht : t < 2 ^ 30) : anyG (lockB m) (lfA f t k) (lefZ f t k + 1 - lfA f t k) = (!(nI f == nI t) && anyG (lockB m) (lefA f t k) (lefZ f t k + 1 - lefA f t k)) := by
  by_cases e : f = t
  · subst e
    rw [beq_self_eq_true]
    have : lefZ f f k + 1 - lfA f f k = 0 := by
      unfold lefZ lfA
      rw [if_neg (by omega), if_pos (by omega)]
      omega
    rw [this]
    rfl
  · rw [beq_eq_false_iff_ne.mpr (fun z => e (nI_inj (by omega) (by omega) z))]
    have : lfA f t k = lefA f t k := by
      unfold lfA lefA
      by_cases c : t < f
      · rw [if_pos (by omega), if_pos c]
      · rw [if_neg (by omega), if_neg c]
    rw [this]
    rfl
theorem lf_bnd {f t k n : Nat} (hf : f + k ≤ n) (ht : t + k ≤ n) (hk : 1 ≤ k) : lefZ f t k < n ∧ lfA f t k ≤ n ∧ (f = t → lefZ f t k < lfA f t k) ∧ (¬ f = t → lfA f t k ≤ lefZ f t k ∧ lfA f t k = lefA f t k) := by
  unfold lefZ lfA lefA
  refine ⟨?_, ?_, fun z => ?_, fun z => ?_⟩
  · split <;> omega
  · split <;> omega
  · subst z; rw [if_neg (by omega), if_pos (by omega)]; omega
  · by_cases c : t < f
    · rw [if_pos (show t ≤ f by omega), if_neg (show ¬ f < t by omega), if_pos c]; omega
    · rw [if_neg (show ¬ t ≤ f by omega), if_pos (show f < t by omega), if_neg c]; omega
set_option maxHeartbeats 16000000 in
theorem c_X6_move {l : Launch} (hl : l.stackTraces = false) {κ : Kp} {h : Nat → Nat} {g : G} {m : Mg} {n c : Nat} {L : List Mg} {f t k : Int32} (hQ : QMm n m g) (hW : WM n c m) (hH : QHs L g) : Ct SS MM l κ yX6_move cX6_move 7 (some FieldType.int) 6 0 0 [.ref (h 0), .int f, .int t, .int k] (qS κ h) g ri (fun r u => (cdL [(decide (n = 0), 1), (!(refM m n f t k == 0), 2), (!(f == t) && anyG (lockB m) (lefA (tN f) (tN t) (tN k)) (lefZ (tN f) (tN t) (tN k) + 1 - lefA (tN f) (tN t) (tN k)), 2)] = 0 → r = m 6 0 ∧ QMp g L.length (movM n (tN f) (tN t) (tN k) m) u) ∧ (¬ cdL [(decide (n = 0), 1), (!(refM m n f t k == 0), 2), (!(f == t) && anyG (lockB m) (lefA (tN f) (tN t) (tN k)) (lefZ (tN f) (tN t) (tN k) + 1 - lefA (tN f) (tN t) (tN k)), 2)] = 0 → u = tg g (cdL [(decide (n = 0), 1), (!(refM m n f t k == 0), 2), (!(f == t) && anyG (lockB m) (lefA (tN f) (tN t) (tN k)) (lefZ (tN f) (tN t) (tN k) + 1 - lefA (tN f) (tN t) (tN k)), 2)]))) (fun _ _ => False) := by
  refine Ct.of (own := RX6) (by decide) rfl hl (by intro v hv; simp only [List.mem_cons, List.not_mem_nil, or_false] at hv; first | (rcases hv with rfl | rfl | rfl | rfl | rfl | rfl <;> rfl) | (rcases hv with rfl | rfl | rfl | rfl | rfl <;> rfl) | (rcases hv with rfl | rfl | rfl | rfl <;> rfl) | (rcases hv with rfl | rfl | rfl <;> rfl) | (rcases hv with rfl | rfl <;> rfl) | (subst hv; rfl) | exact hv.elim) (Nat.le_of_ble_eq_true rfl) (fun X hxl hxk C F N => ?_)
  subst hxl hxk
  show V X (qS (xK X) h) 0 [some (.ref (h 0)), some (.int f), some (.int t), some (.int k), none, none, none] [] g 0 0
  obtain ⟨hm, hs, h96, hRR⟩ := id hQ
  obtain ⟨-, hn7, hMf⟩ := id hW
  refine v_aload_n C dX6_move_0 rfl ?_
  refine v_callVi C (c_X6_noMemory hl (n := n) hm) ym_X6_noMemory ml_X6_207 emb_id_qS rfl rfl rfl rfl rfl dX6_move_1 (Nat.le_of_ble_eq_true rfl) (Nat.le_of_ble_eq_true rfl) (Nat.le_of_ble_eq_true rfl) (Nat.le_of_ble_eq_true rfl) (fun _ _ hu => hu.elim) (fun r u hu => ?_)
  obtain ⟨rfl, hu⟩ := hu
  subst u
  refine v_if_neB C 30 dX6_move_4 (by decide) (fun c4 => ?_) (fun c4 => ?_)
  · have hz0 : n = 0 := of_decide_eq_true c4
    refine V.stt (g2 := tg g 1) (by rw [c4]; rfl) ?_
    refine v_iconst (v := nI 0) C dX6_move_30 (by decide) ?_
    refine v_iret C F (by first | rfl | exact bI_nar _) dX6_move_31 (Nat.le_of_ble_eq_true rfl) (Nat.le_of_ble_eq_true rfl) ?_
    first
    | (refine ⟨fun _ => ⟨?_, ?_⟩, fun z => absurd ?_ z⟩; (rw [hPR.1, Nat.add_sub_cancel]); (exact ⟨hd2, _, rfl, by rw [e3, e4, e5]; exact hRm⟩); (rw [e3, e4, e5, cdL_f (decide_eq_false hn0), cdL_f (show (!(refM m n (nI f1) (nI t1) (nI k1) == 0)) = false by rw [hrf]; rfl), cdL_f c61]; rfl); done)
    | (refine ⟨fun z => absurd z ?_, fun _ => ?_⟩; (simp [cdL, hz0]); (simp [cdL, hz0]); done)
    | (refine ⟨fun z => absurd z ?_, fun _ => ?_⟩; (simp [cdL, hn0, c27]); (simp [cdL, hn0, c27]); done)
    | (refine ⟨fun z => absurd z ?_, fun _ => ?_⟩; (rw [e3, e4, e5, cdL_f (decide_eq_false hn0), cdL_f (show (!(refM m n (nI f1) (nI t1) (nI k1) == 0)) = false by rw [hrf]; rfl), cdL_t c61]; decide); (rw [e3, e4, e5, cdL_f (decide_eq_false hn0), cdL_f (show (!(refM m n (nI f1) (nI t1) (nI k1) == 0)) = false by rw [hrf]; rfl), cdL_t c61]); done)
  · have hn0 : ¬ n = 0 := of_decide_eq_false c4
    have hR := hRR hn0
    have hMI := hMf hn0
    obtain ⟨hI, hE, hLK, hn1, hSB, hBY, hPR⟩ := id hMI
    have hbd := band_ok hSB
    have hn := hI.1
    refine V.stt (g2 := tg g 0) (by rw [c4]; rfl) ?_
    refine v_aload_n C dX6_move_7 rfl ?_
    refine v_aload_n C dX6_move_8 rfl ?_
    refine v_iload_n C dX6_move_9 rfl ?_
    refine v_iload_n C dX6_move_10 rfl ?_
    refine v_iload_n C dX6_move_11 rfl ?_
    refine v_callVi C (c_X6_whyNot hl (g := tg g 0) (m := m) (n := n) hR hs hn h96 hLK) ym_X6_whyNot ml_X6_135 emb_id_qS rfl rfl rfl rfl rfl dX6_move_12 (Nat.le_of_ble_eq_true rfl) (Nat.le_of_ble_eq_true rfl) (Nat.le_of_ble_eq_true rfl) (Nat.le_of_ble_eq_true rfl) (fun _ _ hu => hu.elim) (fun r u hu => ?_)
    obtain ⟨rfl, hu⟩ := hu
    subst u
    refine V.stt (g2 := (tg g 0)) (rfl) ?_
    refine v_if_eq C 22 dX6_move_15 (by decide) (fun c15 => ?_) (fun c15 => ?_)
    · refine v_iconst (v := nI 0) C dX6_move_22 (by decide) ?_
      refine V.eqs (st2 := [.int (bI (!(refM m n f t k == 0))), .ref (h 0)]) ?_ (congrArg (fun z => [Value.int z, Value.ref (h 0)]) (by first | exact bI_t (by simp [c15]) | exact bI_f (by simp [c15])))
      refine v_iconst (v := nI 2) C dX6_move_23 (by decide) ?_
      refine v_callVi C (c_X6_refuse hl (b := !(refM m n f t k == 0)) (k := 2) (by decide) (by decide)) ym_X6_refuse ml_X6_40 emb_id_qS rfl rfl rfl rfl rfl dX6_move_24 (Nat.le_of_ble_eq_true rfl) (Nat.le_of_ble_eq_true rfl) (Nat.le_of_ble_eq_true rfl) (Nat.le_of_ble_eq_true rfl) (fun _ _ hu => hu.elim) (fun r u hu => ?_)
      obtain ⟨rfl, hu⟩ := hu
      subst u
      refine v_if_eqB C 32 dX6_move_27 (by decide) (fun c27 => ?_) (fun c27 => ?_)
      · refine V.stt (g2 := tg g 0) (by rw [c27]; rfl) ?_
        have hrf : refM m n f t k = 0 := by simpa using c27
        obtain ⟨f1, t1, k1, ef, et, ek, b1, b2, b3⟩ := ref_at hn h96 hrf
        subst ef et ek
        have e3 : tN (nI f1) = f1 := tN_nI (by omega)
        have e4 : tN (nI t1) = t1 := tN_nI (by omega)
        have e5 : tN (nI k1) = k1 := tN_nI (by omega)
        obtain ⟨lim, hlim, hlim96⟩ := lim_ok hSB
        have hM2 := MI.copy hMI b1 b2 b3
        obtain ⟨z1, z2, z3, z4⟩ := lf_bnd b2 b3 b1
        refine v_iload_n C dX6_move_32 rfl ?_
        refine v_iload_n C dX6_move_33 rfl ?_
        refine v_iload_n C dX6_move_34 rfl ?_
        refine v_callSi C (c_X6_firstLeft hl (f := f1) (t := t1) (k := k1) (by omega) (by omega) (by omega)) ys_X6_firstLeft rfl ml_X6_322 (emb_n fix_qS) rfl rfl rfl dX6_move_35 (Nat.le_of_ble_eq_true rfl) (Nat.le_of_ble_eq_true rfl) (Nat.le_of_ble_eq_true rfl) (Nat.le_of_ble_eq_true rfl) (fun _ _ hu => hu.elim) (fun r u hu => ?_)
        subst r
        rw [show (if t1 ≤ f1 then max f1 (t1 + k1) else f1) = lfA f1 t1 k1 from rfl]
        refine v_istore C (lo2 := [some _, some _, some _, some _, some _, none, none]) dX6_move_38 rfl (Nat.le_of_ble_eq_true rfl) rfl ?_
        refine v_iload_n C dX6_move_40 rfl ?_
        refine v_iload_n C dX6_move_41 rfl ?_
        refine v_iload_n C dX6_move_42 rfl ?_
        refine v_callSi C (c_X6_lastLeft hl (f := f1) (t := t1) (k := k1) (by omega) (by omega) (by omega) b1) ys_X6_lastLeft rfl ml_X6_325 (emb_n fix_qS) rfl rfl rfl dX6_move_43 (Nat.le_of_ble_eq_true rfl) (Nat.le_of_ble_eq_true rfl) (Nat.le_of_ble_eq_true rfl) (Nat.le_of_ble_eq_true rfl) (fun _ _ hu => hu.elim) (fun r u hu => ?_)
        subst r
        refine v_istore C (lo2 := [some _, some _, some _, some _, some _, some _, none]) dX6_move_46 rfl (Nat.le_of_ble_eq_true rfl) rfl ?_
        refine v_aload_n C dX6_move_48 rfl ?_
        refine v_aload_n C dX6_move_49 rfl ?_
        refine v_iload C dX6_move_50 rfl ?_
        refine v_iload C dX6_move_52 rfl ?_
        refine v_callVi C (c_X6_anyLocked hl (g := tg g 0) (m := m) (a := lfA f1 t1 k1) (b := lefZ f1 t1 k1) hR hLK (by omega) (by omega)) ym_X6_anyLocked ml_X6_146 emb_id_qS rfl rfl rfl rfl rfl dX6_move_54 (Nat.le_of_ble_eq_true rfl) (Nat.le_of_ble_eq_true rfl) (Nat.le_of_ble_eq_true rfl) (Nat.le_of_ble_eq_true rfl) (fun _ _ hu => hu.elim) (fun r u hu => ?_)
        obtain ⟨rfl, hu⟩ := hu
        subst u
        rw [lef_any b1 (by omega) (by omega)]
        refine V.stt (g2 := (tg g 0)) (rfl) ?_
        refine v_iconst (v := nI 2) C dX6_move_57 (by decide) ?_
        refine v_callVi C (c_X6_refuse hl (b := !(nI f1 == nI t1) && anyG (lockB m) (lefA f1 t1 k1) (lefZ f1 t1 k1 + 1 - lefA f1 t1 k1)) (k := 2) (by decide) (by decide)) ym_X6_refuse ml_X6_40 emb_id_qS rfl rfl rfl rfl rfl dX6_move_58 (Nat.le_of_ble_eq_true rfl) (Nat.le_of_ble_eq_true rfl) (Nat.le_of_ble_eq_true rfl) (Nat.le_of_ble_eq_true rfl) (fun _ _ hu => hu.elim) (fun r u hu => ?_)
        obtain ⟨rfl, hu⟩ := hu
        subst u
        refine v_if_eqB C 66 dX6_move_61 (by decide) (fun c61 => ?_) (fun c61 => ?_)
        · refine V.stt (g2 := tg g 0) (by rw [c61]; rfl) ?_
          refine v_aload_n C dX6_move_66 rfl ?_
          refine v_callVv C (c_X6_keepsAll hl (g := tg g 0) (c := L.length) hH.1 hH.2.1) ym_X6_keepsAll ml_X6_316 emb_id_qS rfl rfl rfl rfl rfl dX6_move_67 (Nat.le_of_ble_eq_true rfl) (Nat.le_of_ble_eq_true rfl) (Nat.le_of_ble_eq_true rfl) (Nat.le_of_ble_eq_true rfl) (fun _ _ hu => hu.elim) (fun r u hu => ?_)
          subst u
          refine V.stt (g2 := (kaG g L.length)) (ka_eq) ?_
          refine v_aload_n C dX6_move_70 rfl ?_
          refine v_iload_n C dX6_move_71 rfl ?_
          refine v_iload_n C dX6_move_72 rfl ?_
          refine v_iload_n C dX6_move_73 rfl ?_
          refine v_callVv C (c_X6_copies hl (g := (kaG g L.length)) (m := m) (n := n) (lim := lim) hR hE hI hs hlim hlim96 b1 b2 b3) ym_X6_copies ml_X6_139 emb_id_qS rfl rfl rfl rfl rfl dX6_move_74 (Nat.le_of_ble_eq_true rfl) (Nat.le_of_ble_eq_true rfl) (Nat.le_of_ble_eq_true rfl) (Nat.le_of_ble_eq_true rfl) (fun _ _ hu => hu.elim) (fun r u hu => ?_)
          obtain ⟨hd2, f2, hu, hR2⟩ := hu
          subst u
          refine v_iload C dX6_move_77 rfl ?_
          refine v_iload C dX6_move_79 rfl ?_
          first | refine v_icmp_gtN C 96 dX6_move_81 (by decide) (by omega) (by omega) (fun c81 => ?_) (fun c81 => ?_) | refine v_icmp_gt C 96 dX6_move_81 (by decide) (fun c81 => ?_) (fun c81 => ?_)
          · have hft : f1 = t1 := Classical.byContradiction fun z => by have := (z4 z).1; omega
            have hRm : RowR (movM n f1 t1 k1 m) f2 := by unfold movM; rw [if_pos hft]; exact hR2
            have h389 : f2 389 = nI (c + 1) := hR2.c.trans hM2.2.2.2.2.2.2.1
            refine v_iconst (v := nI 0) C dX6_move_96 (by decide) ?_
            refine v_istore C (lo2 := [some _, some _, some _, some _, some _, some _, some _]) dX6_move_97 rfl (Nat.le_of_ble_eq_true rfl) rfl ?_
            refine v_aload_n C dX6_move_99 rfl ?_
            refine v_getr C fl_X6_7 or_qS_0_3 dX6_move_100 ?_
            refine v_sipush (v := nI 389) C dX6_move_103 (by decide) ?_
            refine v_ialdQ (x := nI (c + 1)) C ar_qS_1 (by decide) _ (h389) ?_ rfl dX6_move_106 ?_
            · omega
            refine v_iconst (v := nI 1) C dX6_move_107 (by decide) ?_
            first | refine v_isubN C dX6_move_108 (by omega) ?_ | refine v_isub C dX6_move_108 ?_
            refine v_iret C F (by first | rfl | exact bI_nar _) dX6_move_109 (Nat.le_of_ble_eq_true rfl) (Nat.le_of_ble_eq_true rfl) ?_
            first
            | (refine ⟨fun _ => ⟨?_, ?_⟩, fun z => absurd ?_ z⟩; (rw [hPR.1, Nat.add_sub_cancel]); (exact ⟨hd2, _, rfl, by rw [e3, e4, e5]; exact hRm⟩); (rw [e3, e4, e5, cdL_f (decide_eq_false hn0), cdL_f (show (!(refM m n (nI f1) (nI t1) (nI k1) == 0)) = false by rw [hrf]; rfl), cdL_f c61]; rfl); done)
            | (refine ⟨fun z => absurd z ?_, fun _ => ?_⟩; (simp [cdL, hz0]); (simp [cdL, hz0]); done)
            | (refine ⟨fun z => absurd z ?_, fun _ => ?_⟩; (simp [cdL, hn0, c27]); (simp [cdL, hn0, c27]); done)
            | (refine ⟨fun z => absurd z ?_, fun _ => ?_⟩; (rw [e3, e4, e5, cdL_f (decide_eq_false hn0), cdL_f (show (!(refM m n (nI f1) (nI t1) (nI k1) == 0)) = false by rw [hrf]; rfl), cdL_t c61]; decide); (rw [e3, e4, e5, cdL_f (decide_eq_false hn0), cdL_f (show (!(refM m n (nI f1) (nI t1) (nI k1) == 0)) = false by rw [hrf]; rfl), cdL_t c61]); done)
          · refine v_aload_n C dX6_move_84 rfl ?_
            refine v_iload C dX6_move_85 rfl ?_
            refine v_iload C dX6_move_87 rfl ?_
            refine v_iconst (v := nI 0) C dX6_move_89 (by decide) ?_
            refine v_callVi C (c_X6_fills hl (g := sG (sG (kaG g L.length) 5 hd2) 1 f2) (m := copyM n f1 t1 k1 m) (n := n) (a := lfA f1 t1 k1) (b := lefZ f1 t1 k1) (v := nI 0) hR2 hM2.2.1 hM2.1 hs (by omega) (by omega)) ym_X6_fills ml_X6_150 emb_id_qS rfl rfl rfl rfl rfl dX6_move_90 (Nat.le_of_ble_eq_true rfl) (Nat.le_of_ble_eq_true rfl) (Nat.le_of_ble_eq_true rfl) (Nat.le_of_ble_eq_true rfl) (fun _ _ hu => hu.elim) (fun r u hu => ?_)
            obtain ⟨rfl, f3, hu, hR3⟩ := hu
            subst u
            have hft : ¬ f1 = t1 := fun z => by have := z3 z; omega
            have hRm : RowR (movM n f1 t1 k1 m) f3 := by unfold movM; rw [if_neg hft, ← (z4 hft).2]; exact hR3
            have hM3 := MI.fill (a := lfA f1 t1 k1) (b := lefZ f1 t1 k1) (v := 0) hM2 (by decide)
            have h389 : f3 389 = nI (c + 1) := hR3.c.trans hM3.2.2.2.2.2.2.1
            refine V.stt (g2 := (sG (sG (kaG g L.length) 5 hd2) 1 f3)) (sG_sG) ?_
            refine v_goto C 97 dX6_move_93 (by decide) ?_
            refine v_istore C (lo2 := [some _, some _, some _, some _, some _, some _, some _]) dX6_move_97 rfl (Nat.le_of_ble_eq_true rfl) rfl ?_
            refine v_aload_n C dX6_move_99 rfl ?_
            refine v_getr C fl_X6_7 or_qS_0_3 dX6_move_100 ?_
            refine v_sipush (v := nI 389) C dX6_move_103 (by decide) ?_
            refine v_ialdQ (x := nI (c + 1)) C ar_qS_1 (by decide) _ (h389) ?_ rfl dX6_move_106 ?_
            · omega
            refine v_iconst (v := nI 1) C dX6_move_107 (by decide) ?_
            first | refine v_isubN C dX6_move_108 (by omega) ?_ | refine v_isub C dX6_move_108 ?_
            refine v_iret C F (by first | rfl | exact bI_nar _) dX6_move_109 (Nat.le_of_ble_eq_true rfl) (Nat.le_of_ble_eq_true rfl) ?_
            first
            | (refine ⟨fun _ => ⟨?_, ?_⟩, fun z => absurd ?_ z⟩; (rw [hPR.1, Nat.add_sub_cancel]); (exact ⟨hd2, _, rfl, by rw [e3, e4, e5]; exact hRm⟩); (rw [e3, e4, e5, cdL_f (decide_eq_false hn0), cdL_f (show (!(refM m n (nI f1) (nI t1) (nI k1) == 0)) = false by rw [hrf]; rfl), cdL_f c61]; rfl); done)
            | (refine ⟨fun z => absurd z ?_, fun _ => ?_⟩; (simp [cdL, hz0]); (simp [cdL, hz0]); done)
            | (refine ⟨fun z => absurd z ?_, fun _ => ?_⟩; (simp [cdL, hn0, c27]); (simp [cdL, hn0, c27]); done)
            | (refine ⟨fun z => absurd z ?_, fun _ => ?_⟩; (rw [e3, e4, e5, cdL_f (decide_eq_false hn0), cdL_f (show (!(refM m n (nI f1) (nI t1) (nI k1) == 0)) = false by rw [hrf]; rfl), cdL_t c61]; decide); (rw [e3, e4, e5, cdL_f (decide_eq_false hn0), cdL_f (show (!(refM m n (nI f1) (nI t1) (nI k1) == 0)) = false by rw [hrf]; rfl), cdL_t c61]); done)
        · refine V.stt (g2 := tg g 2) (by rw [c61]; rfl) ?_
          refine v_iconst (v := nI 0) C dX6_move_64 (by decide) ?_
          refine v_iret C F (by first | rfl | exact bI_nar _) dX6_move_65 (Nat.le_of_ble_eq_true rfl) (Nat.le_of_ble_eq_true rfl) ?_
          first
          | (refine ⟨fun _ => ⟨?_, ?_⟩, fun z => absurd ?_ z⟩; (rw [hPR.1, Nat.add_sub_cancel]); (exact ⟨hd2, _, rfl, by rw [e3, e4, e5]; exact hRm⟩); (rw [e3, e4, e5, cdL_f (decide_eq_false hn0), cdL_f (show (!(refM m n (nI f1) (nI t1) (nI k1) == 0)) = false by rw [hrf]; rfl), cdL_f c61]; rfl); done)
          | (refine ⟨fun z => absurd z ?_, fun _ => ?_⟩; (simp [cdL, hz0]); (simp [cdL, hz0]); done)
          | (refine ⟨fun z => absurd z ?_, fun _ => ?_⟩; (simp [cdL, hn0, c27]); (simp [cdL, hn0, c27]); done)
          | (refine ⟨fun z => absurd z ?_, fun _ => ?_⟩; (rw [e3, e4, e5, cdL_f (decide_eq_false hn0), cdL_f (show (!(refM m n (nI f1) (nI t1) (nI k1) == 0)) = false by rw [hrf]; rfl), cdL_t c61]; decide); (rw [e3, e4, e5, cdL_f (decide_eq_false hn0), cdL_f (show (!(refM m n (nI f1) (nI t1) (nI k1) == 0)) = false by rw [hrf]; rfl), cdL_t c61]); done)
      · refine V.stt (g2 := tg g 2) (by rw [c27]; rfl) ?_
        refine v_iconst (v := nI 0) C dX6_move_30 (by decide) ?_
        refine v_iret C F (by first | rfl | exact bI_nar _) dX6_move_31 (Nat.le_of_ble_eq_true rfl) (Nat.le_of_ble_eq_true rfl) ?_
        first
        | (refine ⟨fun _ => ⟨?_, ?_⟩, fun z => absurd ?_ z⟩; (rw [hPR.1, Nat.add_sub_cancel]); (exact ⟨hd2, _, rfl, by rw [e3, e4, e5]; exact hRm⟩); (rw [e3, e4, e5, cdL_f (decide_eq_false hn0), cdL_f (show (!(refM m n (nI f1) (nI t1) (nI k1) == 0)) = false by rw [hrf]; rfl), cdL_f c61]; rfl); done)
        | (refine ⟨fun z => absurd z ?_, fun _ => ?_⟩; (simp [cdL, hz0]); (simp [cdL, hz0]); done)
        | (refine ⟨fun z => absurd z ?_, fun _ => ?_⟩; (simp [cdL, hn0, c27]); (simp [cdL, hn0, c27]); done)
        | (refine ⟨fun z => absurd z ?_, fun _ => ?_⟩; (rw [e3, e4, e5, cdL_f (decide_eq_false hn0), cdL_f (show (!(refM m n (nI f1) (nI t1) (nI k1) == 0)) = false by rw [hrf]; rfl), cdL_t c61]; decide); (rw [e3, e4, e5, cdL_f (decide_eq_false hn0), cdL_f (show (!(refM m n (nI f1) (nI t1) (nI k1) == 0)) = false by rw [hrf]; rfl), cdL_t c61]); done)
    · refine v_iconst (v := nI 1) C dX6_move_18 (by decide) ?_
      refine v_goto C 23 dX6_move_19 (by decide) ?_
      refine V.eqs (st2 := [.int (bI (!(refM m n f t k == 0))), .ref (h 0)]) ?_ (congrArg (fun z => [Value.int z, Value.ref (h 0)]) (by first | exact bI_t (by simp [c15]) | exact bI_f (by simp [c15])))
      refine v_iconst (v := nI 2) C dX6_move_23 (by decide) ?_
      refine v_callVi C (c_X6_refuse hl (b := !(refM m n f t k == 0)) (k := 2) (by decide) (by decide)) ym_X6_refuse ml_X6_40 emb_id_qS rfl rfl rfl rfl rfl dX6_move_24 (Nat.le_of_ble_eq_true rfl) (Nat.le_of_ble_eq_true rfl) (Nat.le_of_ble_eq_true rfl) (Nat.le_of_ble_eq_true rfl) (fun _ _ hu => hu.elim) (fun r u hu => ?_)
      obtain ⟨rfl, hu⟩ := hu
      subst u
      refine v_if_eqB C 32 dX6_move_27 (by decide) (fun c27 => ?_) (fun c27 => ?_)
      · refine V.stt (g2 := tg g 0) (by rw [c27]; rfl) ?_
        have hrf : refM m n f t k = 0 := by simpa using c27
        obtain ⟨f1, t1, k1, ef, et, ek, b1, b2, b3⟩ := ref_at hn h96 hrf
        subst ef et ek
        have e3 : tN (nI f1) = f1 := tN_nI (by omega)
        have e4 : tN (nI t1) = t1 := tN_nI (by omega)
        have e5 : tN (nI k1) = k1 := tN_nI (by omega)
        obtain ⟨lim, hlim, hlim96⟩ := lim_ok hSB
        have hM2 := MI.copy hMI b1 b2 b3
        obtain ⟨z1, z2, z3, z4⟩ := lf_bnd b2 b3 b1
        refine v_iload_n C dX6_move_32 rfl ?_
        refine v_iload_n C dX6_move_33 rfl ?_
        refine v_iload_n C dX6_move_34 rfl ?_
        refine v_callSi C (c_X6_firstLeft hl (f := f1) (t := t1) (k := k1) (by omega) (by omega) (by omega)) ys_X6_firstLeft rfl ml_X6_322 (emb_n fix_qS) rfl rfl rfl dX6_move_35 (Nat.le_of_ble_eq_true rfl) (Nat.le_of_ble_eq_true rfl) (Nat.le_of_ble_eq_true rfl) (Nat.le_of_ble_eq_true rfl) (fun _ _ hu => hu.elim) (fun r u hu => ?_)
        subst r
        rw [show (if t1 ≤ f1 then max f1 (t1 + k1) else f1) = lfA f1 t1 k1 from rfl]
        refine v_istore C (lo2 := [some _, some _, some _, some _, some _, none, none]) dX6_move_38 rfl (Nat.le_of_ble_eq_true rfl) rfl ?_
        refine v_iload_n C dX6_move_40 rfl ?_
        refine v_iload_n C dX6_move_41 rfl ?_
        refine v_iload_n C dX6_move_42 rfl ?_
        refine v_callSi C (c_X6_lastLeft hl (f := f1) (t := t1) (k := k1) (by omega) (by omega) (by omega) b1) ys_X6_lastLeft rfl ml_X6_325 (emb_n fix_qS) rfl rfl rfl dX6_move_43 (Nat.le_of_ble_eq_true rfl) (Nat.le_of_ble_eq_true rfl) (Nat.le_of_ble_eq_true rfl) (Nat.le_of_ble_eq_true rfl) (fun _ _ hu => hu.elim) (fun r u hu => ?_)
        subst r
        refine v_istore C (lo2 := [some _, some _, some _, some _, some _, some _, none]) dX6_move_46 rfl (Nat.le_of_ble_eq_true rfl) rfl ?_
        refine v_aload_n C dX6_move_48 rfl ?_
        refine v_aload_n C dX6_move_49 rfl ?_
        refine v_iload C dX6_move_50 rfl ?_
        refine v_iload C dX6_move_52 rfl ?_
        refine v_callVi C (c_X6_anyLocked hl (g := tg g 0) (m := m) (a := lfA f1 t1 k1) (b := lefZ f1 t1 k1) hR hLK (by omega) (by omega)) ym_X6_anyLocked ml_X6_146 emb_id_qS rfl rfl rfl rfl rfl dX6_move_54 (Nat.le_of_ble_eq_true rfl) (Nat.le_of_ble_eq_true rfl) (Nat.le_of_ble_eq_true rfl) (Nat.le_of_ble_eq_true rfl) (fun _ _ hu => hu.elim) (fun r u hu => ?_)
        obtain ⟨rfl, hu⟩ := hu
        subst u
        rw [lef_any b1 (by omega) (by omega)]
        refine V.stt (g2 := (tg g 0)) (rfl) ?_
        refine v_iconst (v := nI 2) C dX6_move_57 (by decide) ?_
        refine v_callVi C (c_X6_refuse hl (b := !(nI f1 == nI t1) && anyG (lockB m) (lefA f1 t1 k1) (lefZ f1 t1 k1 + 1 - lefA f1 t1 k1)) (k := 2) (by decide) (by decide)) ym_X6_refuse ml_X6_40 emb_id_qS rfl rfl rfl rfl rfl dX6_move_58 (Nat.le_of_ble_eq_true rfl) (Nat.le_of_ble_eq_true rfl) (Nat.le_of_ble_eq_true rfl) (Nat.le_of_ble_eq_true rfl) (fun _ _ hu => hu.elim) (fun r u hu => ?_)
        obtain ⟨rfl, hu⟩ := hu
        subst u
        refine v_if_eqB C 66 dX6_move_61 (by decide) (fun c61 => ?_) (fun c61 => ?_)
        · refine V.stt (g2 := tg g 0) (by rw [c61]; rfl) ?_
          refine v_aload_n C dX6_move_66 rfl ?_
          refine v_callVv C (c_X6_keepsAll hl (g := tg g 0) (c := L.length) hH.1 hH.2.1) ym_X6_keepsAll ml_X6_316 emb_id_qS rfl rfl rfl rfl rfl dX6_move_67 (Nat.le_of_ble_eq_true rfl) (Nat.le_of_ble_eq_true rfl) (Nat.le_of_ble_eq_true rfl) (Nat.le_of_ble_eq_true rfl) (fun _ _ hu => hu.elim) (fun r u hu => ?_)
          subst u
          refine V.stt (g2 := (kaG g L.length)) (ka_eq) ?_
          refine v_aload_n C dX6_move_70 rfl ?_
          refine v_iload_n C dX6_move_71 rfl ?_
          refine v_iload_n C dX6_move_72 rfl ?_
          refine v_iload_n C dX6_move_73 rfl ?_
          refine v_callVv C (c_X6_copies hl (g := (kaG g L.length)) (m := m) (n := n) (lim := lim) hR hE hI hs hlim hlim96 b1 b2 b3) ym_X6_copies ml_X6_139 emb_id_qS rfl rfl rfl rfl rfl dX6_move_74 (Nat.le_of_ble_eq_true rfl) (Nat.le_of_ble_eq_true rfl) (Nat.le_of_ble_eq_true rfl) (Nat.le_of_ble_eq_true rfl) (fun _ _ hu => hu.elim) (fun r u hu => ?_)
          obtain ⟨hd2, f2, hu, hR2⟩ := hu
          subst u
          refine v_iload C dX6_move_77 rfl ?_
          refine v_iload C dX6_move_79 rfl ?_
          first | refine v_icmp_gtN C 96 dX6_move_81 (by decide) (by omega) (by omega) (fun c81 => ?_) (fun c81 => ?_) | refine v_icmp_gt C 96 dX6_move_81 (by decide) (fun c81 => ?_) (fun c81 => ?_)
          · have hft : f1 = t1 := Classical.byContradiction fun z => by have := (z4 z).1; omega
            have hRm : RowR (movM n f1 t1 k1 m) f2 := by unfold movM; rw [if_pos hft]; exact hR2
            have h389 : f2 389 = nI (c + 1) := hR2.c.trans hM2.2.2.2.2.2.2.1
            refine v_iconst (v := nI 0) C dX6_move_96 (by decide) ?_
            refine v_istore C (lo2 := [some _, some _, some _, some _, some _, some _, some _]) dX6_move_97 rfl (Nat.le_of_ble_eq_true rfl) rfl ?_
            refine v_aload_n C dX6_move_99 rfl ?_
            refine v_getr C fl_X6_7 or_qS_0_3 dX6_move_100 ?_
            refine v_sipush (v := nI 389) C dX6_move_103 (by decide) ?_
            refine v_ialdQ (x := nI (c + 1)) C ar_qS_1 (by decide) _ (h389) ?_ rfl dX6_move_106 ?_
            · omega
            refine v_iconst (v := nI 1) C dX6_move_107 (by decide) ?_
            first | refine v_isubN C dX6_move_108 (by omega) ?_ | refine v_isub C dX6_move_108 ?_
            refine v_iret C F (by first | rfl | exact bI_nar _) dX6_move_109 (Nat.le_of_ble_eq_true rfl) (Nat.le_of_ble_eq_true rfl) ?_
            first
            | (refine ⟨fun _ => ⟨?_, ?_⟩, fun z => absurd ?_ z⟩; (rw [hPR.1, Nat.add_sub_cancel]); (exact ⟨hd2, _, rfl, by rw [e3, e4, e5]; exact hRm⟩); (rw [e3, e4, e5, cdL_f (decide_eq_false hn0), cdL_f (show (!(refM m n (nI f1) (nI t1) (nI k1) == 0)) = false by rw [hrf]; rfl), cdL_f c61]; rfl); done)
            | (refine ⟨fun z => absurd z ?_, fun _ => ?_⟩; (simp [cdL, hz0]); (simp [cdL, hz0]); done)
            | (refine ⟨fun z => absurd z ?_, fun _ => ?_⟩; (simp [cdL, hn0, c27]); (simp [cdL, hn0, c27]); done)
            | (refine ⟨fun z => absurd z ?_, fun _ => ?_⟩; (rw [e3, e4, e5, cdL_f (decide_eq_false hn0), cdL_f (show (!(refM m n (nI f1) (nI t1) (nI k1) == 0)) = false by rw [hrf]; rfl), cdL_t c61]; decide); (rw [e3, e4, e5, cdL_f (decide_eq_false hn0), cdL_f (show (!(refM m n (nI f1) (nI t1) (nI k1) == 0)) = false by rw [hrf]; rfl), cdL_t c61]); done)
          · refine v_aload_n C dX6_move_84 rfl ?_
            refine v_iload C dX6_move_85 rfl ?_
            refine v_iload C dX6_move_87 rfl ?_
            refine v_iconst (v := nI 0) C dX6_move_89 (by decide) ?_
            refine v_callVi C (c_X6_fills hl (g := sG (sG (kaG g L.length) 5 hd2) 1 f2) (m := copyM n f1 t1 k1 m) (n := n) (a := lfA f1 t1 k1) (b := lefZ f1 t1 k1) (v := nI 0) hR2 hM2.2.1 hM2.1 hs (by omega) (by omega)) ym_X6_fills ml_X6_150 emb_id_qS rfl rfl rfl rfl rfl dX6_move_90 (Nat.le_of_ble_eq_true rfl) (Nat.le_of_ble_eq_true rfl) (Nat.le_of_ble_eq_true rfl) (Nat.le_of_ble_eq_true rfl) (fun _ _ hu => hu.elim) (fun r u hu => ?_)
            obtain ⟨rfl, f3, hu, hR3⟩ := hu
            subst u
            have hft : ¬ f1 = t1 := fun z => by have := z3 z; omega
            have hRm : RowR (movM n f1 t1 k1 m) f3 := by unfold movM; rw [if_neg hft, ← (z4 hft).2]; exact hR3
            have hM3 := MI.fill (a := lfA f1 t1 k1) (b := lefZ f1 t1 k1) (v := 0) hM2 (by decide)
            have h389 : f3 389 = nI (c + 1) := hR3.c.trans hM3.2.2.2.2.2.2.1
            refine V.stt (g2 := (sG (sG (kaG g L.length) 5 hd2) 1 f3)) (sG_sG) ?_
            refine v_goto C 97 dX6_move_93 (by decide) ?_
            refine v_istore C (lo2 := [some _, some _, some _, some _, some _, some _, some _]) dX6_move_97 rfl (Nat.le_of_ble_eq_true rfl) rfl ?_
            refine v_aload_n C dX6_move_99 rfl ?_
            refine v_getr C fl_X6_7 or_qS_0_3 dX6_move_100 ?_
            refine v_sipush (v := nI 389) C dX6_move_103 (by decide) ?_
            refine v_ialdQ (x := nI (c + 1)) C ar_qS_1 (by decide) _ (h389) ?_ rfl dX6_move_106 ?_
            · omega
            refine v_iconst (v := nI 1) C dX6_move_107 (by decide) ?_
            first | refine v_isubN C dX6_move_108 (by omega) ?_ | refine v_isub C dX6_move_108 ?_
            refine v_iret C F (by first | rfl | exact bI_nar _) dX6_move_109 (Nat.le_of_ble_eq_true rfl) (Nat.le_of_ble_eq_true rfl) ?_
            first
            | (refine ⟨fun _ => ⟨?_, ?_⟩, fun z => absurd ?_ z⟩; (rw [hPR.1, Nat.add_sub_cancel]); (exact ⟨hd2, _, rfl, by rw [e3, e4, e5]; exact hRm⟩); (rw [e3, e4, e5, cdL_f (decide_eq_false hn0), cdL_f (show (!(refM m n (nI f1) (nI t1) (nI k1) == 0)) = false by rw [hrf]; rfl), cdL_f c61]; rfl); done)
            | (refine ⟨fun z => absurd z ?_, fun _ => ?_⟩; (simp [cdL, hz0]); (simp [cdL, hz0]); done)
            | (refine ⟨fun z => absurd z ?_, fun _ => ?_⟩; (simp [cdL, hn0, c27]); (simp [cdL, hn0, c27]); done)
            | (refine ⟨fun z => absurd z ?_, fun _ => ?_⟩; (rw [e3, e4, e5, cdL_f (decide_eq_false hn0), cdL_f (show (!(refM m n (nI f1) (nI t1) (nI k1) == 0)) = false by rw [hrf]; rfl), cdL_t c61]; decide); (rw [e3, e4, e5, cdL_f (decide_eq_false hn0), cdL_f (show (!(refM m n (nI f1) (nI t1) (nI k1) == 0)) = false by rw [hrf]; rfl), cdL_t c61]); done)
        · refine V.stt (g2 := tg g 2) (by rw [c61]; rfl) ?_
          refine v_iconst (v := nI 0) C dX6_move_64 (by decide) ?_
          refine v_iret C F (by first | rfl | exact bI_nar _) dX6_move_65 (Nat.le_of_ble_eq_true rfl) (Nat.le_of_ble_eq_true rfl) ?_
          first
          | (refine ⟨fun _ => ⟨?_, ?_⟩, fun z => absurd ?_ z⟩; (rw [hPR.1, Nat.add_sub_cancel]); (exact ⟨hd2, _, rfl, by rw [e3, e4, e5]; exact hRm⟩); (rw [e3, e4, e5, cdL_f (decide_eq_false hn0), cdL_f (show (!(refM m n (nI f1) (nI t1) (nI k1) == 0)) = false by rw [hrf]; rfl), cdL_f c61]; rfl); done)
          | (refine ⟨fun z => absurd z ?_, fun _ => ?_⟩; (simp [cdL, hz0]); (simp [cdL, hz0]); done)
          | (refine ⟨fun z => absurd z ?_, fun _ => ?_⟩; (simp [cdL, hn0, c27]); (simp [cdL, hn0, c27]); done)
          | (refine ⟨fun z => absurd z ?_, fun _ => ?_⟩; (rw [e3, e4, e5, cdL_f (decide_eq_false hn0), cdL_f (show (!(refM m n (nI f1) (nI t1) (nI k1) == 0)) = false by rw [hrf]; rfl), cdL_t c61]; decide); (rw [e3, e4, e5, cdL_f (decide_eq_false hn0), cdL_f (show (!(refM m n (nI f1) (nI t1) (nI k1) == 0)) = false by rw [hrf]; rfl), cdL_t c61]); done)
      · refine V.stt (g2 := tg g 2) (by rw [c27]; rfl) ?_
        refine v_iconst (v := nI 0) C dX6_move_30 (by decide) ?_
        refine v_iret C F (by first | rfl | exact bI_nar _) dX6_move_31 (Nat.le_of_ble_eq_true rfl) (Nat.le_of_ble_eq_true rfl) ?_
        first
        | (refine ⟨fun _ => ⟨?_, ?_⟩, fun z => absurd ?_ z⟩; (rw [hPR.1, Nat.add_sub_cancel]); (exact ⟨hd2, _, rfl, by rw [e3, e4, e5]; exact hRm⟩); (rw [e3, e4, e5, cdL_f (decide_eq_false hn0), cdL_f (show (!(refM m n (nI f1) (nI t1) (nI k1) == 0)) = false by rw [hrf]; rfl), cdL_f c61]; rfl); done)
        | (refine ⟨fun z => absurd z ?_, fun _ => ?_⟩; (simp [cdL, hz0]); (simp [cdL, hz0]); done)
        | (refine ⟨fun z => absurd z ?_, fun _ => ?_⟩; (simp [cdL, hn0, c27]); (simp [cdL, hn0, c27]); done)
        | (refine ⟨fun z => absurd z ?_, fun _ => ?_⟩; (rw [e3, e4, e5, cdL_f (decide_eq_false hn0), cdL_f (show (!(refM m n (nI f1) (nI t1) (nI k1) == 0)) = false by rw [hrf]; rfl), cdL_t c61]; decide); (rw [e3, e4, e5, cdL_f (decide_eq_false hn0), cdL_f (show (!(refM m n (nI f1) (nI t1) (nI k1) == 0)) = false by rw [hrf]; rfl), cdL_t c61]); done)
theorem Row_fet {m : Mg} {f : Nat → Int32} {p : Nat} (h : RowR m f) : RowR (fetM p m) (upd (upd f 396 (m 6 6 + nI (hopsM m p))) 398 (m 6 8 + nI 1)) := by
  have h1 := Row_acc (k := 8) (x := nI 1) (Row_acc (k := 6) (x := nI (hopsM m p)) h (by decide) (by decide)) (by decide) (by decide)
  have e : accM (accM m 6 (nI (hopsM m p))) 8 (nI 1) = fetM p m := by
    unfold fetM accM
    rw [show sG m 6 (upd (m 6) 6 (m 6 6 + nI (hopsM m p))) 6 = upd (m 6) 6 (m 6 6 + nI (hopsM m p)) from rfl, show sG m 6 (upd (m 6) 8 (m 6 8 + nI 1)) 6 = upd (m 6) 8 (m 6 8 + nI 1) from rfl, sG_sG, sG_sG]
    refine congrArg _ (funext fun i => ?_)
    unfold upd
    by_cases e8 : i = 8 <;> by_cases e6 : i = 6 <;> simp [e8, e6]
    all_goals (subst e8; omega)
  rw [e] at h1
  exact h1
theorem fetM_val {m : Mg} {p : Nat} : valM (fetM p m) p = valM m p := valM_of rfl rfl p
set_option maxHeartbeats 16000000 in
theorem c_X6_fetch {l : Launch} (hl : l.stackTraces = false) {κ : Kp} {h : Nat → Nat} {g : G} {m : Mg} {n c : Nat} {L : List Mg} {p : Int32} (hQ : QMm n m g) (hW : WM n c m) (hH : QHs L g) : Ct SS MM l κ yX6_fetch cX6_fetch 3 (some FieldType.int) 4 0 0 [.ref (h 0), .int p] (qS κ h) g ri (fun r u => (cdL [(decide (n = 0), 1), (!plB n p, 2)] = 0 → r = valM m (tN p) ∧ QMp g L.length (fetchM (tN p) m) u) ∧ (¬ cdL [(decide (n = 0), 1), (!plB n p, 2)] = 0 → u = tg g (cdL [(decide (n = 0), 1), (!plB n p, 2)]))) (fun _ _ => False) := by
  refine Ct.of (own := RX6) (by decide) rfl hl (by intro v hv; simp only [List.mem_cons, List.not_mem_nil, or_false] at hv; first | (rcases hv with rfl | rfl | rfl | rfl | rfl | rfl <;> rfl) | (rcases hv with rfl | rfl | rfl | rfl | rfl <;> rfl) | (rcases hv with rfl | rfl | rfl | rfl <;> rfl) | (rcases hv with rfl | rfl | rfl <;> rfl) | (rcases hv with rfl | rfl <;> rfl) | (subst hv; rfl) | exact hv.elim) (Nat.le_of_ble_eq_true rfl) (fun X hxl hxk C F N => ?_)
  subst hxl hxk
  show V X (qS (xK X) h) 0 [some (.ref (h 0)), some (.int p), none] [] g 0 0
  obtain ⟨hm, hs, h96, hRR⟩ := id hQ
  obtain ⟨-, hn7, hMf⟩ := id hW
  refine v_aload_n C dX6_fetch_0 rfl ?_
  refine v_iload_n C dX6_fetch_1 rfl ?_
  refine v_callVi C (c_X6_noPlace hl (g := g) (m := m) (n := n) hQ) ym_X6_noPlace ml_X6_223 emb_id_qS rfl rfl rfl rfl rfl dX6_fetch_2 (Nat.le_of_ble_eq_true rfl) (Nat.le_of_ble_eq_true rfl) (Nat.le_of_ble_eq_true rfl) (Nat.le_of_ble_eq_true rfl) (fun _ _ hu => hu.elim) (fun r u hu => ?_)
  obtain ⟨rfl, hu⟩ := hu
  subst u
  refine v_if_eqB C 10 dX6_fetch_5 (by decide) (fun c5 => ?_) (fun c5 => ?_)
  · have hcd := nz_f c5
    obtain ⟨hd1, hd2⟩ := cd_0 (by decide) hcd
    obtain ⟨hd2, -⟩ := cd_0 (by decide) hd2
    have hn0 : ¬ n = 0 := of_decide_eq_false hd1
    have hp_p : plB n p = true := by simpa using hd2
    have hR := hRR hn0
    have hMI := hMf hn0
    obtain ⟨hI, hE, hLK, hn1, hSB, hBY, hPR⟩ := id hMI
    have hbd := band_ok hSB
    have hn := hI.1
    refine V.stt (g2 := tg g 0) (by rw [hcd]) ?_
    clear hcd hd2 hd1 c5
    obtain ⟨j, hj_j, e_j⟩ := pl_at hp_p
    subst e_j
    have t_j : tN (nI j) = j := tN_nI (by omega)
    refine v_aload_n C dX6_fetch_10 rfl ?_
    refine v_callVv C (c_X6_keepsAll hl (g := tg g 0) (c := L.length) hH.1 hH.2.1) ym_X6_keepsAll ml_X6_316 emb_id_qS rfl rfl rfl rfl rfl dX6_fetch_11 (Nat.le_of_ble_eq_true rfl) (Nat.le_of_ble_eq_true rfl) (Nat.le_of_ble_eq_true rfl) (Nat.le_of_ble_eq_true rfl) (fun _ _ hu => hu.elim) (fun r u hu => ?_)
    subst u
    refine V.stt (g2 := (kaG g L.length)) (ka_eq) ?_
    refine v_aload_n C dX6_fetch_14 rfl ?_
    refine v_iload_n C dX6_fetch_15 rfl ?_
    refine v_callVi C (c_X6_valueOf hl (g := (kaG g L.length)) (m := m) (n := n) hR hI hj_j) ym_X6_valueOf ml_X6_226 emb_id_qS rfl rfl rfl rfl rfl dX6_fetch_16 (Nat.le_of_ble_eq_true rfl) (Nat.le_of_ble_eq_true rfl) (Nat.le_of_ble_eq_true rfl) (Nat.le_of_ble_eq_true rfl) (fun _ _ hu => hu.elim) (fun r u hu => ?_)
    obtain ⟨rfl, hu⟩ := hu
    subst u
    refine v_istore_n C (lo2 := [some _, some _, some _]) dX6_fetch_19 rfl (Nat.le_of_ble_eq_true rfl) rfl ?_
    refine v_aload_n C dX6_fetch_20 rfl ?_
    refine v_getr C fl_X6_7 or_qS_0_3 dX6_fetch_21 ?_
    refine v_sipush (v := nI 396) C dX6_fetch_24 (by decide) ?_
    refine v_dup2 C dX6_fetch_27 rfl rfl ?_
    refine v_ialdQ (x := m 6 6) C ar_qS_1 (by decide) _ (hR.a (k := 6) (by decide)) ?_ rfl dX6_fetch_28 ?_
    · omega
    refine v_aload_n C dX6_fetch_29 rfl ?_
    refine v_iload_n C dX6_fetch_30 rfl ?_
    refine v_callVi C (c_X6_hopsOf hl (g := (kaG g L.length)) (m := m) (n := n) hR hI hj_j) ym_X6_hopsOf ml_X6_229 emb_id_qS rfl rfl rfl rfl rfl dX6_fetch_31 (Nat.le_of_ble_eq_true rfl) (Nat.le_of_ble_eq_true rfl) (Nat.le_of_ble_eq_true rfl) (Nat.le_of_ble_eq_true rfl) (fun _ _ hu => hu.elim) (fun r u hu => ?_)
    obtain ⟨rfl, hu⟩ := hu
    subst u
    first | refine v_iaddN C dX6_fetch_34 ?_ | refine v_iadd C dX6_fetch_34 ?_
    refine v_iast C ar_qS_1 (by decide) _ ?_ rfl dX6_fetch_35 ?_
    · omega
    refine V.stt (g2 := (sG (kaG g L.length) 1 (upd (g 1) 396 (m 6 6 + nI (hopsM m j))))) (rfl) ?_
    refine v_aload_n C dX6_fetch_36 rfl ?_
    refine v_getr C fl_X6_7 or_qS_0_3 dX6_fetch_37 ?_
    refine v_sipush (v := nI 398) C dX6_fetch_40 (by decide) ?_
    refine v_dup2 C dX6_fetch_43 rfl rfl ?_
    refine v_ialdQ (x := m 6 8) C ar_qS_1 (by decide) _ ((by rw [sG_at, upd_o (by omega)]; exact hR.a (k := 8) (by decide))) ?_ rfl dX6_fetch_44 ?_
    · omega
    refine v_iconst (v := nI 1) C dX6_fetch_45 (by decide) ?_
    first | refine v_iaddN C dX6_fetch_46 ?_ | refine v_iadd C dX6_fetch_46 ?_
    refine v_iast C ar_qS_1 (by decide) _ ?_ rfl dX6_fetch_47 ?_
    · omega
    have hRf : RowR (fetM j m) (upd (upd (g 1) 396 (m 6 6 + nI (hopsM m j))) 398 (m 6 8 + nI 1)) := Row_fet hR
    refine V.stt (g2 := (sG (kaG g L.length) 1 (upd (upd (g 1) 396 (m 6 6 + nI (hopsM m j))) 398 (m 6 8 + nI 1)))) (sG_sG) ?_
    refine v_aload_n C dX6_fetch_48 rfl ?_
    refine v_getr C fl_X6_7 or_qS_0_3 dX6_fetch_49 ?_
    refine v_sipush (v := nI 388) C dX6_fetch_52 (by decide) ?_
    refine v_ialdQ (x := m 5 4) C ar_qS_1 (by decide) (384 + 4) ((by rw [sG_at]; exact (hRf.t (k := 4) (by decide)).trans (show fetM j m 5 4 = m 5 4 from rfl))) ?_ rfl dX6_fetch_55 ?_
    · omega
    refine v_iconst (v := nI 1) C dX6_fetch_56 (by decide) ?_
    refine v_icmp_ne C 74 dX6_fetch_57 (by decide) (fun c57 => ?_) (fun c57 => ?_)
    · refine v_iload_n C dX6_fetch_74 rfl ?_
      refine v_iret C F (by first | rfl | exact bI_nar _) dX6_fetch_75 (Nat.le_of_ble_eq_true rfl) (Nat.le_of_ble_eq_true rfl) ?_
      first
      | (refine ⟨fun _ => ⟨?_, ?_⟩, fun z => absurd ?_ z⟩; (rw [t_j]); (refine QMp.mk1 rfl ?_; rw [t_j]; unfold fetchM; first | (rw [if_pos c57]; unfold payO; rw [c65]; first | exact hR2 | exact hRf) | (rw [if_neg c57]; exact hRf)); (simp [cdL, hn0, hp_p]); done)
      | (refine ⟨fun z => absurd z ?_, fun _ => ?_⟩; (exact fun z => absurd ((cd2 c5).symm.trans z) (nz_t c5)); (exact congrArg (tg g) (cd2 c5).symm); done)
    · refine v_aload_n C dX6_fetch_60 rfl ?_
      refine v_iload_n C dX6_fetch_61 rfl ?_
      refine v_callVi C (c_X6_owes hl (g := sG (kaG g L.length) 1 (upd (upd (g 1) 396 (m 6 6 + nI (hopsM m j))) 398 (m 6 8 + nI 1))) (m := fetM j m) hRf (by omega)) ym_X6_owes ml_X6_217 emb_id_qS rfl rfl rfl rfl rfl dX6_fetch_62 (Nat.le_of_ble_eq_true rfl) (Nat.le_of_ble_eq_true rfl) (Nat.le_of_ble_eq_true rfl) (Nat.le_of_ble_eq_true rfl) (fun _ _ hu => hu.elim) (fun r u hu => ?_)
      obtain ⟨rfl, hu⟩ := hu
      subst u
      refine V.stt (g2 := (sG (kaG g L.length) 1 (upd (upd (g 1) 396 (m 6 6 + nI (hopsM m j))) 398 (m 6 8 + nI 1)))) (rfl) ?_
      refine v_if_eqB C 74 dX6_fetch_65 (by decide) (fun c65 => ?_) (fun c65 => ?_)
      · refine v_iload_n C dX6_fetch_74 rfl ?_
        refine v_iret C F (by first | rfl | exact bI_nar _) dX6_fetch_75 (Nat.le_of_ble_eq_true rfl) (Nat.le_of_ble_eq_true rfl) ?_
        first
        | (refine ⟨fun _ => ⟨?_, ?_⟩, fun z => absurd ?_ z⟩; (rw [t_j]); (refine QMp.mk1 rfl ?_; rw [t_j]; unfold fetchM; first | (rw [if_pos c57]; unfold payO; rw [c65]; first | exact hR2 | exact hRf) | (rw [if_neg c57]; exact hRf)); (simp [cdL, hn0, hp_p]); done)
        | (refine ⟨fun z => absurd z ?_, fun _ => ?_⟩; (exact fun z => absurd ((cd2 c5).symm.trans z) (nz_t c5)); (exact congrArg (tg g) (cd2 c5).symm); done)
      · refine v_aload_n C dX6_fetch_68 rfl ?_
        refine v_iload_n C dX6_fetch_69 rfl ?_
        refine v_iconst (v := nI 2) C dX6_fetch_70 (by decide) ?_
        refine v_callVv C (c_X6_pays hl (g := sG (kaG g L.length) 1 (upd (upd (g 1) 396 (m 6 6 + nI (hopsM m j))) 398 (m 6 8 + nI 1))) (m := fetM j m) (n := n) (k := 2) hRf (EvOK.of hE rfl) (IM_of hI rfl rfl) (by decide) hj_j) ym_X6_pays ml_X6_282 emb_id_qS rfl rfl rfl rfl rfl dX6_fetch_71 (Nat.le_of_ble_eq_true rfl) (Nat.le_of_ble_eq_true rfl) (Nat.le_of_ble_eq_true rfl) (Nat.le_of_ble_eq_true rfl) (fun _ _ hu => hu.elim) (fun r u hu => ?_)
        obtain ⟨f2, hu, hR2⟩ := hu
        subst u
        refine V.stt (g2 := (sG (kaG g L.length) 1 f2)) (sG_sG) ?_
        refine v_iload_n C dX6_fetch_74 rfl ?_
        refine v_iret C F (by first | rfl | exact bI_nar _) dX6_fetch_75 (Nat.le_of_ble_eq_true rfl) (Nat.le_of_ble_eq_true rfl) ?_
        first
        | (refine ⟨fun _ => ⟨?_, ?_⟩, fun z => absurd ?_ z⟩; (rw [t_j]); (refine QMp.mk1 rfl ?_; rw [t_j]; unfold fetchM; first | (rw [if_pos c57]; unfold payO; rw [c65]; first | exact hR2 | exact hRf) | (rw [if_neg c57]; exact hRf)); (simp [cdL, hn0, hp_p]); done)
        | (refine ⟨fun z => absurd z ?_, fun _ => ?_⟩; (exact fun z => absurd ((cd2 c5).symm.trans z) (nz_t c5)); (exact congrArg (tg g) (cd2 c5).symm); done)
  · skip
    refine v_iconst (v := nI 0) C dX6_fetch_8 (by decide) ?_
    refine v_iret C F (by first | rfl | exact bI_nar _) dX6_fetch_9 (Nat.le_of_ble_eq_true rfl) (Nat.le_of_ble_eq_true rfl) ?_
    first
    | (refine ⟨fun _ => ⟨?_, ?_⟩, fun z => absurd ?_ z⟩; (rw [t_j]); (refine QMp.mk1 rfl ?_; rw [t_j]; unfold fetchM; first | (rw [if_pos c57]; unfold payO; rw [c65]; first | exact hR2 | exact hRf) | (rw [if_neg c57]; exact hRf)); (simp [cdL, hn0, hp_p]); done)
    | (refine ⟨fun z => absurd z ?_, fun _ => ?_⟩; (exact fun z => absurd ((cd2 c5).symm.trans z) (nz_t c5)); (exact congrArg (tg g) (cd2 c5).symm); done)
set_option maxHeartbeats 16000000 in
theorem c_X6_tick {l : Launch} (hl : l.stackTraces = false) {κ : Kp} {h : Nat → Nat} {g : G} {m : Mg} {n c : Nat} {L : List Mg} {t : Int32} (hQ : QMm n m g) (hW : WM n c m) (hH : QHs L g) : Ct SS MM l κ yX6_tick cX6_tick 2 (some FieldType.int) 5 0 0 [.ref (h 0), .int t] (qS κ h) g ri (fun r u => (cdL [(decide (n = 0), 1), (!inB t 1 100, 2)] = 0 → r = nI (min (tN t * bandN m) (cntG (owb m) 0 n)) ∧ QMp g L.length (payK 1 n (min (tN t * bandN m) (cntG (owb m) 0 n)) m) u) ∧ (¬ cdL [(decide (n = 0), 1), (!inB t 1 100, 2)] = 0 → u = tg g (cdL [(decide (n = 0), 1), (!inB t 1 100, 2)]))) (fun _ _ => False) := by
  refine Ct.of (own := RX6) (by decide) rfl hl (by intro v hv; simp only [List.mem_cons, List.not_mem_nil, or_false] at hv; first | (rcases hv with rfl | rfl | rfl | rfl | rfl | rfl <;> rfl) | (rcases hv with rfl | rfl | rfl | rfl | rfl <;> rfl) | (rcases hv with rfl | rfl | rfl | rfl <;> rfl) | (rcases hv with rfl | rfl | rfl <;> rfl) | (rcases hv with rfl | rfl <;> rfl) | (subst hv; rfl) | exact hv.elim) (Nat.le_of_ble_eq_true rfl) (fun X hxl hxk C F N => ?_)
  subst hxl hxk
  show V X (qS (xK X) h) 0 [some (.ref (h 0)), some (.int t)] [] g 0 0
  obtain ⟨hm, hs, h96, hRR⟩ := id hQ
  obtain ⟨-, hn7, hMf⟩ := id hW
  refine v_aload_n C dX6_tick_0 rfl ?_
  refine v_callVi C (c_X6_noMemory hl (n := n) hm) ym_X6_noMemory ml_X6_207 emb_id_qS rfl rfl rfl rfl rfl dX6_tick_1 (Nat.le_of_ble_eq_true rfl) (Nat.le_of_ble_eq_true rfl) (Nat.le_of_ble_eq_true rfl) (Nat.le_of_ble_eq_true rfl) (fun _ _ hu => hu.elim) (fun r u hu => ?_)
  obtain ⟨rfl, hu⟩ := hu
  subst u
  refine v_if_neB C 30 dX6_tick_4 (by decide) (fun c4 => ?_) (fun c4 => ?_)
  · have hz0 : n = 0 := of_decide_eq_true c4
    refine V.stt (g2 := tg g 1) (by rw [c4]; rfl) ?_
    refine v_iconst (v := nI 0) C dX6_tick_30 (by decide) ?_
    refine v_iret C F (by first | rfl | exact bI_nar _) dX6_tick_31 (Nat.le_of_ble_eq_true rfl) (Nat.le_of_ble_eq_true rfl) ?_
    first
    | (refine ⟨fun _ => ⟨?_, ?_⟩, fun z => absurd ?_ z⟩; (rw [t_j]); (exact QMp.mk1 rfl (by rw [t_j]; exact hR2)); (simp [cdL, hn0, c27]); done)
    | (refine ⟨fun z => absurd z ?_, fun _ => ?_⟩; (simp [cdL, hz0]); (simp [cdL, hz0]); done)
    | (refine ⟨fun z => absurd z ?_, fun _ => ?_⟩; (simp [cdL, hn0, c27]); (simp [cdL, hn0, c27]); done)
  · have hn0 : ¬ n = 0 := of_decide_eq_false c4
    have hR := hRR hn0
    have hMI := hMf hn0
    obtain ⟨hI, hE, hLK, hn1, hSB, hBY, hPR⟩ := id hMI
    have hbd := band_ok hSB
    have hn := hI.1
    refine V.stt (g2 := tg g 0) (by rw [c4]; rfl) ?_
    refine v_aload_n C dX6_tick_7 rfl ?_
    refine v_iload_n C dX6_tick_8 rfl ?_
    refine v_iconst (v := nI 1) C dX6_tick_9 (by decide) ?_
    refine v_bipush (v := nI 100) C dX6_tick_10 (by decide) ?_
    refine v_callSi C (c_X6_in hl (v := t) (a := 1) (b := 100) (by decide) (by decide)) ys_X6_in rfl ml_X6_98 (emb_n fix_qS) rfl rfl rfl dX6_tick_12 (Nat.le_of_ble_eq_true rfl) (Nat.le_of_ble_eq_true rfl) (Nat.le_of_ble_eq_true rfl) (Nat.le_of_ble_eq_true rfl) (fun _ _ hu => hu.elim) (fun r u hu => ?_)
    subst r
    refine v_if_neB C 22 dX6_tick_15 (by decide) (fun c15 => ?_) (fun c15 => ?_)
    · refine v_iconst (v := nI 0) C dX6_tick_22 (by decide) ?_
      refine V.eqs (st2 := [.int (bI (!inB t 1 100)), .ref (h 0)]) ?_ (congrArg (fun z => [Value.int z, Value.ref (h 0)]) (by first | exact bI_t (by simp [c15]) | exact bI_f (by simp [c15])))
      refine v_iconst (v := nI 2) C dX6_tick_23 (by decide) ?_
      refine v_callVi C (c_X6_refuse hl (b := !inB t 1 100) (k := 2) (by decide) (by decide)) ym_X6_refuse ml_X6_40 emb_id_qS rfl rfl rfl rfl rfl dX6_tick_24 (Nat.le_of_ble_eq_true rfl) (Nat.le_of_ble_eq_true rfl) (Nat.le_of_ble_eq_true rfl) (Nat.le_of_ble_eq_true rfl) (fun _ _ hu => hu.elim) (fun r u hu => ?_)
      obtain ⟨rfl, hu⟩ := hu
      subst u
      refine v_if_eqB C 32 dX6_tick_27 (by decide) (fun c27 => ?_) (fun c27 => ?_)
      · refine V.stt (g2 := tg g 0) (by rw [c27]; rfl) ?_
        have hw4 : inB t 1 100 = true := by simpa using c27
        obtain ⟨j, hi_j, hj_j, hk_j, e_j⟩ := in_at (a := 1) hw4
        subst e_j
        have t_j : tN (nI j) = j := tN_nI hk_j
        refine v_aload_n C dX6_tick_32 rfl ?_
        refine v_callVv C (c_X6_keepsAll hl (g := tg g 0) (c := L.length) hH.1 hH.2.1) ym_X6_keepsAll ml_X6_316 emb_id_qS rfl rfl rfl rfl rfl dX6_tick_33 (Nat.le_of_ble_eq_true rfl) (Nat.le_of_ble_eq_true rfl) (Nat.le_of_ble_eq_true rfl) (Nat.le_of_ble_eq_true rfl) (fun _ _ hu => hu.elim) (fun r u hu => ?_)
        subst u
        refine V.stt (g2 := (kaG g L.length)) (ka_eq) ?_
        refine v_aload_n C dX6_tick_36 rfl ?_
        refine v_iload_n C dX6_tick_37 rfl ?_
        refine v_callVi C (c_X6_ticks hl (g := (kaG g L.length)) (m := m) (n := n) (w := bandN m) hR hE hI hs hbd.1 hbd.2.2 (by omega)) ym_X6_ticks ml_X6_301 emb_id_qS rfl rfl rfl rfl rfl dX6_tick_38 (Nat.le_of_ble_eq_true rfl) (Nat.le_of_ble_eq_true rfl) (Nat.le_of_ble_eq_true rfl) (Nat.le_of_ble_eq_true rfl) (fun _ _ hu => hu.elim) (fun r u hu => ?_)
        obtain ⟨rfl, f2, hu, hR2⟩ := hu
        subst u
        refine v_iret C F (by first | rfl | exact bI_nar _) dX6_tick_41 (Nat.le_of_ble_eq_true rfl) (Nat.le_of_ble_eq_true rfl) ?_
        first
        | (refine ⟨fun _ => ⟨?_, ?_⟩, fun z => absurd ?_ z⟩; (rw [t_j]); (exact QMp.mk1 rfl (by rw [t_j]; exact hR2)); (simp [cdL, hn0, c27]); done)
        | (refine ⟨fun z => absurd z ?_, fun _ => ?_⟩; (simp [cdL, hz0]); (simp [cdL, hz0]); done)
        | (refine ⟨fun z => absurd z ?_, fun _ => ?_⟩; (simp [cdL, hn0, c27]); (simp [cdL, hn0, c27]); done)
      · refine V.stt (g2 := tg g 2) (by rw [c27]; rfl) ?_
        refine v_iconst (v := nI 0) C dX6_tick_30 (by decide) ?_
        refine v_iret C F (by first | rfl | exact bI_nar _) dX6_tick_31 (Nat.le_of_ble_eq_true rfl) (Nat.le_of_ble_eq_true rfl) ?_
        first
        | (refine ⟨fun _ => ⟨?_, ?_⟩, fun z => absurd ?_ z⟩; (rw [t_j]); (exact QMp.mk1 rfl (by rw [t_j]; exact hR2)); (simp [cdL, hn0, c27]); done)
        | (refine ⟨fun z => absurd z ?_, fun _ => ?_⟩; (simp [cdL, hz0]); (simp [cdL, hz0]); done)
        | (refine ⟨fun z => absurd z ?_, fun _ => ?_⟩; (simp [cdL, hn0, c27]); (simp [cdL, hn0, c27]); done)
    · refine v_iconst (v := nI 1) C dX6_tick_18 (by decide) ?_
      refine v_goto C 23 dX6_tick_19 (by decide) ?_
      refine V.eqs (st2 := [.int (bI (!inB t 1 100)), .ref (h 0)]) ?_ (congrArg (fun z => [Value.int z, Value.ref (h 0)]) (by first | exact bI_t (by simp [c15]) | exact bI_f (by simp [c15])))
      refine v_iconst (v := nI 2) C dX6_tick_23 (by decide) ?_
      refine v_callVi C (c_X6_refuse hl (b := !inB t 1 100) (k := 2) (by decide) (by decide)) ym_X6_refuse ml_X6_40 emb_id_qS rfl rfl rfl rfl rfl dX6_tick_24 (Nat.le_of_ble_eq_true rfl) (Nat.le_of_ble_eq_true rfl) (Nat.le_of_ble_eq_true rfl) (Nat.le_of_ble_eq_true rfl) (fun _ _ hu => hu.elim) (fun r u hu => ?_)
      obtain ⟨rfl, hu⟩ := hu
      subst u
      refine v_if_eqB C 32 dX6_tick_27 (by decide) (fun c27 => ?_) (fun c27 => ?_)
      · refine V.stt (g2 := tg g 0) (by rw [c27]; rfl) ?_
        have hw4 : inB t 1 100 = true := by simpa using c27
        obtain ⟨j, hi_j, hj_j, hk_j, e_j⟩ := in_at (a := 1) hw4
        subst e_j
        have t_j : tN (nI j) = j := tN_nI hk_j
        refine v_aload_n C dX6_tick_32 rfl ?_
        refine v_callVv C (c_X6_keepsAll hl (g := tg g 0) (c := L.length) hH.1 hH.2.1) ym_X6_keepsAll ml_X6_316 emb_id_qS rfl rfl rfl rfl rfl dX6_tick_33 (Nat.le_of_ble_eq_true rfl) (Nat.le_of_ble_eq_true rfl) (Nat.le_of_ble_eq_true rfl) (Nat.le_of_ble_eq_true rfl) (fun _ _ hu => hu.elim) (fun r u hu => ?_)
        subst u
        refine V.stt (g2 := (kaG g L.length)) (ka_eq) ?_
        refine v_aload_n C dX6_tick_36 rfl ?_
        refine v_iload_n C dX6_tick_37 rfl ?_
        refine v_callVi C (c_X6_ticks hl (g := (kaG g L.length)) (m := m) (n := n) (w := bandN m) hR hE hI hs hbd.1 hbd.2.2 (by omega)) ym_X6_ticks ml_X6_301 emb_id_qS rfl rfl rfl rfl rfl dX6_tick_38 (Nat.le_of_ble_eq_true rfl) (Nat.le_of_ble_eq_true rfl) (Nat.le_of_ble_eq_true rfl) (Nat.le_of_ble_eq_true rfl) (fun _ _ hu => hu.elim) (fun r u hu => ?_)
        obtain ⟨rfl, f2, hu, hR2⟩ := hu
        subst u
        refine v_iret C F (by first | rfl | exact bI_nar _) dX6_tick_41 (Nat.le_of_ble_eq_true rfl) (Nat.le_of_ble_eq_true rfl) ?_
        first
        | (refine ⟨fun _ => ⟨?_, ?_⟩, fun z => absurd ?_ z⟩; (rw [t_j]); (exact QMp.mk1 rfl (by rw [t_j]; exact hR2)); (simp [cdL, hn0, c27]); done)
        | (refine ⟨fun z => absurd z ?_, fun _ => ?_⟩; (simp [cdL, hz0]); (simp [cdL, hz0]); done)
        | (refine ⟨fun z => absurd z ?_, fun _ => ?_⟩; (simp [cdL, hn0, c27]); (simp [cdL, hn0, c27]); done)
      · refine V.stt (g2 := tg g 2) (by rw [c27]; rfl) ?_
        refine v_iconst (v := nI 0) C dX6_tick_30 (by decide) ?_
        refine v_iret C F (by first | rfl | exact bI_nar _) dX6_tick_31 (Nat.le_of_ble_eq_true rfl) (Nat.le_of_ble_eq_true rfl) ?_
        first
        | (refine ⟨fun _ => ⟨?_, ?_⟩, fun z => absurd ?_ z⟩; (rw [t_j]); (exact QMp.mk1 rfl (by rw [t_j]; exact hR2)); (simp [cdL, hn0, c27]); done)
        | (refine ⟨fun z => absurd z ?_, fun _ => ?_⟩; (simp [cdL, hz0]); (simp [cdL, hz0]); done)
        | (refine ⟨fun z => absurd z ?_, fun _ => ?_⟩; (simp [cdL, hn0, c27]); (simp [cdL, hn0, c27]); done)
theorem row_owb {a : Nat} {y m : Mg} {i : Nat} (hi : a ≤ i) (h : ∀ p, i ≤ p → y 2 p = m 2 p) : owb y i = owb m i := by unfold owb; rw [h i (Nat.le_refl _)]
set_option maxHeartbeats 16000000 in
theorem c_X6_payRange {l : Launch} (hl : l.stackTraces = false) {κ : Kp} {h : Nat → Nat} {g : G} {m : Mg} {n c : Nat} {L : List Mg} {a b : Int32} (hQ : QMm n m g) (hW : WM n c m) (hH : QHs L g) : Ct SS MM l κ yX6_payRange cX6_payRange 5 (some FieldType.int) 4 0 0 [.ref (h 0), .int a, .int b] (qS κ h) g ri (fun r u => (cdL [(decide (n = 0), 1), (!plB n a, 2), (!plB n b, 2), (decide (b.toInt < a.toInt), 3)] = 0 → r = nI (cntG (owb m) (tN a) (tN b + 1 - tN a)) ∧ QMp g L.length (rowM (tN a) (tN b) m) u) ∧ (¬ cdL [(decide (n = 0), 1), (!plB n a, 2), (!plB n b, 2), (decide (b.toInt < a.toInt), 3)] = 0 → u = tg g (cdL [(decide (n = 0), 1), (!plB n a, 2), (!plB n b, 2), (decide (b.toInt < a.toInt), 3)]))) (fun _ _ => False) := by
  refine Ct.of (own := RX6) (by decide) rfl hl (by intro v hv; simp only [List.mem_cons, List.not_mem_nil, or_false] at hv; first | (rcases hv with rfl | rfl | rfl | rfl | rfl | rfl <;> rfl) | (rcases hv with rfl | rfl | rfl | rfl | rfl <;> rfl) | (rcases hv with rfl | rfl | rfl | rfl <;> rfl) | (rcases hv with rfl | rfl | rfl <;> rfl) | (rcases hv with rfl | rfl <;> rfl) | (subst hv; rfl) | exact hv.elim) (Nat.le_of_ble_eq_true rfl) (fun X hxl hxk C F N => ?_)
  subst hxl hxk
  show V X (qS (xK X) h) 0 [some (.ref (h 0)), some (.int a), some (.int b), none, none] [] g 0 0
  obtain ⟨hm, hs, h96, hRR⟩ := id hQ
  obtain ⟨-, hn7, hMf⟩ := id hW
  refine v_aload_n C dX6_payRange_0 rfl ?_
  refine v_iload_n C dX6_payRange_1 rfl ?_
  refine v_iload_n C dX6_payRange_2 rfl ?_
  refine v_callVi C (c_X6_noRange hl (g := g) (m := m) (n := n) hQ) ym_X6_noRange ml_X6_251 emb_id_qS rfl rfl rfl rfl rfl dX6_payRange_3 (Nat.le_of_ble_eq_true rfl) (Nat.le_of_ble_eq_true rfl) (Nat.le_of_ble_eq_true rfl) (Nat.le_of_ble_eq_true rfl) (fun _ _ hu => hu.elim) (fun r u hu => ?_)
  obtain ⟨rfl, hu⟩ := hu
  subst u
  refine v_if_eqB C 11 dX6_payRange_6 (by decide) (fun c6 => ?_) (fun c6 => ?_)
  · have hcd := nz_f c6
    obtain ⟨hd1, hd2⟩ := cd_0 (by decide) hcd
    obtain ⟨hd2, hd3⟩ := cd_0 (by decide) hd2
    obtain ⟨hd3, hd4⟩ := cd_0 (by decide) hd3
    obtain ⟨hd4, -⟩ := cd_0 (by decide) hd4
    have hn0 : ¬ n = 0 := of_decide_eq_false hd1
    have hp_a : plB n a = true := by simpa using hd2
    have hp_b : plB n b = true := by simpa using hd3
    have hlt : ¬ b.toInt < a.toInt := of_decide_eq_false hd4
    have hR := hRR hn0
    have hMI := hMf hn0
    obtain ⟨hI, hE, hLK, hn1, hSB, hBY, hPR⟩ := id hMI
    have hbd := band_ok hSB
    have hn := hI.1
    refine V.stt (g2 := tg g 0) (by rw [hcd]) ?_
    clear hcd hd4 hd3 hd2 hd1 c6
    obtain ⟨ja, hj_ja, e_ja⟩ := pl_at hp_a
    subst e_ja
    obtain ⟨jb, hj_jb, e_jb⟩ := pl_at hp_b
    subst e_jb
    have t_ja : tN (nI ja) = ja := tN_nI (by omega)
    have t_jb : tN (nI jb) = jb := tN_nI (by omega)
    have hle := hlt
    rw [nI_toInt (by omega), nI_toInt (by omega)] at hle
    have hle : ja ≤ jb := by omega
    refine v_aload_n C dX6_payRange_11 rfl ?_
    refine v_callVv C (c_X6_keepsAll hl (g := tg g 0) (c := L.length) hH.1 hH.2.1) ym_X6_keepsAll ml_X6_316 emb_id_qS rfl rfl rfl rfl rfl dX6_payRange_12 (Nat.le_of_ble_eq_true rfl) (Nat.le_of_ble_eq_true rfl) (Nat.le_of_ble_eq_true rfl) (Nat.le_of_ble_eq_true rfl) (fun _ _ hu => hu.elim) (fun r u hu => ?_)
    subst u
    refine V.stt (g2 := (kaG g L.length)) (ka_eq) ?_
    refine v_iconst (v := nI 0) C dX6_payRange_15 (by decide) ?_
    refine v_istore_n C (lo2 := [some _, some _, some _, some _, none]) dX6_payRange_16 rfl (Nat.le_of_ble_eq_true rfl) rfl ?_
    refine v_iload_n C dX6_payRange_17 rfl ?_
    refine v_istore C (lo2 := [some _, some _, some _, some _, some _]) dX6_payRange_18 rfl (Nat.le_of_ble_eq_true rfl) rfl ?_
    have L20 : ∀ (t : Nat × Nat × Mg × (Nat → Int32)), (fun t => ja ≤ t.1 ∧ t.1 ≤ jb + 1 ∧ Pd n m t.2.2.1 ∧ RowR t.2.2.1 t.2.2.2 ∧ forG (fun p y => payO 2 y p) t.1 (jb + 1 - t.1) t.2.2.1 = rowM ja jb m ∧ t.2.1 + cntG (owb m) t.1 (jb + 1 - t.1) = cntG (owb m) ja (jb + 1 - ja) ∧ (∀ p, t.1 ≤ p → t.2.2.1 2 p = m 2 p) ∧ t.2.1 ≤ t.1) t → (fun t : Nat × Nat × Mg × (Nat → Int32) => V X (qS (xK X) h) 20 [some (.ref (h 0)), some (.int (nI ja)), some (.int (nI jb)), some (.int (nI t.2.1)), some (.int (nI t.1))] [] (sG (kaG g L.length) 1 t.2.2.2) 0 0) t := by
      refine v_ind (fun t : Nat × Nat × Mg × (Nat → Int32) => jb + 1 - t.1) ?_
      rintro ⟨i, c0, y, f⟩ ih20 hI20
      try dsimp only at hI20 ⊢
      obtain ⟨i1, i2, i3, hRy, i4, i5, i6, i7⟩ := hI20
      have hyI : IM y n := i3.im hI
      have hyE : EvOK y := i3.1.2.2.2.2 hE
      have hRy : RowR y f := hRy
      have i6 : ∀ p, i ≤ p → y 2 p = m 2 p := i6
      have i7 : c0 ≤ i := i7
      refine v_iload C dX6_payRange_20 rfl ?_
      refine v_iload_n C dX6_payRange_22 rfl ?_
      first | refine v_icmp_gtN C 51 dX6_payRange_23 (by decide) (by omega) (by omega) (fun c23 => ?_) (fun c23 => ?_) | refine v_icmp_gt C 51 dX6_payRange_23 (by decide) (fun c23 => ?_) (fun c23 => ?_)
      · rw [forG_0 (by omega)] at i4
        rw [cntG_0 (by omega), Nat.add_zero] at i5
        refine v_iload_n C dX6_payRange_51 rfl ?_
        refine v_iret C F (by first | rfl | exact bI_nar _) dX6_payRange_52 (Nat.le_of_ble_eq_true rfl) (Nat.le_of_ble_eq_true rfl) ?_
        first
        | (refine ⟨fun _ => ⟨?_, ?_⟩, fun z => absurd ?_ z⟩; (rw [t_ja, t_jb, ← i5]); (exact QMp.mk1 rfl (by rw [t_ja, t_jb, show rowM ja jb m = y from i4.symm]; exact hRy)); (simp [cdL, hn0, hp_a, hp_b, hlt]); done)
        | (refine ⟨fun z => absurd z ?_, fun _ => ?_⟩; (exact fun z => absurd ((cd4 c6).symm.trans z) (nz_t c6)); (exact congrArg (tg g) (cd4 c6).symm); done)
      · refine v_aload_n C dX6_payRange_26 rfl ?_
        refine v_iload C dX6_payRange_27 rfl ?_
        refine v_callVi C (c_X6_owes hl (g := sG (kaG g L.length) 1 f) (m := y) hRy (by omega)) ym_X6_owes ml_X6_217 emb_id_qS rfl rfl rfl rfl rfl dX6_payRange_29 (Nat.le_of_ble_eq_true rfl) (Nat.le_of_ble_eq_true rfl) (Nat.le_of_ble_eq_true rfl) (Nat.le_of_ble_eq_true rfl) (fun _ _ hu => hu.elim) (fun r u hu => ?_)
        obtain ⟨rfl, hu⟩ := hu
        subst u
        refine v_if_eqB C 45 dX6_payRange_32 (by decide) (fun c32 => ?_) (fun c32 => ?_)
        · first | refine v_iinc1 C (lo2 := [some _, some _, some _, some _, some _]) dX6_payRange_45 rfl rfl rfl ?_ | refine v_iinc C (lo2 := [some _, some _, some _, some _, some _]) dX6_payRange_45 rfl rfl rfl rfl ?_
          refine v_goto C 20 dX6_payRange_48 (by decide) ?_
          have hib : i < jb + 1 := by omega
          have how : owb y i = owb m i := row_owb i1 i6
          rw [forG_s hib] at i4
          rw [cntG_s hib] at i5
          first
          | (have hz : payO 2 y i = payM 2 y i := if_pos c32
             rw [hz] at i4
             rw [← how, c32, if_pos rfl] at i5
             exact ih20 (i + 1, c0 + 1, payM 2 y i, f3) (by show jb + 1 - (i + 1) < jb + 1 - i; omega) ⟨by show ja ≤ i + 1; omega, by show i + 1 ≤ jb + 1; omega, (show Pd n m (payM 2 y i) from i3.trans hI (payM_Pd (by omega))), hR3, i4, by show c0 + 1 + cntG (owb m) (i + 1) (jb + 1 - (i + 1)) = cntG (owb m) ja (jb + 1 - ja); omega, fun p hp => by
               have hp : i + 1 ≤ p := hp
               show payM 2 y i 2 p = m 2 p
               rw [payM_2, upd_o (by omega)]
               exact i6 p (by omega), by show c0 + 1 ≤ i + 1; omega⟩)
          | (have hz : payO 2 y i = y := if_neg (by rw [c32]; exact Bool.false_ne_true)
             rw [hz] at i4
             rw [← how, c32, if_neg Bool.false_ne_true, Nat.zero_add] at i5
             exact ih20 (i + 1, c0, y, f) (by show jb + 1 - (i + 1) < jb + 1 - i; omega) ⟨by show ja ≤ i + 1; omega, by show i + 1 ≤ jb + 1; omega, i3, hRy, i4, i5, fun p hp => i6 p (by have hp : i + 1 ≤ p := hp; omega), by show c0 ≤ i + 1; omega⟩)
        · refine v_aload_n C dX6_payRange_35 rfl ?_
          refine v_iload C dX6_payRange_36 rfl ?_
          refine v_iconst (v := nI 2) C dX6_payRange_38 (by decide) ?_
          refine v_callVv C (c_X6_pays hl (g := sG (kaG g L.length) 1 f) (m := y) (n := n) (k := 2) hRy hyE hyI (by decide) (by omega)) ym_X6_pays ml_X6_282 emb_id_qS rfl rfl rfl rfl rfl dX6_payRange_39 (Nat.le_of_ble_eq_true rfl) (Nat.le_of_ble_eq_true rfl) (Nat.le_of_ble_eq_true rfl) (Nat.le_of_ble_eq_true rfl) (fun _ _ hu => hu.elim) (fun r u hu => ?_)
          obtain ⟨f3, hu, hR3⟩ := hu
          subst u
          refine V.stt (g2 := (sG (kaG g L.length) 1 f3)) (sG_sG) ?_
          first | refine v_iinc1 C (lo2 := [some _, some _, some _, some _, some _]) dX6_payRange_42 rfl rfl rfl ?_ | refine v_iinc C (lo2 := [some _, some _, some _, some _, some _]) dX6_payRange_42 rfl rfl rfl rfl ?_
          first | refine v_iinc1 C (lo2 := [some _, some _, some _, some _, some _]) dX6_payRange_45 rfl rfl rfl ?_ | refine v_iinc C (lo2 := [some _, some _, some _, some _, some _]) dX6_payRange_45 rfl rfl rfl rfl ?_
          refine v_goto C 20 dX6_payRange_48 (by decide) ?_
          have hib : i < jb + 1 := by omega
          have how : owb y i = owb m i := row_owb i1 i6
          rw [forG_s hib] at i4
          rw [cntG_s hib] at i5
          first
          | (have hz : payO 2 y i = payM 2 y i := if_pos c32
             rw [hz] at i4
             rw [← how, c32, if_pos rfl] at i5
             exact ih20 (i + 1, c0 + 1, payM 2 y i, f3) (by show jb + 1 - (i + 1) < jb + 1 - i; omega) ⟨by show ja ≤ i + 1; omega, by show i + 1 ≤ jb + 1; omega, (show Pd n m (payM 2 y i) from i3.trans hI (payM_Pd (by omega))), hR3, i4, by show c0 + 1 + cntG (owb m) (i + 1) (jb + 1 - (i + 1)) = cntG (owb m) ja (jb + 1 - ja); omega, fun p hp => by
               have hp : i + 1 ≤ p := hp
               show payM 2 y i 2 p = m 2 p
               rw [payM_2, upd_o (by omega)]
               exact i6 p (by omega), by show c0 + 1 ≤ i + 1; omega⟩)
          | (have hz : payO 2 y i = y := if_neg (by rw [c32]; exact Bool.false_ne_true)
             rw [hz] at i4
             rw [← how, c32, if_neg Bool.false_ne_true, Nat.zero_add] at i5
             exact ih20 (i + 1, c0, y, f) (by show jb + 1 - (i + 1) < jb + 1 - i; omega) ⟨by show ja ≤ i + 1; omega, by show i + 1 ≤ jb + 1; omega, i3, hRy, i4, i5, fun p hp => i6 p (by have hp : i + 1 ≤ p := hp; omega), by show c0 ≤ i + 1; omega⟩)
    have H := L20 (ja, 0, m, g 1) ⟨Nat.le_refl _, by show ja ≤ jb + 1; omega, Pd.rfl, hR, rfl, Nat.zero_add _, fun _ _ => rfl, Nat.zero_le _⟩
    try dsimp only at H
    rw [show sG (kaG g L.length) 1 (g 1) = (kaG g L.length) from sG_id rfl] at H
    exact H
  · skip
    refine v_iconst (v := nI 0) C dX6_payRange_9 (by decide) ?_
    refine v_iret C F (by first | rfl | exact bI_nar _) dX6_payRange_10 (Nat.le_of_ble_eq_true rfl) (Nat.le_of_ble_eq_true rfl) ?_
    first
    | (refine ⟨fun _ => ⟨?_, ?_⟩, fun z => absurd ?_ z⟩; (rw [t_ja, t_jb, ← i5]); (exact QMp.mk1 rfl (by rw [t_ja, t_jb, show rowM ja jb m = y from i4.symm]; exact hRy)); (simp [cdL, hn0, hp_a, hp_b, hlt]); done)
    | (refine ⟨fun z => absurd z ?_, fun _ => ?_⟩; (exact fun z => absurd ((cd4 c6).symm.trans z) (nz_t c6)); (exact congrArg (tg g) (cd4 c6).symm); done)
set_option maxHeartbeats 16000000 in
theorem c_X6_shorten {l : Launch} (hl : l.stackTraces = false) {κ : Kp} {h : Nat → Nat} {g : G} {m : Mg} {n c : Nat} {L : List Mg} {p : Int32} (hQ : QMm n m g) (hW : WM n c m) (hH : QHs L g) : Ct SS MM l κ yX6_shorten cX6_shorten 3 (some FieldType.int) 3 0 0 [.ref (h 0), .int p] (qS κ h) g ri (fun r u => (cdL [(decide (n = 0), 1), (!plB n p, 2), (!owb m (tN p), 3)] = 0 → r = nI (hopsM m (tN p)) - nI 1 ∧ QMp g L.length (srcM m (tN p) (nI (rootM m (tN p)))) u) ∧ (¬ cdL [(decide (n = 0), 1), (!plB n p, 2), (!owb m (tN p), 3)] = 0 → u = tg g (cdL [(decide (n = 0), 1), (!plB n p, 2), (!owb m (tN p), 3)]))) (fun _ _ => False) := by
  refine Ct.of (own := RX6) (by decide) rfl hl (by intro v hv; simp only [List.mem_cons, List.not_mem_nil, or_false] at hv; first | (rcases hv with rfl | rfl | rfl | rfl | rfl | rfl <;> rfl) | (rcases hv with rfl | rfl | rfl | rfl | rfl <;> rfl) | (rcases hv with rfl | rfl | rfl | rfl <;> rfl) | (rcases hv with rfl | rfl | rfl <;> rfl) | (rcases hv with rfl | rfl <;> rfl) | (subst hv; rfl) | exact hv.elim) (Nat.le_of_ble_eq_true rfl) (fun X hxl hxk C F N => ?_)
  subst hxl hxk
  show V X (qS (xK X) h) 0 [some (.ref (h 0)), some (.int p), none] [] g 0 0
  obtain ⟨hm, hs, h96, hRR⟩ := id hQ
  obtain ⟨-, hn7, hMf⟩ := id hW
  refine v_aload_n C dX6_shorten_0 rfl ?_
  refine v_iload_n C dX6_shorten_1 rfl ?_
  refine v_callVi C (c_X6_noPlace hl (g := g) (m := m) (n := n) hQ) ym_X6_noPlace ml_X6_223 emb_id_qS rfl rfl rfl rfl rfl dX6_shorten_2 (Nat.le_of_ble_eq_true rfl) (Nat.le_of_ble_eq_true rfl) (Nat.le_of_ble_eq_true rfl) (Nat.le_of_ble_eq_true rfl) (fun _ _ hu => hu.elim) (fun r u hu => ?_)
  obtain ⟨rfl, hu⟩ := hu
  subst u
  refine v_if_neB C 29 dX6_shorten_5 (by decide) (fun c5 => ?_) (fun c5 => ?_)
  · skip
    refine v_iconst (v := nI 0) C dX6_shorten_29 (by decide) ?_
    refine v_iret C F (by first | rfl | exact bI_nar _) dX6_shorten_30 (Nat.le_of_ble_eq_true rfl) (Nat.le_of_ble_eq_true rfl) ?_
    first
    | (refine ⟨fun _ => ⟨?_, ?_⟩, fun z => absurd ?_ z⟩; (rw [t_j]); (exact QMp.mk1 rfl (by rw [t_j]; exact Row_src hR (by omega))); (simp [cdL, hn0, hp_p, c26, t_j]); done)
    | (refine ⟨fun z => absurd z ?_, fun _ => ?_⟩; (exact fun z => absurd ((cd2 c5).symm.trans z) (nz_t c5)); (exact congrArg (tg g) (cd2 c5).symm); done)
    | (refine ⟨fun z => absurd z ?_, fun _ => ?_⟩; (simp [cdL, hn0, hp_p, c26, t_j]); (simp [cdL, hn0, hp_p, c26, t_j]); done)
  · have hcd := nz_f c5
    obtain ⟨hd1, hd2⟩ := cd_0 (by decide) hcd
    obtain ⟨hd2, -⟩ := cd_0 (by decide) hd2
    have hn0 : ¬ n = 0 := of_decide_eq_false hd1
    have hp_p : plB n p = true := by simpa using hd2
    have hR := hRR hn0
    have hMI := hMf hn0
    obtain ⟨hI, hE, hLK, hn1, hSB, hBY, hPR⟩ := id hMI
    have hbd := band_ok hSB
    have hn := hI.1
    refine V.stt (g2 := tg g 0) (by rw [hcd]) ?_
    clear hcd hd2 hd1 c5
    obtain ⟨j, hj_j, e_j⟩ := pl_at hp_p
    subst e_j
    have t_j : tN (nI j) = j := tN_nI (by omega)
    refine v_aload_n C dX6_shorten_8 rfl ?_
    refine v_aload_n C dX6_shorten_9 rfl ?_
    refine v_iload_n C dX6_shorten_10 rfl ?_
    refine v_callVi C (c_X6_owes hl (g := tg g 0) (m := m) hR (by omega)) ym_X6_owes ml_X6_217 emb_id_qS rfl rfl rfl rfl rfl dX6_shorten_11 (Nat.le_of_ble_eq_true rfl) (Nat.le_of_ble_eq_true rfl) (Nat.le_of_ble_eq_true rfl) (Nat.le_of_ble_eq_true rfl) (fun _ _ hu => hu.elim) (fun r u hu => ?_)
    obtain ⟨rfl, hu⟩ := hu
    subst u
    refine V.stt (g2 := (tg g 0)) (rfl) ?_
    refine v_if_neB C 21 dX6_shorten_14 (by decide) (fun c14 => ?_) (fun c14 => ?_)
    · refine v_iconst (v := nI 0) C dX6_shorten_21 (by decide) ?_
      refine V.eqs (st2 := [.int (bI (!owb m j)), .ref (h 0)]) ?_ (congrArg (fun z => [Value.int z, Value.ref (h 0)]) (by first | exact bI_t (by simp [c14]) | exact bI_f (by simp [c14])))
      refine v_iconst (v := nI 3) C dX6_shorten_22 (by decide) ?_
      refine v_callVi C (c_X6_refuse hl (b := !owb m j) (k := 3) (by decide) (by decide)) ym_X6_refuse ml_X6_40 emb_id_qS rfl rfl rfl rfl rfl dX6_shorten_23 (Nat.le_of_ble_eq_true rfl) (Nat.le_of_ble_eq_true rfl) (Nat.le_of_ble_eq_true rfl) (Nat.le_of_ble_eq_true rfl) (fun _ _ hu => hu.elim) (fun r u hu => ?_)
      obtain ⟨rfl, hu⟩ := hu
      subst u
      refine v_if_eqB C 31 dX6_shorten_26 (by decide) (fun c26 => ?_) (fun c26 => ?_)
      · refine V.stt (g2 := tg g 0) (by rw [c26]; rfl) ?_
        refine v_aload_n C dX6_shorten_31 rfl ?_
        refine v_callVv C (c_X6_keepsAll hl (g := tg g 0) (c := L.length) hH.1 hH.2.1) ym_X6_keepsAll ml_X6_316 emb_id_qS rfl rfl rfl rfl rfl dX6_shorten_32 (Nat.le_of_ble_eq_true rfl) (Nat.le_of_ble_eq_true rfl) (Nat.le_of_ble_eq_true rfl) (Nat.le_of_ble_eq_true rfl) (fun _ _ hu => hu.elim) (fun r u hu => ?_)
        subst u
        refine V.stt (g2 := (kaG g L.length)) (ka_eq) ?_
        refine v_aload_n C dX6_shorten_35 rfl ?_
        refine v_iload_n C dX6_shorten_36 rfl ?_
        refine v_callVi C (c_X6_hopsOf hl (g := (kaG g L.length)) (m := m) (n := n) hR hI hj_j) ym_X6_hopsOf ml_X6_229 emb_id_qS rfl rfl rfl rfl rfl dX6_shorten_37 (Nat.le_of_ble_eq_true rfl) (Nat.le_of_ble_eq_true rfl) (Nat.le_of_ble_eq_true rfl) (Nat.le_of_ble_eq_true rfl) (fun _ _ hu => hu.elim) (fun r u hu => ?_)
        obtain ⟨rfl, hu⟩ := hu
        subst u
        refine v_istore_n C (lo2 := [some _, some _, some _]) dX6_shorten_40 rfl (Nat.le_of_ble_eq_true rfl) rfl ?_
        refine v_aload_n C dX6_shorten_41 rfl ?_
        refine v_getr C fl_X6_7 or_qS_0_3 dX6_shorten_42 ?_
        refine v_bipush (v := nI 96) C dX6_shorten_45 (by decide) ?_
        refine v_iload_n C dX6_shorten_47 rfl ?_
        first | refine v_iaddN C dX6_shorten_48 ?_ | refine v_iadd C dX6_shorten_48 ?_
        refine v_aload_n C dX6_shorten_49 rfl ?_
        refine v_iload_n C dX6_shorten_50 rfl ?_
        refine v_callVi C (c_X6_rootOf hl (g := (kaG g L.length)) (m := m) (n := n) hR hI hj_j) ym_X6_rootOf ml_X6_220 emb_id_qS rfl rfl rfl rfl rfl dX6_shorten_51 (Nat.le_of_ble_eq_true rfl) (Nat.le_of_ble_eq_true rfl) (Nat.le_of_ble_eq_true rfl) (Nat.le_of_ble_eq_true rfl) (fun _ _ hu => hu.elim) (fun r u hu => ?_)
        obtain ⟨rfl, hu⟩ := hu
        subst u
        refine v_iast C ar_qS_1 (by decide) _ ?_ rfl dX6_shorten_54 ?_
        · omega
        refine v_iload_n C dX6_shorten_55 rfl ?_
        refine v_iconst (v := nI 1) C dX6_shorten_56 (by decide) ?_
        first | refine v_isubN C dX6_shorten_57 (by omega) ?_ | refine v_isub C dX6_shorten_57 ?_
        refine v_iret C F (by first | rfl | exact bI_nar _) dX6_shorten_58 (Nat.le_of_ble_eq_true rfl) (Nat.le_of_ble_eq_true rfl) ?_
        first
        | (refine ⟨fun _ => ⟨?_, ?_⟩, fun z => absurd ?_ z⟩; (rw [t_j]); (exact QMp.mk1 rfl (by rw [t_j]; exact Row_src hR (by omega))); (simp [cdL, hn0, hp_p, c26, t_j]); done)
        | (refine ⟨fun z => absurd z ?_, fun _ => ?_⟩; (exact fun z => absurd ((cd2 c5).symm.trans z) (nz_t c5)); (exact congrArg (tg g) (cd2 c5).symm); done)
        | (refine ⟨fun z => absurd z ?_, fun _ => ?_⟩; (simp [cdL, hn0, hp_p, c26, t_j]); (simp [cdL, hn0, hp_p, c26, t_j]); done)
      · refine V.stt (g2 := tg g 3) (by rw [c26]; rfl) ?_
        refine v_iconst (v := nI 0) C dX6_shorten_29 (by decide) ?_
        refine v_iret C F (by first | rfl | exact bI_nar _) dX6_shorten_30 (Nat.le_of_ble_eq_true rfl) (Nat.le_of_ble_eq_true rfl) ?_
        first
        | (refine ⟨fun _ => ⟨?_, ?_⟩, fun z => absurd ?_ z⟩; (rw [t_j]); (exact QMp.mk1 rfl (by rw [t_j]; exact Row_src hR (by omega))); (simp [cdL, hn0, hp_p, c26, t_j]); done)
        | (refine ⟨fun z => absurd z ?_, fun _ => ?_⟩; (exact fun z => absurd ((cd2 c5).symm.trans z) (nz_t c5)); (exact congrArg (tg g) (cd2 c5).symm); done)
        | (refine ⟨fun z => absurd z ?_, fun _ => ?_⟩; (simp [cdL, hn0, hp_p, c26, t_j]); (simp [cdL, hn0, hp_p, c26, t_j]); done)
    · refine v_iconst (v := nI 1) C dX6_shorten_17 (by decide) ?_
      refine v_goto C 22 dX6_shorten_18 (by decide) ?_
      refine V.eqs (st2 := [.int (bI (!owb m j)), .ref (h 0)]) ?_ (congrArg (fun z => [Value.int z, Value.ref (h 0)]) (by first | exact bI_t (by simp [c14]) | exact bI_f (by simp [c14])))
      refine v_iconst (v := nI 3) C dX6_shorten_22 (by decide) ?_
      refine v_callVi C (c_X6_refuse hl (b := !owb m j) (k := 3) (by decide) (by decide)) ym_X6_refuse ml_X6_40 emb_id_qS rfl rfl rfl rfl rfl dX6_shorten_23 (Nat.le_of_ble_eq_true rfl) (Nat.le_of_ble_eq_true rfl) (Nat.le_of_ble_eq_true rfl) (Nat.le_of_ble_eq_true rfl) (fun _ _ hu => hu.elim) (fun r u hu => ?_)
      obtain ⟨rfl, hu⟩ := hu
      subst u
      refine v_if_eqB C 31 dX6_shorten_26 (by decide) (fun c26 => ?_) (fun c26 => ?_)
      · refine V.stt (g2 := tg g 0) (by rw [c26]; rfl) ?_
        refine v_aload_n C dX6_shorten_31 rfl ?_
        refine v_callVv C (c_X6_keepsAll hl (g := tg g 0) (c := L.length) hH.1 hH.2.1) ym_X6_keepsAll ml_X6_316 emb_id_qS rfl rfl rfl rfl rfl dX6_shorten_32 (Nat.le_of_ble_eq_true rfl) (Nat.le_of_ble_eq_true rfl) (Nat.le_of_ble_eq_true rfl) (Nat.le_of_ble_eq_true rfl) (fun _ _ hu => hu.elim) (fun r u hu => ?_)
        subst u
        refine V.stt (g2 := (kaG g L.length)) (ka_eq) ?_
        refine v_aload_n C dX6_shorten_35 rfl ?_
        refine v_iload_n C dX6_shorten_36 rfl ?_
        refine v_callVi C (c_X6_hopsOf hl (g := (kaG g L.length)) (m := m) (n := n) hR hI hj_j) ym_X6_hopsOf ml_X6_229 emb_id_qS rfl rfl rfl rfl rfl dX6_shorten_37 (Nat.le_of_ble_eq_true rfl) (Nat.le_of_ble_eq_true rfl) (Nat.le_of_ble_eq_true rfl) (Nat.le_of_ble_eq_true rfl) (fun _ _ hu => hu.elim) (fun r u hu => ?_)
        obtain ⟨rfl, hu⟩ := hu
        subst u
        refine v_istore_n C (lo2 := [some _, some _, some _]) dX6_shorten_40 rfl (Nat.le_of_ble_eq_true rfl) rfl ?_
        refine v_aload_n C dX6_shorten_41 rfl ?_
        refine v_getr C fl_X6_7 or_qS_0_3 dX6_shorten_42 ?_
        refine v_bipush (v := nI 96) C dX6_shorten_45 (by decide) ?_
        refine v_iload_n C dX6_shorten_47 rfl ?_
        first | refine v_iaddN C dX6_shorten_48 ?_ | refine v_iadd C dX6_shorten_48 ?_
        refine v_aload_n C dX6_shorten_49 rfl ?_
        refine v_iload_n C dX6_shorten_50 rfl ?_
        refine v_callVi C (c_X6_rootOf hl (g := (kaG g L.length)) (m := m) (n := n) hR hI hj_j) ym_X6_rootOf ml_X6_220 emb_id_qS rfl rfl rfl rfl rfl dX6_shorten_51 (Nat.le_of_ble_eq_true rfl) (Nat.le_of_ble_eq_true rfl) (Nat.le_of_ble_eq_true rfl) (Nat.le_of_ble_eq_true rfl) (fun _ _ hu => hu.elim) (fun r u hu => ?_)
        obtain ⟨rfl, hu⟩ := hu
        subst u
        refine v_iast C ar_qS_1 (by decide) _ ?_ rfl dX6_shorten_54 ?_
        · omega
        refine v_iload_n C dX6_shorten_55 rfl ?_
        refine v_iconst (v := nI 1) C dX6_shorten_56 (by decide) ?_
        first | refine v_isubN C dX6_shorten_57 (by omega) ?_ | refine v_isub C dX6_shorten_57 ?_
        refine v_iret C F (by first | rfl | exact bI_nar _) dX6_shorten_58 (Nat.le_of_ble_eq_true rfl) (Nat.le_of_ble_eq_true rfl) ?_
        first
        | (refine ⟨fun _ => ⟨?_, ?_⟩, fun z => absurd ?_ z⟩; (rw [t_j]); (exact QMp.mk1 rfl (by rw [t_j]; exact Row_src hR (by omega))); (simp [cdL, hn0, hp_p, c26, t_j]); done)
        | (refine ⟨fun z => absurd z ?_, fun _ => ?_⟩; (exact fun z => absurd ((cd2 c5).symm.trans z) (nz_t c5)); (exact congrArg (tg g) (cd2 c5).symm); done)
        | (refine ⟨fun z => absurd z ?_, fun _ => ?_⟩; (simp [cdL, hn0, hp_p, c26, t_j]); (simp [cdL, hn0, hp_p, c26, t_j]); done)
      · refine V.stt (g2 := tg g 3) (by rw [c26]; rfl) ?_
        refine v_iconst (v := nI 0) C dX6_shorten_29 (by decide) ?_
        refine v_iret C F (by first | rfl | exact bI_nar _) dX6_shorten_30 (Nat.le_of_ble_eq_true rfl) (Nat.le_of_ble_eq_true rfl) ?_
        first
        | (refine ⟨fun _ => ⟨?_, ?_⟩, fun z => absurd ?_ z⟩; (rw [t_j]); (exact QMp.mk1 rfl (by rw [t_j]; exact Row_src hR (by omega))); (simp [cdL, hn0, hp_p, c26, t_j]); done)
        | (refine ⟨fun z => absurd z ?_, fun _ => ?_⟩; (exact fun z => absurd ((cd2 c5).symm.trans z) (nz_t c5)); (exact congrArg (tg g) (cd2 c5).symm); done)
        | (refine ⟨fun z => absurd z ?_, fun _ => ?_⟩; (simp [cdL, hn0, hp_p, c26, t_j]); (simp [cdL, hn0, hp_p, c26, t_j]); done)
theorem lock_one {j : Nat} {m : Mg} : payO 2 (lckM m j (nI 1)) j = lockM j j m := by
  rw [← lock_split, show j + 1 - j = 0 + 1 by omega]
  rfl
theorem cnt_one {j : Nat} {m : Mg} : cntG (owb m) j (j + 1 - j) = fl (owb m j) := by
  rw [show j + 1 - j = 0 + 1 by omega]
  show (if owb m j then 1 else 0) + 0 = _
  rfl
set_option maxHeartbeats 16000000 in
theorem c_X6_setLock {l : Launch} (hl : l.stackTraces = false) {κ : Kp} {h : Nat → Nat} {g : G} {m : Mg} {n c : Nat} {L : List Mg} {p : Int32} {al : Bool} (hQ : QMm n m g) (hW : WM n c m) (hH : QHs L g) : Ct SS MM l κ yX6_setLock cX6_setLock 3 (some FieldType.int) 5 0 0 [.ref (h 0), .int p, .int (bI al)] (qS κ h) g ri (fun r u => (cdL [(decide (n = 0), 1), (!plB n p, 2)] = 0 → r = (if al then nI (cntG (owb m) (tN p) (tN p + 1 - tN p)) else nI 0) ∧ QMp g L.length (slkM (tN p) al m) u) ∧ (¬ cdL [(decide (n = 0), 1), (!plB n p, 2)] = 0 → u = tg g (cdL [(decide (n = 0), 1), (!plB n p, 2)]))) (fun _ _ => False) := by
  refine Ct.of (own := RX6) (by decide) rfl hl (by intro v hv; simp only [List.mem_cons, List.not_mem_nil, or_false] at hv; first | (rcases hv with rfl | rfl | rfl | rfl | rfl | rfl <;> rfl) | (rcases hv with rfl | rfl | rfl | rfl | rfl <;> rfl) | (rcases hv with rfl | rfl | rfl | rfl <;> rfl) | (rcases hv with rfl | rfl | rfl <;> rfl) | (rcases hv with rfl | rfl <;> rfl) | (subst hv; rfl) | exact hv.elim) (Nat.le_of_ble_eq_true rfl) (fun X hxl hxk C F N => ?_)
  subst hxl hxk
  show V X (qS (xK X) h) 0 [some (.ref (h 0)), some (.int p), some (.int (bI al))] [] g 0 0
  obtain ⟨hm, hs, h96, hRR⟩ := id hQ
  obtain ⟨-, hn7, hMf⟩ := id hW
  refine v_aload_n C dX6_setLock_0 rfl ?_
  refine v_iload_n C dX6_setLock_1 rfl ?_
  refine v_callVi C (c_X6_noPlace hl (g := g) (m := m) (n := n) hQ) ym_X6_noPlace ml_X6_223 emb_id_qS rfl rfl rfl rfl rfl dX6_setLock_2 (Nat.le_of_ble_eq_true rfl) (Nat.le_of_ble_eq_true rfl) (Nat.le_of_ble_eq_true rfl) (Nat.le_of_ble_eq_true rfl) (fun _ _ hu => hu.elim) (fun r u hu => ?_)
  obtain ⟨rfl, hu⟩ := hu
  subst u
  refine v_if_eqB C 10 dX6_setLock_5 (by decide) (fun c5 => ?_) (fun c5 => ?_)
  · have hcd := nz_f c5
    obtain ⟨hd1, hd2⟩ := cd_0 (by decide) hcd
    obtain ⟨hd2, -⟩ := cd_0 (by decide) hd2
    have hn0 : ¬ n = 0 := of_decide_eq_false hd1
    have hp_p : plB n p = true := by simpa using hd2
    have hR := hRR hn0
    have hMI := hMf hn0
    obtain ⟨hI, hE, hLK, hn1, hSB, hBY, hPR⟩ := id hMI
    have hbd := band_ok hSB
    have hn := hI.1
    refine V.stt (g2 := tg g 0) (by rw [hcd]) ?_
    clear hcd hd2 hd1 c5
    obtain ⟨j, hj_j, e_j⟩ := pl_at hp_p
    subst e_j
    have t_j : tN (nI j) = j := tN_nI (by omega)
    refine v_aload_n C dX6_setLock_10 rfl ?_
    refine v_callVv C (c_X6_keepsAll hl (g := tg g 0) (c := L.length) hH.1 hH.2.1) ym_X6_keepsAll ml_X6_316 emb_id_qS rfl rfl rfl rfl rfl dX6_setLock_11 (Nat.le_of_ble_eq_true rfl) (Nat.le_of_ble_eq_true rfl) (Nat.le_of_ble_eq_true rfl) (Nat.le_of_ble_eq_true rfl) (fun _ _ hu => hu.elim) (fun r u hu => ?_)
    subst u
    refine V.stt (g2 := (kaG g L.length)) (ka_eq) ?_
    refine v_iload_n C dX6_setLock_14 rfl ?_
    refine v_if_eqB C 24 dX6_setLock_15 (by decide) (fun c15 => ?_) (fun c15 => ?_)
    · refine v_aload_n C dX6_setLock_24 rfl ?_
      refine v_getr C fl_X6_7 or_qS_0_3 dX6_setLock_25 ?_
      refine v_sipush (v := nI 288) C dX6_setLock_28 (by decide) ?_
      refine v_iload_n C dX6_setLock_31 rfl ?_
      first | refine v_iaddN C dX6_setLock_32 ?_ | refine v_iadd C dX6_setLock_32 ?_
      refine v_iconst (v := nI 0) C dX6_setLock_33 (by decide) ?_
      refine v_iast C ar_qS_1 (by decide) _ ?_ rfl dX6_setLock_34 ?_
      · omega
      refine v_iconst (v := nI 0) C dX6_setLock_35 (by decide) ?_
      refine v_iret C F (by first | rfl | exact bI_nar _) dX6_setLock_36 (Nat.le_of_ble_eq_true rfl) (Nat.le_of_ble_eq_true rfl) ?_
      first
      | (refine ⟨fun _ => ⟨?_, ?_⟩, fun z => absurd ?_ z⟩; (rw [t_j]; first | (rw [c15, if_pos rfl, cnt_one]) | (rw [c15, if_neg Bool.false_ne_true])); (refine QMp.mk1 rfl ?_; rw [t_j]; unfold slkM; first | (rw [c15, if_pos rfl, ← lock_one]; exact hR2) | (rw [c15, if_neg Bool.false_ne_true]; exact Row_lck (v := 0) hR (by omega))); (simp [cdL, hn0, hp_p]); done)
      | (refine ⟨fun z => absurd z ?_, fun _ => ?_⟩; (exact fun z => absurd ((cd2 c5).symm.trans z) (nz_t c5)); (exact congrArg (tg g) (cd2 c5).symm); done)
    · refine v_aload_n C dX6_setLock_18 rfl ?_
      refine v_iload_n C dX6_setLock_19 rfl ?_
      refine v_callVi C (c_X6_locks hl (g := (kaG g L.length)) (m := m) (n := n) hR hE hI hs hj_j) ym_X6_locks ml_X6_132 emb_id_qS rfl rfl rfl rfl rfl dX6_setLock_20 (Nat.le_of_ble_eq_true rfl) (Nat.le_of_ble_eq_true rfl) (Nat.le_of_ble_eq_true rfl) (Nat.le_of_ble_eq_true rfl) (fun _ _ hu => hu.elim) (fun r u hu => ?_)
      obtain ⟨rfl, f2, hu, hR2⟩ := hu
      subst u
      refine v_iret C F (by first | rfl | exact bI_nar _) dX6_setLock_23 (Nat.le_of_ble_eq_true rfl) (Nat.le_of_ble_eq_true rfl) ?_
      first
      | (refine ⟨fun _ => ⟨?_, ?_⟩, fun z => absurd ?_ z⟩; (rw [t_j]; first | (rw [c15, if_pos rfl, cnt_one]) | (rw [c15, if_neg Bool.false_ne_true])); (refine QMp.mk1 rfl ?_; rw [t_j]; unfold slkM; first | (rw [c15, if_pos rfl, ← lock_one]; exact hR2) | (rw [c15, if_neg Bool.false_ne_true]; exact Row_lck (v := 0) hR (by omega))); (simp [cdL, hn0, hp_p]); done)
      | (refine ⟨fun z => absurd z ?_, fun _ => ?_⟩; (exact fun z => absurd ((cd2 c5).symm.trans z) (nz_t c5)); (exact congrArg (tg g) (cd2 c5).symm); done)
  · skip
    refine v_iconst (v := nI 0) C dX6_setLock_8 (by decide) ?_
    refine v_iret C F (by first | rfl | exact bI_nar _) dX6_setLock_9 (Nat.le_of_ble_eq_true rfl) (Nat.le_of_ble_eq_true rfl) ?_
    first
    | (refine ⟨fun _ => ⟨?_, ?_⟩, fun z => absurd ?_ z⟩; (rw [t_j]; first | (rw [c15, if_pos rfl, cnt_one]) | (rw [c15, if_neg Bool.false_ne_true])); (refine QMp.mk1 rfl ?_; rw [t_j]; unfold slkM; first | (rw [c15, if_pos rfl, ← lock_one]; exact hR2) | (rw [c15, if_neg Bool.false_ne_true]; exact Row_lck (v := 0) hR (by omega))); (simp [cdL, hn0, hp_p]); done)
    | (refine ⟨fun z => absurd z ?_, fun _ => ?_⟩; (exact fun z => absurd ((cd2 c5).symm.trans z) (nz_t c5)); (exact congrArg (tg g) (cd2 c5).symm); done)
set_option maxHeartbeats 16000000 in
theorem c_X6_isValue {l : Launch} (hl : l.stackTraces = false) {κ : Kp} {w : Nat} {v : Int32} (hw : w ≤ 4) : Ct SS MM l κ yX6_isValue cX6_isValue 2 (some FieldType.boolean) 1 0 0 [.int (nI w), .int v] nS () ri (fun r _ => r = bI (inB v (lsV w) (gsV w))) (fun _ _ => False) := by
  refine Ct.of (own := RX6) (by decide) rfl hl (by intro v hv; simp only [List.mem_cons, List.not_mem_nil, or_false] at hv; first | (rcases hv with rfl | rfl | rfl | rfl | rfl | rfl <;> rfl) | (rcases hv with rfl | rfl | rfl | rfl | rfl <;> rfl) | (rcases hv with rfl | rfl | rfl | rfl <;> rfl) | (rcases hv with rfl | rfl | rfl <;> rfl) | (rcases hv with rfl | rfl <;> rfl) | (subst hv; rfl) | exact hv.elim) (Nat.le_of_ble_eq_true rfl) (fun X hxl hxk C F N => ?_)
  subst hxl hxk
  show V X nS 0 [some (.int (nI w)), some (.int v)] [] () 0 0
  refine v_iload_n C dX6_isValue_0 rfl ?_
  refine v_if_ne C 14 dX6_isValue_1 (by decide) (fun c1 => ?_) (fun c1 => ?_)
  · have hw0 : ¬ w = 0 := fun z => c1 (by rw [z]; rfl)
    refine v_iload_n C dX6_isValue_14 rfl ?_
    refine v_iconst (v := nI 1) C dX6_isValue_15 (by decide) ?_
    first | refine v_icmp_neN C 29 dX6_isValue_16 (by decide) (by omega) (by omega) (fun c16 => ?_) (fun c16 => ?_) | refine v_icmp_ne C 29 dX6_isValue_16 (by decide) (fun c16 => ?_) (fun c16 => ?_)
    · refine v_iload_n C dX6_isValue_29 rfl ?_
      refine v_iconst (v := nI 2) C dX6_isValue_30 (by decide) ?_
      first | refine v_icmp_neN C 43 dX6_isValue_31 (by decide) (by omega) (by omega) (fun c31 => ?_) (fun c31 => ?_) | refine v_icmp_ne C 43 dX6_isValue_31 (by decide) (fun c31 => ?_) (fun c31 => ?_)
      · refine v_iload_n C dX6_isValue_43 rfl ?_
        refine v_iconst (v := nI 0) C dX6_isValue_44 (by decide) ?_
        refine v_iconst (v := nI 1) C dX6_isValue_45 (by decide) ?_
        refine v_callSi C (c_X6_in hl (v := v) (a := 0) (b := 1) (by decide) (by decide)) ys_X6_in rfl ml_X6_98 (emb_n fix_nS) rfl rfl rfl dX6_isValue_46 (Nat.le_of_ble_eq_true rfl) (Nat.le_of_ble_eq_true rfl) (Nat.le_of_ble_eq_true rfl) (Nat.le_of_ble_eq_true rfl) (fun _ _ hu => hu.elim) (fun r u hu => ?_)
        subst r
        refine v_iret C F (by first | rfl | exact bI_nar _) dX6_isValue_49 (Nat.le_of_ble_eq_true rfl) (Nat.le_of_ble_eq_true rfl) ?_
        unfold lsV gsV
        first
        | (rw [if_pos hw0, if_pos hw0])
        | (rw [if_neg hw0, if_neg hw0, if_pos c16])
        | (rw [if_neg hw0, if_neg hw0, if_neg c16, if_pos c31])
        | (rw [if_neg hw0, if_neg hw0, if_neg c16, if_neg c31])
      · refine v_iload_n C dX6_isValue_34 rfl ?_
        refine v_iconst (v := nI 0) C dX6_isValue_35 (by decide) ?_
        refine v_iconst (v := nI 3) C dX6_isValue_36 (by decide) ?_
        refine v_callSi C (c_X6_in hl (v := v) (a := 0) (b := 3) (by decide) (by decide)) ys_X6_in rfl ml_X6_98 (emb_n fix_nS) rfl rfl rfl dX6_isValue_37 (Nat.le_of_ble_eq_true rfl) (Nat.le_of_ble_eq_true rfl) (Nat.le_of_ble_eq_true rfl) (Nat.le_of_ble_eq_true rfl) (fun _ _ hu => hu.elim) (fun r u hu => ?_)
        subst r
        refine v_goto C 49 dX6_isValue_40 (by decide) ?_
        refine v_iret C F (by first | rfl | exact bI_nar _) dX6_isValue_49 (Nat.le_of_ble_eq_true rfl) (Nat.le_of_ble_eq_true rfl) ?_
        unfold lsV gsV
        first
        | (rw [if_pos hw0, if_pos hw0])
        | (rw [if_neg hw0, if_neg hw0, if_pos c16])
        | (rw [if_neg hw0, if_neg hw0, if_neg c16, if_pos c31])
        | (rw [if_neg hw0, if_neg hw0, if_neg c16, if_neg c31])
    · refine v_iload_n C dX6_isValue_19 rfl ?_
      refine v_iconst (v := nI 0) C dX6_isValue_20 (by decide) ?_
      refine v_bipush (v := nI 96) C dX6_isValue_21 (by decide) ?_
      refine v_callSi C (c_X6_in hl (v := v) (a := 0) (b := 96) (by decide) (by decide)) ys_X6_in rfl ml_X6_98 (emb_n fix_nS) rfl rfl rfl dX6_isValue_23 (Nat.le_of_ble_eq_true rfl) (Nat.le_of_ble_eq_true rfl) (Nat.le_of_ble_eq_true rfl) (Nat.le_of_ble_eq_true rfl) (fun _ _ hu => hu.elim) (fun r u hu => ?_)
      subst r
      refine v_goto C 49 dX6_isValue_26 (by decide) ?_
      refine v_iret C F (by first | rfl | exact bI_nar _) dX6_isValue_49 (Nat.le_of_ble_eq_true rfl) (Nat.le_of_ble_eq_true rfl) ?_
      unfold lsV gsV
      first
      | (rw [if_pos hw0, if_pos hw0])
      | (rw [if_neg hw0, if_neg hw0, if_pos c16])
      | (rw [if_neg hw0, if_neg hw0, if_neg c16, if_pos c31])
      | (rw [if_neg hw0, if_neg hw0, if_neg c16, if_neg c31])
  · have hw0 : w = 0 := nI_inj (b := 0) (by omega) (by omega) c1
    refine v_iload_n C dX6_isValue_4 rfl ?_
    refine v_iconst (v := nI 1) C dX6_isValue_5 (by decide) ?_
    refine v_bipush (v := nI 20) C dX6_isValue_6 (by decide) ?_
    refine v_callSi C (c_X6_in hl (v := v) (a := 1) (b := 20) (by decide) (by decide)) ys_X6_in rfl ml_X6_98 (emb_n fix_nS) rfl rfl rfl dX6_isValue_8 (Nat.le_of_ble_eq_true rfl) (Nat.le_of_ble_eq_true rfl) (Nat.le_of_ble_eq_true rfl) (Nat.le_of_ble_eq_true rfl) (fun _ _ hu => hu.elim) (fun r u hu => ?_)
    subst r
    refine v_goto C 49 dX6_isValue_11 (by decide) ?_
    refine v_iret C F (by first | rfl | exact bI_nar _) dX6_isValue_49 (Nat.le_of_ble_eq_true rfl) (Nat.le_of_ble_eq_true rfl) ?_
    unfold lsV gsV
    first
    | (rw [if_pos hw0, if_pos hw0])
    | (rw [if_neg hw0, if_neg hw0, if_pos c16])
    | (rw [if_neg hw0, if_neg hw0, if_neg c16, if_pos c31])
    | (rw [if_neg hw0, if_neg hw0, if_neg c16, if_neg c31])
set_option maxHeartbeats 16000000 in
theorem c_X6_setSetting {l : Launch} (hl : l.stackTraces = false) {κ : Kp} {h : Nat → Nat} {g : G} {m : Mg} {n c : Nat} {L : List Mg} {w v : Int32} (hQ : QMm n m g) (hW : WM n c m) (hH : QHs L g) : Ct SS MM l κ yX6_setSetting cX6_setSetting 4 (some FieldType.int) 5 0 0 [.ref (h 0), .int w, .int v] (qS κ h) g ri (fun r u => (cdL [(decide (n = 0), 1), (!inB w 0 4, 2), (!inB v (lsV (tN w)) (gsV (tN w)), 2)] = 0 → r = m 5 (tN w) ∧ QMp g L.length (klM n (setM m (tN w) v)) u) ∧ (¬ cdL [(decide (n = 0), 1), (!inB w 0 4, 2), (!inB v (lsV (tN w)) (gsV (tN w)), 2)] = 0 → u = tg g (cdL [(decide (n = 0), 1), (!inB w 0 4, 2), (!inB v (lsV (tN w)) (gsV (tN w)), 2)]))) (fun _ _ => False) := by
  refine Ct.of (own := RX6) (by decide) rfl hl (by intro v hv; simp only [List.mem_cons, List.not_mem_nil, or_false] at hv; first | (rcases hv with rfl | rfl | rfl | rfl | rfl | rfl <;> rfl) | (rcases hv with rfl | rfl | rfl | rfl | rfl <;> rfl) | (rcases hv with rfl | rfl | rfl | rfl <;> rfl) | (rcases hv with rfl | rfl | rfl <;> rfl) | (rcases hv with rfl | rfl <;> rfl) | (subst hv; rfl) | exact hv.elim) (Nat.le_of_ble_eq_true rfl) (fun X hxl hxk C F N => ?_)
  subst hxl hxk
  show V X (qS (xK X) h) 0 [some (.ref (h 0)), some (.int w), some (.int v), none] [] g 0 0
  obtain ⟨hm, hs, h96, hRR⟩ := id hQ
  obtain ⟨-, hn7, hMf⟩ := id hW
  refine v_aload_n C dX6_setSetting_0 rfl ?_
  refine v_callVi C (c_X6_noMemory hl (n := n) hm) ym_X6_noMemory ml_X6_207 emb_id_qS rfl rfl rfl rfl rfl dX6_setSetting_1 (Nat.le_of_ble_eq_true rfl) (Nat.le_of_ble_eq_true rfl) (Nat.le_of_ble_eq_true rfl) (Nat.le_of_ble_eq_true rfl) (fun _ _ hu => hu.elim) (fun r u hu => ?_)
  obtain ⟨rfl, hu⟩ := hu
  subst u
  refine v_if_neB C 37 dX6_setSetting_4 (by decide) (fun c4 => ?_) (fun c4 => ?_)
  · have hz0 : n = 0 := of_decide_eq_true c4
    refine V.stt (g2 := tg g 1) (by rw [c4]; rfl) ?_
    refine v_iconst (v := nI 0) C dX6_setSetting_37 (by decide) ?_
    refine v_iret C F (by first | rfl | exact bI_nar _) dX6_setSetting_38 (Nat.le_of_ble_eq_true rfl) (Nat.le_of_ble_eq_true rfl) ?_
    first
    | (refine ⟨fun _ => ⟨?_, ?_⟩, fun z => absurd ?_ z⟩; (rw [t_j]); (exact QMp.mk1 rfl (by rw [t_j]; exact hR2)); (rw [cdL_f (decide_eq_false hn0), cd_or, cdL_f c34]; rfl); done)
    | (refine ⟨fun z => absurd z ?_, fun _ => ?_⟩; (simp [cdL, hz0]); (simp [cdL, hz0]); done)
    | (refine ⟨fun z => absurd z ?_, fun _ => ?_⟩; (rw [cdL_f (decide_eq_false hn0), cd_or, cdL_t c34]; decide); (rw [cdL_f (decide_eq_false hn0), cd_or, cdL_t c34]); done)
  · have hn0 : ¬ n = 0 := of_decide_eq_false c4
    have hR := hRR hn0
    have hMI := hMf hn0
    obtain ⟨hI, hE, hLK, hn1, hSB, hBY, hPR⟩ := id hMI
    have hbd := band_ok hSB
    have hn := hI.1
    refine V.stt (g2 := tg g 0) (by rw [c4]; rfl) ?_
    have J30 : V X (qS (xK X) h) 30 [some (.ref (h 0)), some (.int w), some (.int v), none] [.int (bI (!inB w 0 4 || !inB v (lsV (tN w)) (gsV (tN w)))), .ref (h 0)] (tg g 0) 0 0 := by
      skip
      refine v_iconst (v := nI 2) C dX6_setSetting_30 (by decide) ?_
      refine v_callVi C (c_X6_refuse hl (b := !inB w 0 4 || !inB v (lsV (tN w)) (gsV (tN w))) (k := 2) (by decide) (by decide)) ym_X6_refuse ml_X6_40 emb_id_qS rfl rfl rfl rfl rfl dX6_setSetting_31 (Nat.le_of_ble_eq_true rfl) (Nat.le_of_ble_eq_true rfl) (Nat.le_of_ble_eq_true rfl) (Nat.le_of_ble_eq_true rfl) (fun _ _ hu => hu.elim) (fun r u hu => ?_)
      obtain ⟨rfl, hu⟩ := hu
      subst u
      refine v_if_eqB C 39 dX6_setSetting_34 (by decide) (fun c34 => ?_) (fun c34 => ?_)
      · refine V.stt (g2 := tg g 0) (by rw [c34]; rfl) ?_
        have hov : inB w 0 4 = true ∧ inB v (lsV (tN w)) (gsV (tN w)) = true := by simpa using c34
        obtain ⟨j, -, hj_j, hk_j, e_j⟩ := in_at (a := 0) hov.1
        subst e_j
        have t_j : tN (nI j) = j := tN_nI hk_j
        rw [t_j] at hov
        obtain ⟨lim, hlim, hlim96⟩ : ∃ lim, setM m j v 5 1 = nI lim ∧ lim ≤ 96 := setM_lim hSB hov.2
        refine v_aload_n C dX6_setSetting_39 rfl ?_
        refine v_callVv C (c_X6_keepsAll hl (g := tg g 0) (c := L.length) hH.1 hH.2.1) ym_X6_keepsAll ml_X6_316 emb_id_qS rfl rfl rfl rfl rfl dX6_setSetting_40 (Nat.le_of_ble_eq_true rfl) (Nat.le_of_ble_eq_true rfl) (Nat.le_of_ble_eq_true rfl) (Nat.le_of_ble_eq_true rfl) (fun _ _ hu => hu.elim) (fun r u hu => ?_)
        subst u
        refine V.stt (g2 := (kaG g L.length)) (ka_eq) ?_
        refine v_aload_n C dX6_setSetting_43 rfl ?_
        refine v_getr C fl_X6_7 or_qS_0_3 dX6_setSetting_44 ?_
        refine v_sipush (v := nI 384) C dX6_setSetting_47 (by decide) ?_
        refine v_iload_n C dX6_setSetting_50 rfl ?_
        first | refine v_iaddN C dX6_setSetting_51 ?_ | refine v_iadd C dX6_setSetting_51 ?_
        refine v_ialdQ (x := m 5 j) C ar_qS_1 (by decide) _ (hR.t (by omega)) ?_ rfl dX6_setSetting_52 ?_
        · omega
        refine v_istore_n C (lo2 := [some _, some _, some _, some _]) dX6_setSetting_53 rfl (Nat.le_of_ble_eq_true rfl) rfl ?_
        refine v_aload_n C dX6_setSetting_54 rfl ?_
        refine v_getr C fl_X6_7 or_qS_0_3 dX6_setSetting_55 ?_
        refine v_sipush (v := nI 384) C dX6_setSetting_58 (by decide) ?_
        refine v_iload_n C dX6_setSetting_61 rfl ?_
        first | refine v_iaddN C dX6_setSetting_62 ?_ | refine v_iadd C dX6_setSetting_62 ?_
        refine v_iload_n C dX6_setSetting_63 rfl ?_
        refine v_iast C ar_qS_1 (by decide) _ ?_ rfl dX6_setSetting_64 ?_
        · omega
        refine V.stt (g2 := (sG (kaG g L.length) 1 (upd (g 1) (384 + j) v))) (rfl) ?_
        refine v_aload_n C dX6_setSetting_65 rfl ?_
        refine v_callVv C (c_X6_paysToLimit hl (g := sG (kaG g L.length) 1 (upd (g 1) (384 + j) v)) (m := setM m j v) (n := n) (lim := lim) (Row_set hR (by omega)) (EvOK.of hE rfl) (IM_setM hI) hs hlim hlim96) ym_X6_paysToLimit ml_X6_291 emb_id_qS rfl rfl rfl rfl rfl dX6_setSetting_66 (Nat.le_of_ble_eq_true rfl) (Nat.le_of_ble_eq_true rfl) (Nat.le_of_ble_eq_true rfl) (Nat.le_of_ble_eq_true rfl) (fun _ _ hu => hu.elim) (fun r u hu => ?_)
        obtain ⟨f2, hu, hR2⟩ := hu
        subst u
        refine V.stt (g2 := (sG (kaG g L.length) 1 f2)) (sG_sG) ?_
        refine v_iload_n C dX6_setSetting_69 rfl ?_
        refine v_iret C F (by first | rfl | exact bI_nar _) dX6_setSetting_70 (Nat.le_of_ble_eq_true rfl) (Nat.le_of_ble_eq_true rfl) ?_
        first
        | (refine ⟨fun _ => ⟨?_, ?_⟩, fun z => absurd ?_ z⟩; (rw [t_j]); (exact QMp.mk1 rfl (by rw [t_j]; exact hR2)); (rw [cdL_f (decide_eq_false hn0), cd_or, cdL_f c34]; rfl); done)
        | (refine ⟨fun z => absurd z ?_, fun _ => ?_⟩; (simp [cdL, hz0]); (simp [cdL, hz0]); done)
        | (refine ⟨fun z => absurd z ?_, fun _ => ?_⟩; (rw [cdL_f (decide_eq_false hn0), cd_or, cdL_t c34]; decide); (rw [cdL_f (decide_eq_false hn0), cd_or, cdL_t c34]); done)
      · refine V.stt (g2 := tg g 2) (by rw [c34]; rfl) ?_
        refine v_iconst (v := nI 0) C dX6_setSetting_37 (by decide) ?_
        refine v_iret C F (by first | rfl | exact bI_nar _) dX6_setSetting_38 (Nat.le_of_ble_eq_true rfl) (Nat.le_of_ble_eq_true rfl) ?_
        first
        | (refine ⟨fun _ => ⟨?_, ?_⟩, fun z => absurd ?_ z⟩; (rw [t_j]); (exact QMp.mk1 rfl (by rw [t_j]; exact hR2)); (rw [cdL_f (decide_eq_false hn0), cd_or, cdL_f c34]; rfl); done)
        | (refine ⟨fun z => absurd z ?_, fun _ => ?_⟩; (simp [cdL, hz0]); (simp [cdL, hz0]); done)
        | (refine ⟨fun z => absurd z ?_, fun _ => ?_⟩; (rw [cdL_f (decide_eq_false hn0), cd_or, cdL_t c34]; decide); (rw [cdL_f (decide_eq_false hn0), cd_or, cdL_t c34]); done)
    refine v_aload_n C dX6_setSetting_7 rfl ?_
    refine v_iload_n C dX6_setSetting_8 rfl ?_
    refine v_iconst (v := nI 0) C dX6_setSetting_9 (by decide) ?_
    refine v_iconst (v := nI 4) C dX6_setSetting_10 (by decide) ?_
    refine v_callSi C (c_X6_in hl (v := w) (a := 0) (b := 4) (by decide) (by decide)) ys_X6_in rfl ml_X6_98 (emb_n fix_qS) rfl rfl rfl dX6_setSetting_11 (Nat.le_of_ble_eq_true rfl) (Nat.le_of_ble_eq_true rfl) (Nat.le_of_ble_eq_true rfl) (Nat.le_of_ble_eq_true rfl) (fun _ _ hu => hu.elim) (fun r u hu => ?_)
    subst r
    refine v_if_eqB C 25 dX6_setSetting_14 (by decide) (fun c14 => ?_) (fun c14 => ?_)
    · skip
      refine v_iconst (v := nI 1) C dX6_setSetting_25 (by decide) ?_
      refine v_goto C 30 dX6_setSetting_26 (by decide) ?_
      first
      | exact V.eqs J30 (congrArg (fun z => [Value.int z, Value.ref (h 0)]) (bI_t (by rw [c14]; rfl)))
      | exact V.eqs J30 (congrArg (fun z => [Value.int z, Value.ref (h 0)]) (bI_t (by rw [t_j, c22]; exact Bool.or_true _)))
      | exact V.eqs J30 (congrArg (fun z => [Value.int z, Value.ref (h 0)]) (bI_f (by rw [c14, t_j, c22]; rfl)))
    · have hw4 : inB w 0 4 = true := c14
      obtain ⟨j, -, hj_j, hk_j, e_j⟩ := in_at (a := 0) hw4
      subst e_j
      have t_j : tN (nI j) = j := tN_nI hk_j
      refine v_iload_n C dX6_setSetting_17 rfl ?_
      refine v_iload_n C dX6_setSetting_18 rfl ?_
      refine v_callSi C (c_X6_isValue hl (w := j) (v := v) (by omega)) ys_X6_isValue rfl ml_X6_328 (emb_n fix_qS) rfl rfl rfl dX6_setSetting_19 (Nat.le_of_ble_eq_true rfl) (Nat.le_of_ble_eq_true rfl) (Nat.le_of_ble_eq_true rfl) (Nat.le_of_ble_eq_true rfl) (fun _ _ hu => hu.elim) (fun r u hu => ?_)
      subst r
      refine v_if_neB C 29 dX6_setSetting_22 (by decide) (fun c22 => ?_) (fun c22 => ?_)
      · refine v_iconst (v := nI 0) C dX6_setSetting_29 (by decide) ?_
        first
        | exact V.eqs J30 (congrArg (fun z => [Value.int z, Value.ref (h 0)]) (bI_t (by rw [c14]; rfl)))
        | exact V.eqs J30 (congrArg (fun z => [Value.int z, Value.ref (h 0)]) (bI_t (by rw [t_j, c22]; exact Bool.or_true _)))
        | exact V.eqs J30 (congrArg (fun z => [Value.int z, Value.ref (h 0)]) (bI_f (by rw [c14, t_j, c22]; rfl)))
      · refine v_iconst (v := nI 1) C dX6_setSetting_25 (by decide) ?_
        refine v_goto C 30 dX6_setSetting_26 (by decide) ?_
        first
        | exact V.eqs J30 (congrArg (fun z => [Value.int z, Value.ref (h 0)]) (bI_t (by rw [c14]; rfl)))
        | exact V.eqs J30 (congrArg (fun z => [Value.int z, Value.ref (h 0)]) (bI_t (by rw [t_j, c22]; exact Bool.or_true _)))
        | exact V.eqs J30 (congrArg (fun z => [Value.int z, Value.ref (h 0)]) (bI_f (by rw [c14, t_j, c22]; rfl)))

/-- nothing was changed for good: the first store may have been used -/
def QTp (g : G) (cd : Nat) (u : G) : Prop := ∃ hd f S, u = sG (sG (sG (tg g cd) 2 S) 5 hd) 1 f ∧ (∀ k, k < 640 → f k = g 1 k) ∧ ∀ k, 640 ≤ k → S k = g 2 k
theorem QTp.rf {g : G} {cd : Nat} : QTp g cd (tg g cd) := ⟨g 5, g 1, g 2, by rw [show sG (tg g cd) 2 (g 2) = tg g cd from sG_id rfl, show sG (tg g cd) 5 (g 5) = tg g cd from sG_id rfl, show sG (tg g cd) 1 (g 1) = tg g cd from sG_id rfl], fun _ _ => rfl, fun _ _ => rfl⟩
theorem QTp.eq {g u : G} {cd : Nat} (e : u = tg g cd) : QTp g cd u := by subst e; exact QTp.rf
theorem QTp.of0 {g u : G} {cd : Nat} (e : cd = 0) (h : QTp g 0 u) : QTp g cd u := by subst e; exact h
/-- the state while something is tried -/
def trG (g : G) : G := sG (tg g 0) 2 (kpP (g 2) (g 1) 0 640)
theorem tr_eq {g : G} : sG (tg g 0) 2 (kpP (tg g 0 2) (tg g 0 1) 0 640) = trG g := rfl
theorem tr_back {g : G} {hd f : Nat → Int32} : QTp g 0 (sG (sG (sG (trG g) 5 hd) 1 f) 1 (mix 640 (fun k => sG (sG (trG g) 5 hd) 1 f 2 (640 * 0 + k)) (sG (sG (trG g) 5 hd) 1 f 1))) := by
  refine ⟨hd, _, kpP (g 2) (g 1) 0 640, sG_sG, fun k hk => ?_, fun k hk => kpP_out (by omega)⟩
  show mix 640 _ _ k = g 1 k
  rw [mix_in hk]
  exact kpP_in (j := 0) hk
theorem tr_back1 {g : G} {f : Nat → Int32} : QTp g 0 (sG (sG (trG g) 1 f) 1 (mix 640 (fun k => sG (trG g) 1 f 2 (640 * 0 + k)) (sG (trG g) 1 f 1))) := by
  have h := tr_back (g := g) (hd := g 5) (f := f)
  rw [show sG (trG g) 5 (g 5) = trG g from sG_id rfl] at h
  exact h
set_option maxHeartbeats 16000000 in
theorem c_X6_inCopy_a {l : Launch} (hl : l.stackTraces = false) {κ : Kp} {h : Nat → Nat} {g : G} {m : Mg} {n c : Nat} {f t k : Int32} {w : Nat} (hQ : QMm n m g) (hW : WM n c m) (hw : 0 < w ∧ w < 9) : Ct SS MM l κ yX6_inCopy cX6_inCopy 7 (some FieldType.int) 6 0 0 [.ref (h 0), .int f, .int t, .int k, .int (nI w)] (qS κ h) g ri (fun r u => QTp g (cdL [(decide (n = 0), 1), (!(refM m n f t k == 0), 2)]) u ∧ (cdL [(decide (n = 0), 1), (!(refM m n f t k == 0), 2)] = 0 → r = (copyM n (tN f) (tN t) (tN k) m) 6 w - m 6 w)) (fun _ _ => False) := by
  refine Ct.of (own := RX6) (by decide) rfl hl (by intro v hv; simp only [List.mem_cons, List.not_mem_nil, or_false] at hv; first | (rcases hv with rfl | rfl | rfl | rfl | rfl | rfl <;> rfl) | (rcases hv with rfl | rfl | rfl | rfl | rfl <;> rfl) | (rcases hv with rfl | rfl | rfl | rfl <;> rfl) | (rcases hv with rfl | rfl | rfl <;> rfl) | (rcases hv with rfl | rfl <;> rfl) | (subst hv; rfl) | exact hv.elim) (Nat.le_of_ble_eq_true rfl) (fun X hxl hxk C F N => ?_)
  subst hxl hxk
  show V X (qS (xK X) h) 0 [some (.ref (h 0)), some (.int f), some (.int t), some (.int k), some (.int (nI w)), none, none] [] g 0 0
  obtain ⟨hm, hs, h96, hRR⟩ := id hQ
  obtain ⟨-, hn7, hMf⟩ := id hW
  refine v_aload_n C dX6_inCopy_0 rfl ?_
  refine v_callVi C (c_X6_noMemory hl (n := n) hm) ym_X6_noMemory ml_X6_207 emb_id_qS rfl rfl rfl rfl rfl dX6_inCopy_1 (Nat.le_of_ble_eq_true rfl) (Nat.le_of_ble_eq_true rfl) (Nat.le_of_ble_eq_true rfl) (Nat.le_of_ble_eq_true rfl) (fun _ _ hu => hu.elim) (fun r u hu => ?_)
  obtain ⟨rfl, hu⟩ := hu
  subst u
  refine v_if_neB C 30 dX6_inCopy_4 (by decide) (fun c4 => ?_) (fun c4 => ?_)
  · have hz0 : n = 0 := of_decide_eq_true c4
    refine V.stt (g2 := tg g 1) (by rw [c4]; rfl) ?_
    refine v_iconst (v := nI 0) C dX6_inCopy_30 (by decide) ?_
    refine v_iret C F (by first | rfl | exact bI_nar _) dX6_inCopy_31 (Nat.le_of_ble_eq_true rfl) (Nat.le_of_ble_eq_true rfl) ?_
    first
    | (refine ⟨QTp.of0 ?_ ?_, fun _ => ?_⟩; (simp [cdL, hn0, c27]); (exact tr_back); (rw [e3, e4, e5]); done)
    | (refine ⟨QTp.eq ?_, fun z => absurd z ?_⟩; (simp [cdL, hz0]); (simp [cdL, hz0]); done)
    | (refine ⟨QTp.eq ?_, fun z => absurd z ?_⟩; (simp [cdL, hn0, c27]); (simp [cdL, hn0, c27]); done)
  · have hn0 : ¬ n = 0 := of_decide_eq_false c4
    have hR := hRR hn0
    have hMI := hMf hn0
    obtain ⟨hI, hE, hLK, hn1, hSB, hBY, hPR⟩ := id hMI
    have hbd := band_ok hSB
    have hn := hI.1
    refine V.stt (g2 := tg g 0) (by rw [c4]; rfl) ?_
    refine v_aload_n C dX6_inCopy_7 rfl ?_
    refine v_aload_n C dX6_inCopy_8 rfl ?_
    refine v_iload_n C dX6_inCopy_9 rfl ?_
    refine v_iload_n C dX6_inCopy_10 rfl ?_
    refine v_iload_n C dX6_inCopy_11 rfl ?_
    refine v_callVi C (c_X6_whyNot hl (g := tg g 0) (m := m) (n := n) hR hs hn h96 hLK) ym_X6_whyNot ml_X6_135 emb_id_qS rfl rfl rfl rfl rfl dX6_inCopy_12 (Nat.le_of_ble_eq_true rfl) (Nat.le_of_ble_eq_true rfl) (Nat.le_of_ble_eq_true rfl) (Nat.le_of_ble_eq_true rfl) (fun _ _ hu => hu.elim) (fun r u hu => ?_)
    obtain ⟨rfl, hu⟩ := hu
    subst u
    refine V.stt (g2 := (tg g 0)) (rfl) ?_
    refine v_if_eq C 22 dX6_inCopy_15 (by decide) (fun c15 => ?_) (fun c15 => ?_)
    · refine v_iconst (v := nI 0) C dX6_inCopy_22 (by decide) ?_
      refine V.eqs (st2 := [.int (bI (!(refM m n f t k == 0))), .ref (h 0)]) ?_ (congrArg (fun z => [Value.int z, Value.ref (h 0)]) (by first | exact bI_t (by simp [c15]) | exact bI_f (by simp [c15])))
      refine v_iconst (v := nI 2) C dX6_inCopy_23 (by decide) ?_
      refine v_callVi C (c_X6_refuse hl (b := !(refM m n f t k == 0)) (k := 2) (by decide) (by decide)) ym_X6_refuse ml_X6_40 emb_id_qS rfl rfl rfl rfl rfl dX6_inCopy_24 (Nat.le_of_ble_eq_true rfl) (Nat.le_of_ble_eq_true rfl) (Nat.le_of_ble_eq_true rfl) (Nat.le_of_ble_eq_true rfl) (fun _ _ hu => hu.elim) (fun r u hu => ?_)
      obtain ⟨rfl, hu⟩ := hu
      subst u
      refine v_if_eqB C 32 dX6_inCopy_27 (by decide) (fun c27 => ?_) (fun c27 => ?_)
      · refine V.stt (g2 := tg g 0) (by rw [c27]; rfl) ?_
        have hrf : refM m n f t k = 0 := by simpa using c27
        obtain ⟨f1, t1, k1, ef, et, ek, b1, b2, b3⟩ := ref_at hn h96 hrf
        subst ef et ek
        have e3 : tN (nI f1) = f1 := tN_nI (by omega)
        have e4 : tN (nI t1) = t1 := tN_nI (by omega)
        have e5 : tN (nI k1) = k1 := tN_nI (by omega)
        obtain ⟨lim, hlim, hlim96⟩ := lim_ok hSB
        have hM2 := MI.copy hMI b1 b2 b3
        refine v_aload_n C dX6_inCopy_32 rfl ?_
        refine v_iconst (v := nI 0) C dX6_inCopy_33 (by decide) ?_
        refine v_callVv C (c_X6_keeps hl (g := tg g 0) (j := 0) (by omega)) ym_X6_keeps ml_X6_195 emb_id_qS rfl rfl rfl rfl rfl dX6_inCopy_34 (Nat.le_of_ble_eq_true rfl) (Nat.le_of_ble_eq_true rfl) (Nat.le_of_ble_eq_true rfl) (Nat.le_of_ble_eq_true rfl) (fun _ _ hu => hu.elim) (fun r u hu => ?_)
        subst u
        refine V.stt (g2 := (trG g)) (tr_eq) ?_
        refine v_iload C dX6_inCopy_37 rfl ?_
        refine v_iconst (v := (-1)) C dX6_inCopy_39 (by decide) ?_
        refine v_icmp_ne C 47 dX6_inCopy_40 (by decide) (fun c40 => ?_) (fun c40 => ?_)
        · refine v_aload_n C dX6_inCopy_47 rfl ?_
          refine v_getr C fl_X6_7 or_qS_0_3 dX6_inCopy_48 ?_
          refine v_sipush (v := nI 390) C dX6_inCopy_51 (by decide) ?_
          refine v_iload C dX6_inCopy_54 rfl ?_
          first | refine v_iaddN C dX6_inCopy_56 ?_ | refine v_iadd C dX6_inCopy_56 ?_
          refine v_ialdQ (x := m 6 w) C ar_qS_1 (by decide) _ (hR.a (by omega)) ?_ rfl dX6_inCopy_57 ?_
          · omega
          refine v_istore C (lo2 := [some _, some _, some _, some _, some _, some _, none]) dX6_inCopy_58 rfl (Nat.le_of_ble_eq_true rfl) rfl ?_
          refine v_aload_n C dX6_inCopy_60 rfl ?_
          refine v_iload_n C dX6_inCopy_61 rfl ?_
          refine v_iload_n C dX6_inCopy_62 rfl ?_
          refine v_iload_n C dX6_inCopy_63 rfl ?_
          refine v_callVv C (c_X6_copies hl (g := (trG g)) (m := m) (n := n) (lim := lim) hR hE hI hs hlim hlim96 b1 b2 b3) ym_X6_copies ml_X6_139 emb_id_qS rfl rfl rfl rfl rfl dX6_inCopy_64 (Nat.le_of_ble_eq_true rfl) (Nat.le_of_ble_eq_true rfl) (Nat.le_of_ble_eq_true rfl) (Nat.le_of_ble_eq_true rfl) (fun _ _ hu => hu.elim) (fun r u hu => ?_)
          obtain ⟨hd2, f2, hu, hR2⟩ := hu
          subst u
          refine v_iload C dX6_inCopy_67 rfl ?_
          refine v_iconst (v := (-1)) C dX6_inCopy_69 (by decide) ?_
          refine v_icmp_ne C 80 dX6_inCopy_70 (by decide) (fun c70 => ?_) (fun c70 => ?_)
          · refine v_aload_n C dX6_inCopy_80 rfl ?_
            refine v_getr C fl_X6_7 or_qS_0_3 dX6_inCopy_81 ?_
            refine v_sipush (v := nI 390) C dX6_inCopy_84 (by decide) ?_
            refine v_iload C dX6_inCopy_87 rfl ?_
            first | refine v_iaddN C dX6_inCopy_89 ?_ | refine v_iadd C dX6_inCopy_89 ?_
            refine v_ialdQ (x := copyM n f1 t1 k1 m 6 w) C ar_qS_1 (by decide) _ (hR2.a (by omega)) ?_ rfl dX6_inCopy_90 ?_
            · omega
            refine v_iload C dX6_inCopy_91 rfl ?_
            first | refine v_isubN C dX6_inCopy_93 (by omega) ?_ | refine v_isub C dX6_inCopy_93 ?_
            refine v_istore C (lo2 := [some _, some _, some _, some _, some _, some _, some _]) dX6_inCopy_94 rfl (Nat.le_of_ble_eq_true rfl) rfl ?_
            refine v_aload_n C dX6_inCopy_96 rfl ?_
            refine v_iconst (v := nI 0) C dX6_inCopy_97 (by decide) ?_
            refine v_callVv C (c_X6_fetches hl (g := sG (sG (trG g) 5 hd2) 1 f2) (j := 0) (by omega)) ym_X6_fetches ml_X6_201 emb_id_qS rfl rfl rfl rfl rfl dX6_inCopy_98 (Nat.le_of_ble_eq_true rfl) (Nat.le_of_ble_eq_true rfl) (Nat.le_of_ble_eq_true rfl) (Nat.le_of_ble_eq_true rfl) (fun _ _ hu => hu.elim) (fun r u hu => ?_)
            subst u
            refine v_iload C dX6_inCopy_101 rfl ?_
            refine v_iret C F (by first | rfl | exact bI_nar _) dX6_inCopy_103 (Nat.le_of_ble_eq_true rfl) (Nat.le_of_ble_eq_true rfl) ?_
            first
            | (refine ⟨QTp.of0 ?_ ?_, fun _ => ?_⟩; (simp [cdL, hn0, c27]); (exact tr_back); (rw [e3, e4, e5]); done)
            | (refine ⟨QTp.eq ?_, fun z => absurd z ?_⟩; (simp [cdL, hz0]); (simp [cdL, hz0]); done)
            | (refine ⟨QTp.eq ?_, fun z => absurd z ?_⟩; (simp [cdL, hn0, c27]); (simp [cdL, hn0, c27]); done)
          · exact absurd c70 (nI_nm1 (by omega))
        · exact absurd c40 (nI_nm1 (by omega))
      · refine V.stt (g2 := tg g 2) (by rw [c27]; rfl) ?_
        refine v_iconst (v := nI 0) C dX6_inCopy_30 (by decide) ?_
        refine v_iret C F (by first | rfl | exact bI_nar _) dX6_inCopy_31 (Nat.le_of_ble_eq_true rfl) (Nat.le_of_ble_eq_true rfl) ?_
        first
        | (refine ⟨QTp.of0 ?_ ?_, fun _ => ?_⟩; (simp [cdL, hn0, c27]); (exact tr_back); (rw [e3, e4, e5]); done)
        | (refine ⟨QTp.eq ?_, fun z => absurd z ?_⟩; (simp [cdL, hz0]); (simp [cdL, hz0]); done)
        | (refine ⟨QTp.eq ?_, fun z => absurd z ?_⟩; (simp [cdL, hn0, c27]); (simp [cdL, hn0, c27]); done)
    · refine v_iconst (v := nI 1) C dX6_inCopy_18 (by decide) ?_
      refine v_goto C 23 dX6_inCopy_19 (by decide) ?_
      refine V.eqs (st2 := [.int (bI (!(refM m n f t k == 0))), .ref (h 0)]) ?_ (congrArg (fun z => [Value.int z, Value.ref (h 0)]) (by first | exact bI_t (by simp [c15]) | exact bI_f (by simp [c15])))
      refine v_iconst (v := nI 2) C dX6_inCopy_23 (by decide) ?_
      refine v_callVi C (c_X6_refuse hl (b := !(refM m n f t k == 0)) (k := 2) (by decide) (by decide)) ym_X6_refuse ml_X6_40 emb_id_qS rfl rfl rfl rfl rfl dX6_inCopy_24 (Nat.le_of_ble_eq_true rfl) (Nat.le_of_ble_eq_true rfl) (Nat.le_of_ble_eq_true rfl) (Nat.le_of_ble_eq_true rfl) (fun _ _ hu => hu.elim) (fun r u hu => ?_)
      obtain ⟨rfl, hu⟩ := hu
      subst u
      refine v_if_eqB C 32 dX6_inCopy_27 (by decide) (fun c27 => ?_) (fun c27 => ?_)
      · refine V.stt (g2 := tg g 0) (by rw [c27]; rfl) ?_
        have hrf : refM m n f t k = 0 := by simpa using c27
        obtain ⟨f1, t1, k1, ef, et, ek, b1, b2, b3⟩ := ref_at hn h96 hrf
        subst ef et ek
        have e3 : tN (nI f1) = f1 := tN_nI (by omega)
        have e4 : tN (nI t1) = t1 := tN_nI (by omega)
        have e5 : tN (nI k1) = k1 := tN_nI (by omega)
        obtain ⟨lim, hlim, hlim96⟩ := lim_ok hSB
        have hM2 := MI.copy hMI b1 b2 b3
        refine v_aload_n C dX6_inCopy_32 rfl ?_
        refine v_iconst (v := nI 0) C dX6_inCopy_33 (by decide) ?_
        refine v_callVv C (c_X6_keeps hl (g := tg g 0) (j := 0) (by omega)) ym_X6_keeps ml_X6_195 emb_id_qS rfl rfl rfl rfl rfl dX6_inCopy_34 (Nat.le_of_ble_eq_true rfl) (Nat.le_of_ble_eq_true rfl) (Nat.le_of_ble_eq_true rfl) (Nat.le_of_ble_eq_true rfl) (fun _ _ hu => hu.elim) (fun r u hu => ?_)
        subst u
        refine V.stt (g2 := (trG g)) (tr_eq) ?_
        refine v_iload C dX6_inCopy_37 rfl ?_
        refine v_iconst (v := (-1)) C dX6_inCopy_39 (by decide) ?_
        refine v_icmp_ne C 47 dX6_inCopy_40 (by decide) (fun c40 => ?_) (fun c40 => ?_)
        · refine v_aload_n C dX6_inCopy_47 rfl ?_
          refine v_getr C fl_X6_7 or_qS_0_3 dX6_inCopy_48 ?_
          refine v_sipush (v := nI 390) C dX6_inCopy_51 (by decide) ?_
          refine v_iload C dX6_inCopy_54 rfl ?_
          first | refine v_iaddN C dX6_inCopy_56 ?_ | refine v_iadd C dX6_inCopy_56 ?_
          refine v_ialdQ (x := m 6 w) C ar_qS_1 (by decide) _ (hR.a (by omega)) ?_ rfl dX6_inCopy_57 ?_
          · omega
          refine v_istore C (lo2 := [some _, some _, some _, some _, some _, some _, none]) dX6_inCopy_58 rfl (Nat.le_of_ble_eq_true rfl) rfl ?_
          refine v_aload_n C dX6_inCopy_60 rfl ?_
          refine v_iload_n C dX6_inCopy_61 rfl ?_
          refine v_iload_n C dX6_inCopy_62 rfl ?_
          refine v_iload_n C dX6_inCopy_63 rfl ?_
          refine v_callVv C (c_X6_copies hl (g := (trG g)) (m := m) (n := n) (lim := lim) hR hE hI hs hlim hlim96 b1 b2 b3) ym_X6_copies ml_X6_139 emb_id_qS rfl rfl rfl rfl rfl dX6_inCopy_64 (Nat.le_of_ble_eq_true rfl) (Nat.le_of_ble_eq_true rfl) (Nat.le_of_ble_eq_true rfl) (Nat.le_of_ble_eq_true rfl) (fun _ _ hu => hu.elim) (fun r u hu => ?_)
          obtain ⟨hd2, f2, hu, hR2⟩ := hu
          subst u
          refine v_iload C dX6_inCopy_67 rfl ?_
          refine v_iconst (v := (-1)) C dX6_inCopy_69 (by decide) ?_
          refine v_icmp_ne C 80 dX6_inCopy_70 (by decide) (fun c70 => ?_) (fun c70 => ?_)
          · refine v_aload_n C dX6_inCopy_80 rfl ?_
            refine v_getr C fl_X6_7 or_qS_0_3 dX6_inCopy_81 ?_
            refine v_sipush (v := nI 390) C dX6_inCopy_84 (by decide) ?_
            refine v_iload C dX6_inCopy_87 rfl ?_
            first | refine v_iaddN C dX6_inCopy_89 ?_ | refine v_iadd C dX6_inCopy_89 ?_
            refine v_ialdQ (x := copyM n f1 t1 k1 m 6 w) C ar_qS_1 (by decide) _ (hR2.a (by omega)) ?_ rfl dX6_inCopy_90 ?_
            · omega
            refine v_iload C dX6_inCopy_91 rfl ?_
            first | refine v_isubN C dX6_inCopy_93 (by omega) ?_ | refine v_isub C dX6_inCopy_93 ?_
            refine v_istore C (lo2 := [some _, some _, some _, some _, some _, some _, some _]) dX6_inCopy_94 rfl (Nat.le_of_ble_eq_true rfl) rfl ?_
            refine v_aload_n C dX6_inCopy_96 rfl ?_
            refine v_iconst (v := nI 0) C dX6_inCopy_97 (by decide) ?_
            refine v_callVv C (c_X6_fetches hl (g := sG (sG (trG g) 5 hd2) 1 f2) (j := 0) (by omega)) ym_X6_fetches ml_X6_201 emb_id_qS rfl rfl rfl rfl rfl dX6_inCopy_98 (Nat.le_of_ble_eq_true rfl) (Nat.le_of_ble_eq_true rfl) (Nat.le_of_ble_eq_true rfl) (Nat.le_of_ble_eq_true rfl) (fun _ _ hu => hu.elim) (fun r u hu => ?_)
            subst u
            refine v_iload C dX6_inCopy_101 rfl ?_
            refine v_iret C F (by first | rfl | exact bI_nar _) dX6_inCopy_103 (Nat.le_of_ble_eq_true rfl) (Nat.le_of_ble_eq_true rfl) ?_
            first
            | (refine ⟨QTp.of0 ?_ ?_, fun _ => ?_⟩; (simp [cdL, hn0, c27]); (exact tr_back); (rw [e3, e4, e5]); done)
            | (refine ⟨QTp.eq ?_, fun z => absurd z ?_⟩; (simp [cdL, hz0]); (simp [cdL, hz0]); done)
            | (refine ⟨QTp.eq ?_, fun z => absurd z ?_⟩; (simp [cdL, hn0, c27]); (simp [cdL, hn0, c27]); done)
          · exact absurd c70 (nI_nm1 (by omega))
        · exact absurd c40 (nI_nm1 (by omega))
      · refine V.stt (g2 := tg g 2) (by rw [c27]; rfl) ?_
        refine v_iconst (v := nI 0) C dX6_inCopy_30 (by decide) ?_
        refine v_iret C F (by first | rfl | exact bI_nar _) dX6_inCopy_31 (Nat.le_of_ble_eq_true rfl) (Nat.le_of_ble_eq_true rfl) ?_
        first
        | (refine ⟨QTp.of0 ?_ ?_, fun _ => ?_⟩; (simp [cdL, hn0, c27]); (exact tr_back); (rw [e3, e4, e5]); done)
        | (refine ⟨QTp.eq ?_, fun z => absurd z ?_⟩; (simp [cdL, hz0]); (simp [cdL, hz0]); done)
        | (refine ⟨QTp.eq ?_, fun z => absurd z ?_⟩; (simp [cdL, hn0, c27]); (simp [cdL, hn0, c27]); done)
set_option maxHeartbeats 16000000 in
theorem c_X6_inCopy_o {l : Launch} (hl : l.stackTraces = false) {κ : Kp} {h : Nat → Nat} {g : G} {m : Mg} {n c : Nat} {f t k : Int32} {w : Nat} (hQ : QMm n m g) (hW : WM n c m) (hw : 0 < w ∧ w < 9) : Ct SS MM l κ yX6_inCopy cX6_inCopy 7 (some FieldType.int) 6 0 0 [.ref (h 0), .int f, .int t, .int k, .int (-1)] (qS κ h) g ri (fun r u => QTp g (cdL [(decide (n = 0), 1), (!(refM m n f t k == 0), 2)]) u ∧ (cdL [(decide (n = 0), 1), (!(refM m n f t k == 0), 2)] = 0 → r = nI (cntG (owb (copyM n (tN f) (tN t) (tN k) m)) 0 n))) (fun _ _ => False) := by
  refine Ct.of (own := RX6) (by decide) rfl hl (by intro v hv; simp only [List.mem_cons, List.not_mem_nil, or_false] at hv; first | (rcases hv with rfl | rfl | rfl | rfl | rfl | rfl <;> rfl) | (rcases hv with rfl | rfl | rfl | rfl | rfl <;> rfl) | (rcases hv with rfl | rfl | rfl | rfl <;> rfl) | (rcases hv with rfl | rfl | rfl <;> rfl) | (rcases hv with rfl | rfl <;> rfl) | (subst hv; rfl) | exact hv.elim) (Nat.le_of_ble_eq_true rfl) (fun X hxl hxk C F N => ?_)
  subst hxl hxk
  show V X (qS (xK X) h) 0 [some (.ref (h 0)), some (.int f), some (.int t), some (.int k), some (.int (-1)), none, none] [] g 0 0
  obtain ⟨hm, hs, h96, hRR⟩ := id hQ
  obtain ⟨-, hn7, hMf⟩ := id hW
  refine v_aload_n C dX6_inCopy_0 rfl ?_
  refine v_callVi C (c_X6_noMemory hl (n := n) hm) ym_X6_noMemory ml_X6_207 emb_id_qS rfl rfl rfl rfl rfl dX6_inCopy_1 (Nat.le_of_ble_eq_true rfl) (Nat.le_of_ble_eq_true rfl) (Nat.le_of_ble_eq_true rfl) (Nat.le_of_ble_eq_true rfl) (fun _ _ hu => hu.elim) (fun r u hu => ?_)
  obtain ⟨rfl, hu⟩ := hu
  subst u
  refine v_if_neB C 30 dX6_inCopy_4 (by decide) (fun c4 => ?_) (fun c4 => ?_)
  · have hz0 : n = 0 := of_decide_eq_true c4
    refine V.stt (g2 := tg g 1) (by rw [c4]; rfl) ?_
    refine v_iconst (v := nI 0) C dX6_inCopy_30 (by decide) ?_
    refine v_iret C F (by first | rfl | exact bI_nar _) dX6_inCopy_31 (Nat.le_of_ble_eq_true rfl) (Nat.le_of_ble_eq_true rfl) ?_
    first
    | (refine ⟨QTp.of0 ?_ ?_, fun _ => ?_⟩; (simp [cdL, hn0, c27]); (exact tr_back); (rw [e3, e4, e5]); done)
    | (refine ⟨QTp.eq ?_, fun z => absurd z ?_⟩; (simp [cdL, hz0]); (simp [cdL, hz0]); done)
    | (refine ⟨QTp.eq ?_, fun z => absurd z ?_⟩; (simp [cdL, hn0, c27]); (simp [cdL, hn0, c27]); done)
  · have hn0 : ¬ n = 0 := of_decide_eq_false c4
    have hR := hRR hn0
    have hMI := hMf hn0
    obtain ⟨hI, hE, hLK, hn1, hSB, hBY, hPR⟩ := id hMI
    have hbd := band_ok hSB
    have hn := hI.1
    refine V.stt (g2 := tg g 0) (by rw [c4]; rfl) ?_
    refine v_aload_n C dX6_inCopy_7 rfl ?_
    refine v_aload_n C dX6_inCopy_8 rfl ?_
    refine v_iload_n C dX6_inCopy_9 rfl ?_
    refine v_iload_n C dX6_inCopy_10 rfl ?_
    refine v_iload_n C dX6_inCopy_11 rfl ?_
    refine v_callVi C (c_X6_whyNot hl (g := tg g 0) (m := m) (n := n) hR hs hn h96 hLK) ym_X6_whyNot ml_X6_135 emb_id_qS rfl rfl rfl rfl rfl dX6_inCopy_12 (Nat.le_of_ble_eq_true rfl) (Nat.le_of_ble_eq_true rfl) (Nat.le_of_ble_eq_true rfl) (Nat.le_of_ble_eq_true rfl) (fun _ _ hu => hu.elim) (fun r u hu => ?_)
    obtain ⟨rfl, hu⟩ := hu
    subst u
    refine V.stt (g2 := (tg g 0)) (rfl) ?_
    refine v_if_eq C 22 dX6_inCopy_15 (by decide) (fun c15 => ?_) (fun c15 => ?_)
    · refine v_iconst (v := nI 0) C dX6_inCopy_22 (by decide) ?_
      refine V.eqs (st2 := [.int (bI (!(refM m n f t k == 0))), .ref (h 0)]) ?_ (congrArg (fun z => [Value.int z, Value.ref (h 0)]) (by first | exact bI_t (by simp [c15]) | exact bI_f (by simp [c15])))
      refine v_iconst (v := nI 2) C dX6_inCopy_23 (by decide) ?_
      refine v_callVi C (c_X6_refuse hl (b := !(refM m n f t k == 0)) (k := 2) (by decide) (by decide)) ym_X6_refuse ml_X6_40 emb_id_qS rfl rfl rfl rfl rfl dX6_inCopy_24 (Nat.le_of_ble_eq_true rfl) (Nat.le_of_ble_eq_true rfl) (Nat.le_of_ble_eq_true rfl) (Nat.le_of_ble_eq_true rfl) (fun _ _ hu => hu.elim) (fun r u hu => ?_)
      obtain ⟨rfl, hu⟩ := hu
      subst u
      refine v_if_eqB C 32 dX6_inCopy_27 (by decide) (fun c27 => ?_) (fun c27 => ?_)
      · refine V.stt (g2 := tg g 0) (by rw [c27]; rfl) ?_
        have hrf : refM m n f t k = 0 := by simpa using c27
        obtain ⟨f1, t1, k1, ef, et, ek, b1, b2, b3⟩ := ref_at hn h96 hrf
        subst ef et ek
        have e3 : tN (nI f1) = f1 := tN_nI (by omega)
        have e4 : tN (nI t1) = t1 := tN_nI (by omega)
        have e5 : tN (nI k1) = k1 := tN_nI (by omega)
        obtain ⟨lim, hlim, hlim96⟩ := lim_ok hSB
        have hM2 := MI.copy hMI b1 b2 b3
        refine v_aload_n C dX6_inCopy_32 rfl ?_
        refine v_iconst (v := nI 0) C dX6_inCopy_33 (by decide) ?_
        refine v_callVv C (c_X6_keeps hl (g := tg g 0) (j := 0) (by omega)) ym_X6_keeps ml_X6_195 emb_id_qS rfl rfl rfl rfl rfl dX6_inCopy_34 (Nat.le_of_ble_eq_true rfl) (Nat.le_of_ble_eq_true rfl) (Nat.le_of_ble_eq_true rfl) (Nat.le_of_ble_eq_true rfl) (fun _ _ hu => hu.elim) (fun r u hu => ?_)
        subst u
        refine V.stt (g2 := (trG g)) (tr_eq) ?_
        refine v_iload C dX6_inCopy_37 rfl ?_
        refine v_iconst (v := (-1)) C dX6_inCopy_39 (by decide) ?_
        refine v_icmp_ne C 47 dX6_inCopy_40 (by decide) (fun c40 => ?_) (fun c40 => ?_)
        · exact absurd rfl c40
        · refine v_iconst (v := nI 0) C dX6_inCopy_43 (by decide) ?_
          refine v_goto C 58 dX6_inCopy_44 (by decide) ?_
          refine v_istore C (lo2 := [some _, some _, some _, some _, some _, some _, none]) dX6_inCopy_58 rfl (Nat.le_of_ble_eq_true rfl) rfl ?_
          refine v_aload_n C dX6_inCopy_60 rfl ?_
          refine v_iload_n C dX6_inCopy_61 rfl ?_
          refine v_iload_n C dX6_inCopy_62 rfl ?_
          refine v_iload_n C dX6_inCopy_63 rfl ?_
          refine v_callVv C (c_X6_copies hl (g := (trG g)) (m := m) (n := n) (lim := lim) hR hE hI hs hlim hlim96 b1 b2 b3) ym_X6_copies ml_X6_139 emb_id_qS rfl rfl rfl rfl rfl dX6_inCopy_64 (Nat.le_of_ble_eq_true rfl) (Nat.le_of_ble_eq_true rfl) (Nat.le_of_ble_eq_true rfl) (Nat.le_of_ble_eq_true rfl) (fun _ _ hu => hu.elim) (fun r u hu => ?_)
          obtain ⟨hd2, f2, hu, hR2⟩ := hu
          subst u
          refine v_iload C dX6_inCopy_67 rfl ?_
          refine v_iconst (v := (-1)) C dX6_inCopy_69 (by decide) ?_
          refine v_icmp_ne C 80 dX6_inCopy_70 (by decide) (fun c70 => ?_) (fun c70 => ?_)
          · exact absurd rfl c70
          · refine v_aload_n C dX6_inCopy_73 rfl ?_
            refine v_callVi C (c_X6_owedNow hl (g := sG (sG (trG g) 5 hd2) 1 f2) (m := copyM n f1 t1 k1 m) (n := n) hR2 hs h96) ym_X6_owedNow ml_X6_236 emb_id_qS rfl rfl rfl rfl rfl dX6_inCopy_74 (Nat.le_of_ble_eq_true rfl) (Nat.le_of_ble_eq_true rfl) (Nat.le_of_ble_eq_true rfl) (Nat.le_of_ble_eq_true rfl) (fun _ _ hu => hu.elim) (fun r u hu => ?_)
            obtain ⟨rfl, hu⟩ := hu
            subst u
            refine V.stt (g2 := (sG (sG (trG g) 5 hd2) 1 f2)) (rfl) ?_
            refine v_goto C 94 dX6_inCopy_77 (by decide) ?_
            refine v_istore C (lo2 := [some _, some _, some _, some _, some _, some _, some _]) dX6_inCopy_94 rfl (Nat.le_of_ble_eq_true rfl) rfl ?_
            refine v_aload_n C dX6_inCopy_96 rfl ?_
            refine v_iconst (v := nI 0) C dX6_inCopy_97 (by decide) ?_
            refine v_callVv C (c_X6_fetches hl (g := sG (sG (trG g) 5 hd2) 1 f2) (j := 0) (by omega)) ym_X6_fetches ml_X6_201 emb_id_qS rfl rfl rfl rfl rfl dX6_inCopy_98 (Nat.le_of_ble_eq_true rfl) (Nat.le_of_ble_eq_true rfl) (Nat.le_of_ble_eq_true rfl) (Nat.le_of_ble_eq_true rfl) (fun _ _ hu => hu.elim) (fun r u hu => ?_)
            subst u
            refine v_iload C dX6_inCopy_101 rfl ?_
            refine v_iret C F (by first | rfl | exact bI_nar _) dX6_inCopy_103 (Nat.le_of_ble_eq_true rfl) (Nat.le_of_ble_eq_true rfl) ?_
            first
            | (refine ⟨QTp.of0 ?_ ?_, fun _ => ?_⟩; (simp [cdL, hn0, c27]); (exact tr_back); (rw [e3, e4, e5]); done)
            | (refine ⟨QTp.eq ?_, fun z => absurd z ?_⟩; (simp [cdL, hz0]); (simp [cdL, hz0]); done)
            | (refine ⟨QTp.eq ?_, fun z => absurd z ?_⟩; (simp [cdL, hn0, c27]); (simp [cdL, hn0, c27]); done)
      · refine V.stt (g2 := tg g 2) (by rw [c27]; rfl) ?_
        refine v_iconst (v := nI 0) C dX6_inCopy_30 (by decide) ?_
        refine v_iret C F (by first | rfl | exact bI_nar _) dX6_inCopy_31 (Nat.le_of_ble_eq_true rfl) (Nat.le_of_ble_eq_true rfl) ?_
        first
        | (refine ⟨QTp.of0 ?_ ?_, fun _ => ?_⟩; (simp [cdL, hn0, c27]); (exact tr_back); (rw [e3, e4, e5]); done)
        | (refine ⟨QTp.eq ?_, fun z => absurd z ?_⟩; (simp [cdL, hz0]); (simp [cdL, hz0]); done)
        | (refine ⟨QTp.eq ?_, fun z => absurd z ?_⟩; (simp [cdL, hn0, c27]); (simp [cdL, hn0, c27]); done)
    · refine v_iconst (v := nI 1) C dX6_inCopy_18 (by decide) ?_
      refine v_goto C 23 dX6_inCopy_19 (by decide) ?_
      refine V.eqs (st2 := [.int (bI (!(refM m n f t k == 0))), .ref (h 0)]) ?_ (congrArg (fun z => [Value.int z, Value.ref (h 0)]) (by first | exact bI_t (by simp [c15]) | exact bI_f (by simp [c15])))
      refine v_iconst (v := nI 2) C dX6_inCopy_23 (by decide) ?_
      refine v_callVi C (c_X6_refuse hl (b := !(refM m n f t k == 0)) (k := 2) (by decide) (by decide)) ym_X6_refuse ml_X6_40 emb_id_qS rfl rfl rfl rfl rfl dX6_inCopy_24 (Nat.le_of_ble_eq_true rfl) (Nat.le_of_ble_eq_true rfl) (Nat.le_of_ble_eq_true rfl) (Nat.le_of_ble_eq_true rfl) (fun _ _ hu => hu.elim) (fun r u hu => ?_)
      obtain ⟨rfl, hu⟩ := hu
      subst u
      refine v_if_eqB C 32 dX6_inCopy_27 (by decide) (fun c27 => ?_) (fun c27 => ?_)
      · refine V.stt (g2 := tg g 0) (by rw [c27]; rfl) ?_
        have hrf : refM m n f t k = 0 := by simpa using c27
        obtain ⟨f1, t1, k1, ef, et, ek, b1, b2, b3⟩ := ref_at hn h96 hrf
        subst ef et ek
        have e3 : tN (nI f1) = f1 := tN_nI (by omega)
        have e4 : tN (nI t1) = t1 := tN_nI (by omega)
        have e5 : tN (nI k1) = k1 := tN_nI (by omega)
        obtain ⟨lim, hlim, hlim96⟩ := lim_ok hSB
        have hM2 := MI.copy hMI b1 b2 b3
        refine v_aload_n C dX6_inCopy_32 rfl ?_
        refine v_iconst (v := nI 0) C dX6_inCopy_33 (by decide) ?_
        refine v_callVv C (c_X6_keeps hl (g := tg g 0) (j := 0) (by omega)) ym_X6_keeps ml_X6_195 emb_id_qS rfl rfl rfl rfl rfl dX6_inCopy_34 (Nat.le_of_ble_eq_true rfl) (Nat.le_of_ble_eq_true rfl) (Nat.le_of_ble_eq_true rfl) (Nat.le_of_ble_eq_true rfl) (fun _ _ hu => hu.elim) (fun r u hu => ?_)
        subst u
        refine V.stt (g2 := (trG g)) (tr_eq) ?_
        refine v_iload C dX6_inCopy_37 rfl ?_
        refine v_iconst (v := (-1)) C dX6_inCopy_39 (by decide) ?_
        refine v_icmp_ne C 47 dX6_inCopy_40 (by decide) (fun c40 => ?_) (fun c40 => ?_)
        · exact absurd rfl c40
        · refine v_iconst (v := nI 0) C dX6_inCopy_43 (by decide) ?_
          refine v_goto C 58 dX6_inCopy_44 (by decide) ?_
          refine v_istore C (lo2 := [some _, some _, some _, some _, some _, some _, none]) dX6_inCopy_58 rfl (Nat.le_of_ble_eq_true rfl) rfl ?_
          refine v_aload_n C dX6_inCopy_60 rfl ?_
          refine v_iload_n C dX6_inCopy_61 rfl ?_
          refine v_iload_n C dX6_inCopy_62 rfl ?_
          refine v_iload_n C dX6_inCopy_63 rfl ?_
          refine v_callVv C (c_X6_copies hl (g := (trG g)) (m := m) (n := n) (lim := lim) hR hE hI hs hlim hlim96 b1 b2 b3) ym_X6_copies ml_X6_139 emb_id_qS rfl rfl rfl rfl rfl dX6_inCopy_64 (Nat.le_of_ble_eq_true rfl) (Nat.le_of_ble_eq_true rfl) (Nat.le_of_ble_eq_true rfl) (Nat.le_of_ble_eq_true rfl) (fun _ _ hu => hu.elim) (fun r u hu => ?_)
          obtain ⟨hd2, f2, hu, hR2⟩ := hu
          subst u
          refine v_iload C dX6_inCopy_67 rfl ?_
          refine v_iconst (v := (-1)) C dX6_inCopy_69 (by decide) ?_
          refine v_icmp_ne C 80 dX6_inCopy_70 (by decide) (fun c70 => ?_) (fun c70 => ?_)
          · exact absurd rfl c70
          · refine v_aload_n C dX6_inCopy_73 rfl ?_
            refine v_callVi C (c_X6_owedNow hl (g := sG (sG (trG g) 5 hd2) 1 f2) (m := copyM n f1 t1 k1 m) (n := n) hR2 hs h96) ym_X6_owedNow ml_X6_236 emb_id_qS rfl rfl rfl rfl rfl dX6_inCopy_74 (Nat.le_of_ble_eq_true rfl) (Nat.le_of_ble_eq_true rfl) (Nat.le_of_ble_eq_true rfl) (Nat.le_of_ble_eq_true rfl) (fun _ _ hu => hu.elim) (fun r u hu => ?_)
            obtain ⟨rfl, hu⟩ := hu
            subst u
            refine V.stt (g2 := (sG (sG (trG g) 5 hd2) 1 f2)) (rfl) ?_
            refine v_goto C 94 dX6_inCopy_77 (by decide) ?_
            refine v_istore C (lo2 := [some _, some _, some _, some _, some _, some _, some _]) dX6_inCopy_94 rfl (Nat.le_of_ble_eq_true rfl) rfl ?_
            refine v_aload_n C dX6_inCopy_96 rfl ?_
            refine v_iconst (v := nI 0) C dX6_inCopy_97 (by decide) ?_
            refine v_callVv C (c_X6_fetches hl (g := sG (sG (trG g) 5 hd2) 1 f2) (j := 0) (by omega)) ym_X6_fetches ml_X6_201 emb_id_qS rfl rfl rfl rfl rfl dX6_inCopy_98 (Nat.le_of_ble_eq_true rfl) (Nat.le_of_ble_eq_true rfl) (Nat.le_of_ble_eq_true rfl) (Nat.le_of_ble_eq_true rfl) (fun _ _ hu => hu.elim) (fun r u hu => ?_)
            subst u
            refine v_iload C dX6_inCopy_101 rfl ?_
            refine v_iret C F (by first | rfl | exact bI_nar _) dX6_inCopy_103 (Nat.le_of_ble_eq_true rfl) (Nat.le_of_ble_eq_true rfl) ?_
            first
            | (refine ⟨QTp.of0 ?_ ?_, fun _ => ?_⟩; (simp [cdL, hn0, c27]); (exact tr_back); (rw [e3, e4, e5]); done)
            | (refine ⟨QTp.eq ?_, fun z => absurd z ?_⟩; (simp [cdL, hz0]); (simp [cdL, hz0]); done)
            | (refine ⟨QTp.eq ?_, fun z => absurd z ?_⟩; (simp [cdL, hn0, c27]); (simp [cdL, hn0, c27]); done)
      · refine V.stt (g2 := tg g 2) (by rw [c27]; rfl) ?_
        refine v_iconst (v := nI 0) C dX6_inCopy_30 (by decide) ?_
        refine v_iret C F (by first | rfl | exact bI_nar _) dX6_inCopy_31 (Nat.le_of_ble_eq_true rfl) (Nat.le_of_ble_eq_true rfl) ?_
        first
        | (refine ⟨QTp.of0 ?_ ?_, fun _ => ?_⟩; (simp [cdL, hn0, c27]); (exact tr_back); (rw [e3, e4, e5]); done)
        | (refine ⟨QTp.eq ?_, fun z => absurd z ?_⟩; (simp [cdL, hz0]); (simp [cdL, hz0]); done)
        | (refine ⟨QTp.eq ?_, fun z => absurd z ?_⟩; (simp [cdL, hn0, c27]); (simp [cdL, hn0, c27]); done)
set_option maxHeartbeats 16000000 in
theorem c_X6_forcedByCopy {l : Launch} (hl : l.stackTraces = false) {κ : Kp} {h : Nat → Nat} {g : G} {m : Mg} {n c : Nat} {f t k : Int32} (hQ : QMm n m g) (hW : WM n c m) : Ct SS MM l κ yX6_forcedByCopy cX6_forcedByCopy 4 (some FieldType.int) 7 0 0 [.ref (h 0), .int f, .int t, .int k] (qS κ h) g ri (fun r u => QTp g (cdL [(decide (n = 0), 1), (!(refM m n f t k == 0), 2)]) u ∧ (cdL [(decide (n = 0), 1), (!(refM m n f t k == 0), 2)] = 0 → r = (copyM n (tN f) (tN t) (tN k) m) 6 3 - m 6 3)) (fun _ _ => False) := by
  refine Ct.of (own := RX6) (by decide) rfl hl (by intro v hv; simp only [List.mem_cons, List.not_mem_nil, or_false] at hv; first | (rcases hv with rfl | rfl | rfl | rfl | rfl | rfl <;> rfl) | (rcases hv with rfl | rfl | rfl | rfl | rfl <;> rfl) | (rcases hv with rfl | rfl | rfl | rfl <;> rfl) | (rcases hv with rfl | rfl | rfl <;> rfl) | (rcases hv with rfl | rfl <;> rfl) | (subst hv; rfl) | exact hv.elim) (Nat.le_of_ble_eq_true rfl) (fun X hxl hxk C F N => ?_)
  subst hxl hxk
  show V X (qS (xK X) h) 0 [some (.ref (h 0)), some (.int f), some (.int t), some (.int k)] [] g 0 0
  refine v_aload_n C dX6_forcedByCopy_0 rfl ?_
  refine v_iload_n C dX6_forcedByCopy_1 rfl ?_
  refine v_iload_n C dX6_forcedByCopy_2 rfl ?_
  refine v_iload_n C dX6_forcedByCopy_3 rfl ?_
  refine v_iconst (v := nI 3) C dX6_forcedByCopy_4 (by decide) ?_
  refine v_callVi C (c_X6_inCopy_a hl (g := g) (m := m) (n := n) (c := c) (w := 3) hQ hW (by decide)) ym_X6_inCopy ml_X6_297 emb_id_qS rfl rfl rfl rfl rfl dX6_forcedByCopy_5 (Nat.le_of_ble_eq_true rfl) (Nat.le_of_ble_eq_true rfl) (Nat.le_of_ble_eq_true rfl) (Nat.le_of_ble_eq_true rfl) (fun _ _ hu => hu.elim) (fun r u hu => ?_)
  have hX := hu
  refine v_iret C F (by first | rfl | exact bI_nar _) dX6_forcedByCopy_8 (Nat.le_of_ble_eq_true rfl) (Nat.le_of_ble_eq_true rfl) ?_
  exact hX
set_option maxHeartbeats 16000000 in
theorem c_X6_costOfCopy {l : Launch} (hl : l.stackTraces = false) {κ : Kp} {h : Nat → Nat} {g : G} {m : Mg} {n c : Nat} {f t k : Int32} (hQ : QMm n m g) (hW : WM n c m) : Ct SS MM l κ yX6_costOfCopy cX6_costOfCopy 4 (some FieldType.int) 7 0 0 [.ref (h 0), .int f, .int t, .int k] (qS κ h) g ri (fun r u => QTp g (cdL [(decide (n = 0), 1), (!(refM m n f t k == 0), 2)]) u ∧ (cdL [(decide (n = 0), 1), (!(refM m n f t k == 0), 2)] = 0 → r = (copyM n (tN f) (tN t) (tN k) m) 6 7 - m 6 7)) (fun _ _ => False) := by
  refine Ct.of (own := RX6) (by decide) rfl hl (by intro v hv; simp only [List.mem_cons, List.not_mem_nil, or_false] at hv; first | (rcases hv with rfl | rfl | rfl | rfl | rfl | rfl <;> rfl) | (rcases hv with rfl | rfl | rfl | rfl | rfl <;> rfl) | (rcases hv with rfl | rfl | rfl | rfl <;> rfl) | (rcases hv with rfl | rfl | rfl <;> rfl) | (rcases hv with rfl | rfl <;> rfl) | (subst hv; rfl) | exact hv.elim) (Nat.le_of_ble_eq_true rfl) (fun X hxl hxk C F N => ?_)
  subst hxl hxk
  show V X (qS (xK X) h) 0 [some (.ref (h 0)), some (.int f), some (.int t), some (.int k)] [] g 0 0
  refine v_aload_n C dX6_costOfCopy_0 rfl ?_
  refine v_iload_n C dX6_costOfCopy_1 rfl ?_
  refine v_iload_n C dX6_costOfCopy_2 rfl ?_
  refine v_iload_n C dX6_costOfCopy_3 rfl ?_
  refine v_bipush (v := nI 7) C dX6_costOfCopy_4 (by decide) ?_
  refine v_callVi C (c_X6_inCopy_a hl (g := g) (m := m) (n := n) (c := c) (w := 7) hQ hW (by decide)) ym_X6_inCopy ml_X6_297 emb_id_qS rfl rfl rfl rfl rfl dX6_costOfCopy_6 (Nat.le_of_ble_eq_true rfl) (Nat.le_of_ble_eq_true rfl) (Nat.le_of_ble_eq_true rfl) (Nat.le_of_ble_eq_true rfl) (fun _ _ hu => hu.elim) (fun r u hu => ?_)
  have hX := hu
  refine v_iret C F (by first | rfl | exact bI_nar _) dX6_costOfCopy_9 (Nat.le_of_ble_eq_true rfl) (Nat.le_of_ble_eq_true rfl) ?_
  exact hX
set_option maxHeartbeats 16000000 in
theorem c_X6_owedIfCopy {l : Launch} (hl : l.stackTraces = false) {κ : Kp} {h : Nat → Nat} {g : G} {m : Mg} {n c : Nat} {f t k : Int32} (hQ : QMm n m g) (hW : WM n c m) : Ct SS MM l κ yX6_owedIfCopy cX6_owedIfCopy 4 (some FieldType.int) 7 0 0 [.ref (h 0), .int f, .int t, .int k] (qS κ h) g ri (fun r u => QTp g (cdL [(decide (n = 0), 1), (!(refM m n f t k == 0), 2)]) u ∧ (cdL [(decide (n = 0), 1), (!(refM m n f t k == 0), 2)] = 0 → r = nI (cntG (owb (copyM n (tN f) (tN t) (tN k) m)) 0 n))) (fun _ _ => False) := by
  refine Ct.of (own := RX6) (by decide) rfl hl (by intro v hv; simp only [List.mem_cons, List.not_mem_nil, or_false] at hv; first | (rcases hv with rfl | rfl | rfl | rfl | rfl | rfl <;> rfl) | (rcases hv with rfl | rfl | rfl | rfl | rfl <;> rfl) | (rcases hv with rfl | rfl | rfl | rfl <;> rfl) | (rcases hv with rfl | rfl | rfl <;> rfl) | (rcases hv with rfl | rfl <;> rfl) | (subst hv; rfl) | exact hv.elim) (Nat.le_of_ble_eq_true rfl) (fun X hxl hxk C F N => ?_)
  subst hxl hxk
  show V X (qS (xK X) h) 0 [some (.ref (h 0)), some (.int f), some (.int t), some (.int k)] [] g 0 0
  refine v_aload_n C dX6_owedIfCopy_0 rfl ?_
  refine v_iload_n C dX6_owedIfCopy_1 rfl ?_
  refine v_iload_n C dX6_owedIfCopy_2 rfl ?_
  refine v_iload_n C dX6_owedIfCopy_3 rfl ?_
  refine v_iconst (v := (-1)) C dX6_owedIfCopy_4 (by decide) ?_
  refine v_callVi C (c_X6_inCopy_o hl (g := g) (m := m) (n := n) (c := c) (w := 1) hQ hW (by decide)) ym_X6_inCopy ml_X6_297 emb_id_qS rfl rfl rfl rfl rfl dX6_owedIfCopy_5 (Nat.le_of_ble_eq_true rfl) (Nat.le_of_ble_eq_true rfl) (Nat.le_of_ble_eq_true rfl) (Nat.le_of_ble_eq_true rfl) (fun _ _ hu => hu.elim) (fun r u hu => ?_)
  have hX := hu
  refine v_iret C F (by first | rfl | exact bI_nar _) dX6_owedIfCopy_8 (Nat.le_of_ble_eq_true rfl) (Nat.le_of_ble_eq_true rfl) ?_
  exact hX
theorem tick_step {n w j : Nat} {m : Mg} (hI : IM m n) : payK 1 n (min (1 * w) (cntG (owb (payK 1 n (j * w) m)) 0 n)) (payK 1 n (j * w) m) = payK 1 n ((j + 1) * w) m := by
  rw [payK_cap ((payK_ok hI).1.im hI), ← payK_add, Nat.one_mul, Nat.succ_mul]
theorem ceil_at {j w k : Nat} (hw : 1 ≤ w) (h1 : k ≤ j * w) (h2 : j = 0 ∨ (j - 1) * w < k) : (k + w - 1) / w = j := by
  rcases h2 with h2 | h2
  · subst h2
    rw [Nat.zero_mul] at h1
    exact Nat.div_eq_of_lt (by omega)
  · cases j with
    | zero => rw [Nat.zero_mul] at h1; omega
    | succ j =>
      rw [Nat.add_sub_cancel] at h2
      rw [Nat.succ_mul] at h1
      refine Nat.div_eq_of_lt_le ?_ ?_
      · rw [Nat.succ_mul]; omega
      · rw [Nat.succ_mul, Nat.succ_mul]; omega
set_option maxHeartbeats 16000000 in
theorem c_X6_paidIn {l : Launch} (hl : l.stackTraces = false) {κ : Kp} {h : Nat → Nat} {g : G} {m : Mg} {n c : Nat} {p : Int32} (hQ : QMm n m g) (hW : WM n c m) : Ct SS MM l κ yX6_paidIn cX6_paidIn 4 (some FieldType.int) 5 0 0 [.ref (h 0), .int p] (qS κ h) g ri (fun r u => QTp g (cdL [(decide (n = 0), 1), (!plB n p, 2)]) u ∧ (cdL [(decide (n = 0), 1), (!plB n p, 2)] = 0 → r = nI (tikN m (untM n (tN p) 96 m).1))) (fun _ _ => False) := by
  refine Ct.of (own := RX6) (by decide) rfl hl (by intro v hv; simp only [List.mem_cons, List.not_mem_nil, or_false] at hv; first | (rcases hv with rfl | rfl | rfl | rfl | rfl | rfl <;> rfl) | (rcases hv with rfl | rfl | rfl | rfl | rfl <;> rfl) | (rcases hv with rfl | rfl | rfl | rfl <;> rfl) | (rcases hv with rfl | rfl | rfl <;> rfl) | (rcases hv with rfl | rfl <;> rfl) | (subst hv; rfl) | exact hv.elim) (Nat.le_of_ble_eq_true rfl) (fun X hxl hxk C F N => ?_)
  subst hxl hxk
  show V X (qS (xK X) h) 0 [some (.ref (h 0)), some (.int p), none, none] [] g 0 0
  obtain ⟨hm, hs, h96, hRR⟩ := id hQ
  obtain ⟨-, hn7, hMf⟩ := id hW
  refine v_aload_n C dX6_paidIn_0 rfl ?_
  refine v_iload_n C dX6_paidIn_1 rfl ?_
  refine v_callVi C (c_X6_noPlace hl (g := g) (m := m) (n := n) hQ) ym_X6_noPlace ml_X6_223 emb_id_qS rfl rfl rfl rfl rfl dX6_paidIn_2 (Nat.le_of_ble_eq_true rfl) (Nat.le_of_ble_eq_true rfl) (Nat.le_of_ble_eq_true rfl) (Nat.le_of_ble_eq_true rfl) (fun _ _ hu => hu.elim) (fun r u hu => ?_)
  obtain ⟨rfl, hu⟩ := hu
  subst u
  refine v_if_eqB C 10 dX6_paidIn_5 (by decide) (fun c5 => ?_) (fun c5 => ?_)
  · have hcd := nz_f c5
    obtain ⟨hd1, hd2⟩ := cd_0 (by decide) hcd
    obtain ⟨hd2, -⟩ := cd_0 (by decide) hd2
    have hn0 : ¬ n = 0 := of_decide_eq_false hd1
    have hp_p : plB n p = true := by simpa using hd2
    have hR := hRR hn0
    have hMI := hMf hn0
    obtain ⟨hI, hE, hLK, hn1, hSB, hBY, hPR⟩ := id hMI
    have hbd := band_ok hSB
    have hn := hI.1
    refine V.stt (g2 := tg g 0) (by rw [hcd]) ?_
    clear hcd hd2 hd1 c5
    obtain ⟨j, hj_j, e_j⟩ := pl_at hp_p
    subst e_j
    have t_j : tN (nI j) = j := tN_nI (by omega)
    refine v_aload_n C dX6_paidIn_10 rfl ?_
    refine v_iconst (v := nI 0) C dX6_paidIn_11 (by decide) ?_
    refine v_callVv C (c_X6_keeps hl (g := tg g 0) (j := 0) (by omega)) ym_X6_keeps ml_X6_195 emb_id_qS rfl rfl rfl rfl rfl dX6_paidIn_12 (Nat.le_of_ble_eq_true rfl) (Nat.le_of_ble_eq_true rfl) (Nat.le_of_ble_eq_true rfl) (Nat.le_of_ble_eq_true rfl) (fun _ _ hu => hu.elim) (fun r u hu => ?_)
    subst u
    refine V.stt (g2 := (trG g)) (tr_eq) ?_
    refine v_iconst (v := nI 0) C dX6_paidIn_15 (by decide) ?_
    refine v_istore_n C (lo2 := [some _, some _, some _, none]) dX6_paidIn_16 rfl (Nat.le_of_ble_eq_true rfl) rfl ?_
    have hun := untM_le (n := n) (p := j) 96 m
    have L17 : ∀ (t : Nat × (Nat → Int32)), (fun t => (t.1 = 0 ∨ (t.1 - 1) * bandN m < (untM n j 96 m).1) ∧ t.1 ≤ 97 ∧ RowR (payK 1 n (t.1 * bandN m) m) t.2) t → (fun t : Nat × (Nat → Int32) => V X (qS (xK X) h) 17 [some (.ref (h 0)), some (.int (nI j)), some (.int (nI t.1)), none] [] (sG (trG g) 1 t.2) 0 0) t := by
      refine v_ind (fun t : Nat × (Nat → Int32) => 98 - t.1) ?_
      rintro ⟨x, f⟩ ih17 hI17
      try dsimp only at hI17 ⊢
      obtain ⟨i1, i2, hRy⟩ := hI17
      have i1 : x = 0 ∨ (x - 1) * bandN m < (untM n j 96 m).1 := i1
      have i2 : x ≤ 97 := i2
      have hRy : RowR (payK 1 n (x * bandN m) m) f := hRy
      have hk := payK_ok (kind := 1) (k := x * bandN m) hI
      have hyI := hk.1.im hI
      have hyE := hk.1.1.2.2.2.2 hE
      refine v_aload_n C dX6_paidIn_17 rfl ?_
      refine v_iload_n C dX6_paidIn_18 rfl ?_
      refine v_callVi C (c_X6_owes hl (g := sG (trG g) 1 f) (m := payK 1 n (x * bandN m) m) hRy (by omega)) ym_X6_owes ml_X6_217 emb_id_qS rfl rfl rfl rfl rfl dX6_paidIn_19 (Nat.le_of_ble_eq_true rfl) (Nat.le_of_ble_eq_true rfl) (Nat.le_of_ble_eq_true rfl) (Nat.le_of_ble_eq_true rfl) (fun _ _ hu => hu.elim) (fun r u hu => ?_)
      obtain ⟨rfl, hu⟩ := hu
      subst u
      rw [unt_iff hI hj_j]
      refine V.stt (g2 := (sG (trG g) 1 f)) (rfl) ?_
      refine v_if_eqB C 37 dX6_paidIn_22 (by decide) (fun c22 => ?_) (fun c22 => ?_)
      · have hge : ¬ x * bandN m < (untM n j 96 m).1 := of_decide_eq_false c22
        have hceil : ((untM n j 96 m).1 + bandN m - 1) / bandN m = x := ceil_at hbd.2.1 (by omega) i1
        refine v_aload_n C dX6_paidIn_37 rfl ?_
        refine v_iconst (v := nI 0) C dX6_paidIn_38 (by decide) ?_
        refine v_callVv C (c_X6_fetches hl (g := sG (trG g) 1 f) (j := 0) (by omega)) ym_X6_fetches ml_X6_201 emb_id_qS rfl rfl rfl rfl rfl dX6_paidIn_39 (Nat.le_of_ble_eq_true rfl) (Nat.le_of_ble_eq_true rfl) (Nat.le_of_ble_eq_true rfl) (Nat.le_of_ble_eq_true rfl) (fun _ _ hu => hu.elim) (fun r u hu => ?_)
        subst u
        refine v_iload_n C dX6_paidIn_42 rfl ?_
        refine v_iret C F (by first | rfl | exact bI_nar _) dX6_paidIn_43 (Nat.le_of_ble_eq_true rfl) (Nat.le_of_ble_eq_true rfl) ?_
        first
        | (refine ⟨QTp.of0 ?_ ?_, fun _ => ?_⟩; (simp [cdL, hn0, hp_p]); (first | exact tr_back | exact tr_back1); (rw [t_j]; unfold tikN; rw [hceil]); done)
        | (refine ⟨QTp.eq ?_, fun z => absurd z ?_⟩; (exact congrArg (tg g) (cd2 c5).symm); (exact fun z => absurd ((cd2 c5).symm.trans z) (nz_t c5)); done)
      · refine v_aload_n C dX6_paidIn_25 rfl ?_
        refine v_iconst (v := nI 1) C dX6_paidIn_26 (by decide) ?_
        refine v_callVi C (c_X6_ticks hl (g := sG (trG g) 1 f) (m := payK 1 n (x * bandN m) m) (n := n) (t := 1) (w := bandN m) hRy hyE hyI hs (by rw [hk.1.1.2.2.1]; exact hbd.1) hbd.2.2 (by decide)) ym_X6_ticks ml_X6_301 emb_id_qS rfl rfl rfl rfl rfl dX6_paidIn_27 (Nat.le_of_ble_eq_true rfl) (Nat.le_of_ble_eq_true rfl) (Nat.le_of_ble_eq_true rfl) (Nat.le_of_ble_eq_true rfl) (fun _ _ hu => hu.elim) (fun r u hu => ?_)
        obtain ⟨rfl, f2, hu, hR2⟩ := hu
        subst u
        rw [tick_step hI] at hR2
        refine V.stt (g2 := (sG (trG g) 1 f2)) (sG_sG) ?_
        refine v_istore_n C (lo2 := [some _, some _, some _, some _]) dX6_paidIn_30 rfl (Nat.le_of_ble_eq_true rfl) rfl ?_
        first | refine v_iinc1 C (lo2 := [some _, some _, some _, some _]) dX6_paidIn_31 rfl rfl rfl ?_ | refine v_iinc C (lo2 := [some _, some _, some _, some _]) dX6_paidIn_31 rfl rfl rfl rfl ?_
        refine v_goto C 17 dX6_paidIn_34 (by decide) ?_
        refine V.sub (lo2 := [some _, some _, some _, none]) ⟨rfl, rfl, rfl, trivial⟩ ?_
        have hlt : x * bandN m < (untM n j 96 m).1 := of_decide_eq_true c22
        have hx96 : x < 97 := by
          have := Nat.mul_le_mul_left x hbd.2.1
          omega
        exact ih17 (x + 1, f2) (by show 98 - (x + 1) < 98 - x; omega) ⟨Or.inr hlt, by show x + 1 ≤ 97; omega, hR2⟩
    have H := L17 (0, g 1) ⟨Or.inl rfl, by show 0 ≤ 97; omega, by show RowR (payK 1 n (0 * bandN m) m) (g 1); rw [Nat.zero_mul]; exact hR⟩
    try dsimp only at H
    rw [show sG (trG g) 1 (g 1) = (trG g) from sG_id rfl] at H
    exact H
  · skip
    refine v_iconst (v := nI 0) C dX6_paidIn_8 (by decide) ?_
    refine v_iret C F (by first | rfl | exact bI_nar _) dX6_paidIn_9 (Nat.le_of_ble_eq_true rfl) (Nat.le_of_ble_eq_true rfl) ?_
    first
    | (refine ⟨QTp.of0 ?_ ?_, fun _ => ?_⟩; (simp [cdL, hn0, hp_p]); (first | exact tr_back | exact tr_back1); (rw [t_j]; unfold tikN; rw [hceil]); done)
    | (refine ⟨QTp.eq ?_, fun z => absurd z ?_⟩; (exact congrArg (tg g) (cd2 c5).symm); (exact fun z => absurd ((cd2 c5).symm.trans z) (nz_t c5)); done)
theorem trz {g : G} {S hd f S2 f2 f3 : Nat → Int32} {cd : Nat} : sG (sG (sG (sG (sG (sG (tg g cd) 2 S) 5 hd) 1 f) 2 S2) 1 f2) 1 f3 = sG (sG (sG (tg g cd) 2 S2) 5 hd) 1 f3 := by
  rw [sG_sG, sG_comm (a := 1) (b := 2) (by decide), sG_sG, sG_comm (a := 5) (b := 2) (by decide), sG_sG]
set_option maxHeartbeats 16000000 in
theorem c_X6_hopsBehind {l : Launch} (hl : l.stackTraces = false) {κ : Kp} {h : Nat → Nat} {g g1 : G} {m : Mg} {n c p : Nat} (hR : RowR m (g 1)) (hs : g 0 2 = nI n) (hMI : MI n c m) (hg : QTp g 0 g1) : Ct SS MM l κ yX6_hopsBehind cX6_hopsBehind 5 (some FieldType.int) 5 0 0 [.ref (h 0), .int (nI p)] (qS κ h) g1 ri (fun r u => r = nI (polL n m p) ∧ QTp g 0 u) (fun _ _ => False) := by
  refine Ct.of (own := RX6) (by decide) rfl hl (by intro v hv; simp only [List.mem_cons, List.not_mem_nil, or_false] at hv; first | (rcases hv with rfl | rfl | rfl | rfl | rfl | rfl <;> rfl) | (rcases hv with rfl | rfl | rfl | rfl | rfl <;> rfl) | (rcases hv with rfl | rfl | rfl | rfl <;> rfl) | (rcases hv with rfl | rfl | rfl <;> rfl) | (rcases hv with rfl | rfl <;> rfl) | (subst hv; rfl) | exact hv.elim) (Nat.le_of_ble_eq_true rfl) (fun X hxl hxk C F N => ?_)
  subst hxl hxk
  show V X (qS (xK X) h) 0 [some (.ref (h 0)), some (.int (nI p)), none, none, none] [] g1 0 0
  obtain ⟨hI, hE, hLK, hn1, hSB, hBY, hPR⟩ := id hMI
  have hbd := band_ok hSB
  have h96 := hI.2.1
  obtain ⟨hd0, f0, S0, hg1, hf0, hS0⟩ := hg
  have hR1 : RowR m (g1 1) := RowR.mono hR (fun k hk => by rw [hg1]; exact hf0 k hk) hE
  have hs1 : g1 0 2 = nI n := by rw [hg1]; exact hs
  obtain ⟨gt, hgt⟩ : ∃ gt, gt = sG g1 2 (kpP (g1 2) (g1 1) 0 640) := ⟨_, rfl⟩
  have hR2 : RowR m (gt 1) := by rw [hgt]; exact hR1
  have hs2 : gt 0 2 = nI n := by rw [hgt]; exact hs1
  have hI2 : IM (payK 1 n (min (1 * bandN m) (cntG (owb m) 0 n)) (setM m 2 (nI p))) n := (payK_ok (IM_setM hI)).1.im (IM_setM hI)
  refine v_aload_n C dX6_hopsBehind_0 rfl ?_
  refine v_iconst (v := nI 0) C dX6_hopsBehind_1 (by decide) ?_
  refine v_callVv C (c_X6_keeps hl (g := g1) (j := 0) (by omega)) ym_X6_keeps ml_X6_195 emb_id_qS rfl rfl rfl rfl rfl dX6_hopsBehind_2 (Nat.le_of_ble_eq_true rfl) (Nat.le_of_ble_eq_true rfl) (Nat.le_of_ble_eq_true rfl) (Nat.le_of_ble_eq_true rfl) (fun _ _ hu => hu.elim) (fun r u hu => ?_)
  subst u
  refine V.stt (g2 := gt) (hgt.symm) ?_
  refine v_aload_n C dX6_hopsBehind_5 rfl ?_
  refine v_getr C fl_X6_7 or_qS_0_3 dX6_hopsBehind_6 ?_
  refine v_sipush (v := nI 386) C dX6_hopsBehind_9 (by decide) ?_
  refine v_iload_n C dX6_hopsBehind_12 rfl ?_
  refine v_iast C ar_qS_1 (by decide) _ ?_ rfl dX6_hopsBehind_13 ?_
  · omega
  refine V.stt (g2 := (sG gt 1 (upd (gt 1) (384 + 2) (nI p)))) (rfl) ?_
  refine v_iconst (v := nI 0) C dX6_hopsBehind_14 (by decide) ?_
  refine v_istore_n C (lo2 := [some _, some _, some _, none, none]) dX6_hopsBehind_15 rfl (Nat.le_of_ble_eq_true rfl) rfl ?_
  refine v_aload_n C dX6_hopsBehind_16 rfl ?_
  refine v_iconst (v := nI 1) C dX6_hopsBehind_17 (by decide) ?_
  refine v_callVi C (c_X6_ticks hl (g := sG gt 1 (upd (gt 1) (384 + 2) (nI p))) (m := setM m 2 (nI p)) (n := n) (t := 1) (w := bandN m) (Row_set hR2 (by decide)) (EvOK.of hE rfl) (IM_setM hI) hs2 hbd.1 hbd.2.2 (by decide)) ym_X6_ticks ml_X6_301 emb_id_qS rfl rfl rfl rfl rfl dX6_hopsBehind_18 (Nat.le_of_ble_eq_true rfl) (Nat.le_of_ble_eq_true rfl) (Nat.le_of_ble_eq_true rfl) (Nat.le_of_ble_eq_true rfl) (fun _ _ hu => hu.elim) (fun r u hu => ?_)
  obtain ⟨rfl, f2, hu, hR3⟩ := hu
  subst u
  have hR3 : RowR (payK 1 n (min (1 * bandN m) (cntG (owb m) 0 n)) (setM m 2 (nI p))) f2 := hR3
  refine V.stt (g2 := (sG gt 1 f2)) (sG_sG) ?_
  refine v_istore_n C (lo2 := [some _, some _, some _, some _, none]) dX6_hopsBehind_21 rfl (Nat.le_of_ble_eq_true rfl) rfl ?_
  refine v_iconst (v := nI 0) C dX6_hopsBehind_22 (by decide) ?_
  refine v_istore C (lo2 := [some _, some _, some _, some _, some _]) dX6_hopsBehind_23 rfl (Nat.le_of_ble_eq_true rfl) rfl ?_
  have L25 : ∀ (t : Nat × Nat), (fun t => t.1 ≤ n ∧ t.2 + sumG (hopsM (payK 1 n (min (1 * bandN m) (cntG (owb m) 0 n)) (setM m 2 (nI p)))) t.1 (n - t.1) = polL n m p) t → (fun t : Nat × Nat => V X (qS (xK X) h) 25 [some (.ref (h 0)), some (.int (nI p)), some (.int (nI t.2)), none, some (.int (nI t.1))] [] (sG gt 1 f2) 0 0) t := by
    refine v_ind (fun t : Nat × Nat => n - t.1) ?_
    rintro ⟨i, x⟩ ih25 hI25
    try dsimp only at hI25 ⊢
    obtain ⟨i1, i2⟩ := hI25
    refine v_iload C dX6_hopsBehind_25 rfl ?_
    refine v_aload_n C dX6_hopsBehind_27 rfl ?_
    refine v_getiQ (x := nI n) C fl_X6_126 oi_qS_0_2 (hs2) dX6_hopsBehind_28 ?_
    first | refine v_icmp_geN C 49 dX6_hopsBehind_31 (by decide) (by omega) (by omega) (fun c31 => ?_) (fun c31 => ?_) | refine v_icmp_ge C 49 dX6_hopsBehind_31 (by decide) (fun c31 => ?_) (fun c31 => ?_)
    · refine v_aload_n C dX6_hopsBehind_49 rfl ?_
      refine v_iconst (v := nI 0) C dX6_hopsBehind_50 (by decide) ?_
      refine v_callVv C (c_X6_fetches hl (g := sG gt 1 f2) (j := 0) (by omega)) ym_X6_fetches ml_X6_201 emb_id_qS rfl rfl rfl rfl rfl dX6_hopsBehind_51 (Nat.le_of_ble_eq_true rfl) (Nat.le_of_ble_eq_true rfl) (Nat.le_of_ble_eq_true rfl) (Nat.le_of_ble_eq_true rfl) (fun _ _ hu => hu.elim) (fun r u hu => ?_)
      subst u
      refine v_iload_n C dX6_hopsBehind_54 rfl ?_
      refine v_iret C F (by first | rfl | exact bI_nar _) dX6_hopsBehind_55 (Nat.le_of_ble_eq_true rfl) (Nat.le_of_ble_eq_true rfl) ?_
      rw [sumG_0 (by omega), Nat.add_zero] at i2
      refine ⟨by rw [← i2], hd0, _, kpP S0 f0 0 640, (by rw [hgt, hg1]; exact trz), fun k hk => ?_, fun k hk => ?_⟩
      · rw [mix_in hk]
        exact (kpP_in (j := 0) hk).trans (hf0 k hk)
      · rw [kpP_out (by omega)]
        exact hS0 k hk
    · refine v_iload_n C dX6_hopsBehind_34 rfl ?_
      refine v_aload_n C dX6_hopsBehind_35 rfl ?_
      refine v_iload C dX6_hopsBehind_36 rfl ?_
      refine v_callVi C (c_X6_hopsOf hl (g := sG gt 1 f2) (m := (payK 1 n (min (1 * bandN m) (cntG (owb m) 0 n)) (setM m 2 (nI p)))) (n := n) hR3 hI2 (by omega)) ym_X6_hopsOf ml_X6_229 emb_id_qS rfl rfl rfl rfl rfl dX6_hopsBehind_38 (Nat.le_of_ble_eq_true rfl) (Nat.le_of_ble_eq_true rfl) (Nat.le_of_ble_eq_true rfl) (Nat.le_of_ble_eq_true rfl) (fun _ _ hu => hu.elim) (fun r u hu => ?_)
      obtain ⟨rfl, hu⟩ := hu
      subst u
      refine V.stt (g2 := (sG gt 1 f2)) (rfl) ?_
      first | refine v_iaddN C dX6_hopsBehind_41 ?_ | refine v_iadd C dX6_hopsBehind_41 ?_
      refine v_istore_n C (lo2 := [some _, some _, some _, none, some _]) dX6_hopsBehind_42 rfl (Nat.le_of_ble_eq_true rfl) rfl ?_
      first | refine v_iinc1 C (lo2 := [some _, some _, some _, none, some _]) dX6_hopsBehind_43 rfl rfl rfl ?_ | refine v_iinc C (lo2 := [some _, some _, some _, none, some _]) dX6_hopsBehind_43 rfl rfl rfl rfl ?_
      refine v_goto C 25 dX6_hopsBehind_46 (by decide) ?_
      have hib : i < n := by omega
      rw [sumG_s hib] at i2
      exact ih25 (i + 1, x + hopsM (payK 1 n (min (1 * bandN m) (cntG (owb m) 0 n)) (setM m 2 (nI p))) i) (by show n - (i + 1) < n - i; omega) ⟨by show i + 1 ≤ n; omega, by show x + hopsM (payK 1 n (min (1 * bandN m) (cntG (owb m) 0 n)) (setM m 2 (nI p))) i + sumG (hopsM (payK 1 n (min (1 * bandN m) (cntG (owb m) 0 n)) (setM m 2 (nI p)))) (i + 1) (n - (i + 1)) = _; omega⟩
  refine V.sub (lo2 := [some _, some _, some _, none, some _]) ⟨rfl, rfl, rfl, rfl, trivial⟩ ?_
  exact L25 (0, 0) ⟨Nat.zero_le _, by rw [Nat.zero_add]; rfl⟩
theorem pol_eq {n : Nat} {m : Mg} : ∀ k, (forG (polS n m) 1 k (0, polL n m 0)).2 = polL n m (forG (polS n m) 1 k (0, polL n m 0)).1 := by
  intro k
  have h := forG_inv (f := polS n m) (fun _ x => x.2 = polL n m x.1) k 1 (0, polL n m 0) rfl (fun j x h1 h2 hx => by
    unfold polS
    split
    · rfl
    · exact hx)
  exact h
def polN (n : Nat) (m : Mg) (p b : Nat) : Nat := if polL n m p < polL n m b then p else b
theorem pol_step {n p b : Nat} {m : Mg} (hp : 1 ≤ p) : polS n m p (b, polL n m b) = (polN n m p b, polL n m (polN n m p b)) := by
  unfold polS polN
  by_cases h : polL n m p < polL n m b
  · rw [if_pos (Or.inr h), if_pos h]
  · rw [if_neg (by intro z; omega), if_neg h]
theorem polB_eq {n : Nat} {m : Mg} : polB n m = forG (polN n m) 1 3 0 := by
  have h0 : polS n m 0 (0, 0) = (0, polL n m 0) := if_pos (Or.inl rfl)
  show (forG (polS n m) (0 + 1) 3 (polS n m 0 (0, 0))).1 = _
  rw [h0]
  have h := forG_comm (f := polN n m) (g := polS n m) (fun b => (b, polL n m b)) 3 1 0 (fun j y h1 _ => (pol_step h1).symm)
  show (forG (polS n m) 1 3 ((fun b => (b, polL n m b)) 0)).1 = _
  rw [← h]
set_option maxHeartbeats 16000000 in
theorem c_X6_bestPolicy {l : Launch} (hl : l.stackTraces = false) {κ : Kp} {h : Nat → Nat} {g : G} {m : Mg} {n c : Nat} (hQ : QMm n m g) (hW : WM n c m) : Ct SS MM l κ yX6_bestPolicy cX6_bestPolicy 3 (some FieldType.int) 6 0 0 [.ref (h 0)] (qS κ h) g ri (fun r u => QTp g (cdL [(decide (n = 0), 1)]) u ∧ (cdL [(decide (n = 0), 1)] = 0 → r = nI (polB n m))) (fun _ _ => False) := by
  refine Ct.of (own := RX6) (by decide) rfl hl (by intro v hv; simp only [List.mem_cons, List.not_mem_nil, or_false] at hv; first | (rcases hv with rfl | rfl | rfl | rfl | rfl | rfl <;> rfl) | (rcases hv with rfl | rfl | rfl | rfl | rfl <;> rfl) | (rcases hv with rfl | rfl | rfl | rfl <;> rfl) | (rcases hv with rfl | rfl | rfl <;> rfl) | (rcases hv with rfl | rfl <;> rfl) | (subst hv; rfl) | exact hv.elim) (Nat.le_of_ble_eq_true rfl) (fun X hxl hxk C F N => ?_)
  subst hxl hxk
  show V X (qS (xK X) h) 0 [some (.ref (h 0)), none, none] [] g 0 0
  obtain ⟨hm, hs, h96, hRR⟩ := id hQ
  obtain ⟨-, hn7, hMf⟩ := id hW
  refine v_aload_n C dX6_bestPolicy_0 rfl ?_
  refine v_callVi C (c_X6_noMemory hl (n := n) hm) ym_X6_noMemory ml_X6_207 emb_id_qS rfl rfl rfl rfl rfl dX6_bestPolicy_1 (Nat.le_of_ble_eq_true rfl) (Nat.le_of_ble_eq_true rfl) (Nat.le_of_ble_eq_true rfl) (Nat.le_of_ble_eq_true rfl) (fun _ _ hu => hu.elim) (fun r u hu => ?_)
  obtain ⟨rfl, hu⟩ := hu
  subst u
  refine v_if_eqB C 9 dX6_bestPolicy_4 (by decide) (fun c4 => ?_) (fun c4 => ?_)
  · have hn0 : ¬ n = 0 := of_decide_eq_false c4
    have hR := hRR hn0
    have hMI := hMf hn0
    obtain ⟨hI, hE, hLK, hn1, hSB, hBY, hPR⟩ := id hMI
    have hbd := band_ok hSB
    have hn := hI.1
    refine V.stt (g2 := tg g 0) (by rw [c4]; rfl) ?_
    refine v_iconst (v := nI 0) C dX6_bestPolicy_9 (by decide) ?_
    refine v_istore_n C (lo2 := [some _, some _, none]) dX6_bestPolicy_10 rfl (Nat.le_of_ble_eq_true rfl) rfl ?_
    refine v_iconst (v := nI 1) C dX6_bestPolicy_11 (by decide) ?_
    refine v_istore_n C (lo2 := [some _, some _, some _]) dX6_bestPolicy_12 rfl (Nat.le_of_ble_eq_true rfl) rfl ?_
    have L13 : ∀ (t : Nat × Nat × G), (fun t => 1 ≤ t.1 ∧ t.1 ≤ 4 ∧ forG (polN n m) t.1 (4 - t.1) t.2.1 = forG (polN n m) 1 3 0 ∧ QTp g 0 t.2.2) t → (fun t : Nat × Nat × G => V X (qS (xK X) h) 13 [some (.ref (h 0)), some (.int (nI t.2.1)), some (.int (nI t.1))] [] t.2.2 0 0) t := by
      refine v_ind (fun t : Nat × Nat × G => 4 - t.1) ?_
      rintro ⟨i, b, gx⟩ ih13 hI13
      try dsimp only at hI13 ⊢
      obtain ⟨i0, i1, i2, hgx⟩ := hI13
      have hl1 := polL_lt (p := i) hI
      have hl2 := polL_lt (p := b) hI
      refine v_iload_n C dX6_bestPolicy_13 rfl ?_
      refine v_iconst (v := nI 4) C dX6_bestPolicy_14 (by decide) ?_
      first | refine v_icmp_geN C 43 dX6_bestPolicy_15 (by decide) (by omega) (by omega) (fun c15 => ?_) (fun c15 => ?_) | refine v_icmp_ge C 43 dX6_bestPolicy_15 (by decide) (fun c15 => ?_) (fun c15 => ?_)
      · refine v_iload_n C dX6_bestPolicy_43 rfl ?_
        refine v_iret C F (by first | rfl | exact bI_nar _) dX6_bestPolicy_44 (Nat.le_of_ble_eq_true rfl) (Nat.le_of_ble_eq_true rfl) ?_
        first
        | (refine ⟨QTp.of0 ?_ hgx, fun _ => ?_⟩; (simp [cdL, hn0]); (rw [polB_eq, ← i2, show 4 - i = 0 by omega]; rfl); done)
        | (refine ⟨QTp.eq ?_, fun z => absurd z ?_⟩; (simp [cdL, hz0]); (simp [cdL, hz0]); done)
      · refine v_aload_n C dX6_bestPolicy_18 rfl ?_
        refine v_iload_n C dX6_bestPolicy_19 rfl ?_
        refine v_callVi C (c_X6_hopsBehind hl (g := g) (g1 := gx) (m := m) (n := n) (c := c) (p := i) hR hs hMI hgx) ym_X6_hopsBehind ml_X6_304 emb_id_qS rfl rfl rfl rfl rfl dX6_bestPolicy_20 (Nat.le_of_ble_eq_true rfl) (Nat.le_of_ble_eq_true rfl) (Nat.le_of_ble_eq_true rfl) (Nat.le_of_ble_eq_true rfl) (fun _ _ hu => hu.elim) (fun r u hu => ?_)
        obtain ⟨rfl, hgy⟩ := hu
        obtain ⟨gy, egy⟩ : ∃ x, x = u := ⟨u, rfl⟩
        subst egy
        refine v_aload_n C dX6_bestPolicy_23 rfl ?_
        refine v_iload_n C dX6_bestPolicy_24 rfl ?_
        refine v_callVi C (c_X6_hopsBehind hl (g := g) (g1 := gy) (m := m) (n := n) (c := c) (p := b) hR hs hMI hgy) ym_X6_hopsBehind ml_X6_304 emb_id_qS rfl rfl rfl rfl rfl dX6_bestPolicy_25 (Nat.le_of_ble_eq_true rfl) (Nat.le_of_ble_eq_true rfl) (Nat.le_of_ble_eq_true rfl) (Nat.le_of_ble_eq_true rfl) (fun _ _ hu => hu.elim) (fun r u hu => ?_)
        obtain ⟨rfl, hgz⟩ := hu
        obtain ⟨gz, egz⟩ : ∃ x, x = u := ⟨u, rfl⟩
        subst egz
        first | refine v_icmp_geN C 35 dX6_bestPolicy_28 (by decide) (by omega) (by omega) (fun c28 => ?_) (fun c28 => ?_) | refine v_icmp_ge C 35 dX6_bestPolicy_28 (by decide) (fun c28 => ?_) (fun c28 => ?_)
        · refine v_iload_n C dX6_bestPolicy_35 rfl ?_
          refine v_istore_n C (lo2 := [some _, some _, some _]) dX6_bestPolicy_36 rfl (Nat.le_of_ble_eq_true rfl) rfl ?_
          first | refine v_iinc1 C (lo2 := [some _, some _, some _]) dX6_bestPolicy_37 rfl rfl rfl ?_ | refine v_iinc C (lo2 := [some _, some _, some _]) dX6_bestPolicy_37 rfl rfl rfl rfl ?_
          refine v_goto C 13 dX6_bestPolicy_40 (by decide) ?_
          have hib : i < 4 := by omega
          rw [forG_s hib] at i2
          first
          | (have hz : polN n m i b = i := if_pos (by omega)
             rw [hz] at i2
             exact ih13 (i + 1, i, gz) (by show 4 - (i + 1) < 4 - i; omega) ⟨by show 1 ≤ i + 1; omega, by show i + 1 ≤ 4; omega, i2, hgz⟩)
          | (have hz : polN n m i b = b := if_neg (by omega)
             rw [hz] at i2
             exact ih13 (i + 1, b, gz) (by show 4 - (i + 1) < 4 - i; omega) ⟨by show 1 ≤ i + 1; omega, by show i + 1 ≤ 4; omega, i2, hgz⟩)
        · refine v_iload_n C dX6_bestPolicy_31 rfl ?_
          refine v_goto C 36 dX6_bestPolicy_32 (by decide) ?_
          refine v_istore_n C (lo2 := [some _, some _, some _]) dX6_bestPolicy_36 rfl (Nat.le_of_ble_eq_true rfl) rfl ?_
          first | refine v_iinc1 C (lo2 := [some _, some _, some _]) dX6_bestPolicy_37 rfl rfl rfl ?_ | refine v_iinc C (lo2 := [some _, some _, some _]) dX6_bestPolicy_37 rfl rfl rfl rfl ?_
          refine v_goto C 13 dX6_bestPolicy_40 (by decide) ?_
          have hib : i < 4 := by omega
          rw [forG_s hib] at i2
          first
          | (have hz : polN n m i b = i := if_pos (by omega)
             rw [hz] at i2
             exact ih13 (i + 1, i, gz) (by show 4 - (i + 1) < 4 - i; omega) ⟨by show 1 ≤ i + 1; omega, by show i + 1 ≤ 4; omega, i2, hgz⟩)
          | (have hz : polN n m i b = b := if_neg (by omega)
             rw [hz] at i2
             exact ih13 (i + 1, b, gz) (by show 4 - (i + 1) < 4 - i; omega) ⟨by show 1 ≤ i + 1; omega, by show i + 1 ≤ 4; omega, i2, hgz⟩)
    exact L13 (1, 0, tg g 0) ⟨Nat.le_refl _, by show 1 ≤ 4; omega, rfl, QTp.rf⟩
  · have hz0 : n = 0 := of_decide_eq_true c4
    refine V.stt (g2 := tg g 1) (by rw [c4]; rfl) ?_
    refine v_iconst (v := nI 0) C dX6_bestPolicy_7 (by decide) ?_
    refine v_iret C F (by first | rfl | exact bI_nar _) dX6_bestPolicy_8 (Nat.le_of_ble_eq_true rfl) (Nat.le_of_ble_eq_true rfl) ?_
    first
    | (refine ⟨QTp.of0 ?_ hgx, fun _ => ?_⟩; (simp [cdL, hn0]); (rw [polB_eq, ← i2, show 4 - i = 0 by omega]; rfl); done)
    | (refine ⟨QTp.eq ?_, fun z => absurd z ?_⟩; (simp [cdL, hz0]); (simp [cdL, hz0]); done)
theorem kth_none {f : Nat → Bool} : ∀ (k i : Nat) (t : Int), kthG f i k t = none ↔ ¬ (0 ≤ t ∧ t < (cntG f i k : Int))
  | 0, i, t => by
    show none = none ↔ ¬ (0 ≤ t ∧ t < ((0 : Nat) : Int))
    exact ⟨fun _ h => by omega, fun _ => rfl⟩
  | k + 1, i, t => by
    show (if f i then (if t = 0 then some i else kthG f (i + 1) k (t - 1)) else kthG f (i + 1) k t) = none ↔ ¬ (0 ≤ t ∧ t < (((if f i then 1 else 0) + cntG f (i + 1) k : Nat) : Int))
    by_cases c : f i = true
    · rw [if_pos c, if_pos c]
      by_cases c2 : t = 0
      · rw [if_pos c2]
        exact ⟨(fun h => by cases h), fun h => (h ⟨by omega, by omega⟩).elim⟩
      · rw [if_neg c2, kth_none k (i + 1) (t - 1)]
        constructor
        · intro h z; exact h ⟨by omega, by omega⟩
        · intro h z; exact h ⟨by omega, by omega⟩
    · rw [if_neg c, if_neg c, Nat.zero_add]
      exact kth_none k (i + 1) t
theorem kth_in {f : Nat → Bool} {n : Nat} {k : Int32} : (!inB k 0 ((cntG f 0 n : Int) - 1)) = (kthG f 0 n k.toInt).isNone := by
  have h := kth_none (f := f) n 0 k.toInt
  cases hk : kthG f 0 n k.toInt with
  | none =>
    have := h.mp hk
    rw [inB_no (by omega)]
    rfl
  | some q =>
    have : (0 ≤ k.toInt ∧ k.toInt < (cntG f 0 n : Int)) := Classical.byContradiction fun z => by rw [h.mpr z] at hk; cases hk
    rw [inB_mk (by omega) (by omega)]
    rfl
set_option maxHeartbeats 16000000 in
theorem c_X6_debt {l : Launch} (hl : l.stackTraces = false) {κ : Kp} {h : Nat → Nat} {g : G} {m : Mg} {n c : Nat} {k w : Int32} (hQ : QMm n m g) (hW : WM n c m) : Ct SS MM l κ yX6_debt cX6_debt 5 (some FieldType.int) 4 0 0 [.ref (h 0), .int k, .int w] (qS κ h) g ri (fun r u => u = tg g (cdL [(decide (n = 0), 1), ((kthG (startM m) 0 n k.toInt).isNone, 2), (!inB w 0 3, 3)]) ∧ (cdL [(decide (n = 0), 1), ((kthG (startM m) 0 n k.toInt).isNone, 2), (!inB w 0 3, 3)] = 0 → r = oV (kthG (startM m) 0 n k.toInt) 0 (fun f => debV m n f (tN w)))) (fun _ _ => False) := by
  refine Ct.of (own := RX6) (by decide) rfl hl (by intro v hv; simp only [List.mem_cons, List.not_mem_nil, or_false] at hv; first | (rcases hv with rfl | rfl | rfl | rfl | rfl | rfl <;> rfl) | (rcases hv with rfl | rfl | rfl | rfl | rfl <;> rfl) | (rcases hv with rfl | rfl | rfl | rfl <;> rfl) | (rcases hv with rfl | rfl | rfl <;> rfl) | (rcases hv with rfl | rfl <;> rfl) | (subst hv; rfl) | exact hv.elim) (Nat.le_of_ble_eq_true rfl) (fun X hxl hxk C F N => ?_)
  subst hxl hxk
  show V X (qS (xK X) h) 0 [some (.ref (h 0)), some (.int k), some (.int w), none, none] [] g 0 0
  obtain ⟨hm, hs, h96, hRR⟩ := id hQ
  obtain ⟨-, hn7, hMf⟩ := id hW
  refine v_aload_n C dX6_debt_0 rfl ?_
  refine v_callVi C (c_X6_noMemory hl (n := n) hm) ym_X6_noMemory ml_X6_207 emb_id_qS rfl rfl rfl rfl rfl dX6_debt_1 (Nat.le_of_ble_eq_true rfl) (Nat.le_of_ble_eq_true rfl) (Nat.le_of_ble_eq_true rfl) (Nat.le_of_ble_eq_true rfl) (fun _ _ hu => hu.elim) (fun r u hu => ?_)
  obtain ⟨rfl, hu⟩ := hu
  subst u
  refine v_if_neB C 56 dX6_debt_4 (by decide) (fun c4 => ?_) (fun c4 => ?_)
  · have hz0 : n = 0 := of_decide_eq_true c4
    refine V.stt (g2 := tg g 1) (by rw [c4]; rfl) ?_
    refine v_iconst (v := nI 0) C dX6_debt_56 (by decide) ?_
    refine v_iret C F (by first | rfl | exact bI_nar _) dX6_debt_57 (Nat.le_of_ble_eq_true rfl) (Nat.le_of_ble_eq_true rfl) ?_
    first
    | (refine ⟨?_, fun _ => ?_⟩
       simp [cdL, hn0, c31, c53, hq]
       rw [t_w, hq]
       subst hqi
       show _ = debV m n q jw
       unfold debV
       first
       | (rw [if_pos (show jw = 0 from nI_inj (b := 0) (by omega) (by omega) c96)])
       | (rw [if_neg (show ¬ jw = 0 from fun z => c96 (by rw [z]; rfl)), if_pos c105])
       | (rw [if_neg (show ¬ jw = 0 from fun z => c96 (by rw [z]; rfl)), if_neg c105, if_pos c122])
       | (rw [if_neg (show ¬ jw = 0 from fun z => c96 (by rw [z]; rfl)), if_neg c105, if_neg c122]))
    | (refine ⟨?_, fun z => absurd z ?_⟩; (simp [cdL, hz0]); (simp [cdL, hz0]); done)
    | (refine ⟨?_, fun z => absurd z ?_⟩; (simp [cdL, hn0, c31]); (simp [cdL, hn0, c31]); done)
    | (refine ⟨?_, fun z => absurd z ?_⟩; (simp [cdL, hn0, c31, c53]); (simp [cdL, hn0, c31, c53]); done)
  · have hn0 : ¬ n = 0 := of_decide_eq_false c4
    have hR := hRR hn0
    have hMI := hMf hn0
    obtain ⟨hI, hE, hLK, hn1, hSB, hBY, hPR⟩ := id hMI
    have hbd := band_ok hSB
    have hn := hI.1
    refine V.stt (g2 := tg g 0) (by rw [c4]; rfl) ?_
    have hcl := cntG_le (f := startM m) n 0
    refine v_aload_n C dX6_debt_7 rfl ?_
    refine v_iload_n C dX6_debt_8 rfl ?_
    refine v_iconst (v := nI 0) C dX6_debt_9 (by decide) ?_
    refine v_aload_n C dX6_debt_10 rfl ?_
    refine v_callVi C (c_X6_debtsNow hl (g := tg g 0) (m := m) (n := n) hR hs h96) ym_X6_debtsNow ml_X6_245 emb_id_qS rfl rfl rfl rfl rfl dX6_debt_11 (Nat.le_of_ble_eq_true rfl) (Nat.le_of_ble_eq_true rfl) (Nat.le_of_ble_eq_true rfl) (Nat.le_of_ble_eq_true rfl) (fun _ _ hu => hu.elim) (fun r u hu => ?_)
    obtain ⟨rfl, hu⟩ := hu
    subst u
    refine V.stt (g2 := (tg g 0)) (rfl) ?_
    refine v_iconst (v := nI 1) C dX6_debt_14 (by decide) ?_
    first | refine v_isubN C dX6_debt_15 (by omega) ?_ | refine v_isub C dX6_debt_15 ?_
    refine v_callSi C (c_X6_in hl (v := k) (a := 0) (b := ((cntG (startM m) 0 n : Int) - 1)) (by decide) (sub1_toInt (by omega))) ys_X6_in rfl ml_X6_98 (emb_n fix_qS) rfl rfl rfl dX6_debt_16 (Nat.le_of_ble_eq_true rfl) (Nat.le_of_ble_eq_true rfl) (Nat.le_of_ble_eq_true rfl) (Nat.le_of_ble_eq_true rfl) (fun _ _ hu => hu.elim) (fun r u hu => ?_)
    subst r
    refine v_if_neB C 26 dX6_debt_19 (by decide) (fun c19 => ?_) (fun c19 => ?_)
    · refine v_iconst (v := nI 0) C dX6_debt_26 (by decide) ?_
      refine V.eqs (st2 := [.int (bI ((kthG (startM m) 0 n k.toInt).isNone)), .ref (h 0)]) ?_ (congrArg (fun z => [Value.int z, Value.ref (h 0)]) (by rw [← kth_in]; first | exact bI_t (by rw [c19]; rfl) | exact bI_f (by rw [c19]; rfl)))
      refine v_iconst (v := nI 2) C dX6_debt_27 (by decide) ?_
      refine v_callVi C (c_X6_refuse hl (b := (kthG (startM m) 0 n k.toInt).isNone) (k := 2) (by decide) (by decide)) ym_X6_refuse ml_X6_40 emb_id_qS rfl rfl rfl rfl rfl dX6_debt_28 (Nat.le_of_ble_eq_true rfl) (Nat.le_of_ble_eq_true rfl) (Nat.le_of_ble_eq_true rfl) (Nat.le_of_ble_eq_true rfl) (fun _ _ hu => hu.elim) (fun r u hu => ?_)
      obtain ⟨rfl, hu⟩ := hu
      subst u
      refine v_if_neB C 56 dX6_debt_31 (by decide) (fun c31 => ?_) (fun c31 => ?_)
      · refine V.stt (g2 := tg g 2) (by rw [c31]; rfl) ?_
        refine v_iconst (v := nI 0) C dX6_debt_56 (by decide) ?_
        refine v_iret C F (by first | rfl | exact bI_nar _) dX6_debt_57 (Nat.le_of_ble_eq_true rfl) (Nat.le_of_ble_eq_true rfl) ?_
        first
        | (refine ⟨?_, fun _ => ?_⟩
           simp [cdL, hn0, c31, c53, hq]
           rw [t_w, hq]
           subst hqi
           show _ = debV m n q jw
           unfold debV
           first
           | (rw [if_pos (show jw = 0 from nI_inj (b := 0) (by omega) (by omega) c96)])
           | (rw [if_neg (show ¬ jw = 0 from fun z => c96 (by rw [z]; rfl)), if_pos c105])
           | (rw [if_neg (show ¬ jw = 0 from fun z => c96 (by rw [z]; rfl)), if_neg c105, if_pos c122])
           | (rw [if_neg (show ¬ jw = 0 from fun z => c96 (by rw [z]; rfl)), if_neg c105, if_neg c122]))
        | (refine ⟨?_, fun z => absurd z ?_⟩; (simp [cdL, hz0]); (simp [cdL, hz0]); done)
        | (refine ⟨?_, fun z => absurd z ?_⟩; (simp [cdL, hn0, c31]); (simp [cdL, hn0, c31]); done)
        | (refine ⟨?_, fun z => absurd z ?_⟩; (simp [cdL, hn0, c31, c53]); (simp [cdL, hn0, c31, c53]); done)
      · refine V.stt (g2 := tg g 0) (by rw [c31]; rfl) ?_
        obtain ⟨q, hq⟩ : ∃ q, (kthG (startM m) 0 n k.toInt) = some q := Option.isSome_iff_exists.mp (by rw [Option.isSome_iff_ne_none]; intro z; rw [z] at c31; cases c31)
        have hqb := kthG_some n 0 _ hq
        obtain ⟨kn, ek⟩ : ∃ kn : Nat, k = nI kn := by
          have hz : ¬ (kthG (startM m) 0 n k.toInt) = none := by rw [hq]; exact fun z => by cases z
          have hz2 := (not_congr (kth_none n 0 k.toInt)).mp hz
          have hz3 : 0 ≤ k.toInt := Classical.byContradiction fun w => hz2 (fun z => w z.1)
          exact ⟨_, (nI_of_nonneg hz3).1⟩
        refine v_aload_n C dX6_debt_34 rfl ?_
        refine v_iload_n C dX6_debt_35 rfl ?_
        refine v_iconst (v := nI 0) C dX6_debt_36 (by decide) ?_
        refine v_iconst (v := nI 3) C dX6_debt_37 (by decide) ?_
        refine v_callSi C (c_X6_in hl (v := w) (a := 0) (b := 3) (by decide) (by decide)) ys_X6_in rfl ml_X6_98 (emb_n fix_qS) rfl rfl rfl dX6_debt_38 (Nat.le_of_ble_eq_true rfl) (Nat.le_of_ble_eq_true rfl) (Nat.le_of_ble_eq_true rfl) (Nat.le_of_ble_eq_true rfl) (fun _ _ hu => hu.elim) (fun r u hu => ?_)
        subst r
        refine v_if_neB C 48 dX6_debt_41 (by decide) (fun c41 => ?_) (fun c41 => ?_)
        · refine v_iconst (v := nI 0) C dX6_debt_48 (by decide) ?_
          refine V.eqs (st2 := [.int (bI (!inB w 0 3)), .ref (h 0)]) ?_ (congrArg (fun z => [Value.int z, Value.ref (h 0)]) (by first | exact bI_t (by simp [c41]) | exact bI_f (by simp [c41])))
          refine v_iconst (v := nI 3) C dX6_debt_49 (by decide) ?_
          refine v_callVi C (c_X6_refuse hl (b := !inB w 0 3) (k := 3) (by decide) (by decide)) ym_X6_refuse ml_X6_40 emb_id_qS rfl rfl rfl rfl rfl dX6_debt_50 (Nat.le_of_ble_eq_true rfl) (Nat.le_of_ble_eq_true rfl) (Nat.le_of_ble_eq_true rfl) (Nat.le_of_ble_eq_true rfl) (fun _ _ hu => hu.elim) (fun r u hu => ?_)
          obtain ⟨rfl, hu⟩ := hu
          subst u
          refine v_if_eqB C 58 dX6_debt_53 (by decide) (fun c53 => ?_) (fun c53 => ?_)
          · refine V.stt (g2 := tg g 0) (by rw [c53]; rfl) ?_
            have hwI : inB w 0 3 = true := by simpa using c53
            obtain ⟨jw, -, hjw, hjw2, ew⟩ := in_at (a := 0) hwI
            subst ew
            have t_w : tN (nI jw) = jw := tN_nI hjw2
            have hk31 : k.toInt = ((k.toInt.toNat : Nat) : Int) := by
              have hz : ¬ (kthG (startM m) 0 n k.toInt) = none := by rw [hq]; exact fun z => by cases z
              have hz2 := (not_congr (kth_none n 0 k.toInt)).mp hz
              have hz3 : 0 ≤ k.toInt := Classical.byContradiction fun w => hz2 (fun z => w z.1)
              omega
            refine v_iconst (v := nI 0) C dX6_debt_58 (by decide) ?_
            refine v_istore_n C (lo2 := [some _, some _, some _, some _, none]) dX6_debt_59 rfl (Nat.le_of_ble_eq_true rfl) rfl ?_
            refine v_iload_n C dX6_debt_60 rfl ?_
            refine v_istore C (lo2 := [some _, some _, some _, some _, some _]) dX6_debt_61 rfl (Nat.le_of_ble_eq_true rfl) rfl ?_
            obtain ⟨lf0, hlf0, elf0⟩ : ∃ lf0 : Nat, lf0 < 2 ^ 31 ∧ k = nI lf0 := ⟨k.toInt.toNat, (nI_of_nonneg (by omega)).2, (nI_of_nonneg (by omega)).1⟩
            have L63 : ∀ (t : Nat × Nat), (fun t => t.2 < 2 ^ 31 ∧ t.1 ≤ q ∧ kthG (startM m) t.1 (n - t.1) (t.2 : Int) = some q) t → (fun t : Nat × Nat => V X (qS (xK X) h) 63 [some (.ref (h 0)), some (.int k), some (.int (nI jw)), some (.int (nI t.1)), some (.int (nI t.2))] [] (tg g 0) 0 0) t := by
              refine v_ind (fun t : Nat × Nat => n - t.1) ?_
              rintro ⟨i, lf⟩ ih63 hI63
              try dsimp only at hI63 ⊢
              obtain ⟨i1, i2, i3⟩ := hI63
              have i1 : lf < 2 ^ 31 := i1
              have i2 : i ≤ q := i2
              have i3 : kthG (startM m) i (n - i) (lf : Int) = some q := i3
              have hqn : q < n := by omega
              refine v_iload C dX6_debt_63 rfl ?_
              refine v_if_gt C 76 dX6_debt_65 (by decide) (fun c65 => ?_) (fun c65 => ?_)
              · have hlf : 0 < lf := by
                  rcases Nat.eq_zero_or_pos lf with z | z
                  · rw [z] at c65; exact absurd c65 (by decide)
                  · exact z
                refine v_iload C dX6_debt_76 rfl ?_
                refine v_aload_n C dX6_debt_78 rfl ?_
                refine v_iload_n C dX6_debt_79 rfl ?_
                refine v_callVi C (c_X6_begins hl (g := tg g 0) (m := m) (p := i) hR (by omega)) ym_X6_begins ml_X6_242 emb_id_qS rfl rfl rfl rfl rfl dX6_debt_80 (Nat.le_of_ble_eq_true rfl) (Nat.le_of_ble_eq_true rfl) (Nat.le_of_ble_eq_true rfl) (Nat.le_of_ble_eq_true rfl) (fun _ _ hu => hu.elim) (fun r u hu => ?_)
                obtain ⟨rfl, hu⟩ := hu
                subst u
                refine V.stt (g2 := (tg g 0)) (rfl) ?_
                refine v_callSi C (c_X6_flag hl (b := startM m i)) ys_X6_flag rfl ml_X6_232 (emb_n fix_qS) rfl rfl rfl dX6_debt_83 (Nat.le_of_ble_eq_true rfl) (Nat.le_of_ble_eq_true rfl) (Nat.le_of_ble_eq_true rfl) (Nat.le_of_ble_eq_true rfl) (fun _ _ hu => hu.elim) (fun r u hu => ?_)
                subst r
                first | refine v_isubN C dX6_debt_86 (by omega) ?_ | refine v_isub C dX6_debt_86 ?_
                refine v_istore C (lo2 := [some _, some _, some _, some _, some _]) dX6_debt_87 rfl (Nat.le_of_ble_eq_true rfl) rfl ?_
                first | refine v_iinc1 C (lo2 := [some _, some _, some _, some _, some _]) dX6_debt_89 rfl rfl rfl ?_ | refine v_iinc C (lo2 := [some _, some _, some _, some _, some _]) dX6_debt_89 rfl rfl rfl rfl ?_
                refine v_goto C 63 dX6_debt_92 (by decide) ?_
                have hib : i < n := by omega
                rw [kthG_s hib] at i3
                have hfl : fl (startM m i) = if startM m i = true then 1 else 0 := rfl
                have hsub : nI lf - nI (fl (startM m i)) = nI (lf - fl (startM m i)) := nI_sub (by rw [hfl]; first | (rw [c73]; exact Nat.zero_le _) | (split <;> omega))
                try rw [hsub]
                refine ih63 (i + 1, lf - fl (startM m i)) (by show n - (i + 1) < n - i; omega) ⟨by show lf - fl (startM m i) < 2 ^ 31; omega, ?_, ?_⟩
                · show i + 1 ≤ q
                  have hne : ¬ q = i := fun z => by
                    subst z
                    cases hst : startM m q with
                    | true =>
                      rw [hst, if_pos rfl] at i3
                      first
                      | (rw [hst] at c73; cases c73)
                      | (rw [if_neg (by omega)] at i3; have := (kthG_some _ _ _ i3).1; omega)
                    | false => rw [hst, if_neg Bool.false_ne_true] at i3; have := (kthG_some _ _ _ i3).1; omega
                  omega
                · show kthG (startM m) (i + 1) (n - (i + 1)) ((lf - fl (startM m i) : Nat) : Int) = some q
                  cases hst : startM m i with
                  | true =>
                    rw [hst, if_pos rfl] at i3
                    first
                    | (rw [hst] at c73; cases c73)
                    | (rw [if_neg (by omega)] at i3
                       rw [show ((lf - fl true : Nat) : Int) = (lf : Int) - 1 by show ((lf - 1 : Nat) : Int) = _; omega]
                       exact i3)
                  | false => rw [hst, if_neg Bool.false_ne_true] at i3; exact i3
              · have hlf0 : lf = 0 := by
                  rcases Nat.eq_zero_or_pos lf with z | z
                  · exact z
                  · rw [nI_toInt (by omega)] at c65; omega
                refine v_aload_n C dX6_debt_68 rfl ?_
                refine v_iload_n C dX6_debt_69 rfl ?_
                refine v_callVi C (c_X6_begins hl (g := tg g 0) (m := m) (p := i) hR (by omega)) ym_X6_begins ml_X6_242 emb_id_qS rfl rfl rfl rfl rfl dX6_debt_70 (Nat.le_of_ble_eq_true rfl) (Nat.le_of_ble_eq_true rfl) (Nat.le_of_ble_eq_true rfl) (Nat.le_of_ble_eq_true rfl) (fun _ _ hu => hu.elim) (fun r u hu => ?_)
                obtain ⟨rfl, hu⟩ := hu
                subst u
                refine V.stt (g2 := (tg g 0)) (rfl) ?_
                refine v_if_neB C 95 dX6_debt_73 (by decide) (fun c73 => ?_) (fun c73 => ?_)
                · have hqi : q = i := by
                    have hib : i < n := by omega
                    rw [kthG_s hib, c73, if_pos rfl, if_pos (by omega)] at i3
                    have i3 : some i = some q := i3
                    cases i3
                    rfl
                  refine v_iload_n C dX6_debt_95 rfl ?_
                  refine v_if_ne C 103 dX6_debt_96 (by decide) (fun c96 => ?_) (fun c96 => ?_)
                  · refine v_iload_n C dX6_debt_103 rfl ?_
                    refine v_iconst (v := nI 1) C dX6_debt_104 (by decide) ?_
                    first | refine v_icmp_neN C 120 dX6_debt_105 (by decide) (by omega) (by omega) (fun c105 => ?_) (fun c105 => ?_) | refine v_icmp_ne C 120 dX6_debt_105 (by decide) (fun c105 => ?_) (fun c105 => ?_)
                    · refine v_iload_n C dX6_debt_120 rfl ?_
                      refine v_iconst (v := nI 2) C dX6_debt_121 (by decide) ?_
                      first | refine v_icmp_neN C 133 dX6_debt_122 (by decide) (by omega) (by omega) (fun c122 => ?_) (fun c122 => ?_) | refine v_icmp_ne C 133 dX6_debt_122 (by decide) (fun c122 => ?_) (fun c122 => ?_)
                      · refine v_aload_n C dX6_debt_133 rfl ?_
                        refine v_getr C fl_X6_7 or_qS_0_3 dX6_debt_134 ?_
                        refine v_sipush (v := nI 192) C dX6_debt_137 (by decide) ?_
                        refine v_iload_n C dX6_debt_140 rfl ?_
                        first | refine v_iaddN C dX6_debt_141 ?_ | refine v_iadd C dX6_debt_141 ?_
                        refine v_ialdQ (x := m 3 i) C ar_qS_1 (by decide) _ (hR.r (by omega)) ?_ rfl dX6_debt_142 ?_
                        · omega
                        refine v_iret C F (by first | rfl | exact bI_nar _) dX6_debt_143 (Nat.le_of_ble_eq_true rfl) (Nat.le_of_ble_eq_true rfl) ?_
                        first
                        | (refine ⟨?_, fun _ => ?_⟩
                           simp [cdL, hn0, c31, c53, hq]
                           rw [t_w, hq]
                           subst hqi
                           show _ = debV m n q jw
                           unfold debV
                           first
                           | (rw [if_pos (show jw = 0 from nI_inj (b := 0) (by omega) (by omega) c96)])
                           | (rw [if_neg (show ¬ jw = 0 from fun z => c96 (by rw [z]; rfl)), if_pos c105])
                           | (rw [if_neg (show ¬ jw = 0 from fun z => c96 (by rw [z]; rfl)), if_neg c105, if_pos c122])
                           | (rw [if_neg (show ¬ jw = 0 from fun z => c96 (by rw [z]; rfl)), if_neg c105, if_neg c122]))
                        | (refine ⟨?_, fun z => absurd z ?_⟩; (simp [cdL, hz0]); (simp [cdL, hz0]); done)
                        | (refine ⟨?_, fun z => absurd z ?_⟩; (simp [cdL, hn0, c31]); (simp [cdL, hn0, c31]); done)
                        | (refine ⟨?_, fun z => absurd z ?_⟩; (simp [cdL, hn0, c31, c53]); (simp [cdL, hn0, c31, c53]); done)
                      · refine v_aload_n C dX6_debt_125 rfl ?_
                        refine v_iload_n C dX6_debt_126 rfl ?_
                        refine v_callVi C (c_X6_debtLong hl (g := tg g 0) (m := m) (n := n) (p := i) hR hs h96 (by omega)) ym_X6_debtLong ml_X6_248 emb_id_qS rfl rfl rfl rfl rfl dX6_debt_127 (Nat.le_of_ble_eq_true rfl) (Nat.le_of_ble_eq_true rfl) (Nat.le_of_ble_eq_true rfl) (Nat.le_of_ble_eq_true rfl) (fun _ _ hu => hu.elim) (fun r u hu => ?_)
                        obtain ⟨rfl, hu⟩ := hu
                        subst u
                        refine V.stt (g2 := (tg g 0)) (rfl) ?_
                        refine v_goto C 143 dX6_debt_130 (by decide) ?_
                        refine v_iret C F (by first | rfl | exact bI_nar _) dX6_debt_143 (Nat.le_of_ble_eq_true rfl) (Nat.le_of_ble_eq_true rfl) ?_
                        first
                        | (refine ⟨?_, fun _ => ?_⟩
                           simp [cdL, hn0, c31, c53, hq]
                           rw [t_w, hq]
                           subst hqi
                           show _ = debV m n q jw
                           unfold debV
                           first
                           | (rw [if_pos (show jw = 0 from nI_inj (b := 0) (by omega) (by omega) c96)])
                           | (rw [if_neg (show ¬ jw = 0 from fun z => c96 (by rw [z]; rfl)), if_pos c105])
                           | (rw [if_neg (show ¬ jw = 0 from fun z => c96 (by rw [z]; rfl)), if_neg c105, if_pos c122])
                           | (rw [if_neg (show ¬ jw = 0 from fun z => c96 (by rw [z]; rfl)), if_neg c105, if_neg c122]))
                        | (refine ⟨?_, fun z => absurd z ?_⟩; (simp [cdL, hz0]); (simp [cdL, hz0]); done)
                        | (refine ⟨?_, fun z => absurd z ?_⟩; (simp [cdL, hn0, c31]); (simp [cdL, hn0, c31]); done)
                        | (refine ⟨?_, fun z => absurd z ?_⟩; (simp [cdL, hn0, c31, c53]); (simp [cdL, hn0, c31, c53]); done)
                    · refine v_aload_n C dX6_debt_108 rfl ?_
                      refine v_getr C fl_X6_7 or_qS_0_3 dX6_debt_109 ?_
                      refine v_bipush (v := nI 96) C dX6_debt_112 (by decide) ?_
                      refine v_iload_n C dX6_debt_114 rfl ?_
                      first | refine v_iaddN C dX6_debt_115 ?_ | refine v_iadd C dX6_debt_115 ?_
                      refine v_ialdQ (x := m 2 i) C ar_qS_1 (by decide) _ (hR.s (by omega)) ?_ rfl dX6_debt_116 ?_
                      · omega
                      refine v_goto C 143 dX6_debt_117 (by decide) ?_
                      refine v_iret C F (by first | rfl | exact bI_nar _) dX6_debt_143 (Nat.le_of_ble_eq_true rfl) (Nat.le_of_ble_eq_true rfl) ?_
                      first
                      | (refine ⟨?_, fun _ => ?_⟩
                         simp [cdL, hn0, c31, c53, hq]
                         rw [t_w, hq]
                         subst hqi
                         show _ = debV m n q jw
                         unfold debV
                         first
                         | (rw [if_pos (show jw = 0 from nI_inj (b := 0) (by omega) (by omega) c96)])
                         | (rw [if_neg (show ¬ jw = 0 from fun z => c96 (by rw [z]; rfl)), if_pos c105])
                         | (rw [if_neg (show ¬ jw = 0 from fun z => c96 (by rw [z]; rfl)), if_neg c105, if_pos c122])
                         | (rw [if_neg (show ¬ jw = 0 from fun z => c96 (by rw [z]; rfl)), if_neg c105, if_neg c122]))
                      | (refine ⟨?_, fun z => absurd z ?_⟩; (simp [cdL, hz0]); (simp [cdL, hz0]); done)
                      | (refine ⟨?_, fun z => absurd z ?_⟩; (simp [cdL, hn0, c31]); (simp [cdL, hn0, c31]); done)
                      | (refine ⟨?_, fun z => absurd z ?_⟩; (simp [cdL, hn0, c31, c53]); (simp [cdL, hn0, c31, c53]); done)
                  · refine v_iload_n C dX6_debt_99 rfl ?_
                    refine v_goto C 143 dX6_debt_100 (by decide) ?_
                    refine v_iret C F (by first | rfl | exact bI_nar _) dX6_debt_143 (Nat.le_of_ble_eq_true rfl) (Nat.le_of_ble_eq_true rfl) ?_
                    first
                    | (refine ⟨?_, fun _ => ?_⟩
                       simp [cdL, hn0, c31, c53, hq]
                       rw [t_w, hq]
                       subst hqi
                       show _ = debV m n q jw
                       unfold debV
                       first
                       | (rw [if_pos (show jw = 0 from nI_inj (b := 0) (by omega) (by omega) c96)])
                       | (rw [if_neg (show ¬ jw = 0 from fun z => c96 (by rw [z]; rfl)), if_pos c105])
                       | (rw [if_neg (show ¬ jw = 0 from fun z => c96 (by rw [z]; rfl)), if_neg c105, if_pos c122])
                       | (rw [if_neg (show ¬ jw = 0 from fun z => c96 (by rw [z]; rfl)), if_neg c105, if_neg c122]))
                    | (refine ⟨?_, fun z => absurd z ?_⟩; (simp [cdL, hz0]); (simp [cdL, hz0]); done)
                    | (refine ⟨?_, fun z => absurd z ?_⟩; (simp [cdL, hn0, c31]); (simp [cdL, hn0, c31]); done)
                    | (refine ⟨?_, fun z => absurd z ?_⟩; (simp [cdL, hn0, c31, c53]); (simp [cdL, hn0, c31, c53]); done)
                · refine v_iload C dX6_debt_76 rfl ?_
                  refine v_aload_n C dX6_debt_78 rfl ?_
                  refine v_iload_n C dX6_debt_79 rfl ?_
                  refine v_callVi C (c_X6_begins hl (g := tg g 0) (m := m) (p := i) hR (by omega)) ym_X6_begins ml_X6_242 emb_id_qS rfl rfl rfl rfl rfl dX6_debt_80 (Nat.le_of_ble_eq_true rfl) (Nat.le_of_ble_eq_true rfl) (Nat.le_of_ble_eq_true rfl) (Nat.le_of_ble_eq_true rfl) (fun _ _ hu => hu.elim) (fun r u hu => ?_)
                  obtain ⟨rfl, hu⟩ := hu
                  subst u
                  refine V.stt (g2 := (tg g 0)) (rfl) ?_
                  refine v_callSi C (c_X6_flag hl (b := startM m i)) ys_X6_flag rfl ml_X6_232 (emb_n fix_qS) rfl rfl rfl dX6_debt_83 (Nat.le_of_ble_eq_true rfl) (Nat.le_of_ble_eq_true rfl) (Nat.le_of_ble_eq_true rfl) (Nat.le_of_ble_eq_true rfl) (fun _ _ hu => hu.elim) (fun r u hu => ?_)
                  subst r
                  first | refine v_isubN C dX6_debt_86 (by omega) ?_ | refine v_isub C dX6_debt_86 ?_
                  refine v_istore C (lo2 := [some _, some _, some _, some _, some _]) dX6_debt_87 rfl (Nat.le_of_ble_eq_true rfl) rfl ?_
                  first | refine v_iinc1 C (lo2 := [some _, some _, some _, some _, some _]) dX6_debt_89 rfl rfl rfl ?_ | refine v_iinc C (lo2 := [some _, some _, some _, some _, some _]) dX6_debt_89 rfl rfl rfl rfl ?_
                  refine v_goto C 63 dX6_debt_92 (by decide) ?_
                  have hib : i < n := by omega
                  rw [kthG_s hib] at i3
                  have hfl : fl (startM m i) = if startM m i = true then 1 else 0 := rfl
                  have hsub : nI lf - nI (fl (startM m i)) = nI (lf - fl (startM m i)) := nI_sub (by rw [hfl]; first | (rw [c73]; exact Nat.zero_le _) | (split <;> omega))
                  try rw [hsub]
                  refine ih63 (i + 1, lf - fl (startM m i)) (by show n - (i + 1) < n - i; omega) ⟨by show lf - fl (startM m i) < 2 ^ 31; omega, ?_, ?_⟩
                  · show i + 1 ≤ q
                    have hne : ¬ q = i := fun z => by
                      subst z
                      cases hst : startM m q with
                      | true =>
                        rw [hst, if_pos rfl] at i3
                        first
                        | (rw [hst] at c73; cases c73)
                        | (rw [if_neg (by omega)] at i3; have := (kthG_some _ _ _ i3).1; omega)
                      | false => rw [hst, if_neg Bool.false_ne_true] at i3; have := (kthG_some _ _ _ i3).1; omega
                    omega
                  · show kthG (startM m) (i + 1) (n - (i + 1)) ((lf - fl (startM m i) : Nat) : Int) = some q
                    cases hst : startM m i with
                    | true =>
                      rw [hst, if_pos rfl] at i3
                      first
                      | (rw [hst] at c73; cases c73)
                      | (rw [if_neg (by omega)] at i3
                         rw [show ((lf - fl true : Nat) : Int) = (lf : Int) - 1 by show ((lf - 1 : Nat) : Int) = _; omega]
                         exact i3)
                    | false => rw [hst, if_neg Bool.false_ne_true] at i3; exact i3
            rw [elf0]
            have H := L63 (0, lf0) ⟨hlf0, Nat.zero_le _, by rw [← hq, elf0, nI_toInt hlf0]; rfl⟩
            try dsimp only at H
            rw [elf0] at H
            exact H
          · refine V.stt (g2 := tg g 3) (by rw [c53]; rfl) ?_
            refine v_iconst (v := nI 0) C dX6_debt_56 (by decide) ?_
            refine v_iret C F (by first | rfl | exact bI_nar _) dX6_debt_57 (Nat.le_of_ble_eq_true rfl) (Nat.le_of_ble_eq_true rfl) ?_
            first
            | (refine ⟨?_, fun _ => ?_⟩
               simp [cdL, hn0, c31, c53, hq]
               rw [t_w, hq]
               subst hqi
               show _ = debV m n q jw
               unfold debV
               first
               | (rw [if_pos (show jw = 0 from nI_inj (b := 0) (by omega) (by omega) c96)])
               | (rw [if_neg (show ¬ jw = 0 from fun z => c96 (by rw [z]; rfl)), if_pos c105])
               | (rw [if_neg (show ¬ jw = 0 from fun z => c96 (by rw [z]; rfl)), if_neg c105, if_pos c122])
               | (rw [if_neg (show ¬ jw = 0 from fun z => c96 (by rw [z]; rfl)), if_neg c105, if_neg c122]))
            | (refine ⟨?_, fun z => absurd z ?_⟩; (simp [cdL, hz0]); (simp [cdL, hz0]); done)
            | (refine ⟨?_, fun z => absurd z ?_⟩; (simp [cdL, hn0, c31]); (simp [cdL, hn0, c31]); done)
            | (refine ⟨?_, fun z => absurd z ?_⟩; (simp [cdL, hn0, c31, c53]); (simp [cdL, hn0, c31, c53]); done)
        · refine v_iconst (v := nI 1) C dX6_debt_44 (by decide) ?_
          refine v_goto C 49 dX6_debt_45 (by decide) ?_
          refine V.eqs (st2 := [.int (bI (!inB w 0 3)), .ref (h 0)]) ?_ (congrArg (fun z => [Value.int z, Value.ref (h 0)]) (by first | exact bI_t (by simp [c41]) | exact bI_f (by simp [c41])))
          refine v_iconst (v := nI 3) C dX6_debt_49 (by decide) ?_
          refine v_callVi C (c_X6_refuse hl (b := !inB w 0 3) (k := 3) (by decide) (by decide)) ym_X6_refuse ml_X6_40 emb_id_qS rfl rfl rfl rfl rfl dX6_debt_50 (Nat.le_of_ble_eq_true rfl) (Nat.le_of_ble_eq_true rfl) (Nat.le_of_ble_eq_true rfl) (Nat.le_of_ble_eq_true rfl) (fun _ _ hu => hu.elim) (fun r u hu => ?_)
          obtain ⟨rfl, hu⟩ := hu
          subst u
          refine v_if_eqB C 58 dX6_debt_53 (by decide) (fun c53 => ?_) (fun c53 => ?_)
          · refine V.stt (g2 := tg g 0) (by rw [c53]; rfl) ?_
            have hwI : inB w 0 3 = true := by simpa using c53
            obtain ⟨jw, -, hjw, hjw2, ew⟩ := in_at (a := 0) hwI
            subst ew
            have t_w : tN (nI jw) = jw := tN_nI hjw2
            have hk31 : k.toInt = ((k.toInt.toNat : Nat) : Int) := by
              have hz : ¬ (kthG (startM m) 0 n k.toInt) = none := by rw [hq]; exact fun z => by cases z
              have hz2 := (not_congr (kth_none n 0 k.toInt)).mp hz
              have hz3 : 0 ≤ k.toInt := Classical.byContradiction fun w => hz2 (fun z => w z.1)
              omega
            refine v_iconst (v := nI 0) C dX6_debt_58 (by decide) ?_
            refine v_istore_n C (lo2 := [some _, some _, some _, some _, none]) dX6_debt_59 rfl (Nat.le_of_ble_eq_true rfl) rfl ?_
            refine v_iload_n C dX6_debt_60 rfl ?_
            refine v_istore C (lo2 := [some _, some _, some _, some _, some _]) dX6_debt_61 rfl (Nat.le_of_ble_eq_true rfl) rfl ?_
            obtain ⟨lf0, hlf0, elf0⟩ : ∃ lf0 : Nat, lf0 < 2 ^ 31 ∧ k = nI lf0 := ⟨k.toInt.toNat, (nI_of_nonneg (by omega)).2, (nI_of_nonneg (by omega)).1⟩
            have L63 : ∀ (t : Nat × Nat), (fun t => t.2 < 2 ^ 31 ∧ t.1 ≤ q ∧ kthG (startM m) t.1 (n - t.1) (t.2 : Int) = some q) t → (fun t : Nat × Nat => V X (qS (xK X) h) 63 [some (.ref (h 0)), some (.int k), some (.int (nI jw)), some (.int (nI t.1)), some (.int (nI t.2))] [] (tg g 0) 0 0) t := by
              refine v_ind (fun t : Nat × Nat => n - t.1) ?_
              rintro ⟨i, lf⟩ ih63 hI63
              try dsimp only at hI63 ⊢
              obtain ⟨i1, i2, i3⟩ := hI63
              have i1 : lf < 2 ^ 31 := i1
              have i2 : i ≤ q := i2
              have i3 : kthG (startM m) i (n - i) (lf : Int) = some q := i3
              have hqn : q < n := by omega
              refine v_iload C dX6_debt_63 rfl ?_
              refine v_if_gt C 76 dX6_debt_65 (by decide) (fun c65 => ?_) (fun c65 => ?_)
              · have hlf : 0 < lf := by
                  rcases Nat.eq_zero_or_pos lf with z | z
                  · rw [z] at c65; exact absurd c65 (by decide)
                  · exact z
                refine v_iload C dX6_debt_76 rfl ?_
                refine v_aload_n C dX6_debt_78 rfl ?_
                refine v_iload_n C dX6_debt_79 rfl ?_
                refine v_callVi C (c_X6_begins hl (g := tg g 0) (m := m) (p := i) hR (by omega)) ym_X6_begins ml_X6_242 emb_id_qS rfl rfl rfl rfl rfl dX6_debt_80 (Nat.le_of_ble_eq_true rfl) (Nat.le_of_ble_eq_true rfl) (Nat.le_of_ble_eq_true rfl) (Nat.le_of_ble_eq_true rfl) (fun _ _ hu => hu.elim) (fun r u hu => ?_)
                obtain ⟨rfl, hu⟩ := hu
                subst u
                refine V.stt (g2 := (tg g 0)) (rfl) ?_
                refine v_callSi C (c_X6_flag hl (b := startM m i)) ys_X6_flag rfl ml_X6_232 (emb_n fix_qS) rfl rfl rfl dX6_debt_83 (Nat.le_of_ble_eq_true rfl) (Nat.le_of_ble_eq_true rfl) (Nat.le_of_ble_eq_true rfl) (Nat.le_of_ble_eq_true rfl) (fun _ _ hu => hu.elim) (fun r u hu => ?_)
                subst r
                first | refine v_isubN C dX6_debt_86 (by omega) ?_ | refine v_isub C dX6_debt_86 ?_
                refine v_istore C (lo2 := [some _, some _, some _, some _, some _]) dX6_debt_87 rfl (Nat.le_of_ble_eq_true rfl) rfl ?_
                first | refine v_iinc1 C (lo2 := [some _, some _, some _, some _, some _]) dX6_debt_89 rfl rfl rfl ?_ | refine v_iinc C (lo2 := [some _, some _, some _, some _, some _]) dX6_debt_89 rfl rfl rfl rfl ?_
                refine v_goto C 63 dX6_debt_92 (by decide) ?_
                have hib : i < n := by omega
                rw [kthG_s hib] at i3
                have hfl : fl (startM m i) = if startM m i = true then 1 else 0 := rfl
                have hsub : nI lf - nI (fl (startM m i)) = nI (lf - fl (startM m i)) := nI_sub (by rw [hfl]; first | (rw [c73]; exact Nat.zero_le _) | (split <;> omega))
                try rw [hsub]
                refine ih63 (i + 1, lf - fl (startM m i)) (by show n - (i + 1) < n - i; omega) ⟨by show lf - fl (startM m i) < 2 ^ 31; omega, ?_, ?_⟩
                · show i + 1 ≤ q
                  have hne : ¬ q = i := fun z => by
                    subst z
                    cases hst : startM m q with
                    | true =>
                      rw [hst, if_pos rfl] at i3
                      first
                      | (rw [hst] at c73; cases c73)
                      | (rw [if_neg (by omega)] at i3; have := (kthG_some _ _ _ i3).1; omega)
                    | false => rw [hst, if_neg Bool.false_ne_true] at i3; have := (kthG_some _ _ _ i3).1; omega
                  omega
                · show kthG (startM m) (i + 1) (n - (i + 1)) ((lf - fl (startM m i) : Nat) : Int) = some q
                  cases hst : startM m i with
                  | true =>
                    rw [hst, if_pos rfl] at i3
                    first
                    | (rw [hst] at c73; cases c73)
                    | (rw [if_neg (by omega)] at i3
                       rw [show ((lf - fl true : Nat) : Int) = (lf : Int) - 1 by show ((lf - 1 : Nat) : Int) = _; omega]
                       exact i3)
                  | false => rw [hst, if_neg Bool.false_ne_true] at i3; exact i3
              · have hlf0 : lf = 0 := by
                  rcases Nat.eq_zero_or_pos lf with z | z
                  · exact z
                  · rw [nI_toInt (by omega)] at c65; omega
                refine v_aload_n C dX6_debt_68 rfl ?_
                refine v_iload_n C dX6_debt_69 rfl ?_
                refine v_callVi C (c_X6_begins hl (g := tg g 0) (m := m) (p := i) hR (by omega)) ym_X6_begins ml_X6_242 emb_id_qS rfl rfl rfl rfl rfl dX6_debt_70 (Nat.le_of_ble_eq_true rfl) (Nat.le_of_ble_eq_true rfl) (Nat.le_of_ble_eq_true rfl) (Nat.le_of_ble_eq_true rfl) (fun _ _ hu => hu.elim) (fun r u hu => ?_)
                obtain ⟨rfl, hu⟩ := hu
                subst u
                refine V.stt (g2 := (tg g 0)) (rfl) ?_
                refine v_if_neB C 95 dX6_debt_73 (by decide) (fun c73 => ?_) (fun c73 => ?_)
                · have hqi : q = i := by
                    have hib : i < n := by omega
                    rw [kthG_s hib, c73, if_pos rfl, if_pos (by omega)] at i3
                    have i3 : some i = some q := i3
                    cases i3
                    rfl
                  refine v_iload_n C dX6_debt_95 rfl ?_
                  refine v_if_ne C 103 dX6_debt_96 (by decide) (fun c96 => ?_) (fun c96 => ?_)
                  · refine v_iload_n C dX6_debt_103 rfl ?_
                    refine v_iconst (v := nI 1) C dX6_debt_104 (by decide) ?_
                    first | refine v_icmp_neN C 120 dX6_debt_105 (by decide) (by omega) (by omega) (fun c105 => ?_) (fun c105 => ?_) | refine v_icmp_ne C 120 dX6_debt_105 (by decide) (fun c105 => ?_) (fun c105 => ?_)
                    · refine v_iload_n C dX6_debt_120 rfl ?_
                      refine v_iconst (v := nI 2) C dX6_debt_121 (by decide) ?_
                      first | refine v_icmp_neN C 133 dX6_debt_122 (by decide) (by omega) (by omega) (fun c122 => ?_) (fun c122 => ?_) | refine v_icmp_ne C 133 dX6_debt_122 (by decide) (fun c122 => ?_) (fun c122 => ?_)
                      · refine v_aload_n C dX6_debt_133 rfl ?_
                        refine v_getr C fl_X6_7 or_qS_0_3 dX6_debt_134 ?_
                        refine v_sipush (v := nI 192) C dX6_debt_137 (by decide) ?_
                        refine v_iload_n C dX6_debt_140 rfl ?_
                        first | refine v_iaddN C dX6_debt_141 ?_ | refine v_iadd C dX6_debt_141 ?_
                        refine v_ialdQ (x := m 3 i) C ar_qS_1 (by decide) _ (hR.r (by omega)) ?_ rfl dX6_debt_142 ?_
                        · omega
                        refine v_iret C F (by first | rfl | exact bI_nar _) dX6_debt_143 (Nat.le_of_ble_eq_true rfl) (Nat.le_of_ble_eq_true rfl) ?_
                        first
                        | (refine ⟨?_, fun _ => ?_⟩
                           simp [cdL, hn0, c31, c53, hq]
                           rw [t_w, hq]
                           subst hqi
                           show _ = debV m n q jw
                           unfold debV
                           first
                           | (rw [if_pos (show jw = 0 from nI_inj (b := 0) (by omega) (by omega) c96)])
                           | (rw [if_neg (show ¬ jw = 0 from fun z => c96 (by rw [z]; rfl)), if_pos c105])
                           | (rw [if_neg (show ¬ jw = 0 from fun z => c96 (by rw [z]; rfl)), if_neg c105, if_pos c122])
                           | (rw [if_neg (show ¬ jw = 0 from fun z => c96 (by rw [z]; rfl)), if_neg c105, if_neg c122]))
                        | (refine ⟨?_, fun z => absurd z ?_⟩; (simp [cdL, hz0]); (simp [cdL, hz0]); done)
                        | (refine ⟨?_, fun z => absurd z ?_⟩; (simp [cdL, hn0, c31]); (simp [cdL, hn0, c31]); done)
                        | (refine ⟨?_, fun z => absurd z ?_⟩; (simp [cdL, hn0, c31, c53]); (simp [cdL, hn0, c31, c53]); done)
                      · refine v_aload_n C dX6_debt_125 rfl ?_
                        refine v_iload_n C dX6_debt_126 rfl ?_
                        refine v_callVi C (c_X6_debtLong hl (g := tg g 0) (m := m) (n := n) (p := i) hR hs h96 (by omega)) ym_X6_debtLong ml_X6_248 emb_id_qS rfl rfl rfl rfl rfl dX6_debt_127 (Nat.le_of_ble_eq_true rfl) (Nat.le_of_ble_eq_true rfl) (Nat.le_of_ble_eq_true rfl) (Nat.le_of_ble_eq_true rfl) (fun _ _ hu => hu.elim) (fun r u hu => ?_)
                        obtain ⟨rfl, hu⟩ := hu
                        subst u
                        refine V.stt (g2 := (tg g 0)) (rfl) ?_
                        refine v_goto C 143 dX6_debt_130 (by decide) ?_
                        refine v_iret C F (by first | rfl | exact bI_nar _) dX6_debt_143 (Nat.le_of_ble_eq_true rfl) (Nat.le_of_ble_eq_true rfl) ?_
                        first
                        | (refine ⟨?_, fun _ => ?_⟩
                           simp [cdL, hn0, c31, c53, hq]
                           rw [t_w, hq]
                           subst hqi
                           show _ = debV m n q jw
                           unfold debV
                           first
                           | (rw [if_pos (show jw = 0 from nI_inj (b := 0) (by omega) (by omega) c96)])
                           | (rw [if_neg (show ¬ jw = 0 from fun z => c96 (by rw [z]; rfl)), if_pos c105])
                           | (rw [if_neg (show ¬ jw = 0 from fun z => c96 (by rw [z]; rfl)), if_neg c105, if_pos c122])
                           | (rw [if_neg (show ¬ jw = 0 from fun z => c96 (by rw [z]; rfl)), if_neg c105, if_neg c122]))
                        | (refine ⟨?_, fun z => absurd z ?_⟩; (simp [cdL, hz0]); (simp [cdL, hz0]); done)
                        | (refine ⟨?_, fun z => absurd z ?_⟩; (simp [cdL, hn0, c31]); (simp [cdL, hn0, c31]); done)
                        | (refine ⟨?_, fun z => absurd z ?_⟩; (simp [cdL, hn0, c31, c53]); (simp [cdL, hn0, c31, c53]); done)
                    · refine v_aload_n C dX6_debt_108 rfl ?_
                      refine v_getr C fl_X6_7 or_qS_0_3 dX6_debt_109 ?_
                      refine v_bipush (v := nI 96) C dX6_debt_112 (by decide) ?_
                      refine v_iload_n C dX6_debt_114 rfl ?_
                      first | refine v_iaddN C dX6_debt_115 ?_ | refine v_iadd C dX6_debt_115 ?_
                      refine v_ialdQ (x := m 2 i) C ar_qS_1 (by decide) _ (hR.s (by omega)) ?_ rfl dX6_debt_116 ?_
                      · omega
                      refine v_goto C 143 dX6_debt_117 (by decide) ?_
                      refine v_iret C F (by first | rfl | exact bI_nar _) dX6_debt_143 (Nat.le_of_ble_eq_true rfl) (Nat.le_of_ble_eq_true rfl) ?_
                      first
                      | (refine ⟨?_, fun _ => ?_⟩
                         simp [cdL, hn0, c31, c53, hq]
                         rw [t_w, hq]
                         subst hqi
                         show _ = debV m n q jw
                         unfold debV
                         first
                         | (rw [if_pos (show jw = 0 from nI_inj (b := 0) (by omega) (by omega) c96)])
                         | (rw [if_neg (show ¬ jw = 0 from fun z => c96 (by rw [z]; rfl)), if_pos c105])
                         | (rw [if_neg (show ¬ jw = 0 from fun z => c96 (by rw [z]; rfl)), if_neg c105, if_pos c122])
                         | (rw [if_neg (show ¬ jw = 0 from fun z => c96 (by rw [z]; rfl)), if_neg c105, if_neg c122]))
                      | (refine ⟨?_, fun z => absurd z ?_⟩; (simp [cdL, hz0]); (simp [cdL, hz0]); done)
                      | (refine ⟨?_, fun z => absurd z ?_⟩; (simp [cdL, hn0, c31]); (simp [cdL, hn0, c31]); done)
                      | (refine ⟨?_, fun z => absurd z ?_⟩; (simp [cdL, hn0, c31, c53]); (simp [cdL, hn0, c31, c53]); done)
                  · refine v_iload_n C dX6_debt_99 rfl ?_
                    refine v_goto C 143 dX6_debt_100 (by decide) ?_
                    refine v_iret C F (by first | rfl | exact bI_nar _) dX6_debt_143 (Nat.le_of_ble_eq_true rfl) (Nat.le_of_ble_eq_true rfl) ?_
                    first
                    | (refine ⟨?_, fun _ => ?_⟩
                       simp [cdL, hn0, c31, c53, hq]
                       rw [t_w, hq]
                       subst hqi
                       show _ = debV m n q jw
                       unfold debV
                       first
                       | (rw [if_pos (show jw = 0 from nI_inj (b := 0) (by omega) (by omega) c96)])
                       | (rw [if_neg (show ¬ jw = 0 from fun z => c96 (by rw [z]; rfl)), if_pos c105])
                       | (rw [if_neg (show ¬ jw = 0 from fun z => c96 (by rw [z]; rfl)), if_neg c105, if_pos c122])
                       | (rw [if_neg (show ¬ jw = 0 from fun z => c96 (by rw [z]; rfl)), if_neg c105, if_neg c122]))
                    | (refine ⟨?_, fun z => absurd z ?_⟩; (simp [cdL, hz0]); (simp [cdL, hz0]); done)
                    | (refine ⟨?_, fun z => absurd z ?_⟩; (simp [cdL, hn0, c31]); (simp [cdL, hn0, c31]); done)
                    | (refine ⟨?_, fun z => absurd z ?_⟩; (simp [cdL, hn0, c31, c53]); (simp [cdL, hn0, c31, c53]); done)
                · refine v_iload C dX6_debt_76 rfl ?_
                  refine v_aload_n C dX6_debt_78 rfl ?_
                  refine v_iload_n C dX6_debt_79 rfl ?_
                  refine v_callVi C (c_X6_begins hl (g := tg g 0) (m := m) (p := i) hR (by omega)) ym_X6_begins ml_X6_242 emb_id_qS rfl rfl rfl rfl rfl dX6_debt_80 (Nat.le_of_ble_eq_true rfl) (Nat.le_of_ble_eq_true rfl) (Nat.le_of_ble_eq_true rfl) (Nat.le_of_ble_eq_true rfl) (fun _ _ hu => hu.elim) (fun r u hu => ?_)
                  obtain ⟨rfl, hu⟩ := hu
                  subst u
                  refine V.stt (g2 := (tg g 0)) (rfl) ?_
                  refine v_callSi C (c_X6_flag hl (b := startM m i)) ys_X6_flag rfl ml_X6_232 (emb_n fix_qS) rfl rfl rfl dX6_debt_83 (Nat.le_of_ble_eq_true rfl) (Nat.le_of_ble_eq_true rfl) (Nat.le_of_ble_eq_true rfl) (Nat.le_of_ble_eq_true rfl) (fun _ _ hu => hu.elim) (fun r u hu => ?_)
                  subst r
                  first | refine v_isubN C dX6_debt_86 (by omega) ?_ | refine v_isub C dX6_debt_86 ?_
                  refine v_istore C (lo2 := [some _, some _, some _, some _, some _]) dX6_debt_87 rfl (Nat.le_of_ble_eq_true rfl) rfl ?_
                  first | refine v_iinc1 C (lo2 := [some _, some _, some _, some _, some _]) dX6_debt_89 rfl rfl rfl ?_ | refine v_iinc C (lo2 := [some _, some _, some _, some _, some _]) dX6_debt_89 rfl rfl rfl rfl ?_
                  refine v_goto C 63 dX6_debt_92 (by decide) ?_
                  have hib : i < n := by omega
                  rw [kthG_s hib] at i3
                  have hfl : fl (startM m i) = if startM m i = true then 1 else 0 := rfl
                  have hsub : nI lf - nI (fl (startM m i)) = nI (lf - fl (startM m i)) := nI_sub (by rw [hfl]; first | (rw [c73]; exact Nat.zero_le _) | (split <;> omega))
                  try rw [hsub]
                  refine ih63 (i + 1, lf - fl (startM m i)) (by show n - (i + 1) < n - i; omega) ⟨by show lf - fl (startM m i) < 2 ^ 31; omega, ?_, ?_⟩
                  · show i + 1 ≤ q
                    have hne : ¬ q = i := fun z => by
                      subst z
                      cases hst : startM m q with
                      | true =>
                        rw [hst, if_pos rfl] at i3
                        first
                        | (rw [hst] at c73; cases c73)
                        | (rw [if_neg (by omega)] at i3; have := (kthG_some _ _ _ i3).1; omega)
                      | false => rw [hst, if_neg Bool.false_ne_true] at i3; have := (kthG_some _ _ _ i3).1; omega
                    omega
                  · show kthG (startM m) (i + 1) (n - (i + 1)) ((lf - fl (startM m i) : Nat) : Int) = some q
                    cases hst : startM m i with
                    | true =>
                      rw [hst, if_pos rfl] at i3
                      first
                      | (rw [hst] at c73; cases c73)
                      | (rw [if_neg (by omega)] at i3
                         rw [show ((lf - fl true : Nat) : Int) = (lf : Int) - 1 by show ((lf - 1 : Nat) : Int) = _; omega]
                         exact i3)
                    | false => rw [hst, if_neg Bool.false_ne_true] at i3; exact i3
            rw [elf0]
            have H := L63 (0, lf0) ⟨hlf0, Nat.zero_le _, by rw [← hq, elf0, nI_toInt hlf0]; rfl⟩
            try dsimp only at H
            rw [elf0] at H
            exact H
          · refine V.stt (g2 := tg g 3) (by rw [c53]; rfl) ?_
            refine v_iconst (v := nI 0) C dX6_debt_56 (by decide) ?_
            refine v_iret C F (by first | rfl | exact bI_nar _) dX6_debt_57 (Nat.le_of_ble_eq_true rfl) (Nat.le_of_ble_eq_true rfl) ?_
            first
            | (refine ⟨?_, fun _ => ?_⟩
               simp [cdL, hn0, c31, c53, hq]
               rw [t_w, hq]
               subst hqi
               show _ = debV m n q jw
               unfold debV
               first
               | (rw [if_pos (show jw = 0 from nI_inj (b := 0) (by omega) (by omega) c96)])
               | (rw [if_neg (show ¬ jw = 0 from fun z => c96 (by rw [z]; rfl)), if_pos c105])
               | (rw [if_neg (show ¬ jw = 0 from fun z => c96 (by rw [z]; rfl)), if_neg c105, if_pos c122])
               | (rw [if_neg (show ¬ jw = 0 from fun z => c96 (by rw [z]; rfl)), if_neg c105, if_neg c122]))
            | (refine ⟨?_, fun z => absurd z ?_⟩; (simp [cdL, hz0]); (simp [cdL, hz0]); done)
            | (refine ⟨?_, fun z => absurd z ?_⟩; (simp [cdL, hn0, c31]); (simp [cdL, hn0, c31]); done)
            | (refine ⟨?_, fun z => absurd z ?_⟩; (simp [cdL, hn0, c31, c53]); (simp [cdL, hn0, c31, c53]); done)
    · refine v_iconst (v := nI 1) C dX6_debt_22 (by decide) ?_
      refine v_goto C 27 dX6_debt_23 (by decide) ?_
      refine V.eqs (st2 := [.int (bI ((kthG (startM m) 0 n k.toInt).isNone)), .ref (h 0)]) ?_ (congrArg (fun z => [Value.int z, Value.ref (h 0)]) (by rw [← kth_in]; first | exact bI_t (by rw [c19]; rfl) | exact bI_f (by rw [c19]; rfl)))
      refine v_iconst (v := nI 2) C dX6_debt_27 (by decide) ?_
      refine v_callVi C (c_X6_refuse hl (b := (kthG (startM m) 0 n k.toInt).isNone) (k := 2) (by decide) (by decide)) ym_X6_refuse ml_X6_40 emb_id_qS rfl rfl rfl rfl rfl dX6_debt_28 (Nat.le_of_ble_eq_true rfl) (Nat.le_of_ble_eq_true rfl) (Nat.le_of_ble_eq_true rfl) (Nat.le_of_ble_eq_true rfl) (fun _ _ hu => hu.elim) (fun r u hu => ?_)
      obtain ⟨rfl, hu⟩ := hu
      subst u
      refine v_if_neB C 56 dX6_debt_31 (by decide) (fun c31 => ?_) (fun c31 => ?_)
      · refine V.stt (g2 := tg g 2) (by rw [c31]; rfl) ?_
        refine v_iconst (v := nI 0) C dX6_debt_56 (by decide) ?_
        refine v_iret C F (by first | rfl | exact bI_nar _) dX6_debt_57 (Nat.le_of_ble_eq_true rfl) (Nat.le_of_ble_eq_true rfl) ?_
        first
        | (refine ⟨?_, fun _ => ?_⟩
           simp [cdL, hn0, c31, c53, hq]
           rw [t_w, hq]
           subst hqi
           show _ = debV m n q jw
           unfold debV
           first
           | (rw [if_pos (show jw = 0 from nI_inj (b := 0) (by omega) (by omega) c96)])
           | (rw [if_neg (show ¬ jw = 0 from fun z => c96 (by rw [z]; rfl)), if_pos c105])
           | (rw [if_neg (show ¬ jw = 0 from fun z => c96 (by rw [z]; rfl)), if_neg c105, if_pos c122])
           | (rw [if_neg (show ¬ jw = 0 from fun z => c96 (by rw [z]; rfl)), if_neg c105, if_neg c122]))
        | (refine ⟨?_, fun z => absurd z ?_⟩; (simp [cdL, hz0]); (simp [cdL, hz0]); done)
        | (refine ⟨?_, fun z => absurd z ?_⟩; (simp [cdL, hn0, c31]); (simp [cdL, hn0, c31]); done)
        | (refine ⟨?_, fun z => absurd z ?_⟩; (simp [cdL, hn0, c31, c53]); (simp [cdL, hn0, c31, c53]); done)
      · refine V.stt (g2 := tg g 0) (by rw [c31]; rfl) ?_
        obtain ⟨q, hq⟩ : ∃ q, (kthG (startM m) 0 n k.toInt) = some q := Option.isSome_iff_exists.mp (by rw [Option.isSome_iff_ne_none]; intro z; rw [z] at c31; cases c31)
        have hqb := kthG_some n 0 _ hq
        obtain ⟨kn, ek⟩ : ∃ kn : Nat, k = nI kn := by
          have hz : ¬ (kthG (startM m) 0 n k.toInt) = none := by rw [hq]; exact fun z => by cases z
          have hz2 := (not_congr (kth_none n 0 k.toInt)).mp hz
          have hz3 : 0 ≤ k.toInt := Classical.byContradiction fun w => hz2 (fun z => w z.1)
          exact ⟨_, (nI_of_nonneg hz3).1⟩
        refine v_aload_n C dX6_debt_34 rfl ?_
        refine v_iload_n C dX6_debt_35 rfl ?_
        refine v_iconst (v := nI 0) C dX6_debt_36 (by decide) ?_
        refine v_iconst (v := nI 3) C dX6_debt_37 (by decide) ?_
        refine v_callSi C (c_X6_in hl (v := w) (a := 0) (b := 3) (by decide) (by decide)) ys_X6_in rfl ml_X6_98 (emb_n fix_qS) rfl rfl rfl dX6_debt_38 (Nat.le_of_ble_eq_true rfl) (Nat.le_of_ble_eq_true rfl) (Nat.le_of_ble_eq_true rfl) (Nat.le_of_ble_eq_true rfl) (fun _ _ hu => hu.elim) (fun r u hu => ?_)
        subst r
        refine v_if_neB C 48 dX6_debt_41 (by decide) (fun c41 => ?_) (fun c41 => ?_)
        · refine v_iconst (v := nI 0) C dX6_debt_48 (by decide) ?_
          refine V.eqs (st2 := [.int (bI (!inB w 0 3)), .ref (h 0)]) ?_ (congrArg (fun z => [Value.int z, Value.ref (h 0)]) (by first | exact bI_t (by simp [c41]) | exact bI_f (by simp [c41])))
          refine v_iconst (v := nI 3) C dX6_debt_49 (by decide) ?_
          refine v_callVi C (c_X6_refuse hl (b := !inB w 0 3) (k := 3) (by decide) (by decide)) ym_X6_refuse ml_X6_40 emb_id_qS rfl rfl rfl rfl rfl dX6_debt_50 (Nat.le_of_ble_eq_true rfl) (Nat.le_of_ble_eq_true rfl) (Nat.le_of_ble_eq_true rfl) (Nat.le_of_ble_eq_true rfl) (fun _ _ hu => hu.elim) (fun r u hu => ?_)
          obtain ⟨rfl, hu⟩ := hu
          subst u
          refine v_if_eqB C 58 dX6_debt_53 (by decide) (fun c53 => ?_) (fun c53 => ?_)
          · refine V.stt (g2 := tg g 0) (by rw [c53]; rfl) ?_
            have hwI : inB w 0 3 = true := by simpa using c53
            obtain ⟨jw, -, hjw, hjw2, ew⟩ := in_at (a := 0) hwI
            subst ew
            have t_w : tN (nI jw) = jw := tN_nI hjw2
            have hk31 : k.toInt = ((k.toInt.toNat : Nat) : Int) := by
              have hz : ¬ (kthG (startM m) 0 n k.toInt) = none := by rw [hq]; exact fun z => by cases z
              have hz2 := (not_congr (kth_none n 0 k.toInt)).mp hz
              have hz3 : 0 ≤ k.toInt := Classical.byContradiction fun w => hz2 (fun z => w z.1)
              omega
            refine v_iconst (v := nI 0) C dX6_debt_58 (by decide) ?_
            refine v_istore_n C (lo2 := [some _, some _, some _, some _, none]) dX6_debt_59 rfl (Nat.le_of_ble_eq_true rfl) rfl ?_
            refine v_iload_n C dX6_debt_60 rfl ?_
            refine v_istore C (lo2 := [some _, some _, some _, some _, some _]) dX6_debt_61 rfl (Nat.le_of_ble_eq_true rfl) rfl ?_
            obtain ⟨lf0, hlf0, elf0⟩ : ∃ lf0 : Nat, lf0 < 2 ^ 31 ∧ k = nI lf0 := ⟨k.toInt.toNat, (nI_of_nonneg (by omega)).2, (nI_of_nonneg (by omega)).1⟩
            have L63 : ∀ (t : Nat × Nat), (fun t => t.2 < 2 ^ 31 ∧ t.1 ≤ q ∧ kthG (startM m) t.1 (n - t.1) (t.2 : Int) = some q) t → (fun t : Nat × Nat => V X (qS (xK X) h) 63 [some (.ref (h 0)), some (.int k), some (.int (nI jw)), some (.int (nI t.1)), some (.int (nI t.2))] [] (tg g 0) 0 0) t := by
              refine v_ind (fun t : Nat × Nat => n - t.1) ?_
              rintro ⟨i, lf⟩ ih63 hI63
              try dsimp only at hI63 ⊢
              obtain ⟨i1, i2, i3⟩ := hI63
              have i1 : lf < 2 ^ 31 := i1
              have i2 : i ≤ q := i2
              have i3 : kthG (startM m) i (n - i) (lf : Int) = some q := i3
              have hqn : q < n := by omega
              refine v_iload C dX6_debt_63 rfl ?_
              refine v_if_gt C 76 dX6_debt_65 (by decide) (fun c65 => ?_) (fun c65 => ?_)
              · have hlf : 0 < lf := by
                  rcases Nat.eq_zero_or_pos lf with z | z
                  · rw [z] at c65; exact absurd c65 (by decide)
                  · exact z
                refine v_iload C dX6_debt_76 rfl ?_
                refine v_aload_n C dX6_debt_78 rfl ?_
                refine v_iload_n C dX6_debt_79 rfl ?_
                refine v_callVi C (c_X6_begins hl (g := tg g 0) (m := m) (p := i) hR (by omega)) ym_X6_begins ml_X6_242 emb_id_qS rfl rfl rfl rfl rfl dX6_debt_80 (Nat.le_of_ble_eq_true rfl) (Nat.le_of_ble_eq_true rfl) (Nat.le_of_ble_eq_true rfl) (Nat.le_of_ble_eq_true rfl) (fun _ _ hu => hu.elim) (fun r u hu => ?_)
                obtain ⟨rfl, hu⟩ := hu
                subst u
                refine V.stt (g2 := (tg g 0)) (rfl) ?_
                refine v_callSi C (c_X6_flag hl (b := startM m i)) ys_X6_flag rfl ml_X6_232 (emb_n fix_qS) rfl rfl rfl dX6_debt_83 (Nat.le_of_ble_eq_true rfl) (Nat.le_of_ble_eq_true rfl) (Nat.le_of_ble_eq_true rfl) (Nat.le_of_ble_eq_true rfl) (fun _ _ hu => hu.elim) (fun r u hu => ?_)
                subst r
                first | refine v_isubN C dX6_debt_86 (by omega) ?_ | refine v_isub C dX6_debt_86 ?_
                refine v_istore C (lo2 := [some _, some _, some _, some _, some _]) dX6_debt_87 rfl (Nat.le_of_ble_eq_true rfl) rfl ?_
                first | refine v_iinc1 C (lo2 := [some _, some _, some _, some _, some _]) dX6_debt_89 rfl rfl rfl ?_ | refine v_iinc C (lo2 := [some _, some _, some _, some _, some _]) dX6_debt_89 rfl rfl rfl rfl ?_
                refine v_goto C 63 dX6_debt_92 (by decide) ?_
                have hib : i < n := by omega
                rw [kthG_s hib] at i3
                have hfl : fl (startM m i) = if startM m i = true then 1 else 0 := rfl
                have hsub : nI lf - nI (fl (startM m i)) = nI (lf - fl (startM m i)) := nI_sub (by rw [hfl]; first | (rw [c73]; exact Nat.zero_le _) | (split <;> omega))
                try rw [hsub]
                refine ih63 (i + 1, lf - fl (startM m i)) (by show n - (i + 1) < n - i; omega) ⟨by show lf - fl (startM m i) < 2 ^ 31; omega, ?_, ?_⟩
                · show i + 1 ≤ q
                  have hne : ¬ q = i := fun z => by
                    subst z
                    cases hst : startM m q with
                    | true =>
                      rw [hst, if_pos rfl] at i3
                      first
                      | (rw [hst] at c73; cases c73)
                      | (rw [if_neg (by omega)] at i3; have := (kthG_some _ _ _ i3).1; omega)
                    | false => rw [hst, if_neg Bool.false_ne_true] at i3; have := (kthG_some _ _ _ i3).1; omega
                  omega
                · show kthG (startM m) (i + 1) (n - (i + 1)) ((lf - fl (startM m i) : Nat) : Int) = some q
                  cases hst : startM m i with
                  | true =>
                    rw [hst, if_pos rfl] at i3
                    first
                    | (rw [hst] at c73; cases c73)
                    | (rw [if_neg (by omega)] at i3
                       rw [show ((lf - fl true : Nat) : Int) = (lf : Int) - 1 by show ((lf - 1 : Nat) : Int) = _; omega]
                       exact i3)
                  | false => rw [hst, if_neg Bool.false_ne_true] at i3; exact i3
              · have hlf0 : lf = 0 := by
                  rcases Nat.eq_zero_or_pos lf with z | z
                  · exact z
                  · rw [nI_toInt (by omega)] at c65; omega
                refine v_aload_n C dX6_debt_68 rfl ?_
                refine v_iload_n C dX6_debt_69 rfl ?_
                refine v_callVi C (c_X6_begins hl (g := tg g 0) (m := m) (p := i) hR (by omega)) ym_X6_begins ml_X6_242 emb_id_qS rfl rfl rfl rfl rfl dX6_debt_70 (Nat.le_of_ble_eq_true rfl) (Nat.le_of_ble_eq_true rfl) (Nat.le_of_ble_eq_true rfl) (Nat.le_of_ble_eq_true rfl) (fun _ _ hu => hu.elim) (fun r u hu => ?_)
                obtain ⟨rfl, hu⟩ := hu
                subst u
                refine V.stt (g2 := (tg g 0)) (rfl) ?_
                refine v_if_neB C 95 dX6_debt_73 (by decide) (fun c73 => ?_) (fun c73 => ?_)
                · have hqi : q = i := by
                    have hib : i < n := by omega
                    rw [kthG_s hib, c73, if_pos rfl, if_pos (by omega)] at i3
                    have i3 : some i = some q := i3
                    cases i3
                    rfl
                  refine v_iload_n C dX6_debt_95 rfl ?_
                  refine v_if_ne C 103 dX6_debt_96 (by decide) (fun c96 => ?_) (fun c96 => ?_)
                  · refine v_iload_n C dX6_debt_103 rfl ?_
                    refine v_iconst (v := nI 1) C dX6_debt_104 (by decide) ?_
                    first | refine v_icmp_neN C 120 dX6_debt_105 (by decide) (by omega) (by omega) (fun c105 => ?_) (fun c105 => ?_) | refine v_icmp_ne C 120 dX6_debt_105 (by decide) (fun c105 => ?_) (fun c105 => ?_)
                    · refine v_iload_n C dX6_debt_120 rfl ?_
                      refine v_iconst (v := nI 2) C dX6_debt_121 (by decide) ?_
                      first | refine v_icmp_neN C 133 dX6_debt_122 (by decide) (by omega) (by omega) (fun c122 => ?_) (fun c122 => ?_) | refine v_icmp_ne C 133 dX6_debt_122 (by decide) (fun c122 => ?_) (fun c122 => ?_)
                      · refine v_aload_n C dX6_debt_133 rfl ?_
                        refine v_getr C fl_X6_7 or_qS_0_3 dX6_debt_134 ?_
                        refine v_sipush (v := nI 192) C dX6_debt_137 (by decide) ?_
                        refine v_iload_n C dX6_debt_140 rfl ?_
                        first | refine v_iaddN C dX6_debt_141 ?_ | refine v_iadd C dX6_debt_141 ?_
                        refine v_ialdQ (x := m 3 i) C ar_qS_1 (by decide) _ (hR.r (by omega)) ?_ rfl dX6_debt_142 ?_
                        · omega
                        refine v_iret C F (by first | rfl | exact bI_nar _) dX6_debt_143 (Nat.le_of_ble_eq_true rfl) (Nat.le_of_ble_eq_true rfl) ?_
                        first
                        | (refine ⟨?_, fun _ => ?_⟩
                           simp [cdL, hn0, c31, c53, hq]
                           rw [t_w, hq]
                           subst hqi
                           show _ = debV m n q jw
                           unfold debV
                           first
                           | (rw [if_pos (show jw = 0 from nI_inj (b := 0) (by omega) (by omega) c96)])
                           | (rw [if_neg (show ¬ jw = 0 from fun z => c96 (by rw [z]; rfl)), if_pos c105])
                           | (rw [if_neg (show ¬ jw = 0 from fun z => c96 (by rw [z]; rfl)), if_neg c105, if_pos c122])
                           | (rw [if_neg (show ¬ jw = 0 from fun z => c96 (by rw [z]; rfl)), if_neg c105, if_neg c122]))
                        | (refine ⟨?_, fun z => absurd z ?_⟩; (simp [cdL, hz0]); (simp [cdL, hz0]); done)
                        | (refine ⟨?_, fun z => absurd z ?_⟩; (simp [cdL, hn0, c31]); (simp [cdL, hn0, c31]); done)
                        | (refine ⟨?_, fun z => absurd z ?_⟩; (simp [cdL, hn0, c31, c53]); (simp [cdL, hn0, c31, c53]); done)
                      · refine v_aload_n C dX6_debt_125 rfl ?_
                        refine v_iload_n C dX6_debt_126 rfl ?_
                        refine v_callVi C (c_X6_debtLong hl (g := tg g 0) (m := m) (n := n) (p := i) hR hs h96 (by omega)) ym_X6_debtLong ml_X6_248 emb_id_qS rfl rfl rfl rfl rfl dX6_debt_127 (Nat.le_of_ble_eq_true rfl) (Nat.le_of_ble_eq_true rfl) (Nat.le_of_ble_eq_true rfl) (Nat.le_of_ble_eq_true rfl) (fun _ _ hu => hu.elim) (fun r u hu => ?_)
                        obtain ⟨rfl, hu⟩ := hu
                        subst u
                        refine V.stt (g2 := (tg g 0)) (rfl) ?_
                        refine v_goto C 143 dX6_debt_130 (by decide) ?_
                        refine v_iret C F (by first | rfl | exact bI_nar _) dX6_debt_143 (Nat.le_of_ble_eq_true rfl) (Nat.le_of_ble_eq_true rfl) ?_
                        first
                        | (refine ⟨?_, fun _ => ?_⟩
                           simp [cdL, hn0, c31, c53, hq]
                           rw [t_w, hq]
                           subst hqi
                           show _ = debV m n q jw
                           unfold debV
                           first
                           | (rw [if_pos (show jw = 0 from nI_inj (b := 0) (by omega) (by omega) c96)])
                           | (rw [if_neg (show ¬ jw = 0 from fun z => c96 (by rw [z]; rfl)), if_pos c105])
                           | (rw [if_neg (show ¬ jw = 0 from fun z => c96 (by rw [z]; rfl)), if_neg c105, if_pos c122])
                           | (rw [if_neg (show ¬ jw = 0 from fun z => c96 (by rw [z]; rfl)), if_neg c105, if_neg c122]))
                        | (refine ⟨?_, fun z => absurd z ?_⟩; (simp [cdL, hz0]); (simp [cdL, hz0]); done)
                        | (refine ⟨?_, fun z => absurd z ?_⟩; (simp [cdL, hn0, c31]); (simp [cdL, hn0, c31]); done)
                        | (refine ⟨?_, fun z => absurd z ?_⟩; (simp [cdL, hn0, c31, c53]); (simp [cdL, hn0, c31, c53]); done)
                    · refine v_aload_n C dX6_debt_108 rfl ?_
                      refine v_getr C fl_X6_7 or_qS_0_3 dX6_debt_109 ?_
                      refine v_bipush (v := nI 96) C dX6_debt_112 (by decide) ?_
                      refine v_iload_n C dX6_debt_114 rfl ?_
                      first | refine v_iaddN C dX6_debt_115 ?_ | refine v_iadd C dX6_debt_115 ?_
                      refine v_ialdQ (x := m 2 i) C ar_qS_1 (by decide) _ (hR.s (by omega)) ?_ rfl dX6_debt_116 ?_
                      · omega
                      refine v_goto C 143 dX6_debt_117 (by decide) ?_
                      refine v_iret C F (by first | rfl | exact bI_nar _) dX6_debt_143 (Nat.le_of_ble_eq_true rfl) (Nat.le_of_ble_eq_true rfl) ?_
                      first
                      | (refine ⟨?_, fun _ => ?_⟩
                         simp [cdL, hn0, c31, c53, hq]
                         rw [t_w, hq]
                         subst hqi
                         show _ = debV m n q jw
                         unfold debV
                         first
                         | (rw [if_pos (show jw = 0 from nI_inj (b := 0) (by omega) (by omega) c96)])
                         | (rw [if_neg (show ¬ jw = 0 from fun z => c96 (by rw [z]; rfl)), if_pos c105])
                         | (rw [if_neg (show ¬ jw = 0 from fun z => c96 (by rw [z]; rfl)), if_neg c105, if_pos c122])
                         | (rw [if_neg (show ¬ jw = 0 from fun z => c96 (by rw [z]; rfl)), if_neg c105, if_neg c122]))
                      | (refine ⟨?_, fun z => absurd z ?_⟩; (simp [cdL, hz0]); (simp [cdL, hz0]); done)
                      | (refine ⟨?_, fun z => absurd z ?_⟩; (simp [cdL, hn0, c31]); (simp [cdL, hn0, c31]); done)
                      | (refine ⟨?_, fun z => absurd z ?_⟩; (simp [cdL, hn0, c31, c53]); (simp [cdL, hn0, c31, c53]); done)
                  · refine v_iload_n C dX6_debt_99 rfl ?_
                    refine v_goto C 143 dX6_debt_100 (by decide) ?_
                    refine v_iret C F (by first | rfl | exact bI_nar _) dX6_debt_143 (Nat.le_of_ble_eq_true rfl) (Nat.le_of_ble_eq_true rfl) ?_
                    first
                    | (refine ⟨?_, fun _ => ?_⟩
                       simp [cdL, hn0, c31, c53, hq]
                       rw [t_w, hq]
                       subst hqi
                       show _ = debV m n q jw
                       unfold debV
                       first
                       | (rw [if_pos (show jw = 0 from nI_inj (b := 0) (by omega) (by omega) c96)])
                       | (rw [if_neg (show ¬ jw = 0 from fun z => c96 (by rw [z]; rfl)), if_pos c105])
                       | (rw [if_neg (show ¬ jw = 0 from fun z => c96 (by rw [z]; rfl)), if_neg c105, if_pos c122])
                       | (rw [if_neg (show ¬ jw = 0 from fun z => c96 (by rw [z]; rfl)), if_neg c105, if_neg c122]))
                    | (refine ⟨?_, fun z => absurd z ?_⟩; (simp [cdL, hz0]); (simp [cdL, hz0]); done)
                    | (refine ⟨?_, fun z => absurd z ?_⟩; (simp [cdL, hn0, c31]); (simp [cdL, hn0, c31]); done)
                    | (refine ⟨?_, fun z => absurd z ?_⟩; (simp [cdL, hn0, c31, c53]); (simp [cdL, hn0, c31, c53]); done)
                · refine v_iload C dX6_debt_76 rfl ?_
                  refine v_aload_n C dX6_debt_78 rfl ?_
                  refine v_iload_n C dX6_debt_79 rfl ?_
                  refine v_callVi C (c_X6_begins hl (g := tg g 0) (m := m) (p := i) hR (by omega)) ym_X6_begins ml_X6_242 emb_id_qS rfl rfl rfl rfl rfl dX6_debt_80 (Nat.le_of_ble_eq_true rfl) (Nat.le_of_ble_eq_true rfl) (Nat.le_of_ble_eq_true rfl) (Nat.le_of_ble_eq_true rfl) (fun _ _ hu => hu.elim) (fun r u hu => ?_)
                  obtain ⟨rfl, hu⟩ := hu
                  subst u
                  refine V.stt (g2 := (tg g 0)) (rfl) ?_
                  refine v_callSi C (c_X6_flag hl (b := startM m i)) ys_X6_flag rfl ml_X6_232 (emb_n fix_qS) rfl rfl rfl dX6_debt_83 (Nat.le_of_ble_eq_true rfl) (Nat.le_of_ble_eq_true rfl) (Nat.le_of_ble_eq_true rfl) (Nat.le_of_ble_eq_true rfl) (fun _ _ hu => hu.elim) (fun r u hu => ?_)
                  subst r
                  first | refine v_isubN C dX6_debt_86 (by omega) ?_ | refine v_isub C dX6_debt_86 ?_
                  refine v_istore C (lo2 := [some _, some _, some _, some _, some _]) dX6_debt_87 rfl (Nat.le_of_ble_eq_true rfl) rfl ?_
                  first | refine v_iinc1 C (lo2 := [some _, some _, some _, some _, some _]) dX6_debt_89 rfl rfl rfl ?_ | refine v_iinc C (lo2 := [some _, some _, some _, some _, some _]) dX6_debt_89 rfl rfl rfl rfl ?_
                  refine v_goto C 63 dX6_debt_92 (by decide) ?_
                  have hib : i < n := by omega
                  rw [kthG_s hib] at i3
                  have hfl : fl (startM m i) = if startM m i = true then 1 else 0 := rfl
                  have hsub : nI lf - nI (fl (startM m i)) = nI (lf - fl (startM m i)) := nI_sub (by rw [hfl]; first | (rw [c73]; exact Nat.zero_le _) | (split <;> omega))
                  try rw [hsub]
                  refine ih63 (i + 1, lf - fl (startM m i)) (by show n - (i + 1) < n - i; omega) ⟨by show lf - fl (startM m i) < 2 ^ 31; omega, ?_, ?_⟩
                  · show i + 1 ≤ q
                    have hne : ¬ q = i := fun z => by
                      subst z
                      cases hst : startM m q with
                      | true =>
                        rw [hst, if_pos rfl] at i3
                        first
                        | (rw [hst] at c73; cases c73)
                        | (rw [if_neg (by omega)] at i3; have := (kthG_some _ _ _ i3).1; omega)
                      | false => rw [hst, if_neg Bool.false_ne_true] at i3; have := (kthG_some _ _ _ i3).1; omega
                    omega
                  · show kthG (startM m) (i + 1) (n - (i + 1)) ((lf - fl (startM m i) : Nat) : Int) = some q
                    cases hst : startM m i with
                    | true =>
                      rw [hst, if_pos rfl] at i3
                      first
                      | (rw [hst] at c73; cases c73)
                      | (rw [if_neg (by omega)] at i3
                         rw [show ((lf - fl true : Nat) : Int) = (lf : Int) - 1 by show ((lf - 1 : Nat) : Int) = _; omega]
                         exact i3)
                    | false => rw [hst, if_neg Bool.false_ne_true] at i3; exact i3
            rw [elf0]
            have H := L63 (0, lf0) ⟨hlf0, Nat.zero_le _, by rw [← hq, elf0, nI_toInt hlf0]; rfl⟩
            try dsimp only at H
            rw [elf0] at H
            exact H
          · refine V.stt (g2 := tg g 3) (by rw [c53]; rfl) ?_
            refine v_iconst (v := nI 0) C dX6_debt_56 (by decide) ?_
            refine v_iret C F (by first | rfl | exact bI_nar _) dX6_debt_57 (Nat.le_of_ble_eq_true rfl) (Nat.le_of_ble_eq_true rfl) ?_
            first
            | (refine ⟨?_, fun _ => ?_⟩
               simp [cdL, hn0, c31, c53, hq]
               rw [t_w, hq]
               subst hqi
               show _ = debV m n q jw
               unfold debV
               first
               | (rw [if_pos (show jw = 0 from nI_inj (b := 0) (by omega) (by omega) c96)])
               | (rw [if_neg (show ¬ jw = 0 from fun z => c96 (by rw [z]; rfl)), if_pos c105])
               | (rw [if_neg (show ¬ jw = 0 from fun z => c96 (by rw [z]; rfl)), if_neg c105, if_pos c122])
               | (rw [if_neg (show ¬ jw = 0 from fun z => c96 (by rw [z]; rfl)), if_neg c105, if_neg c122]))
            | (refine ⟨?_, fun z => absurd z ?_⟩; (simp [cdL, hz0]); (simp [cdL, hz0]); done)
            | (refine ⟨?_, fun z => absurd z ?_⟩; (simp [cdL, hn0, c31]); (simp [cdL, hn0, c31]); done)
            | (refine ⟨?_, fun z => absurd z ?_⟩; (simp [cdL, hn0, c31, c53]); (simp [cdL, hn0, c31, c53]); done)
        · refine v_iconst (v := nI 1) C dX6_debt_44 (by decide) ?_
          refine v_goto C 49 dX6_debt_45 (by decide) ?_
          refine V.eqs (st2 := [.int (bI (!inB w 0 3)), .ref (h 0)]) ?_ (congrArg (fun z => [Value.int z, Value.ref (h 0)]) (by first | exact bI_t (by simp [c41]) | exact bI_f (by simp [c41])))
          refine v_iconst (v := nI 3) C dX6_debt_49 (by decide) ?_
          refine v_callVi C (c_X6_refuse hl (b := !inB w 0 3) (k := 3) (by decide) (by decide)) ym_X6_refuse ml_X6_40 emb_id_qS rfl rfl rfl rfl rfl dX6_debt_50 (Nat.le_of_ble_eq_true rfl) (Nat.le_of_ble_eq_true rfl) (Nat.le_of_ble_eq_true rfl) (Nat.le_of_ble_eq_true rfl) (fun _ _ hu => hu.elim) (fun r u hu => ?_)
          obtain ⟨rfl, hu⟩ := hu
          subst u
          refine v_if_eqB C 58 dX6_debt_53 (by decide) (fun c53 => ?_) (fun c53 => ?_)
          · refine V.stt (g2 := tg g 0) (by rw [c53]; rfl) ?_
            have hwI : inB w 0 3 = true := by simpa using c53
            obtain ⟨jw, -, hjw, hjw2, ew⟩ := in_at (a := 0) hwI
            subst ew
            have t_w : tN (nI jw) = jw := tN_nI hjw2
            have hk31 : k.toInt = ((k.toInt.toNat : Nat) : Int) := by
              have hz : ¬ (kthG (startM m) 0 n k.toInt) = none := by rw [hq]; exact fun z => by cases z
              have hz2 := (not_congr (kth_none n 0 k.toInt)).mp hz
              have hz3 : 0 ≤ k.toInt := Classical.byContradiction fun w => hz2 (fun z => w z.1)
              omega
            refine v_iconst (v := nI 0) C dX6_debt_58 (by decide) ?_
            refine v_istore_n C (lo2 := [some _, some _, some _, some _, none]) dX6_debt_59 rfl (Nat.le_of_ble_eq_true rfl) rfl ?_
            refine v_iload_n C dX6_debt_60 rfl ?_
            refine v_istore C (lo2 := [some _, some _, some _, some _, some _]) dX6_debt_61 rfl (Nat.le_of_ble_eq_true rfl) rfl ?_
            obtain ⟨lf0, hlf0, elf0⟩ : ∃ lf0 : Nat, lf0 < 2 ^ 31 ∧ k = nI lf0 := ⟨k.toInt.toNat, (nI_of_nonneg (by omega)).2, (nI_of_nonneg (by omega)).1⟩
            have L63 : ∀ (t : Nat × Nat), (fun t => t.2 < 2 ^ 31 ∧ t.1 ≤ q ∧ kthG (startM m) t.1 (n - t.1) (t.2 : Int) = some q) t → (fun t : Nat × Nat => V X (qS (xK X) h) 63 [some (.ref (h 0)), some (.int k), some (.int (nI jw)), some (.int (nI t.1)), some (.int (nI t.2))] [] (tg g 0) 0 0) t := by
              refine v_ind (fun t : Nat × Nat => n - t.1) ?_
              rintro ⟨i, lf⟩ ih63 hI63
              try dsimp only at hI63 ⊢
              obtain ⟨i1, i2, i3⟩ := hI63
              have i1 : lf < 2 ^ 31 := i1
              have i2 : i ≤ q := i2
              have i3 : kthG (startM m) i (n - i) (lf : Int) = some q := i3
              have hqn : q < n := by omega
              refine v_iload C dX6_debt_63 rfl ?_
              refine v_if_gt C 76 dX6_debt_65 (by decide) (fun c65 => ?_) (fun c65 => ?_)
              · have hlf : 0 < lf := by
                  rcases Nat.eq_zero_or_pos lf with z | z
                  · rw [z] at c65; exact absurd c65 (by decide)
                  · exact z
                refine v_iload C dX6_debt_76 rfl ?_
                refine v_aload_n C dX6_debt_78 rfl ?_
                refine v_iload_n C dX6_debt_79 rfl ?_
                refine v_callVi C (c_X6_begins hl (g := tg g 0) (m := m) (p := i) hR (by omega)) ym_X6_begins ml_X6_242 emb_id_qS rfl rfl rfl rfl rfl dX6_debt_80 (Nat.le_of_ble_eq_true rfl) (Nat.le_of_ble_eq_true rfl) (Nat.le_of_ble_eq_true rfl) (Nat.le_of_ble_eq_true rfl) (fun _ _ hu => hu.elim) (fun r u hu => ?_)
                obtain ⟨rfl, hu⟩ := hu
                subst u
                refine V.stt (g2 := (tg g 0)) (rfl) ?_
                refine v_callSi C (c_X6_flag hl (b := startM m i)) ys_X6_flag rfl ml_X6_232 (emb_n fix_qS) rfl rfl rfl dX6_debt_83 (Nat.le_of_ble_eq_true rfl) (Nat.le_of_ble_eq_true rfl) (Nat.le_of_ble_eq_true rfl) (Nat.le_of_ble_eq_true rfl) (fun _ _ hu => hu.elim) (fun r u hu => ?_)
                subst r
                first | refine v_isubN C dX6_debt_86 (by omega) ?_ | refine v_isub C dX6_debt_86 ?_
                refine v_istore C (lo2 := [some _, some _, some _, some _, some _]) dX6_debt_87 rfl (Nat.le_of_ble_eq_true rfl) rfl ?_
                first | refine v_iinc1 C (lo2 := [some _, some _, some _, some _, some _]) dX6_debt_89 rfl rfl rfl ?_ | refine v_iinc C (lo2 := [some _, some _, some _, some _, some _]) dX6_debt_89 rfl rfl rfl rfl ?_
                refine v_goto C 63 dX6_debt_92 (by decide) ?_
                have hib : i < n := by omega
                rw [kthG_s hib] at i3
                have hfl : fl (startM m i) = if startM m i = true then 1 else 0 := rfl
                have hsub : nI lf - nI (fl (startM m i)) = nI (lf - fl (startM m i)) := nI_sub (by rw [hfl]; first | (rw [c73]; exact Nat.zero_le _) | (split <;> omega))
                try rw [hsub]
                refine ih63 (i + 1, lf - fl (startM m i)) (by show n - (i + 1) < n - i; omega) ⟨by show lf - fl (startM m i) < 2 ^ 31; omega, ?_, ?_⟩
                · show i + 1 ≤ q
                  have hne : ¬ q = i := fun z => by
                    subst z
                    cases hst : startM m q with
                    | true =>
                      rw [hst, if_pos rfl] at i3
                      first
                      | (rw [hst] at c73; cases c73)
                      | (rw [if_neg (by omega)] at i3; have := (kthG_some _ _ _ i3).1; omega)
                    | false => rw [hst, if_neg Bool.false_ne_true] at i3; have := (kthG_some _ _ _ i3).1; omega
                  omega
                · show kthG (startM m) (i + 1) (n - (i + 1)) ((lf - fl (startM m i) : Nat) : Int) = some q
                  cases hst : startM m i with
                  | true =>
                    rw [hst, if_pos rfl] at i3
                    first
                    | (rw [hst] at c73; cases c73)
                    | (rw [if_neg (by omega)] at i3
                       rw [show ((lf - fl true : Nat) : Int) = (lf : Int) - 1 by show ((lf - 1 : Nat) : Int) = _; omega]
                       exact i3)
                  | false => rw [hst, if_neg Bool.false_ne_true] at i3; exact i3
              · have hlf0 : lf = 0 := by
                  rcases Nat.eq_zero_or_pos lf with z | z
                  · exact z
                  · rw [nI_toInt (by omega)] at c65; omega
                refine v_aload_n C dX6_debt_68 rfl ?_
                refine v_iload_n C dX6_debt_69 rfl ?_
                refine v_callVi C (c_X6_begins hl (g := tg g 0) (m := m) (p := i) hR (by omega)) ym_X6_begins ml_X6_242 emb_id_qS rfl rfl rfl rfl rfl dX6_debt_70 (Nat.le_of_ble_eq_true rfl) (Nat.le_of_ble_eq_true rfl) (Nat.le_of_ble_eq_true rfl) (Nat.le_of_ble_eq_true rfl) (fun _ _ hu => hu.elim) (fun r u hu => ?_)
                obtain ⟨rfl, hu⟩ := hu
                subst u
                refine V.stt (g2 := (tg g 0)) (rfl) ?_
                refine v_if_neB C 95 dX6_debt_73 (by decide) (fun c73 => ?_) (fun c73 => ?_)
                · have hqi : q = i := by
                    have hib : i < n := by omega
                    rw [kthG_s hib, c73, if_pos rfl, if_pos (by omega)] at i3
                    have i3 : some i = some q := i3
                    cases i3
                    rfl
                  refine v_iload_n C dX6_debt_95 rfl ?_
                  refine v_if_ne C 103 dX6_debt_96 (by decide) (fun c96 => ?_) (fun c96 => ?_)
                  · refine v_iload_n C dX6_debt_103 rfl ?_
                    refine v_iconst (v := nI 1) C dX6_debt_104 (by decide) ?_
                    first | refine v_icmp_neN C 120 dX6_debt_105 (by decide) (by omega) (by omega) (fun c105 => ?_) (fun c105 => ?_) | refine v_icmp_ne C 120 dX6_debt_105 (by decide) (fun c105 => ?_) (fun c105 => ?_)
                    · refine v_iload_n C dX6_debt_120 rfl ?_
                      refine v_iconst (v := nI 2) C dX6_debt_121 (by decide) ?_
                      first | refine v_icmp_neN C 133 dX6_debt_122 (by decide) (by omega) (by omega) (fun c122 => ?_) (fun c122 => ?_) | refine v_icmp_ne C 133 dX6_debt_122 (by decide) (fun c122 => ?_) (fun c122 => ?_)
                      · refine v_aload_n C dX6_debt_133 rfl ?_
                        refine v_getr C fl_X6_7 or_qS_0_3 dX6_debt_134 ?_
                        refine v_sipush (v := nI 192) C dX6_debt_137 (by decide) ?_
                        refine v_iload_n C dX6_debt_140 rfl ?_
                        first | refine v_iaddN C dX6_debt_141 ?_ | refine v_iadd C dX6_debt_141 ?_
                        refine v_ialdQ (x := m 3 i) C ar_qS_1 (by decide) _ (hR.r (by omega)) ?_ rfl dX6_debt_142 ?_
                        · omega
                        refine v_iret C F (by first | rfl | exact bI_nar _) dX6_debt_143 (Nat.le_of_ble_eq_true rfl) (Nat.le_of_ble_eq_true rfl) ?_
                        first
                        | (refine ⟨?_, fun _ => ?_⟩
                           simp [cdL, hn0, c31, c53, hq]
                           rw [t_w, hq]
                           subst hqi
                           show _ = debV m n q jw
                           unfold debV
                           first
                           | (rw [if_pos (show jw = 0 from nI_inj (b := 0) (by omega) (by omega) c96)])
                           | (rw [if_neg (show ¬ jw = 0 from fun z => c96 (by rw [z]; rfl)), if_pos c105])
                           | (rw [if_neg (show ¬ jw = 0 from fun z => c96 (by rw [z]; rfl)), if_neg c105, if_pos c122])
                           | (rw [if_neg (show ¬ jw = 0 from fun z => c96 (by rw [z]; rfl)), if_neg c105, if_neg c122]))
                        | (refine ⟨?_, fun z => absurd z ?_⟩; (simp [cdL, hz0]); (simp [cdL, hz0]); done)
                        | (refine ⟨?_, fun z => absurd z ?_⟩; (simp [cdL, hn0, c31]); (simp [cdL, hn0, c31]); done)
                        | (refine ⟨?_, fun z => absurd z ?_⟩; (simp [cdL, hn0, c31, c53]); (simp [cdL, hn0, c31, c53]); done)
                      · refine v_aload_n C dX6_debt_125 rfl ?_
                        refine v_iload_n C dX6_debt_126 rfl ?_
                        refine v_callVi C (c_X6_debtLong hl (g := tg g 0) (m := m) (n := n) (p := i) hR hs h96 (by omega)) ym_X6_debtLong ml_X6_248 emb_id_qS rfl rfl rfl rfl rfl dX6_debt_127 (Nat.le_of_ble_eq_true rfl) (Nat.le_of_ble_eq_true rfl) (Nat.le_of_ble_eq_true rfl) (Nat.le_of_ble_eq_true rfl) (fun _ _ hu => hu.elim) (fun r u hu => ?_)
                        obtain ⟨rfl, hu⟩ := hu
                        subst u
                        refine V.stt (g2 := (tg g 0)) (rfl) ?_
                        refine v_goto C 143 dX6_debt_130 (by decide) ?_
                        refine v_iret C F (by first | rfl | exact bI_nar _) dX6_debt_143 (Nat.le_of_ble_eq_true rfl) (Nat.le_of_ble_eq_true rfl) ?_
                        first
                        | (refine ⟨?_, fun _ => ?_⟩
                           simp [cdL, hn0, c31, c53, hq]
                           rw [t_w, hq]
                           subst hqi
                           show _ = debV m n q jw
                           unfold debV
                           first
                           | (rw [if_pos (show jw = 0 from nI_inj (b := 0) (by omega) (by omega) c96)])
                           | (rw [if_neg (show ¬ jw = 0 from fun z => c96 (by rw [z]; rfl)), if_pos c105])
                           | (rw [if_neg (show ¬ jw = 0 from fun z => c96 (by rw [z]; rfl)), if_neg c105, if_pos c122])
                           | (rw [if_neg (show ¬ jw = 0 from fun z => c96 (by rw [z]; rfl)), if_neg c105, if_neg c122]))
                        | (refine ⟨?_, fun z => absurd z ?_⟩; (simp [cdL, hz0]); (simp [cdL, hz0]); done)
                        | (refine ⟨?_, fun z => absurd z ?_⟩; (simp [cdL, hn0, c31]); (simp [cdL, hn0, c31]); done)
                        | (refine ⟨?_, fun z => absurd z ?_⟩; (simp [cdL, hn0, c31, c53]); (simp [cdL, hn0, c31, c53]); done)
                    · refine v_aload_n C dX6_debt_108 rfl ?_
                      refine v_getr C fl_X6_7 or_qS_0_3 dX6_debt_109 ?_
                      refine v_bipush (v := nI 96) C dX6_debt_112 (by decide) ?_
                      refine v_iload_n C dX6_debt_114 rfl ?_
                      first | refine v_iaddN C dX6_debt_115 ?_ | refine v_iadd C dX6_debt_115 ?_
                      refine v_ialdQ (x := m 2 i) C ar_qS_1 (by decide) _ (hR.s (by omega)) ?_ rfl dX6_debt_116 ?_
                      · omega
                      refine v_goto C 143 dX6_debt_117 (by decide) ?_
                      refine v_iret C F (by first | rfl | exact bI_nar _) dX6_debt_143 (Nat.le_of_ble_eq_true rfl) (Nat.le_of_ble_eq_true rfl) ?_
                      first
                      | (refine ⟨?_, fun _ => ?_⟩
                         simp [cdL, hn0, c31, c53, hq]
                         rw [t_w, hq]
                         subst hqi
                         show _ = debV m n q jw
                         unfold debV
                         first
                         | (rw [if_pos (show jw = 0 from nI_inj (b := 0) (by omega) (by omega) c96)])
                         | (rw [if_neg (show ¬ jw = 0 from fun z => c96 (by rw [z]; rfl)), if_pos c105])
                         | (rw [if_neg (show ¬ jw = 0 from fun z => c96 (by rw [z]; rfl)), if_neg c105, if_pos c122])
                         | (rw [if_neg (show ¬ jw = 0 from fun z => c96 (by rw [z]; rfl)), if_neg c105, if_neg c122]))
                      | (refine ⟨?_, fun z => absurd z ?_⟩; (simp [cdL, hz0]); (simp [cdL, hz0]); done)
                      | (refine ⟨?_, fun z => absurd z ?_⟩; (simp [cdL, hn0, c31]); (simp [cdL, hn0, c31]); done)
                      | (refine ⟨?_, fun z => absurd z ?_⟩; (simp [cdL, hn0, c31, c53]); (simp [cdL, hn0, c31, c53]); done)
                  · refine v_iload_n C dX6_debt_99 rfl ?_
                    refine v_goto C 143 dX6_debt_100 (by decide) ?_
                    refine v_iret C F (by first | rfl | exact bI_nar _) dX6_debt_143 (Nat.le_of_ble_eq_true rfl) (Nat.le_of_ble_eq_true rfl) ?_
                    first
                    | (refine ⟨?_, fun _ => ?_⟩
                       simp [cdL, hn0, c31, c53, hq]
                       rw [t_w, hq]
                       subst hqi
                       show _ = debV m n q jw
                       unfold debV
                       first
                       | (rw [if_pos (show jw = 0 from nI_inj (b := 0) (by omega) (by omega) c96)])
                       | (rw [if_neg (show ¬ jw = 0 from fun z => c96 (by rw [z]; rfl)), if_pos c105])
                       | (rw [if_neg (show ¬ jw = 0 from fun z => c96 (by rw [z]; rfl)), if_neg c105, if_pos c122])
                       | (rw [if_neg (show ¬ jw = 0 from fun z => c96 (by rw [z]; rfl)), if_neg c105, if_neg c122]))
                    | (refine ⟨?_, fun z => absurd z ?_⟩; (simp [cdL, hz0]); (simp [cdL, hz0]); done)
                    | (refine ⟨?_, fun z => absurd z ?_⟩; (simp [cdL, hn0, c31]); (simp [cdL, hn0, c31]); done)
                    | (refine ⟨?_, fun z => absurd z ?_⟩; (simp [cdL, hn0, c31, c53]); (simp [cdL, hn0, c31, c53]); done)
                · refine v_iload C dX6_debt_76 rfl ?_
                  refine v_aload_n C dX6_debt_78 rfl ?_
                  refine v_iload_n C dX6_debt_79 rfl ?_
                  refine v_callVi C (c_X6_begins hl (g := tg g 0) (m := m) (p := i) hR (by omega)) ym_X6_begins ml_X6_242 emb_id_qS rfl rfl rfl rfl rfl dX6_debt_80 (Nat.le_of_ble_eq_true rfl) (Nat.le_of_ble_eq_true rfl) (Nat.le_of_ble_eq_true rfl) (Nat.le_of_ble_eq_true rfl) (fun _ _ hu => hu.elim) (fun r u hu => ?_)
                  obtain ⟨rfl, hu⟩ := hu
                  subst u
                  refine V.stt (g2 := (tg g 0)) (rfl) ?_
                  refine v_callSi C (c_X6_flag hl (b := startM m i)) ys_X6_flag rfl ml_X6_232 (emb_n fix_qS) rfl rfl rfl dX6_debt_83 (Nat.le_of_ble_eq_true rfl) (Nat.le_of_ble_eq_true rfl) (Nat.le_of_ble_eq_true rfl) (Nat.le_of_ble_eq_true rfl) (fun _ _ hu => hu.elim) (fun r u hu => ?_)
                  subst r
                  first | refine v_isubN C dX6_debt_86 (by omega) ?_ | refine v_isub C dX6_debt_86 ?_
                  refine v_istore C (lo2 := [some _, some _, some _, some _, some _]) dX6_debt_87 rfl (Nat.le_of_ble_eq_true rfl) rfl ?_
                  first | refine v_iinc1 C (lo2 := [some _, some _, some _, some _, some _]) dX6_debt_89 rfl rfl rfl ?_ | refine v_iinc C (lo2 := [some _, some _, some _, some _, some _]) dX6_debt_89 rfl rfl rfl rfl ?_
                  refine v_goto C 63 dX6_debt_92 (by decide) ?_
                  have hib : i < n := by omega
                  rw [kthG_s hib] at i3
                  have hfl : fl (startM m i) = if startM m i = true then 1 else 0 := rfl
                  have hsub : nI lf - nI (fl (startM m i)) = nI (lf - fl (startM m i)) := nI_sub (by rw [hfl]; first | (rw [c73]; exact Nat.zero_le _) | (split <;> omega))
                  try rw [hsub]
                  refine ih63 (i + 1, lf - fl (startM m i)) (by show n - (i + 1) < n - i; omega) ⟨by show lf - fl (startM m i) < 2 ^ 31; omega, ?_, ?_⟩
                  · show i + 1 ≤ q
                    have hne : ¬ q = i := fun z => by
                      subst z
                      cases hst : startM m q with
                      | true =>
                        rw [hst, if_pos rfl] at i3
                        first
                        | (rw [hst] at c73; cases c73)
                        | (rw [if_neg (by omega)] at i3; have := (kthG_some _ _ _ i3).1; omega)
                      | false => rw [hst, if_neg Bool.false_ne_true] at i3; have := (kthG_some _ _ _ i3).1; omega
                    omega
                  · show kthG (startM m) (i + 1) (n - (i + 1)) ((lf - fl (startM m i) : Nat) : Int) = some q
                    cases hst : startM m i with
                    | true =>
                      rw [hst, if_pos rfl] at i3
                      first
                      | (rw [hst] at c73; cases c73)
                      | (rw [if_neg (by omega)] at i3
                         rw [show ((lf - fl true : Nat) : Int) = (lf : Int) - 1 by show ((lf - 1 : Nat) : Int) = _; omega]
                         exact i3)
                    | false => rw [hst, if_neg Bool.false_ne_true] at i3; exact i3
            rw [elf0]
            have H := L63 (0, lf0) ⟨hlf0, Nat.zero_le _, by rw [← hq, elf0, nI_toInt hlf0]; rfl⟩
            try dsimp only at H
            rw [elf0] at H
            exact H
          · refine V.stt (g2 := tg g 3) (by rw [c53]; rfl) ?_
            refine v_iconst (v := nI 0) C dX6_debt_56 (by decide) ?_
            refine v_iret C F (by first | rfl | exact bI_nar _) dX6_debt_57 (Nat.le_of_ble_eq_true rfl) (Nat.le_of_ble_eq_true rfl) ?_
            first
            | (refine ⟨?_, fun _ => ?_⟩
               simp [cdL, hn0, c31, c53, hq]
               rw [t_w, hq]
               subst hqi
               show _ = debV m n q jw
               unfold debV
               first
               | (rw [if_pos (show jw = 0 from nI_inj (b := 0) (by omega) (by omega) c96)])
               | (rw [if_neg (show ¬ jw = 0 from fun z => c96 (by rw [z]; rfl)), if_pos c105])
               | (rw [if_neg (show ¬ jw = 0 from fun z => c96 (by rw [z]; rfl)), if_neg c105, if_pos c122])
               | (rw [if_neg (show ¬ jw = 0 from fun z => c96 (by rw [z]; rfl)), if_neg c105, if_neg c122]))
            | (refine ⟨?_, fun z => absurd z ?_⟩; (simp [cdL, hz0]); (simp [cdL, hz0]); done)
            | (refine ⟨?_, fun z => absurd z ?_⟩; (simp [cdL, hn0, c31]); (simp [cdL, hn0, c31]); done)
            | (refine ⟨?_, fun z => absurd z ?_⟩; (simp [cdL, hn0, c31, c53]); (simp [cdL, hn0, c31, c53]); done)

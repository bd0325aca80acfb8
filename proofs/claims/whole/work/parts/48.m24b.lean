set_option maxHeartbeats 800000 in
theorem c_X6_copyLine {l : Launch} (hl : l.stackTraces = false) {κ : Kp} {h : Nat → Nat} {g : G} {m : Mg} {n len : Nat} {b : Nat → Int32} {st : St} {k : Cnt} (h96 : n ≤ 96) (hn1 : 1 ≤ n) (hX : QXr b len n (st, m, k) g) (hPI : PI n (st, m, k)) (hKL : KLp (st, m, k)) (hkb : KB k) (hb : BN0 b) (hk4 : ok st = true → ¬ st.1.1 = 4) : Ct SS MM l κ yX6_copyLine cX6_copyLine 4 none 6 0 0 [.ref (h 0)] (qS κ h) g rv (fun _ u => QXr b len n (lnCopy b len n (st, m, k)) u ∧ FLn g u) (fun _ _ => False) := by
  refine Ct.of (own := RX6) (by decide) rfl hl (by intro v hv; simp only [List.mem_cons, List.not_mem_nil, or_false] at hv; first | (rcases hv with rfl | rfl | rfl | rfl | rfl | rfl <;> rfl) | (rcases hv with rfl | rfl | rfl | rfl | rfl <;> rfl) | (rcases hv with rfl | rfl | rfl | rfl <;> rfl) | (rcases hv with rfl | rfl | rfl <;> rfl) | (rcases hv with rfl | rfl <;> rfl) | (subst hv; rfl) | exact hv.elim) (Nat.le_of_ble_eq_true rfl) (fun X hxl hxk C F N => ?_)
  subst hxl hxk
  show V X (qS (xK X) h) 0 [some (.ref (h 0)), none, none, none] [] g 0 0
  obtain ⟨hR, hRow, hK, hs⟩ := id hX
  have hR : QR b len st g := hR
  have hRow : RowR m (g 1) := hRow
  have hK : KQ k g := hK
  obtain ⟨co, hMI, -, -⟩ := hPI
  have hMI : MI n co m := hMI
  obtain ⟨hI, hE, hLK, -, hSB, hBY, hPR⟩ := id hMI
  obtain ⟨kb1, kb2, kb3, kb4⟩ := id hkb
  have hKL : ok st = true → KL k := hKL
  have hWe : whenS (decide (k.2.2.1 = 20)) 4 st = (whenS (decide (20 < k.2.2.1 + 1)) 4 st) := when_eq (fun z => decide_eq_decide.mpr (by have := (hKL z).2.2.1; omega))
  obtain ⟨lim, hlim, hlim96⟩ := lim_ok hSB
  refine v_aload_n C dX6_copyLine_0 rfl ?_
  refine v_aload_n C dX6_copyLine_1 rfl ?_
  refine v_getiQ (x := nI k.2.2.1) C fl_X6_120 oi_qS_0_20 (hK.2.2.1) dX6_copyLine_2 ?_
  refine v_bipush (v := nI 20) C dX6_copyLine_5 (by decide) ?_
  first | refine v_icmp_neN C 14 dX6_copyLine_7 (by decide) (by omega) (by omega) (fun c7 => ?_) (fun c7 => ?_) | refine v_icmp_ne C 14 dX6_copyLine_7 (by decide) (fun c7 => ?_) (fun c7 => ?_)
  · refine v_iconst (v := nI 0) C dX6_copyLine_14 (by decide) ?_
    refine V.eqs (st2 := [.int (bI (decide (k.2.2.1 = 20))), .ref (h 0)]) ?_ (congrArg (fun z => [Value.int z, Value.ref (h 0)]) (by first | exact bI_t (decide_eq_true (by omega)) | exact bI_f (decide_eq_false (by omega))))
    refine v_iconst (v := nI 4) C dX6_copyLine_15 (by decide) ?_
    refine v_callVv C (c_X6_failsIf hl (cd := 4) (p := decide (k.2.2.1 = 20)) hR (by decide) (by decide)) ym_X6_failsIf ml_X6_113 emb_id_qS rfl rfl rfl rfl rfl dX6_copyLine_16 (Nat.le_of_ble_eq_true rfl) (Nat.le_of_ble_eq_true rfl) (Nat.le_of_ble_eq_true rfl) (Nat.le_of_ble_eq_true rfl) (fun _ _ hu => hu.elim) (fun r u hu => ?_)
    rw [hWe] at hu
    obtain ⟨hR1, hF1⟩ := hu
    obtain ⟨g1, eg1⟩ : ∃ x, x = u := ⟨u, rfl⟩
    subst eg1
    refine v_aload_n C dX6_copyLine_19 rfl ?_
    refine v_callVv C (c_X6_goesOn hl hR1 hb (when_k (by decide) hk4)) ym_X6_goesOn ml_X6_106 emb_id_qS rfl rfl rfl rfl rfl dX6_copyLine_20 (Nat.le_of_ble_eq_true rfl) (Nat.le_of_ble_eq_true rfl) (Nat.le_of_ble_eq_true rfl) (Nat.le_of_ble_eq_true rfl) (fun _ _ hu => hu.elim) (fun r u hu => ?_)
    obtain ⟨hR2, hF2⟩ := hu
    obtain ⟨g2, eg2⟩ : ∃ x, x = u := ⟨u, rfl⟩
    subst eg2
    have hs2 : g2 0 2 = nI n := (hF2.2 2 (by decide)).trans ((hF1.2 2 (by decide)).trans hs)
    refine v_aload_n C dX6_copyLine_23 rfl ?_
    refine v_iconst (v := nI 0) C dX6_copyLine_24 (by decide) ?_
    refine v_aload_n C dX6_copyLine_25 rfl ?_
    refine v_getiQ (x := nI n) C fl_X6_126 oi_qS_0_2 (hs2) dX6_copyLine_26 ?_
    refine v_iconst (v := nI 1) C dX6_copyLine_29 (by decide) ?_
    first | refine v_isubN C dX6_copyLine_30 (by omega) ?_ | refine v_isub C dX6_copyLine_30 ?_
    refine v_callVi C (c_X6_takesN hl (s0 := (whenS (decide (20 < k.2.2.1 + 1)) 4 st)) hR2 (by omega) (by omega) hb) ym_X6_takes ml_X6_117 emb_id_qS rfl rfl rfl rfl rfl dX6_copyLine_31 (Nat.le_of_ble_eq_true rfl) (Nat.le_of_ble_eq_true rfl) (Nat.le_of_ble_eq_true rfl) (Nat.le_of_ble_eq_true rfl) (fun _ _ hu => hu.elim) (fun r u hu => ?_)
    obtain ⟨rfl, hR3, hF3⟩ := hu
    obtain ⟨g3, eg3⟩ : ∃ x, x = u := ⟨u, rfl⟩
    subst eg3
    have hR3 : QR b len (advS b len (cop1 b len n st k).1) g3 := hR3
    show V X _ _ _ (Value.int (nI (cop1 b len n st k).2) :: _) _ _ _
    obtain ⟨p1, hp1⟩ : ∃ x, EqH x (cop1 b len n st k).2 := ⟨_, rfl⟩
    have hp1e : (cop1 b len n st k).2 = p1 := Eq.symm hp1
    rw [hp1e]
    clear hp1e
    have rg1 := (numS_h (Nat.zero_le _) hp1).2
    have hs3 : g3 0 2 = nI n := (hF3.2 2 (by decide)).trans hs2
    refine v_istore_n C (lo2 := [some _, some _, none, none]) dX6_copyLine_34 rfl (Nat.le_of_ble_eq_true rfl) rfl ?_
    refine v_aload_n C dX6_copyLine_35 rfl ?_
    refine v_iconst (v := nI 0) C dX6_copyLine_36 (by decide) ?_
    refine v_aload_n C dX6_copyLine_37 rfl ?_
    refine v_getiQ (x := nI n) C fl_X6_126 oi_qS_0_2 (hs3) dX6_copyLine_38 ?_
    refine v_iconst (v := nI 1) C dX6_copyLine_41 (by decide) ?_
    first | refine v_isubN C dX6_copyLine_42 (by omega) ?_ | refine v_isub C dX6_copyLine_42 ?_
    refine v_callVi C (c_X6_takesN hl (s0 := (cop1 b len n st k).1) hR3 (by omega) (by omega) hb) ym_X6_takes ml_X6_117 emb_id_qS rfl rfl rfl rfl rfl dX6_copyLine_43 (Nat.le_of_ble_eq_true rfl) (Nat.le_of_ble_eq_true rfl) (Nat.le_of_ble_eq_true rfl) (Nat.le_of_ble_eq_true rfl) (fun _ _ hu => hu.elim) (fun r u hu => ?_)
    obtain ⟨rfl, hR4, hF4⟩ := hu
    obtain ⟨g4, eg4⟩ : ∃ x, x = u := ⟨u, rfl⟩
    subst eg4
    have hR4 : QR b len (advS b len (cop2 b len n st k).1) g4 := hR4
    show V X _ _ _ (Value.int (nI (cop2 b len n st k).2) :: _) _ _ _
    obtain ⟨p2, hp2⟩ : ∃ x, EqH x (cop2 b len n st k).2 := ⟨_, rfl⟩
    have hp2e : (cop2 b len n st k).2 = p2 := Eq.symm hp2
    rw [hp2e]
    clear hp2e
    have rg2 := (numS_h (Nat.zero_le _) hp2).2
    have hs4 : g4 0 2 = nI n := (hF4.2 2 (by decide)).trans hs3
    refine v_istore_n C (lo2 := [some _, some _, some _, none]) dX6_copyLine_46 rfl (Nat.le_of_ble_eq_true rfl) rfl ?_
    refine v_aload_n C dX6_copyLine_47 rfl ?_
    refine v_iconst (v := nI 1) C dX6_copyLine_48 (by decide) ?_
    refine v_aload_n C dX6_copyLine_49 rfl ?_
    refine v_getiQ (x := nI n) C fl_X6_126 oi_qS_0_2 (hs4) dX6_copyLine_50 ?_
    refine v_callVi C (c_X6_numberHereN hl (s0 := (cop2 b len n st k).1) hR4 (by omega) (by omega)) ym_X6_numberHere ml_X6_102 emb_id_qS rfl rfl rfl rfl rfl dX6_copyLine_53 (Nat.le_of_ble_eq_true rfl) (Nat.le_of_ble_eq_true rfl) (Nat.le_of_ble_eq_true rfl) (Nat.le_of_ble_eq_true rfl) (fun _ _ hu => hu.elim) (fun r u hu => ?_)
    obtain ⟨rfl, hR5, hF5⟩ := hu
    obtain ⟨g5, eg5⟩ : ∃ x, x = u := ⟨u, rfl⟩
    subst eg5
    have hR5 : QR b len (cop3 b len n st k).1 g5 := hR5
    show V X _ _ _ (Value.int (nI (cop3 b len n st k).2) :: _) _ _ _
    obtain ⟨p3, hp3⟩ : ∃ x, EqH x (cop3 b len n st k).2 := ⟨_, rfl⟩
    have hp3e : (cop3 b len n st k).2 = p3 := Eq.symm hp3
    rw [hp3e]
    clear hp3e
    have rg3 := (numS_h hn1 hp3).2
    have hs5 : g5 0 2 = nI n := (hF5.2 2 (by decide)).trans hs4
    have hFa := ((hF1.tr hF2).tr hF3).tr (hF4.tr hF5)
    have hRow5 : RowR m (g5 1) := by rw [hFa.1 1 (by decide)]; exact hRow
    refine v_istore_n C (lo2 := [some _, some _, some _, some _]) dX6_copyLine_56 rfl (Nat.le_of_ble_eq_true rfl) rfl ?_
    refine v_aload_n C dX6_copyLine_57 rfl ?_
    refine v_aload_n C dX6_copyLine_58 rfl ?_
    refine v_getiQ (x := nI (cop3 b len n st k).1.2.1) C fl_X6_76 oi_qS_0_16 (hR5.2.2.2.2.1) dX6_copyLine_59 ?_
    refine v_if_ne C 79 dX6_copyLine_62 (by decide) (fun c62 => ?_) (fun c62 => ?_)
    · have hz3 : ¬ (cop3 b len n st k).1.2.1 = 0 := fun z => c62 (by rw [z]; rfl)
      refine v_iconst (v := nI 0) C dX6_copyLine_79 (by decide) ?_
      refine V.eqs (st2 := [.int (bI (ok (cop3 b len n st k).1 && !(refM m n (nI p1) (nI p2) (nI p3) == 0))), .ref (h 0)]) ?_ (congrArg (fun z => [Value.int z, Value.ref (h 0)]) (by first | exact bI_f (by rw [ok_b hz3]; rfl) | exact bI_f (by rw [ok_gz hz3, beq_iff_eq.mpr c72]; rfl) | exact bI_t (by rw [ok_gz hz3, beq_eq_false_iff_ne.mpr c72]; rfl)))
      refine v_iconst (v := nI 3) C dX6_copyLine_80 (by decide) ?_
      refine v_callVv C (c_X6_failsIf hl (cd := 3) (p := ok (cop3 b len n st k).1 && !(refM m n (nI p1) (nI p2) (nI p3) == 0)) hR5 (by decide) (by decide)) ym_X6_failsIf ml_X6_113 emb_id_qS rfl rfl rfl rfl rfl dX6_copyLine_81 (Nat.le_of_ble_eq_true rfl) (Nat.le_of_ble_eq_true rfl) (Nat.le_of_ble_eq_true rfl) (Nat.le_of_ble_eq_true rfl) (fun _ _ hu => hu.elim) (fun r u hu => ?_)
      rw [show whenS (ok (cop3 b len n st k).1 && !(refM m n (nI p1) (nI p2) (nI p3) == 0)) 3 (cop3 b len n st k).1 = (cop4 b len n st m k) by rw [cop4_eq hp1 hp2 hp3]; exact when_eq (fun z => by rw [z, Bool.true_and])] at hu
      obtain ⟨hR6, hF6⟩ := hu
      obtain ⟨g6, eg6⟩ : ∃ x, x = u := ⟨u, rfl⟩
      subst eg6
      have hFb := hFa.tr hF6
      have hRow6 : RowR m (g6 1) := by rw [hFb.1 1 (by decide)]; exact hRow
      have hs6 : g6 0 2 = nI n := (hFb.2 2 (by decide)).trans hs
      have hK6 := hK.fq hFb
      have J98 : ∀ g8 : G, QR b len (cop4 b len n st m k) g8 → FLn g g8 → g8 0 2 = nI n → KQ k g8 → RowR (if ok (cop4 b len n st m k) = true then copyM n p1 p2 p3 m else m) (g8 1) → V X (qS (xK X) h) 98 [some (.ref (h 0)), none, none, none] [] g8 0 0 := by
        intro g8 hR8 hL8 hs8 hK8 hRow8
        have hk9 : (cop4 b len n st m k).2.1 = 0 → ¬ (cop4 b len n st m k).1.1 = 4 := by
          rw [cop4_eq hp1 hp2 hp3]
          refine when_k (by decide) (fun z => ?_)
          have w := cop3_k2 z
          rw [w]
          decide
        refine v_aload_n C dX6_copyLine_98 rfl ?_
        refine v_callVv C (c_X6_goesOn hl hR8 hb hk9) ym_X6_goesOn ml_X6_106 emb_id_qS rfl rfl rfl rfl rfl dX6_copyLine_99 (Nat.le_of_ble_eq_true rfl) (Nat.le_of_ble_eq_true rfl) (Nat.le_of_ble_eq_true rfl) (Nat.le_of_ble_eq_true rfl) (fun _ _ hu => hu.elim) (fun r u hu => ?_)
        obtain ⟨hR9, hF9⟩ := hu
        obtain ⟨g9, eg9⟩ : ∃ x, x = u := ⟨u, rfl⟩
        subst eg9
        have hK9 := hK8.fq hF9
        refine v_aload_n C dX6_copyLine_102 rfl ?_
        refine v_dup C dX6_copyLine_103 rfl ?_
        refine v_getiQ (x := nI k.2.2.1) C fl_X6_120 oi_qS_0_20 (hK9.2.2.1) dX6_copyLine_104 ?_
        refine v_iconst (v := nI 1) C dX6_copyLine_107 (by decide) ?_
        first | refine v_iaddN C dX6_copyLine_108 ?_ | refine v_iadd C dX6_copyLine_108 ?_
        refine v_puti C fl_X6_120 fw_X6_20 oi_qS_0_20 ⟨rfl, rfl⟩ dX6_copyLine_109 ?_
        refine V.stt (g2 := (sG g9 0 (upd (g9 0) 20 (nI (k.2.2.1 + 1))))) (rfl) ?_
        refine v_vret C F dX6_copyLine_112 (Nat.le_of_ble_eq_true rfl) (Nat.le_of_ble_eq_true rfl) ?_
        rw [lnCopy_eq hp1 hp2 hp3]
        have hs9 := (hF9.2 2 (by decide)).trans hs8
        have hRow9 := Row_at hRow8 (hF9.1 1 (by decide))
        exact ⟨QXr_mk (QR.cnt hR9 (by decide)) (Row_at hRow9 rfl) hK9.c20 hs9, FLn.cnt (hL8.tr hF9.fl) (by decide) (by decide)⟩
      refine v_aload_n C dX6_copyLine_84 rfl ?_
      refine v_getiQ (x := nI (cop4 b len n st m k).2.1) C fl_X6_76 oi_qS_0_16 (hR6.2.2.2.2.1) dX6_copyLine_85 ?_
      refine v_if_ne C 98 dX6_copyLine_88 (by decide) (fun c88 => ?_) (fun c88 => ?_)
      · have hz4 : ¬ (cop4 b len n st m k).2.1 = 0 := fun z => c88 (by rw [z]; rfl)
        refine V.sub (lo2 := [some _, none, none, none]) ⟨rfl, trivial⟩ ?_
        first
        | exact J98 _ hR8 hL8 hs8 hK8 hRow8
        | exact J98 _ hR6 hFb.fl hs6 hK6 (by rw [if_neg (by rw [ok_b hz4]; exact Bool.false_ne_true)]; exact hRow6)
      · have hz4 : (cop4 b len n st m k).2.1 = 0 := nI_inj (b := 0) (by have := hR6.2.2.2.1; omega) (by omega) c88
        have hcz := refM_z hI.1 h96 (show p1 ≤ n - 1 ∧ p2 ≤ n - 1 ∧ p3 ≤ n from ⟨rg1, rg2, rg3⟩) (cop4_zz hp1 hp2 hp3 hz4)
        refine v_aload_n C dX6_copyLine_91 rfl ?_
        refine v_iload_n C dX6_copyLine_92 rfl ?_
        refine v_iload_n C dX6_copyLine_93 rfl ?_
        refine v_iload_n C dX6_copyLine_94 rfl ?_
        refine v_callVv C (c_X6_copies hl (g := g6) (m := m) (n := n) (lim := lim) hRow6 hE hI hs6 hlim hlim96 hcz.1 hcz.2.1 hcz.2.2) ym_X6_copies ml_X6_139 emb_id_qS rfl rfl rfl rfl rfl dX6_copyLine_95 (Nat.le_of_ble_eq_true rfl) (Nat.le_of_ble_eq_true rfl) (Nat.le_of_ble_eq_true rfl) (Nat.le_of_ble_eq_true rfl) (fun _ _ hu => hu.elim) (fun r u hu => ?_)
        obtain ⟨hd, f, hu, hRf⟩ := hu
        subst u
        obtain ⟨g8, eg8⟩ : ∃ x, x = sG (sG g6 5 hd) 1 f := ⟨_, rfl⟩
        have hR8 : QR b len (cop4 b len n st m k) g8 := by rw [eg8]; exact QR.row (QR.had hR6)
        have hL8 : FLn g g8 := by rw [eg8]; exact FLn.row (FLn.had hFb.fl)
        have hs8 : g8 0 2 = nI n := by rw [eg8]; exact hs6
        have hK8 : KQ k g8 := by rw [eg8]; exact hK6
        have hRow8 : RowR (if ok (cop4 b len n st m k) = true then copyM n p1 p2 p3 m else m) (g8 1) := by rw [if_pos (ok_gz hz4), eg8]; exact hRf
        refine V.stt (g2 := g8) eg8.symm ?_
        refine V.sub (lo2 := [some _, none, none, none]) ⟨rfl, trivial⟩ ?_
        first
        | exact J98 _ hR8 hL8 hs8 hK8 hRow8
        | exact J98 _ hR6 hFb.fl hs6 hK6 (by rw [if_neg (by rw [ok_b hz4]; exact Bool.false_ne_true)]; exact hRow6)
    · have hz3 : (cop3 b len n st k).1.2.1 = 0 := nI_inj (b := 0) (by have := hR5.2.2.2.1; omega) (by omega) c62
      refine v_aload_n C dX6_copyLine_65 rfl ?_
      refine v_iload_n C dX6_copyLine_66 rfl ?_
      refine v_iload_n C dX6_copyLine_67 rfl ?_
      refine v_iload_n C dX6_copyLine_68 rfl ?_
      refine v_callVi C (c_X6_whyNot hl (g := g5) (m := m) (n := n) hRow5 hs5 hI.1 h96 hLK) ym_X6_whyNot ml_X6_135 emb_id_qS rfl rfl rfl rfl rfl dX6_copyLine_69 (Nat.le_of_ble_eq_true rfl) (Nat.le_of_ble_eq_true rfl) (Nat.le_of_ble_eq_true rfl) (Nat.le_of_ble_eq_true rfl) (fun _ _ hu => hu.elim) (fun r u hu => ?_)
      obtain ⟨rfl, hu⟩ := hu
      subst u
      refine V.stt (g2 := g5) (rfl) ?_
      refine v_if_eq C 79 dX6_copyLine_72 (by decide) (fun c72 => ?_) (fun c72 => ?_)
      · refine v_iconst (v := nI 0) C dX6_copyLine_79 (by decide) ?_
        refine V.eqs (st2 := [.int (bI (ok (cop3 b len n st k).1 && !(refM m n (nI p1) (nI p2) (nI p3) == 0))), .ref (h 0)]) ?_ (congrArg (fun z => [Value.int z, Value.ref (h 0)]) (by first | exact bI_f (by rw [ok_b hz3]; rfl) | exact bI_f (by rw [ok_gz hz3, beq_iff_eq.mpr c72]; rfl) | exact bI_t (by rw [ok_gz hz3, beq_eq_false_iff_ne.mpr c72]; rfl)))
        refine v_iconst (v := nI 3) C dX6_copyLine_80 (by decide) ?_
        refine v_callVv C (c_X6_failsIf hl (cd := 3) (p := ok (cop3 b len n st k).1 && !(refM m n (nI p1) (nI p2) (nI p3) == 0)) hR5 (by decide) (by decide)) ym_X6_failsIf ml_X6_113 emb_id_qS rfl rfl rfl rfl rfl dX6_copyLine_81 (Nat.le_of_ble_eq_true rfl) (Nat.le_of_ble_eq_true rfl) (Nat.le_of_ble_eq_true rfl) (Nat.le_of_ble_eq_true rfl) (fun _ _ hu => hu.elim) (fun r u hu => ?_)
        rw [show whenS (ok (cop3 b len n st k).1 && !(refM m n (nI p1) (nI p2) (nI p3) == 0)) 3 (cop3 b len n st k).1 = (cop4 b len n st m k) by rw [cop4_eq hp1 hp2 hp3]; exact when_eq (fun z => by rw [z, Bool.true_and])] at hu
        obtain ⟨hR6, hF6⟩ := hu
        obtain ⟨g6, eg6⟩ : ∃ x, x = u := ⟨u, rfl⟩
        subst eg6
        have hFb := hFa.tr hF6
        have hRow6 : RowR m (g6 1) := by rw [hFb.1 1 (by decide)]; exact hRow
        have hs6 : g6 0 2 = nI n := (hFb.2 2 (by decide)).trans hs
        have hK6 := hK.fq hFb
        have J98 : ∀ g8 : G, QR b len (cop4 b len n st m k) g8 → FLn g g8 → g8 0 2 = nI n → KQ k g8 → RowR (if ok (cop4 b len n st m k) = true then copyM n p1 p2 p3 m else m) (g8 1) → V X (qS (xK X) h) 98 [some (.ref (h 0)), none, none, none] [] g8 0 0 := by
          intro g8 hR8 hL8 hs8 hK8 hRow8
          have hk9 : (cop4 b len n st m k).2.1 = 0 → ¬ (cop4 b len n st m k).1.1 = 4 := by
            rw [cop4_eq hp1 hp2 hp3]
            refine when_k (by decide) (fun z => ?_)
            have w := cop3_k2 z
            rw [w]
            decide
          refine v_aload_n C dX6_copyLine_98 rfl ?_
          refine v_callVv C (c_X6_goesOn hl hR8 hb hk9) ym_X6_goesOn ml_X6_106 emb_id_qS rfl rfl rfl rfl rfl dX6_copyLine_99 (Nat.le_of_ble_eq_true rfl) (Nat.le_of_ble_eq_true rfl) (Nat.le_of_ble_eq_true rfl) (Nat.le_of_ble_eq_true rfl) (fun _ _ hu => hu.elim) (fun r u hu => ?_)
          obtain ⟨hR9, hF9⟩ := hu
          obtain ⟨g9, eg9⟩ : ∃ x, x = u := ⟨u, rfl⟩
          subst eg9
          have hK9 := hK8.fq hF9
          refine v_aload_n C dX6_copyLine_102 rfl ?_
          refine v_dup C dX6_copyLine_103 rfl ?_
          refine v_getiQ (x := nI k.2.2.1) C fl_X6_120 oi_qS_0_20 (hK9.2.2.1) dX6_copyLine_104 ?_
          refine v_iconst (v := nI 1) C dX6_copyLine_107 (by decide) ?_
          first | refine v_iaddN C dX6_copyLine_108 ?_ | refine v_iadd C dX6_copyLine_108 ?_
          refine v_puti C fl_X6_120 fw_X6_20 oi_qS_0_20 ⟨rfl, rfl⟩ dX6_copyLine_109 ?_
          refine V.stt (g2 := (sG g9 0 (upd (g9 0) 20 (nI (k.2.2.1 + 1))))) (rfl) ?_
          refine v_vret C F dX6_copyLine_112 (Nat.le_of_ble_eq_true rfl) (Nat.le_of_ble_eq_true rfl) ?_
          rw [lnCopy_eq hp1 hp2 hp3]
          have hs9 := (hF9.2 2 (by decide)).trans hs8
          have hRow9 := Row_at hRow8 (hF9.1 1 (by decide))
          exact ⟨QXr_mk (QR.cnt hR9 (by decide)) (Row_at hRow9 rfl) hK9.c20 hs9, FLn.cnt (hL8.tr hF9.fl) (by decide) (by decide)⟩
        refine v_aload_n C dX6_copyLine_84 rfl ?_
        refine v_getiQ (x := nI (cop4 b len n st m k).2.1) C fl_X6_76 oi_qS_0_16 (hR6.2.2.2.2.1) dX6_copyLine_85 ?_
        refine v_if_ne C 98 dX6_copyLine_88 (by decide) (fun c88 => ?_) (fun c88 => ?_)
        · have hz4 : ¬ (cop4 b len n st m k).2.1 = 0 := fun z => c88 (by rw [z]; rfl)
          refine V.sub (lo2 := [some _, none, none, none]) ⟨rfl, trivial⟩ ?_
          first
          | exact J98 _ hR8 hL8 hs8 hK8 hRow8
          | exact J98 _ hR6 hFb.fl hs6 hK6 (by rw [if_neg (by rw [ok_b hz4]; exact Bool.false_ne_true)]; exact hRow6)
        · have hz4 : (cop4 b len n st m k).2.1 = 0 := nI_inj (b := 0) (by have := hR6.2.2.2.1; omega) (by omega) c88
          have hcz := refM_z hI.1 h96 (show p1 ≤ n - 1 ∧ p2 ≤ n - 1 ∧ p3 ≤ n from ⟨rg1, rg2, rg3⟩) (cop4_zz hp1 hp2 hp3 hz4)
          refine v_aload_n C dX6_copyLine_91 rfl ?_
          refine v_iload_n C dX6_copyLine_92 rfl ?_
          refine v_iload_n C dX6_copyLine_93 rfl ?_
          refine v_iload_n C dX6_copyLine_94 rfl ?_
          refine v_callVv C (c_X6_copies hl (g := g6) (m := m) (n := n) (lim := lim) hRow6 hE hI hs6 hlim hlim96 hcz.1 hcz.2.1 hcz.2.2) ym_X6_copies ml_X6_139 emb_id_qS rfl rfl rfl rfl rfl dX6_copyLine_95 (Nat.le_of_ble_eq_true rfl) (Nat.le_of_ble_eq_true rfl) (Nat.le_of_ble_eq_true rfl) (Nat.le_of_ble_eq_true rfl) (fun _ _ hu => hu.elim) (fun r u hu => ?_)
          obtain ⟨hd, f, hu, hRf⟩ := hu
          subst u
          obtain ⟨g8, eg8⟩ : ∃ x, x = sG (sG g6 5 hd) 1 f := ⟨_, rfl⟩
          have hR8 : QR b len (cop4 b len n st m k) g8 := by rw [eg8]; exact QR.row (QR.had hR6)
          have hL8 : FLn g g8 := by rw [eg8]; exact FLn.row (FLn.had hFb.fl)
          have hs8 : g8 0 2 = nI n := by rw [eg8]; exact hs6
          have hK8 : KQ k g8 := by rw [eg8]; exact hK6
          have hRow8 : RowR (if ok (cop4 b len n st m k) = true then copyM n p1 p2 p3 m else m) (g8 1) := by rw [if_pos (ok_gz hz4), eg8]; exact hRf
          refine V.stt (g2 := g8) eg8.symm ?_
          refine V.sub (lo2 := [some _, none, none, none]) ⟨rfl, trivial⟩ ?_
          first
          | exact J98 _ hR8 hL8 hs8 hK8 hRow8
          | exact J98 _ hR6 hFb.fl hs6 hK6 (by rw [if_neg (by rw [ok_b hz4]; exact Bool.false_ne_true)]; exact hRow6)
      · refine v_iconst (v := nI 1) C dX6_copyLine_75 (by decide) ?_
        refine v_goto C 80 dX6_copyLine_76 (by decide) ?_
        refine V.eqs (st2 := [.int (bI (ok (cop3 b len n st k).1 && !(refM m n (nI p1) (nI p2) (nI p3) == 0))), .ref (h 0)]) ?_ (congrArg (fun z => [Value.int z, Value.ref (h 0)]) (by first | exact bI_f (by rw [ok_b hz3]; rfl) | exact bI_f (by rw [ok_gz hz3, beq_iff_eq.mpr c72]; rfl) | exact bI_t (by rw [ok_gz hz3, beq_eq_false_iff_ne.mpr c72]; rfl)))
        refine v_iconst (v := nI 3) C dX6_copyLine_80 (by decide) ?_
        refine v_callVv C (c_X6_failsIf hl (cd := 3) (p := ok (cop3 b len n st k).1 && !(refM m n (nI p1) (nI p2) (nI p3) == 0)) hR5 (by decide) (by decide)) ym_X6_failsIf ml_X6_113 emb_id_qS rfl rfl rfl rfl rfl dX6_copyLine_81 (Nat.le_of_ble_eq_true rfl) (Nat.le_of_ble_eq_true rfl) (Nat.le_of_ble_eq_true rfl) (Nat.le_of_ble_eq_true rfl) (fun _ _ hu => hu.elim) (fun r u hu => ?_)
        rw [show whenS (ok (cop3 b len n st k).1 && !(refM m n (nI p1) (nI p2) (nI p3) == 0)) 3 (cop3 b len n st k).1 = (cop4 b len n st m k) by rw [cop4_eq hp1 hp2 hp3]; exact when_eq (fun z => by rw [z, Bool.true_and])] at hu
        obtain ⟨hR6, hF6⟩ := hu
        obtain ⟨g6, eg6⟩ : ∃ x, x = u := ⟨u, rfl⟩
        subst eg6
        have hFb := hFa.tr hF6
        have hRow6 : RowR m (g6 1) := by rw [hFb.1 1 (by decide)]; exact hRow
        have hs6 : g6 0 2 = nI n := (hFb.2 2 (by decide)).trans hs
        have hK6 := hK.fq hFb
        have J98 : ∀ g8 : G, QR b len (cop4 b len n st m k) g8 → FLn g g8 → g8 0 2 = nI n → KQ k g8 → RowR (if ok (cop4 b len n st m k) = true then copyM n p1 p2 p3 m else m) (g8 1) → V X (qS (xK X) h) 98 [some (.ref (h 0)), none, none, none] [] g8 0 0 := by
          intro g8 hR8 hL8 hs8 hK8 hRow8
          have hk9 : (cop4 b len n st m k).2.1 = 0 → ¬ (cop4 b len n st m k).1.1 = 4 := by
            rw [cop4_eq hp1 hp2 hp3]
            refine when_k (by decide) (fun z => ?_)
            have w := cop3_k2 z
            rw [w]
            decide
          refine v_aload_n C dX6_copyLine_98 rfl ?_
          refine v_callVv C (c_X6_goesOn hl hR8 hb hk9) ym_X6_goesOn ml_X6_106 emb_id_qS rfl rfl rfl rfl rfl dX6_copyLine_99 (Nat.le_of_ble_eq_true rfl) (Nat.le_of_ble_eq_true rfl) (Nat.le_of_ble_eq_true rfl) (Nat.le_of_ble_eq_true rfl) (fun _ _ hu => hu.elim) (fun r u hu => ?_)
          obtain ⟨hR9, hF9⟩ := hu
          obtain ⟨g9, eg9⟩ : ∃ x, x = u := ⟨u, rfl⟩
          subst eg9
          have hK9 := hK8.fq hF9
          refine v_aload_n C dX6_copyLine_102 rfl ?_
          refine v_dup C dX6_copyLine_103 rfl ?_
          refine v_getiQ (x := nI k.2.2.1) C fl_X6_120 oi_qS_0_20 (hK9.2.2.1) dX6_copyLine_104 ?_
          refine v_iconst (v := nI 1) C dX6_copyLine_107 (by decide) ?_
          first | refine v_iaddN C dX6_copyLine_108 ?_ | refine v_iadd C dX6_copyLine_108 ?_
          refine v_puti C fl_X6_120 fw_X6_20 oi_qS_0_20 ⟨rfl, rfl⟩ dX6_copyLine_109 ?_
          refine V.stt (g2 := (sG g9 0 (upd (g9 0) 20 (nI (k.2.2.1 + 1))))) (rfl) ?_
          refine v_vret C F dX6_copyLine_112 (Nat.le_of_ble_eq_true rfl) (Nat.le_of_ble_eq_true rfl) ?_
          rw [lnCopy_eq hp1 hp2 hp3]
          have hs9 := (hF9.2 2 (by decide)).trans hs8
          have hRow9 := Row_at hRow8 (hF9.1 1 (by decide))
          exact ⟨QXr_mk (QR.cnt hR9 (by decide)) (Row_at hRow9 rfl) hK9.c20 hs9, FLn.cnt (hL8.tr hF9.fl) (by decide) (by decide)⟩
        refine v_aload_n C dX6_copyLine_84 rfl ?_
        refine v_getiQ (x := nI (cop4 b len n st m k).2.1) C fl_X6_76 oi_qS_0_16 (hR6.2.2.2.2.1) dX6_copyLine_85 ?_
        refine v_if_ne C 98 dX6_copyLine_88 (by decide) (fun c88 => ?_) (fun c88 => ?_)
        · have hz4 : ¬ (cop4 b len n st m k).2.1 = 0 := fun z => c88 (by rw [z]; rfl)
          refine V.sub (lo2 := [some _, none, none, none]) ⟨rfl, trivial⟩ ?_
          first
          | exact J98 _ hR8 hL8 hs8 hK8 hRow8
          | exact J98 _ hR6 hFb.fl hs6 hK6 (by rw [if_neg (by rw [ok_b hz4]; exact Bool.false_ne_true)]; exact hRow6)
        · have hz4 : (cop4 b len n st m k).2.1 = 0 := nI_inj (b := 0) (by have := hR6.2.2.2.1; omega) (by omega) c88
          have hcz := refM_z hI.1 h96 (show p1 ≤ n - 1 ∧ p2 ≤ n - 1 ∧ p3 ≤ n from ⟨rg1, rg2, rg3⟩) (cop4_zz hp1 hp2 hp3 hz4)
          refine v_aload_n C dX6_copyLine_91 rfl ?_
          refine v_iload_n C dX6_copyLine_92 rfl ?_
          refine v_iload_n C dX6_copyLine_93 rfl ?_
          refine v_iload_n C dX6_copyLine_94 rfl ?_
          refine v_callVv C (c_X6_copies hl (g := g6) (m := m) (n := n) (lim := lim) hRow6 hE hI hs6 hlim hlim96 hcz.1 hcz.2.1 hcz.2.2) ym_X6_copies ml_X6_139 emb_id_qS rfl rfl rfl rfl rfl dX6_copyLine_95 (Nat.le_of_ble_eq_true rfl) (Nat.le_of_ble_eq_true rfl) (Nat.le_of_ble_eq_true rfl) (Nat.le_of_ble_eq_true rfl) (fun _ _ hu => hu.elim) (fun r u hu => ?_)
          obtain ⟨hd, f, hu, hRf⟩ := hu
          subst u
          obtain ⟨g8, eg8⟩ : ∃ x, x = sG (sG g6 5 hd) 1 f := ⟨_, rfl⟩
          have hR8 : QR b len (cop4 b len n st m k) g8 := by rw [eg8]; exact QR.row (QR.had hR6)
          have hL8 : FLn g g8 := by rw [eg8]; exact FLn.row (FLn.had hFb.fl)
          have hs8 : g8 0 2 = nI n := by rw [eg8]; exact hs6
          have hK8 : KQ k g8 := by rw [eg8]; exact hK6
          have hRow8 : RowR (if ok (cop4 b len n st m k) = true then copyM n p1 p2 p3 m else m) (g8 1) := by rw [if_pos (ok_gz hz4), eg8]; exact hRf
          refine V.stt (g2 := g8) eg8.symm ?_
          refine V.sub (lo2 := [some _, none, none, none]) ⟨rfl, trivial⟩ ?_
          first
          | exact J98 _ hR8 hL8 hs8 hK8 hRow8
          | exact J98 _ hR6 hFb.fl hs6 hK6 (by rw [if_neg (by rw [ok_b hz4]; exact Bool.false_ne_true)]; exact hRow6)
  · refine v_iconst (v := nI 1) C dX6_copyLine_10 (by decide) ?_
    refine v_goto C 15 dX6_copyLine_11 (by decide) ?_
    refine V.eqs (st2 := [.int (bI (decide (k.2.2.1 = 20))), .ref (h 0)]) ?_ (congrArg (fun z => [Value.int z, Value.ref (h 0)]) (by first | exact bI_t (decide_eq_true (by omega)) | exact bI_f (decide_eq_false (by omega))))
    refine v_iconst (v := nI 4) C dX6_copyLine_15 (by decide) ?_
    refine v_callVv C (c_X6_failsIf hl (cd := 4) (p := decide (k.2.2.1 = 20)) hR (by decide) (by decide)) ym_X6_failsIf ml_X6_113 emb_id_qS rfl rfl rfl rfl rfl dX6_copyLine_16 (Nat.le_of_ble_eq_true rfl) (Nat.le_of_ble_eq_true rfl) (Nat.le_of_ble_eq_true rfl) (Nat.le_of_ble_eq_true rfl) (fun _ _ hu => hu.elim) (fun r u hu => ?_)
    rw [hWe] at hu
    obtain ⟨hR1, hF1⟩ := hu
    obtain ⟨g1, eg1⟩ : ∃ x, x = u := ⟨u, rfl⟩
    subst eg1
    refine v_aload_n C dX6_copyLine_19 rfl ?_
    refine v_callVv C (c_X6_goesOn hl hR1 hb (when_k (by decide) hk4)) ym_X6_goesOn ml_X6_106 emb_id_qS rfl rfl rfl rfl rfl dX6_copyLine_20 (Nat.le_of_ble_eq_true rfl) (Nat.le_of_ble_eq_true rfl) (Nat.le_of_ble_eq_true rfl) (Nat.le_of_ble_eq_true rfl) (fun _ _ hu => hu.elim) (fun r u hu => ?_)
    obtain ⟨hR2, hF2⟩ := hu
    obtain ⟨g2, eg2⟩ : ∃ x, x = u := ⟨u, rfl⟩
    subst eg2
    have hs2 : g2 0 2 = nI n := (hF2.2 2 (by decide)).trans ((hF1.2 2 (by decide)).trans hs)
    refine v_aload_n C dX6_copyLine_23 rfl ?_
    refine v_iconst (v := nI 0) C dX6_copyLine_24 (by decide) ?_
    refine v_aload_n C dX6_copyLine_25 rfl ?_
    refine v_getiQ (x := nI n) C fl_X6_126 oi_qS_0_2 (hs2) dX6_copyLine_26 ?_
    refine v_iconst (v := nI 1) C dX6_copyLine_29 (by decide) ?_
    first | refine v_isubN C dX6_copyLine_30 (by omega) ?_ | refine v_isub C dX6_copyLine_30 ?_
    refine v_callVi C (c_X6_takesN hl (s0 := (whenS (decide (20 < k.2.2.1 + 1)) 4 st)) hR2 (by omega) (by omega) hb) ym_X6_takes ml_X6_117 emb_id_qS rfl rfl rfl rfl rfl dX6_copyLine_31 (Nat.le_of_ble_eq_true rfl) (Nat.le_of_ble_eq_true rfl) (Nat.le_of_ble_eq_true rfl) (Nat.le_of_ble_eq_true rfl) (fun _ _ hu => hu.elim) (fun r u hu => ?_)
    obtain ⟨rfl, hR3, hF3⟩ := hu
    obtain ⟨g3, eg3⟩ : ∃ x, x = u := ⟨u, rfl⟩
    subst eg3
    have hR3 : QR b len (advS b len (cop1 b len n st k).1) g3 := hR3
    show V X _ _ _ (Value.int (nI (cop1 b len n st k).2) :: _) _ _ _
    obtain ⟨p1, hp1⟩ : ∃ x, EqH x (cop1 b len n st k).2 := ⟨_, rfl⟩
    have hp1e : (cop1 b len n st k).2 = p1 := Eq.symm hp1
    rw [hp1e]
    clear hp1e
    have rg1 := (numS_h (Nat.zero_le _) hp1).2
    have hs3 : g3 0 2 = nI n := (hF3.2 2 (by decide)).trans hs2
    refine v_istore_n C (lo2 := [some _, some _, none, none]) dX6_copyLine_34 rfl (Nat.le_of_ble_eq_true rfl) rfl ?_
    refine v_aload_n C dX6_copyLine_35 rfl ?_
    refine v_iconst (v := nI 0) C dX6_copyLine_36 (by decide) ?_
    refine v_aload_n C dX6_copyLine_37 rfl ?_
    refine v_getiQ (x := nI n) C fl_X6_126 oi_qS_0_2 (hs3) dX6_copyLine_38 ?_
    refine v_iconst (v := nI 1) C dX6_copyLine_41 (by decide) ?_
    first | refine v_isubN C dX6_copyLine_42 (by omega) ?_ | refine v_isub C dX6_copyLine_42 ?_
    refine v_callVi C (c_X6_takesN hl (s0 := (cop1 b len n st k).1) hR3 (by omega) (by omega) hb) ym_X6_takes ml_X6_117 emb_id_qS rfl rfl rfl rfl rfl dX6_copyLine_43 (Nat.le_of_ble_eq_true rfl) (Nat.le_of_ble_eq_true rfl) (Nat.le_of_ble_eq_true rfl) (Nat.le_of_ble_eq_true rfl) (fun _ _ hu => hu.elim) (fun r u hu => ?_)
    obtain ⟨rfl, hR4, hF4⟩ := hu
    obtain ⟨g4, eg4⟩ : ∃ x, x = u := ⟨u, rfl⟩
    subst eg4
    have hR4 : QR b len (advS b len (cop2 b len n st k).1) g4 := hR4
    show V X _ _ _ (Value.int (nI (cop2 b len n st k).2) :: _) _ _ _
    obtain ⟨p2, hp2⟩ : ∃ x, EqH x (cop2 b len n st k).2 := ⟨_, rfl⟩
    have hp2e : (cop2 b len n st k).2 = p2 := Eq.symm hp2
    rw [hp2e]
    clear hp2e
    have rg2 := (numS_h (Nat.zero_le _) hp2).2
    have hs4 : g4 0 2 = nI n := (hF4.2 2 (by decide)).trans hs3
    refine v_istore_n C (lo2 := [some _, some _, some _, none]) dX6_copyLine_46 rfl (Nat.le_of_ble_eq_true rfl) rfl ?_
    refine v_aload_n C dX6_copyLine_47 rfl ?_
    refine v_iconst (v := nI 1) C dX6_copyLine_48 (by decide) ?_
    refine v_aload_n C dX6_copyLine_49 rfl ?_
    refine v_getiQ (x := nI n) C fl_X6_126 oi_qS_0_2 (hs4) dX6_copyLine_50 ?_
    refine v_callVi C (c_X6_numberHereN hl (s0 := (cop2 b len n st k).1) hR4 (by omega) (by omega)) ym_X6_numberHere ml_X6_102 emb_id_qS rfl rfl rfl rfl rfl dX6_copyLine_53 (Nat.le_of_ble_eq_true rfl) (Nat.le_of_ble_eq_true rfl) (Nat.le_of_ble_eq_true rfl) (Nat.le_of_ble_eq_true rfl) (fun _ _ hu => hu.elim) (fun r u hu => ?_)
    obtain ⟨rfl, hR5, hF5⟩ := hu
    obtain ⟨g5, eg5⟩ : ∃ x, x = u := ⟨u, rfl⟩
    subst eg5
    have hR5 : QR b len (cop3 b len n st k).1 g5 := hR5
    show V X _ _ _ (Value.int (nI (cop3 b len n st k).2) :: _) _ _ _
    obtain ⟨p3, hp3⟩ : ∃ x, EqH x (cop3 b len n st k).2 := ⟨_, rfl⟩
    have hp3e : (cop3 b len n st k).2 = p3 := Eq.symm hp3
    rw [hp3e]
    clear hp3e
    have rg3 := (numS_h hn1 hp3).2
    have hs5 : g5 0 2 = nI n := (hF5.2 2 (by decide)).trans hs4
    have hFa := ((hF1.tr hF2).tr hF3).tr (hF4.tr hF5)
    have hRow5 : RowR m (g5 1) := by rw [hFa.1 1 (by decide)]; exact hRow
    refine v_istore_n C (lo2 := [some _, some _, some _, some _]) dX6_copyLine_56 rfl (Nat.le_of_ble_eq_true rfl) rfl ?_
    refine v_aload_n C dX6_copyLine_57 rfl ?_
    refine v_aload_n C dX6_copyLine_58 rfl ?_
    refine v_getiQ (x := nI (cop3 b len n st k).1.2.1) C fl_X6_76 oi_qS_0_16 (hR5.2.2.2.2.1) dX6_copyLine_59 ?_
    refine v_if_ne C 79 dX6_copyLine_62 (by decide) (fun c62 => ?_) (fun c62 => ?_)
    · have hz3 : ¬ (cop3 b len n st k).1.2.1 = 0 := fun z => c62 (by rw [z]; rfl)
      refine v_iconst (v := nI 0) C dX6_copyLine_79 (by decide) ?_
      refine V.eqs (st2 := [.int (bI (ok (cop3 b len n st k).1 && !(refM m n (nI p1) (nI p2) (nI p3) == 0))), .ref (h 0)]) ?_ (congrArg (fun z => [Value.int z, Value.ref (h 0)]) (by first | exact bI_f (by rw [ok_b hz3]; rfl) | exact bI_f (by rw [ok_gz hz3, beq_iff_eq.mpr c72]; rfl) | exact bI_t (by rw [ok_gz hz3, beq_eq_false_iff_ne.mpr c72]; rfl)))
      refine v_iconst (v := nI 3) C dX6_copyLine_80 (by decide) ?_
      refine v_callVv C (c_X6_failsIf hl (cd := 3) (p := ok (cop3 b len n st k).1 && !(refM m n (nI p1) (nI p2) (nI p3) == 0)) hR5 (by decide) (by decide)) ym_X6_failsIf ml_X6_113 emb_id_qS rfl rfl rfl rfl rfl dX6_copyLine_81 (Nat.le_of_ble_eq_true rfl) (Nat.le_of_ble_eq_true rfl) (Nat.le_of_ble_eq_true rfl) (Nat.le_of_ble_eq_true rfl) (fun _ _ hu => hu.elim) (fun r u hu => ?_)
      rw [show whenS (ok (cop3 b len n st k).1 && !(refM m n (nI p1) (nI p2) (nI p3) == 0)) 3 (cop3 b len n st k).1 = (cop4 b len n st m k) by rw [cop4_eq hp1 hp2 hp3]; exact when_eq (fun z => by rw [z, Bool.true_and])] at hu
      obtain ⟨hR6, hF6⟩ := hu
      obtain ⟨g6, eg6⟩ : ∃ x, x = u := ⟨u, rfl⟩
      subst eg6
      have hFb := hFa.tr hF6
      have hRow6 : RowR m (g6 1) := by rw [hFb.1 1 (by decide)]; exact hRow
      have hs6 : g6 0 2 = nI n := (hFb.2 2 (by decide)).trans hs
      have hK6 := hK.fq hFb
      have J98 : ∀ g8 : G, QR b len (cop4 b len n st m k) g8 → FLn g g8 → g8 0 2 = nI n → KQ k g8 → RowR (if ok (cop4 b len n st m k) = true then copyM n p1 p2 p3 m else m) (g8 1) → V X (qS (xK X) h) 98 [some (.ref (h 0)), none, none, none] [] g8 0 0 := by
        intro g8 hR8 hL8 hs8 hK8 hRow8
        have hk9 : (cop4 b len n st m k).2.1 = 0 → ¬ (cop4 b len n st m k).1.1 = 4 := by
          rw [cop4_eq hp1 hp2 hp3]
          refine when_k (by decide) (fun z => ?_)
          have w := cop3_k2 z
          rw [w]
          decide
        refine v_aload_n C dX6_copyLine_98 rfl ?_
        refine v_callVv C (c_X6_goesOn hl hR8 hb hk9) ym_X6_goesOn ml_X6_106 emb_id_qS rfl rfl rfl rfl rfl dX6_copyLine_99 (Nat.le_of_ble_eq_true rfl) (Nat.le_of_ble_eq_true rfl) (Nat.le_of_ble_eq_true rfl) (Nat.le_of_ble_eq_true rfl) (fun _ _ hu => hu.elim) (fun r u hu => ?_)
        obtain ⟨hR9, hF9⟩ := hu
        obtain ⟨g9, eg9⟩ : ∃ x, x = u := ⟨u, rfl⟩
        subst eg9
        have hK9 := hK8.fq hF9
        refine v_aload_n C dX6_copyLine_102 rfl ?_
        refine v_dup C dX6_copyLine_103 rfl ?_
        refine v_getiQ (x := nI k.2.2.1) C fl_X6_120 oi_qS_0_20 (hK9.2.2.1) dX6_copyLine_104 ?_
        refine v_iconst (v := nI 1) C dX6_copyLine_107 (by decide) ?_
        first | refine v_iaddN C dX6_copyLine_108 ?_ | refine v_iadd C dX6_copyLine_108 ?_
        refine v_puti C fl_X6_120 fw_X6_20 oi_qS_0_20 ⟨rfl, rfl⟩ dX6_copyLine_109 ?_
        refine V.stt (g2 := (sG g9 0 (upd (g9 0) 20 (nI (k.2.2.1 + 1))))) (rfl) ?_
        refine v_vret C F dX6_copyLine_112 (Nat.le_of_ble_eq_true rfl) (Nat.le_of_ble_eq_true rfl) ?_
        rw [lnCopy_eq hp1 hp2 hp3]
        have hs9 := (hF9.2 2 (by decide)).trans hs8
        have hRow9 := Row_at hRow8 (hF9.1 1 (by decide))
        exact ⟨QXr_mk (QR.cnt hR9 (by decide)) (Row_at hRow9 rfl) hK9.c20 hs9, FLn.cnt (hL8.tr hF9.fl) (by decide) (by decide)⟩
      refine v_aload_n C dX6_copyLine_84 rfl ?_
      refine v_getiQ (x := nI (cop4 b len n st m k).2.1) C fl_X6_76 oi_qS_0_16 (hR6.2.2.2.2.1) dX6_copyLine_85 ?_
      refine v_if_ne C 98 dX6_copyLine_88 (by decide) (fun c88 => ?_) (fun c88 => ?_)
      · have hz4 : ¬ (cop4 b len n st m k).2.1 = 0 := fun z => c88 (by rw [z]; rfl)
        refine V.sub (lo2 := [some _, none, none, none]) ⟨rfl, trivial⟩ ?_
        first
        | exact J98 _ hR8 hL8 hs8 hK8 hRow8
        | exact J98 _ hR6 hFb.fl hs6 hK6 (by rw [if_neg (by rw [ok_b hz4]; exact Bool.false_ne_true)]; exact hRow6)
      · have hz4 : (cop4 b len n st m k).2.1 = 0 := nI_inj (b := 0) (by have := hR6.2.2.2.1; omega) (by omega) c88
        have hcz := refM_z hI.1 h96 (show p1 ≤ n - 1 ∧ p2 ≤ n - 1 ∧ p3 ≤ n from ⟨rg1, rg2, rg3⟩) (cop4_zz hp1 hp2 hp3 hz4)
        refine v_aload_n C dX6_copyLine_91 rfl ?_
        refine v_iload_n C dX6_copyLine_92 rfl ?_
        refine v_iload_n C dX6_copyLine_93 rfl ?_
        refine v_iload_n C dX6_copyLine_94 rfl ?_
        refine v_callVv C (c_X6_copies hl (g := g6) (m := m) (n := n) (lim := lim) hRow6 hE hI hs6 hlim hlim96 hcz.1 hcz.2.1 hcz.2.2) ym_X6_copies ml_X6_139 emb_id_qS rfl rfl rfl rfl rfl dX6_copyLine_95 (Nat.le_of_ble_eq_true rfl) (Nat.le_of_ble_eq_true rfl) (Nat.le_of_ble_eq_true rfl) (Nat.le_of_ble_eq_true rfl) (fun _ _ hu => hu.elim) (fun r u hu => ?_)
        obtain ⟨hd, f, hu, hRf⟩ := hu
        subst u
        obtain ⟨g8, eg8⟩ : ∃ x, x = sG (sG g6 5 hd) 1 f := ⟨_, rfl⟩
        have hR8 : QR b len (cop4 b len n st m k) g8 := by rw [eg8]; exact QR.row (QR.had hR6)
        have hL8 : FLn g g8 := by rw [eg8]; exact FLn.row (FLn.had hFb.fl)
        have hs8 : g8 0 2 = nI n := by rw [eg8]; exact hs6
        have hK8 : KQ k g8 := by rw [eg8]; exact hK6
        have hRow8 : RowR (if ok (cop4 b len n st m k) = true then copyM n p1 p2 p3 m else m) (g8 1) := by rw [if_pos (ok_gz hz4), eg8]; exact hRf
        refine V.stt (g2 := g8) eg8.symm ?_
        refine V.sub (lo2 := [some _, none, none, none]) ⟨rfl, trivial⟩ ?_
        first
        | exact J98 _ hR8 hL8 hs8 hK8 hRow8
        | exact J98 _ hR6 hFb.fl hs6 hK6 (by rw [if_neg (by rw [ok_b hz4]; exact Bool.false_ne_true)]; exact hRow6)
    · have hz3 : (cop3 b len n st k).1.2.1 = 0 := nI_inj (b := 0) (by have := hR5.2.2.2.1; omega) (by omega) c62
      refine v_aload_n C dX6_copyLine_65 rfl ?_
      refine v_iload_n C dX6_copyLine_66 rfl ?_
      refine v_iload_n C dX6_copyLine_67 rfl ?_
      refine v_iload_n C dX6_copyLine_68 rfl ?_
      refine v_callVi C (c_X6_whyNot hl (g := g5) (m := m) (n := n) hRow5 hs5 hI.1 h96 hLK) ym_X6_whyNot ml_X6_135 emb_id_qS rfl rfl rfl rfl rfl dX6_copyLine_69 (Nat.le_of_ble_eq_true rfl) (Nat.le_of_ble_eq_true rfl) (Nat.le_of_ble_eq_true rfl) (Nat.le_of_ble_eq_true rfl) (fun _ _ hu => hu.elim) (fun r u hu => ?_)
      obtain ⟨rfl, hu⟩ := hu
      subst u
      refine V.stt (g2 := g5) (rfl) ?_
      refine v_if_eq C 79 dX6_copyLine_72 (by decide) (fun c72 => ?_) (fun c72 => ?_)
      · refine v_iconst (v := nI 0) C dX6_copyLine_79 (by decide) ?_
        refine V.eqs (st2 := [.int (bI (ok (cop3 b len n st k).1 && !(refM m n (nI p1) (nI p2) (nI p3) == 0))), .ref (h 0)]) ?_ (congrArg (fun z => [Value.int z, Value.ref (h 0)]) (by first | exact bI_f (by rw [ok_b hz3]; rfl) | exact bI_f (by rw [ok_gz hz3, beq_iff_eq.mpr c72]; rfl) | exact bI_t (by rw [ok_gz hz3, beq_eq_false_iff_ne.mpr c72]; rfl)))
        refine v_iconst (v := nI 3) C dX6_copyLine_80 (by decide) ?_
        refine v_callVv C (c_X6_failsIf hl (cd := 3) (p := ok (cop3 b len n st k).1 && !(refM m n (nI p1) (nI p2) (nI p3) == 0)) hR5 (by decide) (by decide)) ym_X6_failsIf ml_X6_113 emb_id_qS rfl rfl rfl rfl rfl dX6_copyLine_81 (Nat.le_of_ble_eq_true rfl) (Nat.le_of_ble_eq_true rfl) (Nat.le_of_ble_eq_true rfl) (Nat.le_of_ble_eq_true rfl) (fun _ _ hu => hu.elim) (fun r u hu => ?_)
        rw [show whenS (ok (cop3 b len n st k).1 && !(refM m n (nI p1) (nI p2) (nI p3) == 0)) 3 (cop3 b len n st k).1 = (cop4 b len n st m k) by rw [cop4_eq hp1 hp2 hp3]; exact when_eq (fun z => by rw [z, Bool.true_and])] at hu
        obtain ⟨hR6, hF6⟩ := hu
        obtain ⟨g6, eg6⟩ : ∃ x, x = u := ⟨u, rfl⟩
        subst eg6
        have hFb := hFa.tr hF6
        have hRow6 : RowR m (g6 1) := by rw [hFb.1 1 (by decide)]; exact hRow
        have hs6 : g6 0 2 = nI n := (hFb.2 2 (by decide)).trans hs
        have hK6 := hK.fq hFb
        have J98 : ∀ g8 : G, QR b len (cop4 b len n st m k) g8 → FLn g g8 → g8 0 2 = nI n → KQ k g8 → RowR (if ok (cop4 b len n st m k) = true then copyM n p1 p2 p3 m else m) (g8 1) → V X (qS (xK X) h) 98 [some (.ref (h 0)), none, none, none] [] g8 0 0 := by
          intro g8 hR8 hL8 hs8 hK8 hRow8
          have hk9 : (cop4 b len n st m k).2.1 = 0 → ¬ (cop4 b len n st m k).1.1 = 4 := by
            rw [cop4_eq hp1 hp2 hp3]
            refine when_k (by decide) (fun z => ?_)
            have w := cop3_k2 z
            rw [w]
            decide
          refine v_aload_n C dX6_copyLine_98 rfl ?_
          refine v_callVv C (c_X6_goesOn hl hR8 hb hk9) ym_X6_goesOn ml_X6_106 emb_id_qS rfl rfl rfl rfl rfl dX6_copyLine_99 (Nat.le_of_ble_eq_true rfl) (Nat.le_of_ble_eq_true rfl) (Nat.le_of_ble_eq_true rfl) (Nat.le_of_ble_eq_true rfl) (fun _ _ hu => hu.elim) (fun r u hu => ?_)
          obtain ⟨hR9, hF9⟩ := hu
          obtain ⟨g9, eg9⟩ : ∃ x, x = u := ⟨u, rfl⟩
          subst eg9
          have hK9 := hK8.fq hF9
          refine v_aload_n C dX6_copyLine_102 rfl ?_
          refine v_dup C dX6_copyLine_103 rfl ?_
          refine v_getiQ (x := nI k.2.2.1) C fl_X6_120 oi_qS_0_20 (hK9.2.2.1) dX6_copyLine_104 ?_
          refine v_iconst (v := nI 1) C dX6_copyLine_107 (by decide) ?_
          first | refine v_iaddN C dX6_copyLine_108 ?_ | refine v_iadd C dX6_copyLine_108 ?_
          refine v_puti C fl_X6_120 fw_X6_20 oi_qS_0_20 ⟨rfl, rfl⟩ dX6_copyLine_109 ?_
          refine V.stt (g2 := (sG g9 0 (upd (g9 0) 20 (nI (k.2.2.1 + 1))))) (rfl) ?_
          refine v_vret C F dX6_copyLine_112 (Nat.le_of_ble_eq_true rfl) (Nat.le_of_ble_eq_true rfl) ?_
          rw [lnCopy_eq hp1 hp2 hp3]
          have hs9 := (hF9.2 2 (by decide)).trans hs8
          have hRow9 := Row_at hRow8 (hF9.1 1 (by decide))
          exact ⟨QXr_mk (QR.cnt hR9 (by decide)) (Row_at hRow9 rfl) hK9.c20 hs9, FLn.cnt (hL8.tr hF9.fl) (by decide) (by decide)⟩
        refine v_aload_n C dX6_copyLine_84 rfl ?_
        refine v_getiQ (x := nI (cop4 b len n st m k).2.1) C fl_X6_76 oi_qS_0_16 (hR6.2.2.2.2.1) dX6_copyLine_85 ?_
        refine v_if_ne C 98 dX6_copyLine_88 (by decide) (fun c88 => ?_) (fun c88 => ?_)
        · have hz4 : ¬ (cop4 b len n st m k).2.1 = 0 := fun z => c88 (by rw [z]; rfl)
          refine V.sub (lo2 := [some _, none, none, none]) ⟨rfl, trivial⟩ ?_
          first
          | exact J98 _ hR8 hL8 hs8 hK8 hRow8
          | exact J98 _ hR6 hFb.fl hs6 hK6 (by rw [if_neg (by rw [ok_b hz4]; exact Bool.false_ne_true)]; exact hRow6)
        · have hz4 : (cop4 b len n st m k).2.1 = 0 := nI_inj (b := 0) (by have := hR6.2.2.2.1; omega) (by omega) c88
          have hcz := refM_z hI.1 h96 (show p1 ≤ n - 1 ∧ p2 ≤ n - 1 ∧ p3 ≤ n from ⟨rg1, rg2, rg3⟩) (cop4_zz hp1 hp2 hp3 hz4)
          refine v_aload_n C dX6_copyLine_91 rfl ?_
          refine v_iload_n C dX6_copyLine_92 rfl ?_
          refine v_iload_n C dX6_copyLine_93 rfl ?_
          refine v_iload_n C dX6_copyLine_94 rfl ?_
          refine v_callVv C (c_X6_copies hl (g := g6) (m := m) (n := n) (lim := lim) hRow6 hE hI hs6 hlim hlim96 hcz.1 hcz.2.1 hcz.2.2) ym_X6_copies ml_X6_139 emb_id_qS rfl rfl rfl rfl rfl dX6_copyLine_95 (Nat.le_of_ble_eq_true rfl) (Nat.le_of_ble_eq_true rfl) (Nat.le_of_ble_eq_true rfl) (Nat.le_of_ble_eq_true rfl) (fun _ _ hu => hu.elim) (fun r u hu => ?_)
          obtain ⟨hd, f, hu, hRf⟩ := hu
          subst u
          obtain ⟨g8, eg8⟩ : ∃ x, x = sG (sG g6 5 hd) 1 f := ⟨_, rfl⟩
          have hR8 : QR b len (cop4 b len n st m k) g8 := by rw [eg8]; exact QR.row (QR.had hR6)
          have hL8 : FLn g g8 := by rw [eg8]; exact FLn.row (FLn.had hFb.fl)
          have hs8 : g8 0 2 = nI n := by rw [eg8]; exact hs6
          have hK8 : KQ k g8 := by rw [eg8]; exact hK6
          have hRow8 : RowR (if ok (cop4 b len n st m k) = true then copyM n p1 p2 p3 m else m) (g8 1) := by rw [if_pos (ok_gz hz4), eg8]; exact hRf
          refine V.stt (g2 := g8) eg8.symm ?_
          refine V.sub (lo2 := [some _, none, none, none]) ⟨rfl, trivial⟩ ?_
          first
          | exact J98 _ hR8 hL8 hs8 hK8 hRow8
          | exact J98 _ hR6 hFb.fl hs6 hK6 (by rw [if_neg (by rw [ok_b hz4]; exact Bool.false_ne_true)]; exact hRow6)
      · refine v_iconst (v := nI 1) C dX6_copyLine_75 (by decide) ?_
        refine v_goto C 80 dX6_copyLine_76 (by decide) ?_
        refine V.eqs (st2 := [.int (bI (ok (cop3 b len n st k).1 && !(refM m n (nI p1) (nI p2) (nI p3) == 0))), .ref (h 0)]) ?_ (congrArg (fun z => [Value.int z, Value.ref (h 0)]) (by first | exact bI_f (by rw [ok_b hz3]; rfl) | exact bI_f (by rw [ok_gz hz3, beq_iff_eq.mpr c72]; rfl) | exact bI_t (by rw [ok_gz hz3, beq_eq_false_iff_ne.mpr c72]; rfl)))
        refine v_iconst (v := nI 3) C dX6_copyLine_80 (by decide) ?_
        refine v_callVv C (c_X6_failsIf hl (cd := 3) (p := ok (cop3 b len n st k).1 && !(refM m n (nI p1) (nI p2) (nI p3) == 0)) hR5 (by decide) (by decide)) ym_X6_failsIf ml_X6_113 emb_id_qS rfl rfl rfl rfl rfl dX6_copyLine_81 (Nat.le_of_ble_eq_true rfl) (Nat.le_of_ble_eq_true rfl) (Nat.le_of_ble_eq_true rfl) (Nat.le_of_ble_eq_true rfl) (fun _ _ hu => hu.elim) (fun r u hu => ?_)
        rw [show whenS (ok (cop3 b len n st k).1 && !(refM m n (nI p1) (nI p2) (nI p3) == 0)) 3 (cop3 b len n st k).1 = (cop4 b len n st m k) by rw [cop4_eq hp1 hp2 hp3]; exact when_eq (fun z => by rw [z, Bool.true_and])] at hu
        obtain ⟨hR6, hF6⟩ := hu
        obtain ⟨g6, eg6⟩ : ∃ x, x = u := ⟨u, rfl⟩
        subst eg6
        have hFb := hFa.tr hF6
        have hRow6 : RowR m (g6 1) := by rw [hFb.1 1 (by decide)]; exact hRow
        have hs6 : g6 0 2 = nI n := (hFb.2 2 (by decide)).trans hs
        have hK6 := hK.fq hFb
        have J98 : ∀ g8 : G, QR b len (cop4 b len n st m k) g8 → FLn g g8 → g8 0 2 = nI n → KQ k g8 → RowR (if ok (cop4 b len n st m k) = true then copyM n p1 p2 p3 m else m) (g8 1) → V X (qS (xK X) h) 98 [some (.ref (h 0)), none, none, none] [] g8 0 0 := by
          intro g8 hR8 hL8 hs8 hK8 hRow8
          have hk9 : (cop4 b len n st m k).2.1 = 0 → ¬ (cop4 b len n st m k).1.1 = 4 := by
            rw [cop4_eq hp1 hp2 hp3]
            refine when_k (by decide) (fun z => ?_)
            have w := cop3_k2 z
            rw [w]
            decide
          refine v_aload_n C dX6_copyLine_98 rfl ?_
          refine v_callVv C (c_X6_goesOn hl hR8 hb hk9) ym_X6_goesOn ml_X6_106 emb_id_qS rfl rfl rfl rfl rfl dX6_copyLine_99 (Nat.le_of_ble_eq_true rfl) (Nat.le_of_ble_eq_true rfl) (Nat.le_of_ble_eq_true rfl) (Nat.le_of_ble_eq_true rfl) (fun _ _ hu => hu.elim) (fun r u hu => ?_)
          obtain ⟨hR9, hF9⟩ := hu
          obtain ⟨g9, eg9⟩ : ∃ x, x = u := ⟨u, rfl⟩
          subst eg9
          have hK9 := hK8.fq hF9
          refine v_aload_n C dX6_copyLine_102 rfl ?_
          refine v_dup C dX6_copyLine_103 rfl ?_
          refine v_getiQ (x := nI k.2.2.1) C fl_X6_120 oi_qS_0_20 (hK9.2.2.1) dX6_copyLine_104 ?_
          refine v_iconst (v := nI 1) C dX6_copyLine_107 (by decide) ?_
          first | refine v_iaddN C dX6_copyLine_108 ?_ | refine v_iadd C dX6_copyLine_108 ?_
          refine v_puti C fl_X6_120 fw_X6_20 oi_qS_0_20 ⟨rfl, rfl⟩ dX6_copyLine_109 ?_
          refine V.stt (g2 := (sG g9 0 (upd (g9 0) 20 (nI (k.2.2.1 + 1))))) (rfl) ?_
          refine v_vret C F dX6_copyLine_112 (Nat.le_of_ble_eq_true rfl) (Nat.le_of_ble_eq_true rfl) ?_
          rw [lnCopy_eq hp1 hp2 hp3]
          have hs9 := (hF9.2 2 (by decide)).trans hs8
          have hRow9 := Row_at hRow8 (hF9.1 1 (by decide))
          exact ⟨QXr_mk (QR.cnt hR9 (by decide)) (Row_at hRow9 rfl) hK9.c20 hs9, FLn.cnt (hL8.tr hF9.fl) (by decide) (by decide)⟩
        refine v_aload_n C dX6_copyLine_84 rfl ?_
        refine v_getiQ (x := nI (cop4 b len n st m k).2.1) C fl_X6_76 oi_qS_0_16 (hR6.2.2.2.2.1) dX6_copyLine_85 ?_
        refine v_if_ne C 98 dX6_copyLine_88 (by decide) (fun c88 => ?_) (fun c88 => ?_)
        · have hz4 : ¬ (cop4 b len n st m k).2.1 = 0 := fun z => c88 (by rw [z]; rfl)
          refine V.sub (lo2 := [some _, none, none, none]) ⟨rfl, trivial⟩ ?_
          first
          | exact J98 _ hR8 hL8 hs8 hK8 hRow8
          | exact J98 _ hR6 hFb.fl hs6 hK6 (by rw [if_neg (by rw [ok_b hz4]; exact Bool.false_ne_true)]; exact hRow6)
        · have hz4 : (cop4 b len n st m k).2.1 = 0 := nI_inj (b := 0) (by have := hR6.2.2.2.1; omega) (by omega) c88
          have hcz := refM_z hI.1 h96 (show p1 ≤ n - 1 ∧ p2 ≤ n - 1 ∧ p3 ≤ n from ⟨rg1, rg2, rg3⟩) (cop4_zz hp1 hp2 hp3 hz4)
          refine v_aload_n C dX6_copyLine_91 rfl ?_
          refine v_iload_n C dX6_copyLine_92 rfl ?_
          refine v_iload_n C dX6_copyLine_93 rfl ?_
          refine v_iload_n C dX6_copyLine_94 rfl ?_
          refine v_callVv C (c_X6_copies hl (g := g6) (m := m) (n := n) (lim := lim) hRow6 hE hI hs6 hlim hlim96 hcz.1 hcz.2.1 hcz.2.2) ym_X6_copies ml_X6_139 emb_id_qS rfl rfl rfl rfl rfl dX6_copyLine_95 (Nat.le_of_ble_eq_true rfl) (Nat.le_of_ble_eq_true rfl) (Nat.le_of_ble_eq_true rfl) (Nat.le_of_ble_eq_true rfl) (fun _ _ hu => hu.elim) (fun r u hu => ?_)
          obtain ⟨hd, f, hu, hRf⟩ := hu
          subst u
          obtain ⟨g8, eg8⟩ : ∃ x, x = sG (sG g6 5 hd) 1 f := ⟨_, rfl⟩
          have hR8 : QR b len (cop4 b len n st m k) g8 := by rw [eg8]; exact QR.row (QR.had hR6)
          have hL8 : FLn g g8 := by rw [eg8]; exact FLn.row (FLn.had hFb.fl)
          have hs8 : g8 0 2 = nI n := by rw [eg8]; exact hs6
          have hK8 : KQ k g8 := by rw [eg8]; exact hK6
          have hRow8 : RowR (if ok (cop4 b len n st m k) = true then copyM n p1 p2 p3 m else m) (g8 1) := by rw [if_pos (ok_gz hz4), eg8]; exact hRf
          refine V.stt (g2 := g8) eg8.symm ?_
          refine V.sub (lo2 := [some _, none, none, none]) ⟨rfl, trivial⟩ ?_
          first
          | exact J98 _ hR8 hL8 hs8 hK8 hRow8
          | exact J98 _ hR6 hFb.fl hs6 hK6 (by rw [if_neg (by rw [ok_b hz4]; exact Bool.false_ne_true)]; exact hRow6)


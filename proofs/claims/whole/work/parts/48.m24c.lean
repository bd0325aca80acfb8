set_option maxHeartbeats 800000 in
theorem c_X6_fillLine {l : Launch} (hl : l.stackTraces = false) {κ : Kp} {h : Nat → Nat} {g : G} {m : Mg} {n len : Nat} {b : Nat → Int32} {st : St} {k : Cnt} (h96 : n ≤ 96) (hn1 : 1 ≤ n) (hX : QXr b len n (st, m, k) g) (hPI : PI n (st, m, k)) (hKL : KLp (st, m, k)) (hkb : KB k) (hb : BN0 b) (hk4 : ok st = true → ¬ st.1.1 = 4) : Ct SS MM l κ yX6_fillLine cX6_fillLine 5 none 6 0 0 [.ref (h 0)] (qS κ h) g rv (fun _ u => QXr b len n (lnFill b len n (st, m, k)) u ∧ FLn g u) (fun _ _ => False) := by
  refine Ct.of (own := RX6) (by decide) rfl hl (by intro v hv; simp only [List.mem_cons, List.not_mem_nil, or_false] at hv; first | (rcases hv with rfl | rfl | rfl | rfl | rfl | rfl <;> rfl) | (rcases hv with rfl | rfl | rfl | rfl | rfl <;> rfl) | (rcases hv with rfl | rfl | rfl | rfl <;> rfl) | (rcases hv with rfl | rfl | rfl <;> rfl) | (rcases hv with rfl | rfl <;> rfl) | (subst hv; rfl) | exact hv.elim) (Nat.le_of_ble_eq_true rfl) (fun X hxl hxk C F N => ?_)
  subst hxl hxk
  show V X (qS (xK X) h) 0 [some (.ref (h 0)), none, none, none, none] [] g 0 0
  obtain ⟨hR, hRow, hK, hs⟩ := id hX
  have hR : QR b len st g := hR
  have hRow : RowR m (g 1) := hRow
  have hK : KQ k g := hK
  obtain ⟨co, hMI, -, -⟩ := hPI
  have hMI : MI n co m := hMI
  obtain ⟨hI, hE, hLK, -, hSB, hBY, hPR⟩ := id hMI
  obtain ⟨kb1, kb2, kb3, kb4⟩ := id hkb
  have hKL : ok st = true → KL k := hKL
  have hWe : whenS (decide (k.2.2.2 = 6)) 4 st = (whenS (decide (6 < k.2.2.2 + 1)) 4 st) := when_eq (fun z => decide_eq_decide.mpr (by have := (hKL z).2.2.2; omega))
  refine v_aload_n C dX6_fillLine_0 rfl ?_
  refine v_aload_n C dX6_fillLine_1 rfl ?_
  refine v_getiQ (x := nI k.2.2.2) C fl_X6_143 oi_qS_0_21 (hK.2.2.2) dX6_fillLine_2 ?_
  refine v_bipush (v := nI 6) C dX6_fillLine_5 (by decide) ?_
  first | refine v_icmp_neN C 14 dX6_fillLine_7 (by decide) (by omega) (by omega) (fun c7 => ?_) (fun c7 => ?_) | refine v_icmp_ne C 14 dX6_fillLine_7 (by decide) (fun c7 => ?_) (fun c7 => ?_)
  · refine v_iconst (v := nI 0) C dX6_fillLine_14 (by decide) ?_
    refine V.eqs (st2 := [.int (bI (decide (k.2.2.2 = 6))), .ref (h 0)]) ?_ (congrArg (fun z => [Value.int z, Value.ref (h 0)]) (by first | exact bI_t (decide_eq_true (by omega)) | exact bI_f (decide_eq_false (by omega))))
    refine v_iconst (v := nI 4) C dX6_fillLine_15 (by decide) ?_
    refine v_callVv C (c_X6_failsIf hl (cd := 4) (p := decide (k.2.2.2 = 6)) hR (by decide) (by decide)) ym_X6_failsIf ml_X6_113 emb_id_qS rfl rfl rfl rfl rfl dX6_fillLine_16 (Nat.le_of_ble_eq_true rfl) (Nat.le_of_ble_eq_true rfl) (Nat.le_of_ble_eq_true rfl) (Nat.le_of_ble_eq_true rfl) (fun _ _ hu => hu.elim) (fun r u hu => ?_)
    rw [hWe] at hu
    obtain ⟨hR1, hF1⟩ := hu
    obtain ⟨g1, eg1⟩ : ∃ x, x = u := ⟨u, rfl⟩
    subst eg1
    refine v_aload_n C dX6_fillLine_19 rfl ?_
    refine v_callVv C (c_X6_goesOn hl hR1 hb (when_k (by decide) hk4)) ym_X6_goesOn ml_X6_106 emb_id_qS rfl rfl rfl rfl rfl dX6_fillLine_20 (Nat.le_of_ble_eq_true rfl) (Nat.le_of_ble_eq_true rfl) (Nat.le_of_ble_eq_true rfl) (Nat.le_of_ble_eq_true rfl) (fun _ _ hu => hu.elim) (fun r u hu => ?_)
    obtain ⟨hR2, hF2⟩ := hu
    obtain ⟨g2, eg2⟩ : ∃ x, x = u := ⟨u, rfl⟩
    subst eg2
    have hs2 : g2 0 2 = nI n := (hF2.2 2 (by decide)).trans ((hF1.2 2 (by decide)).trans hs)
    refine v_aload_n C dX6_fillLine_23 rfl ?_
    refine v_iconst (v := nI 0) C dX6_fillLine_24 (by decide) ?_
    refine v_aload_n C dX6_fillLine_25 rfl ?_
    refine v_getiQ (x := nI n) C fl_X6_126 oi_qS_0_2 (hs2) dX6_fillLine_26 ?_
    refine v_iconst (v := nI 1) C dX6_fillLine_29 (by decide) ?_
    first | refine v_isubN C dX6_fillLine_30 (by omega) ?_ | refine v_isub C dX6_fillLine_30 ?_
    refine v_callVi C (c_X6_takesN hl (s0 := (whenS (decide (6 < k.2.2.2 + 1)) 4 st)) hR2 (by omega) (by omega) hb) ym_X6_takes ml_X6_117 emb_id_qS rfl rfl rfl rfl rfl dX6_fillLine_31 (Nat.le_of_ble_eq_true rfl) (Nat.le_of_ble_eq_true rfl) (Nat.le_of_ble_eq_true rfl) (Nat.le_of_ble_eq_true rfl) (fun _ _ hu => hu.elim) (fun r u hu => ?_)
    obtain ⟨rfl, hR3, hF3⟩ := hu
    obtain ⟨g3, eg3⟩ : ∃ x, x = u := ⟨u, rfl⟩
    subst eg3
    have hR3 : QR b len (advS b len (fil1 b len n st k).1) g3 := hR3
    show V X _ _ _ (Value.int (nI (fil1 b len n st k).2) :: _) _ _ _
    obtain ⟨p1, hp1⟩ : ∃ x, EqH x (fil1 b len n st k).2 := ⟨_, rfl⟩
    have hp1e : (fil1 b len n st k).2 = p1 := Eq.symm hp1
    rw [hp1e]
    clear hp1e
    have rg1 := (numS_h (Nat.zero_le _) hp1).2
    have hs3 : g3 0 2 = nI n := (hF3.2 2 (by decide)).trans hs2
    refine v_istore_n C (lo2 := [some _, some _, none, none, none]) dX6_fillLine_34 rfl (Nat.le_of_ble_eq_true rfl) rfl ?_
    refine v_aload_n C dX6_fillLine_35 rfl ?_
    refine v_iload_n C dX6_fillLine_36 rfl ?_
    refine v_aload_n C dX6_fillLine_37 rfl ?_
    refine v_getiQ (x := nI n) C fl_X6_126 oi_qS_0_2 (hs3) dX6_fillLine_38 ?_
    refine v_iconst (v := nI 1) C dX6_fillLine_41 (by decide) ?_
    first | refine v_isubN C dX6_fillLine_42 (by omega) ?_ | refine v_isub C dX6_fillLine_42 ?_
    refine v_callVi C (c_X6_takesN hl (s0 := (fil1 b len n st k).1) (lo := p1) hR3 (by omega) (by omega) hb) ym_X6_takes ml_X6_117 emb_id_qS rfl rfl rfl rfl rfl dX6_fillLine_43 (Nat.le_of_ble_eq_true rfl) (Nat.le_of_ble_eq_true rfl) (Nat.le_of_ble_eq_true rfl) (Nat.le_of_ble_eq_true rfl) (fun _ _ hu => hu.elim) (fun r u hu => ?_)
    obtain ⟨rfl, hR4, hF4⟩ := hu
    obtain ⟨g4, eg4⟩ : ∃ x, x = u := ⟨u, rfl⟩
    subst eg4
    have hp1e : p1 = (fil1 b len n st k).2 := hp1
    have hR4 : QR b len (advS b len (fil2 b len n st k).1) g4 := by
      rw [hp1e] at hR4
      exact hR4
    obtain ⟨p2, hp2, hp2e⟩ : ∃ x, EqH x (fil2 b len n st k).2 ∧ EqH (numS b len p1 (n - 1) (fil1 b len n st k).1).2 x := ⟨_, rfl, by rw [hp1e]; rfl⟩
    clear hp1e
    have hp2f : (numS b len p1 (n - 1) (fil1 b len n st k).1).2 = p2 := hp2e
    rw [hp2f]
    clear hp2f
    have rg2 := numS_h (p := p2) rg1 (Eq.symm hp2e)
    clear hp2e
    have hs4 : g4 0 2 = nI n := (hF4.2 2 (by decide)).trans hs3
    refine v_istore_n C (lo2 := [some _, some _, some _, none, none]) dX6_fillLine_46 rfl (Nat.le_of_ble_eq_true rfl) rfl ?_
    refine v_aload_n C dX6_fillLine_47 rfl ?_
    refine v_iconst (v := nI 0) C dX6_fillLine_48 (by decide) ?_
    refine v_sipush (v := nI 255) C dX6_fillLine_49 (by decide) ?_
    refine v_callVi C (c_X6_numberHereN hl (s0 := (fil2 b len n st k).1) hR4 (by omega) (by omega)) ym_X6_numberHere ml_X6_102 emb_id_qS rfl rfl rfl rfl rfl dX6_fillLine_52 (Nat.le_of_ble_eq_true rfl) (Nat.le_of_ble_eq_true rfl) (Nat.le_of_ble_eq_true rfl) (Nat.le_of_ble_eq_true rfl) (fun _ _ hu => hu.elim) (fun r u hu => ?_)
    obtain ⟨rfl, hR5, hF5⟩ := hu
    obtain ⟨g5, eg5⟩ : ∃ x, x = u := ⟨u, rfl⟩
    subst eg5
    have hR5 : QR b len (fil3 b len n st k).1 g5 := hR5
    show V X _ _ _ (Value.int (nI (fil3 b len n st k).2) :: _) _ _ _
    obtain ⟨p3, hp3⟩ : ∃ x, EqH x (fil3 b len n st k).2 := ⟨_, rfl⟩
    have hp3e : (fil3 b len n st k).2 = p3 := Eq.symm hp3
    rw [hp3e]
    clear hp3e
    have hs5 : g5 0 2 = nI n := (hF5.2 2 (by decide)).trans hs4
    have hFa := ((hF1.tr hF2).tr hF3).tr (hF4.tr hF5)
    have hRow5 : RowR m (g5 1) := by rw [hFa.1 1 (by decide)]; exact hRow
    refine v_istore_n C (lo2 := [some _, some _, some _, some _, none]) dX6_fillLine_55 rfl (Nat.le_of_ble_eq_true rfl) rfl ?_
    refine v_aload_n C dX6_fillLine_56 rfl ?_
    refine v_aload_n C dX6_fillLine_57 rfl ?_
    refine v_getiQ (x := nI (fil3 b len n st k).1.2.1) C fl_X6_76 oi_qS_0_16 (hR5.2.2.2.2.1) dX6_fillLine_58 ?_
    refine v_if_ne C 77 dX6_fillLine_61 (by decide) (fun c61 => ?_) (fun c61 => ?_)
    · have hz3 : ¬ (fil3 b len n st k).1.2.1 = 0 := fun z => c61 (by rw [z]; rfl)
      refine v_iconst (v := nI 0) C dX6_fillLine_77 (by decide) ?_
      refine V.eqs (st2 := [.int (bI (ok (fil3 b len n st k).1 && anyG (lockB m) p1 (p2 + 1 - p1))), .ref (h 0)]) ?_ (congrArg (fun z => [Value.int z, Value.ref (h 0)]) (by first | exact bI_f (by rw [ok_b hz3]; rfl) | exact bI_f (by rw [ok_gz hz3, c70]; rfl) | exact bI_t (by rw [ok_gz hz3, c70]; rfl)))
      refine v_iconst (v := nI 3) C dX6_fillLine_78 (by decide) ?_
      refine v_callVv C (c_X6_failsIf hl (cd := 3) (p := ok (fil3 b len n st k).1 && anyG (lockB m) p1 (p2 + 1 - p1)) hR5 (by decide) (by decide)) ym_X6_failsIf ml_X6_113 emb_id_qS rfl rfl rfl rfl rfl dX6_fillLine_79 (Nat.le_of_ble_eq_true rfl) (Nat.le_of_ble_eq_true rfl) (Nat.le_of_ble_eq_true rfl) (Nat.le_of_ble_eq_true rfl) (fun _ _ hu => hu.elim) (fun r u hu => ?_)
      rw [show whenS (ok (fil3 b len n st k).1 && anyG (lockB m) p1 (p2 + 1 - p1)) 3 (fil3 b len n st k).1 = (fil4 b len n st m k) by rw [fil4_eq hp1 hp2]; exact when_eq (fun z => by rw [z, Bool.true_and])] at hu
      obtain ⟨hR6, hF6⟩ := hu
      obtain ⟨g6, eg6⟩ : ∃ x, x = u := ⟨u, rfl⟩
      subst eg6
      have hFb := hFa.tr hF6
      have hRow6 : RowR m (g6 1) := by rw [hFb.1 1 (by decide)]; exact hRow
      have hs6 : g6 0 2 = nI n := (hFb.2 2 (by decide)).trans hs
      have hK6 := hK.fq hFb
      have J98 : ∀ g8 : G, QR b len (fil4 b len n st m k) g8 → FLn g g8 → g8 0 2 = nI n → KQ k g8 → RowR (if ok (fil4 b len n st m k) = true then (fillM n p1 p2 (nI p3) m).2 else m) (g8 1) → V X (qS (xK X) h) 98 [some (.ref (h 0)), none, none, none, none] [] g8 0 0 := by
        intro g8 hR8 hL8 hs8 hK8 hRow8
        have hk9 : (fil4 b len n st m k).2.1 = 0 → ¬ (fil4 b len n st m k).1.1 = 4 := by
          rw [fil4_eq hp1 hp2]
          refine when_k (by decide) (fun z => ?_)
          have w := fil3_k2 z
          rw [w]
          decide
        refine v_aload_n C dX6_fillLine_98 rfl ?_
        refine v_callVv C (c_X6_goesOn hl hR8 hb hk9) ym_X6_goesOn ml_X6_106 emb_id_qS rfl rfl rfl rfl rfl dX6_fillLine_99 (Nat.le_of_ble_eq_true rfl) (Nat.le_of_ble_eq_true rfl) (Nat.le_of_ble_eq_true rfl) (Nat.le_of_ble_eq_true rfl) (fun _ _ hu => hu.elim) (fun r u hu => ?_)
        obtain ⟨hR9, hF9⟩ := hu
        obtain ⟨g9, eg9⟩ : ∃ x, x = u := ⟨u, rfl⟩
        subst eg9
        have hK9 := hK8.fq hF9
        refine v_aload_n C dX6_fillLine_102 rfl ?_
        refine v_dup C dX6_fillLine_103 rfl ?_
        refine v_getiQ (x := nI k.2.2.2) C fl_X6_143 oi_qS_0_21 (hK9.2.2.2) dX6_fillLine_104 ?_
        refine v_iconst (v := nI 1) C dX6_fillLine_107 (by decide) ?_
        first | refine v_iaddN C dX6_fillLine_108 ?_ | refine v_iadd C dX6_fillLine_108 ?_
        refine v_puti C fl_X6_143 fw_X6_21 oi_qS_0_21 ⟨rfl, rfl⟩ dX6_fillLine_109 ?_
        refine V.stt (g2 := (sG g9 0 (upd (g9 0) 21 (nI (k.2.2.2 + 1))))) (rfl) ?_
        refine v_vret C F dX6_fillLine_112 (Nat.le_of_ble_eq_true rfl) (Nat.le_of_ble_eq_true rfl) ?_
        rw [lnFill_eq hp1 hp2 hp3]
        have hs9 := (hF9.2 2 (by decide)).trans hs8
        have hRow9 := Row_at hRow8 (hF9.1 1 (by decide))
        exact ⟨QXr_mk (QR.cnt hR9 (by decide)) (Row_at hRow9 rfl) hK9.c21 hs9, FLn.cnt (hL8.tr hF9.fl) (by decide) (by decide)⟩
      refine v_aload_n C dX6_fillLine_82 rfl ?_
      refine v_getiQ (x := nI (fil4 b len n st m k).2.1) C fl_X6_76 oi_qS_0_16 (hR6.2.2.2.2.1) dX6_fillLine_83 ?_
      refine v_if_ne C 98 dX6_fillLine_86 (by decide) (fun c86 => ?_) (fun c86 => ?_)
      · have hz4 : ¬ (fil4 b len n st m k).2.1 = 0 := fun z => c86 (by rw [z]; rfl)
        refine V.sub (lo2 := [some _, none, none, none, none]) ⟨rfl, trivial⟩ ?_
        first
        | exact J98 _ hR8 hL8 hs8 hK8 hRow8
        | exact J98 _ hR6 hFb.fl hs6 hK6 (by rw [if_neg (by rw [ok_b hz4]; exact Bool.false_ne_true)]; exact hRow6)
      · have hz4 : (fil4 b len n st m k).2.1 = 0 := nI_inj (b := 0) (by have := hR6.2.2.2.1; omega) (by omega) c86
        refine v_aload_n C dX6_fillLine_89 rfl ?_
        refine v_iload_n C dX6_fillLine_90 rfl ?_
        refine v_iload_n C dX6_fillLine_91 rfl ?_
        refine v_iload_n C dX6_fillLine_92 rfl ?_
        refine v_callVi C (c_X6_fills hl (g := g6) (m := m) (n := n) (a := p1) (b := p2) (v := nI p3) hRow6 hE hI hs6 rg2.1 (by omega)) ym_X6_fills ml_X6_150 emb_id_qS rfl rfl rfl rfl rfl dX6_fillLine_93 (Nat.le_of_ble_eq_true rfl) (Nat.le_of_ble_eq_true rfl) (Nat.le_of_ble_eq_true rfl) (Nat.le_of_ble_eq_true rfl) (fun _ _ hu => hu.elim) (fun r u hu => ?_)
        obtain ⟨rfl, f, hu, hRf⟩ := hu
        subst u
        obtain ⟨g8, eg8⟩ : ∃ x, x = sG g6 1 f := ⟨_, rfl⟩
        have hR8 : QR b len (fil4 b len n st m k) g8 := by rw [eg8]; exact QR.row hR6
        have hL8 : FLn g g8 := by rw [eg8]; exact FLn.row hFb.fl
        have hs8 : g8 0 2 = nI n := by rw [eg8]; exact hs6
        have hK8 : KQ k g8 := by rw [eg8]; exact hK6
        have hRow8 : RowR (if ok (fil4 b len n st m k) = true then (fillM n p1 p2 (nI p3) m).2 else m) (g8 1) := by rw [if_pos (ok_gz hz4), eg8]; exact hRf
        refine V.stt (g2 := g8) eg8.symm ?_
        refine v_istore C (lo2 := [some _, some _, some _, some _, some _]) dX6_fillLine_96 rfl (Nat.le_of_ble_eq_true rfl) rfl ?_
        refine V.sub (lo2 := [some _, none, none, none, none]) ⟨rfl, trivial⟩ ?_
        first
        | exact J98 _ hR8 hL8 hs8 hK8 hRow8
        | exact J98 _ hR6 hFb.fl hs6 hK6 (by rw [if_neg (by rw [ok_b hz4]; exact Bool.false_ne_true)]; exact hRow6)
    · have hz3 : (fil3 b len n st k).1.2.1 = 0 := nI_inj (b := 0) (by have := hR5.2.2.2.1; omega) (by omega) c61
      refine v_aload_n C dX6_fillLine_64 rfl ?_
      refine v_iload_n C dX6_fillLine_65 rfl ?_
      refine v_iload_n C dX6_fillLine_66 rfl ?_
      refine v_callVi C (c_X6_anyLocked hl (g := g5) (m := m) hRow5 hLK (by omega) (by omega)) ym_X6_anyLocked ml_X6_146 emb_id_qS rfl rfl rfl rfl rfl dX6_fillLine_67 (Nat.le_of_ble_eq_true rfl) (Nat.le_of_ble_eq_true rfl) (Nat.le_of_ble_eq_true rfl) (Nat.le_of_ble_eq_true rfl) (fun _ _ hu => hu.elim) (fun r u hu => ?_)
      obtain ⟨rfl, hu⟩ := hu
      subst u
      refine V.stt (g2 := g5) (rfl) ?_
      refine v_if_eqB C 77 dX6_fillLine_70 (by decide) (fun c70 => ?_) (fun c70 => ?_)
      · refine v_iconst (v := nI 0) C dX6_fillLine_77 (by decide) ?_
        refine V.eqs (st2 := [.int (bI (ok (fil3 b len n st k).1 && anyG (lockB m) p1 (p2 + 1 - p1))), .ref (h 0)]) ?_ (congrArg (fun z => [Value.int z, Value.ref (h 0)]) (by first | exact bI_f (by rw [ok_b hz3]; rfl) | exact bI_f (by rw [ok_gz hz3, c70]; rfl) | exact bI_t (by rw [ok_gz hz3, c70]; rfl)))
        refine v_iconst (v := nI 3) C dX6_fillLine_78 (by decide) ?_
        refine v_callVv C (c_X6_failsIf hl (cd := 3) (p := ok (fil3 b len n st k).1 && anyG (lockB m) p1 (p2 + 1 - p1)) hR5 (by decide) (by decide)) ym_X6_failsIf ml_X6_113 emb_id_qS rfl rfl rfl rfl rfl dX6_fillLine_79 (Nat.le_of_ble_eq_true rfl) (Nat.le_of_ble_eq_true rfl) (Nat.le_of_ble_eq_true rfl) (Nat.le_of_ble_eq_true rfl) (fun _ _ hu => hu.elim) (fun r u hu => ?_)
        rw [show whenS (ok (fil3 b len n st k).1 && anyG (lockB m) p1 (p2 + 1 - p1)) 3 (fil3 b len n st k).1 = (fil4 b len n st m k) by rw [fil4_eq hp1 hp2]; exact when_eq (fun z => by rw [z, Bool.true_and])] at hu
        obtain ⟨hR6, hF6⟩ := hu
        obtain ⟨g6, eg6⟩ : ∃ x, x = u := ⟨u, rfl⟩
        subst eg6
        have hFb := hFa.tr hF6
        have hRow6 : RowR m (g6 1) := by rw [hFb.1 1 (by decide)]; exact hRow
        have hs6 : g6 0 2 = nI n := (hFb.2 2 (by decide)).trans hs
        have hK6 := hK.fq hFb
        have J98 : ∀ g8 : G, QR b len (fil4 b len n st m k) g8 → FLn g g8 → g8 0 2 = nI n → KQ k g8 → RowR (if ok (fil4 b len n st m k) = true then (fillM n p1 p2 (nI p3) m).2 else m) (g8 1) → V X (qS (xK X) h) 98 [some (.ref (h 0)), none, none, none, none] [] g8 0 0 := by
          intro g8 hR8 hL8 hs8 hK8 hRow8
          have hk9 : (fil4 b len n st m k).2.1 = 0 → ¬ (fil4 b len n st m k).1.1 = 4 := by
            rw [fil4_eq hp1 hp2]
            refine when_k (by decide) (fun z => ?_)
            have w := fil3_k2 z
            rw [w]
            decide
          refine v_aload_n C dX6_fillLine_98 rfl ?_
          refine v_callVv C (c_X6_goesOn hl hR8 hb hk9) ym_X6_goesOn ml_X6_106 emb_id_qS rfl rfl rfl rfl rfl dX6_fillLine_99 (Nat.le_of_ble_eq_true rfl) (Nat.le_of_ble_eq_true rfl) (Nat.le_of_ble_eq_true rfl) (Nat.le_of_ble_eq_true rfl) (fun _ _ hu => hu.elim) (fun r u hu => ?_)
          obtain ⟨hR9, hF9⟩ := hu
          obtain ⟨g9, eg9⟩ : ∃ x, x = u := ⟨u, rfl⟩
          subst eg9
          have hK9 := hK8.fq hF9
          refine v_aload_n C dX6_fillLine_102 rfl ?_
          refine v_dup C dX6_fillLine_103 rfl ?_
          refine v_getiQ (x := nI k.2.2.2) C fl_X6_143 oi_qS_0_21 (hK9.2.2.2) dX6_fillLine_104 ?_
          refine v_iconst (v := nI 1) C dX6_fillLine_107 (by decide) ?_
          first | refine v_iaddN C dX6_fillLine_108 ?_ | refine v_iadd C dX6_fillLine_108 ?_
          refine v_puti C fl_X6_143 fw_X6_21 oi_qS_0_21 ⟨rfl, rfl⟩ dX6_fillLine_109 ?_
          refine V.stt (g2 := (sG g9 0 (upd (g9 0) 21 (nI (k.2.2.2 + 1))))) (rfl) ?_
          refine v_vret C F dX6_fillLine_112 (Nat.le_of_ble_eq_true rfl) (Nat.le_of_ble_eq_true rfl) ?_
          rw [lnFill_eq hp1 hp2 hp3]
          have hs9 := (hF9.2 2 (by decide)).trans hs8
          have hRow9 := Row_at hRow8 (hF9.1 1 (by decide))
          exact ⟨QXr_mk (QR.cnt hR9 (by decide)) (Row_at hRow9 rfl) hK9.c21 hs9, FLn.cnt (hL8.tr hF9.fl) (by decide) (by decide)⟩
        refine v_aload_n C dX6_fillLine_82 rfl ?_
        refine v_getiQ (x := nI (fil4 b len n st m k).2.1) C fl_X6_76 oi_qS_0_16 (hR6.2.2.2.2.1) dX6_fillLine_83 ?_
        refine v_if_ne C 98 dX6_fillLine_86 (by decide) (fun c86 => ?_) (fun c86 => ?_)
        · have hz4 : ¬ (fil4 b len n st m k).2.1 = 0 := fun z => c86 (by rw [z]; rfl)
          refine V.sub (lo2 := [some _, none, none, none, none]) ⟨rfl, trivial⟩ ?_
          first
          | exact J98 _ hR8 hL8 hs8 hK8 hRow8
          | exact J98 _ hR6 hFb.fl hs6 hK6 (by rw [if_neg (by rw [ok_b hz4]; exact Bool.false_ne_true)]; exact hRow6)
        · have hz4 : (fil4 b len n st m k).2.1 = 0 := nI_inj (b := 0) (by have := hR6.2.2.2.1; omega) (by omega) c86
          refine v_aload_n C dX6_fillLine_89 rfl ?_
          refine v_iload_n C dX6_fillLine_90 rfl ?_
          refine v_iload_n C dX6_fillLine_91 rfl ?_
          refine v_iload_n C dX6_fillLine_92 rfl ?_
          refine v_callVi C (c_X6_fills hl (g := g6) (m := m) (n := n) (a := p1) (b := p2) (v := nI p3) hRow6 hE hI hs6 rg2.1 (by omega)) ym_X6_fills ml_X6_150 emb_id_qS rfl rfl rfl rfl rfl dX6_fillLine_93 (Nat.le_of_ble_eq_true rfl) (Nat.le_of_ble_eq_true rfl) (Nat.le_of_ble_eq_true rfl) (Nat.le_of_ble_eq_true rfl) (fun _ _ hu => hu.elim) (fun r u hu => ?_)
          obtain ⟨rfl, f, hu, hRf⟩ := hu
          subst u
          obtain ⟨g8, eg8⟩ : ∃ x, x = sG g6 1 f := ⟨_, rfl⟩
          have hR8 : QR b len (fil4 b len n st m k) g8 := by rw [eg8]; exact QR.row hR6
          have hL8 : FLn g g8 := by rw [eg8]; exact FLn.row hFb.fl
          have hs8 : g8 0 2 = nI n := by rw [eg8]; exact hs6
          have hK8 : KQ k g8 := by rw [eg8]; exact hK6
          have hRow8 : RowR (if ok (fil4 b len n st m k) = true then (fillM n p1 p2 (nI p3) m).2 else m) (g8 1) := by rw [if_pos (ok_gz hz4), eg8]; exact hRf
          refine V.stt (g2 := g8) eg8.symm ?_
          refine v_istore C (lo2 := [some _, some _, some _, some _, some _]) dX6_fillLine_96 rfl (Nat.le_of_ble_eq_true rfl) rfl ?_
          refine V.sub (lo2 := [some _, none, none, none, none]) ⟨rfl, trivial⟩ ?_
          first
          | exact J98 _ hR8 hL8 hs8 hK8 hRow8
          | exact J98 _ hR6 hFb.fl hs6 hK6 (by rw [if_neg (by rw [ok_b hz4]; exact Bool.false_ne_true)]; exact hRow6)
      · refine v_iconst (v := nI 1) C dX6_fillLine_73 (by decide) ?_
        refine v_goto C 78 dX6_fillLine_74 (by decide) ?_
        refine V.eqs (st2 := [.int (bI (ok (fil3 b len n st k).1 && anyG (lockB m) p1 (p2 + 1 - p1))), .ref (h 0)]) ?_ (congrArg (fun z => [Value.int z, Value.ref (h 0)]) (by first | exact bI_f (by rw [ok_b hz3]; rfl) | exact bI_f (by rw [ok_gz hz3, c70]; rfl) | exact bI_t (by rw [ok_gz hz3, c70]; rfl)))
        refine v_iconst (v := nI 3) C dX6_fillLine_78 (by decide) ?_
        refine v_callVv C (c_X6_failsIf hl (cd := 3) (p := ok (fil3 b len n st k).1 && anyG (lockB m) p1 (p2 + 1 - p1)) hR5 (by decide) (by decide)) ym_X6_failsIf ml_X6_113 emb_id_qS rfl rfl rfl rfl rfl dX6_fillLine_79 (Nat.le_of_ble_eq_true rfl) (Nat.le_of_ble_eq_true rfl) (Nat.le_of_ble_eq_true rfl) (Nat.le_of_ble_eq_true rfl) (fun _ _ hu => hu.elim) (fun r u hu => ?_)
        rw [show whenS (ok (fil3 b len n st k).1 && anyG (lockB m) p1 (p2 + 1 - p1)) 3 (fil3 b len n st k).1 = (fil4 b len n st m k) by rw [fil4_eq hp1 hp2]; exact when_eq (fun z => by rw [z, Bool.true_and])] at hu
        obtain ⟨hR6, hF6⟩ := hu
        obtain ⟨g6, eg6⟩ : ∃ x, x = u := ⟨u, rfl⟩
        subst eg6
        have hFb := hFa.tr hF6
        have hRow6 : RowR m (g6 1) := by rw [hFb.1 1 (by decide)]; exact hRow
        have hs6 : g6 0 2 = nI n := (hFb.2 2 (by decide)).trans hs
        have hK6 := hK.fq hFb
        have J98 : ∀ g8 : G, QR b len (fil4 b len n st m k) g8 → FLn g g8 → g8 0 2 = nI n → KQ k g8 → RowR (if ok (fil4 b len n st m k) = true then (fillM n p1 p2 (nI p3) m).2 else m) (g8 1) → V X (qS (xK X) h) 98 [some (.ref (h 0)), none, none, none, none] [] g8 0 0 := by
          intro g8 hR8 hL8 hs8 hK8 hRow8
          have hk9 : (fil4 b len n st m k).2.1 = 0 → ¬ (fil4 b len n st m k).1.1 = 4 := by
            rw [fil4_eq hp1 hp2]
            refine when_k (by decide) (fun z => ?_)
            have w := fil3_k2 z
            rw [w]
            decide
          refine v_aload_n C dX6_fillLine_98 rfl ?_
          refine v_callVv C (c_X6_goesOn hl hR8 hb hk9) ym_X6_goesOn ml_X6_106 emb_id_qS rfl rfl rfl rfl rfl dX6_fillLine_99 (Nat.le_of_ble_eq_true rfl) (Nat.le_of_ble_eq_true rfl) (Nat.le_of_ble_eq_true rfl) (Nat.le_of_ble_eq_true rfl) (fun _ _ hu => hu.elim) (fun r u hu => ?_)
          obtain ⟨hR9, hF9⟩ := hu
          obtain ⟨g9, eg9⟩ : ∃ x, x = u := ⟨u, rfl⟩
          subst eg9
          have hK9 := hK8.fq hF9
          refine v_aload_n C dX6_fillLine_102 rfl ?_
          refine v_dup C dX6_fillLine_103 rfl ?_
          refine v_getiQ (x := nI k.2.2.2) C fl_X6_143 oi_qS_0_21 (hK9.2.2.2) dX6_fillLine_104 ?_
          refine v_iconst (v := nI 1) C dX6_fillLine_107 (by decide) ?_
          first | refine v_iaddN C dX6_fillLine_108 ?_ | refine v_iadd C dX6_fillLine_108 ?_
          refine v_puti C fl_X6_143 fw_X6_21 oi_qS_0_21 ⟨rfl, rfl⟩ dX6_fillLine_109 ?_
          refine V.stt (g2 := (sG g9 0 (upd (g9 0) 21 (nI (k.2.2.2 + 1))))) (rfl) ?_
          refine v_vret C F dX6_fillLine_112 (Nat.le_of_ble_eq_true rfl) (Nat.le_of_ble_eq_true rfl) ?_
          rw [lnFill_eq hp1 hp2 hp3]
          have hs9 := (hF9.2 2 (by decide)).trans hs8
          have hRow9 := Row_at hRow8 (hF9.1 1 (by decide))
          exact ⟨QXr_mk (QR.cnt hR9 (by decide)) (Row_at hRow9 rfl) hK9.c21 hs9, FLn.cnt (hL8.tr hF9.fl) (by decide) (by decide)⟩
        refine v_aload_n C dX6_fillLine_82 rfl ?_
        refine v_getiQ (x := nI (fil4 b len n st m k).2.1) C fl_X6_76 oi_qS_0_16 (hR6.2.2.2.2.1) dX6_fillLine_83 ?_
        refine v_if_ne C 98 dX6_fillLine_86 (by decide) (fun c86 => ?_) (fun c86 => ?_)
        · have hz4 : ¬ (fil4 b len n st m k).2.1 = 0 := fun z => c86 (by rw [z]; rfl)
          refine V.sub (lo2 := [some _, none, none, none, none]) ⟨rfl, trivial⟩ ?_
          first
          | exact J98 _ hR8 hL8 hs8 hK8 hRow8
          | exact J98 _ hR6 hFb.fl hs6 hK6 (by rw [if_neg (by rw [ok_b hz4]; exact Bool.false_ne_true)]; exact hRow6)
        · have hz4 : (fil4 b len n st m k).2.1 = 0 := nI_inj (b := 0) (by have := hR6.2.2.2.1; omega) (by omega) c86
          refine v_aload_n C dX6_fillLine_89 rfl ?_
          refine v_iload_n C dX6_fillLine_90 rfl ?_
          refine v_iload_n C dX6_fillLine_91 rfl ?_
          refine v_iload_n C dX6_fillLine_92 rfl ?_
          refine v_callVi C (c_X6_fills hl (g := g6) (m := m) (n := n) (a := p1) (b := p2) (v := nI p3) hRow6 hE hI hs6 rg2.1 (by omega)) ym_X6_fills ml_X6_150 emb_id_qS rfl rfl rfl rfl rfl dX6_fillLine_93 (Nat.le_of_ble_eq_true rfl) (Nat.le_of_ble_eq_true rfl) (Nat.le_of_ble_eq_true rfl) (Nat.le_of_ble_eq_true rfl) (fun _ _ hu => hu.elim) (fun r u hu => ?_)
          obtain ⟨rfl, f, hu, hRf⟩ := hu
          subst u
          obtain ⟨g8, eg8⟩ : ∃ x, x = sG g6 1 f := ⟨_, rfl⟩
          have hR8 : QR b len (fil4 b len n st m k) g8 := by rw [eg8]; exact QR.row hR6
          have hL8 : FLn g g8 := by rw [eg8]; exact FLn.row hFb.fl
          have hs8 : g8 0 2 = nI n := by rw [eg8]; exact hs6
          have hK8 : KQ k g8 := by rw [eg8]; exact hK6
          have hRow8 : RowR (if ok (fil4 b len n st m k) = true then (fillM n p1 p2 (nI p3) m).2 else m) (g8 1) := by rw [if_pos (ok_gz hz4), eg8]; exact hRf
          refine V.stt (g2 := g8) eg8.symm ?_
          refine v_istore C (lo2 := [some _, some _, some _, some _, some _]) dX6_fillLine_96 rfl (Nat.le_of_ble_eq_true rfl) rfl ?_
          refine V.sub (lo2 := [some _, none, none, none, none]) ⟨rfl, trivial⟩ ?_
          first
          | exact J98 _ hR8 hL8 hs8 hK8 hRow8
          | exact J98 _ hR6 hFb.fl hs6 hK6 (by rw [if_neg (by rw [ok_b hz4]; exact Bool.false_ne_true)]; exact hRow6)
  · refine v_iconst (v := nI 1) C dX6_fillLine_10 (by decide) ?_
    refine v_goto C 15 dX6_fillLine_11 (by decide) ?_
    refine V.eqs (st2 := [.int (bI (decide (k.2.2.2 = 6))), .ref (h 0)]) ?_ (congrArg (fun z => [Value.int z, Value.ref (h 0)]) (by first | exact bI_t (decide_eq_true (by omega)) | exact bI_f (decide_eq_false (by omega))))
    refine v_iconst (v := nI 4) C dX6_fillLine_15 (by decide) ?_
    refine v_callVv C (c_X6_failsIf hl (cd := 4) (p := decide (k.2.2.2 = 6)) hR (by decide) (by decide)) ym_X6_failsIf ml_X6_113 emb_id_qS rfl rfl rfl rfl rfl dX6_fillLine_16 (Nat.le_of_ble_eq_true rfl) (Nat.le_of_ble_eq_true rfl) (Nat.le_of_ble_eq_true rfl) (Nat.le_of_ble_eq_true rfl) (fun _ _ hu => hu.elim) (fun r u hu => ?_)
    rw [hWe] at hu
    obtain ⟨hR1, hF1⟩ := hu
    obtain ⟨g1, eg1⟩ : ∃ x, x = u := ⟨u, rfl⟩
    subst eg1
    refine v_aload_n C dX6_fillLine_19 rfl ?_
    refine v_callVv C (c_X6_goesOn hl hR1 hb (when_k (by decide) hk4)) ym_X6_goesOn ml_X6_106 emb_id_qS rfl rfl rfl rfl rfl dX6_fillLine_20 (Nat.le_of_ble_eq_true rfl) (Nat.le_of_ble_eq_true rfl) (Nat.le_of_ble_eq_true rfl) (Nat.le_of_ble_eq_true rfl) (fun _ _ hu => hu.elim) (fun r u hu => ?_)
    obtain ⟨hR2, hF2⟩ := hu
    obtain ⟨g2, eg2⟩ : ∃ x, x = u := ⟨u, rfl⟩
    subst eg2
    have hs2 : g2 0 2 = nI n := (hF2.2 2 (by decide)).trans ((hF1.2 2 (by decide)).trans hs)
    refine v_aload_n C dX6_fillLine_23 rfl ?_
    refine v_iconst (v := nI 0) C dX6_fillLine_24 (by decide) ?_
    refine v_aload_n C dX6_fillLine_25 rfl ?_
    refine v_getiQ (x := nI n) C fl_X6_126 oi_qS_0_2 (hs2) dX6_fillLine_26 ?_
    refine v_iconst (v := nI 1) C dX6_fillLine_29 (by decide) ?_
    first | refine v_isubN C dX6_fillLine_30 (by omega) ?_ | refine v_isub C dX6_fillLine_30 ?_
    refine v_callVi C (c_X6_takesN hl (s0 := (whenS (decide (6 < k.2.2.2 + 1)) 4 st)) hR2 (by omega) (by omega) hb) ym_X6_takes ml_X6_117 emb_id_qS rfl rfl rfl rfl rfl dX6_fillLine_31 (Nat.le_of_ble_eq_true rfl) (Nat.le_of_ble_eq_true rfl) (Nat.le_of_ble_eq_true rfl) (Nat.le_of_ble_eq_true rfl) (fun _ _ hu => hu.elim) (fun r u hu => ?_)
    obtain ⟨rfl, hR3, hF3⟩ := hu
    obtain ⟨g3, eg3⟩ : ∃ x, x = u := ⟨u, rfl⟩
    subst eg3
    have hR3 : QR b len (advS b len (fil1 b len n st k).1) g3 := hR3
    show V X _ _ _ (Value.int (nI (fil1 b len n st k).2) :: _) _ _ _
    obtain ⟨p1, hp1⟩ : ∃ x, EqH x (fil1 b len n st k).2 := ⟨_, rfl⟩
    have hp1e : (fil1 b len n st k).2 = p1 := Eq.symm hp1
    rw [hp1e]
    clear hp1e
    have rg1 := (numS_h (Nat.zero_le _) hp1).2
    have hs3 : g3 0 2 = nI n := (hF3.2 2 (by decide)).trans hs2
    refine v_istore_n C (lo2 := [some _, some _, none, none, none]) dX6_fillLine_34 rfl (Nat.le_of_ble_eq_true rfl) rfl ?_
    refine v_aload_n C dX6_fillLine_35 rfl ?_
    refine v_iload_n C dX6_fillLine_36 rfl ?_
    refine v_aload_n C dX6_fillLine_37 rfl ?_
    refine v_getiQ (x := nI n) C fl_X6_126 oi_qS_0_2 (hs3) dX6_fillLine_38 ?_
    refine v_iconst (v := nI 1) C dX6_fillLine_41 (by decide) ?_
    first | refine v_isubN C dX6_fillLine_42 (by omega) ?_ | refine v_isub C dX6_fillLine_42 ?_
    refine v_callVi C (c_X6_takesN hl (s0 := (fil1 b len n st k).1) (lo := p1) hR3 (by omega) (by omega) hb) ym_X6_takes ml_X6_117 emb_id_qS rfl rfl rfl rfl rfl dX6_fillLine_43 (Nat.le_of_ble_eq_true rfl) (Nat.le_of_ble_eq_true rfl) (Nat.le_of_ble_eq_true rfl) (Nat.le_of_ble_eq_true rfl) (fun _ _ hu => hu.elim) (fun r u hu => ?_)
    obtain ⟨rfl, hR4, hF4⟩ := hu
    obtain ⟨g4, eg4⟩ : ∃ x, x = u := ⟨u, rfl⟩
    subst eg4
    have hp1e : p1 = (fil1 b len n st k).2 := hp1
    have hR4 : QR b len (advS b len (fil2 b len n st k).1) g4 := by
      rw [hp1e] at hR4
      exact hR4
    obtain ⟨p2, hp2, hp2e⟩ : ∃ x, EqH x (fil2 b len n st k).2 ∧ EqH (numS b len p1 (n - 1) (fil1 b len n st k).1).2 x := ⟨_, rfl, by rw [hp1e]; rfl⟩
    clear hp1e
    have hp2f : (numS b len p1 (n - 1) (fil1 b len n st k).1).2 = p2 := hp2e
    rw [hp2f]
    clear hp2f
    have rg2 := numS_h (p := p2) rg1 (Eq.symm hp2e)
    clear hp2e
    have hs4 : g4 0 2 = nI n := (hF4.2 2 (by decide)).trans hs3
    refine v_istore_n C (lo2 := [some _, some _, some _, none, none]) dX6_fillLine_46 rfl (Nat.le_of_ble_eq_true rfl) rfl ?_
    refine v_aload_n C dX6_fillLine_47 rfl ?_
    refine v_iconst (v := nI 0) C dX6_fillLine_48 (by decide) ?_
    refine v_sipush (v := nI 255) C dX6_fillLine_49 (by decide) ?_
    refine v_callVi C (c_X6_numberHereN hl (s0 := (fil2 b len n st k).1) hR4 (by omega) (by omega)) ym_X6_numberHere ml_X6_102 emb_id_qS rfl rfl rfl rfl rfl dX6_fillLine_52 (Nat.le_of_ble_eq_true rfl) (Nat.le_of_ble_eq_true rfl) (Nat.le_of_ble_eq_true rfl) (Nat.le_of_ble_eq_true rfl) (fun _ _ hu => hu.elim) (fun r u hu => ?_)
    obtain ⟨rfl, hR5, hF5⟩ := hu
    obtain ⟨g5, eg5⟩ : ∃ x, x = u := ⟨u, rfl⟩
    subst eg5
    have hR5 : QR b len (fil3 b len n st k).1 g5 := hR5
    show V X _ _ _ (Value.int (nI (fil3 b len n st k).2) :: _) _ _ _
    obtain ⟨p3, hp3⟩ : ∃ x, EqH x (fil3 b len n st k).2 := ⟨_, rfl⟩
    have hp3e : (fil3 b len n st k).2 = p3 := Eq.symm hp3
    rw [hp3e]
    clear hp3e
    have hs5 : g5 0 2 = nI n := (hF5.2 2 (by decide)).trans hs4
    have hFa := ((hF1.tr hF2).tr hF3).tr (hF4.tr hF5)
    have hRow5 : RowR m (g5 1) := by rw [hFa.1 1 (by decide)]; exact hRow
    refine v_istore_n C (lo2 := [some _, some _, some _, some _, none]) dX6_fillLine_55 rfl (Nat.le_of_ble_eq_true rfl) rfl ?_
    refine v_aload_n C dX6_fillLine_56 rfl ?_
    refine v_aload_n C dX6_fillLine_57 rfl ?_
    refine v_getiQ (x := nI (fil3 b len n st k).1.2.1) C fl_X6_76 oi_qS_0_16 (hR5.2.2.2.2.1) dX6_fillLine_58 ?_
    refine v_if_ne C 77 dX6_fillLine_61 (by decide) (fun c61 => ?_) (fun c61 => ?_)
    · have hz3 : ¬ (fil3 b len n st k).1.2.1 = 0 := fun z => c61 (by rw [z]; rfl)
      refine v_iconst (v := nI 0) C dX6_fillLine_77 (by decide) ?_
      refine V.eqs (st2 := [.int (bI (ok (fil3 b len n st k).1 && anyG (lockB m) p1 (p2 + 1 - p1))), .ref (h 0)]) ?_ (congrArg (fun z => [Value.int z, Value.ref (h 0)]) (by first | exact bI_f (by rw [ok_b hz3]; rfl) | exact bI_f (by rw [ok_gz hz3, c70]; rfl) | exact bI_t (by rw [ok_gz hz3, c70]; rfl)))
      refine v_iconst (v := nI 3) C dX6_fillLine_78 (by decide) ?_
      refine v_callVv C (c_X6_failsIf hl (cd := 3) (p := ok (fil3 b len n st k).1 && anyG (lockB m) p1 (p2 + 1 - p1)) hR5 (by decide) (by decide)) ym_X6_failsIf ml_X6_113 emb_id_qS rfl rfl rfl rfl rfl dX6_fillLine_79 (Nat.le_of_ble_eq_true rfl) (Nat.le_of_ble_eq_true rfl) (Nat.le_of_ble_eq_true rfl) (Nat.le_of_ble_eq_true rfl) (fun _ _ hu => hu.elim) (fun r u hu => ?_)
      rw [show whenS (ok (fil3 b len n st k).1 && anyG (lockB m) p1 (p2 + 1 - p1)) 3 (fil3 b len n st k).1 = (fil4 b len n st m k) by rw [fil4_eq hp1 hp2]; exact when_eq (fun z => by rw [z, Bool.true_and])] at hu
      obtain ⟨hR6, hF6⟩ := hu
      obtain ⟨g6, eg6⟩ : ∃ x, x = u := ⟨u, rfl⟩
      subst eg6
      have hFb := hFa.tr hF6
      have hRow6 : RowR m (g6 1) := by rw [hFb.1 1 (by decide)]; exact hRow
      have hs6 : g6 0 2 = nI n := (hFb.2 2 (by decide)).trans hs
      have hK6 := hK.fq hFb
      have J98 : ∀ g8 : G, QR b len (fil4 b len n st m k) g8 → FLn g g8 → g8 0 2 = nI n → KQ k g8 → RowR (if ok (fil4 b len n st m k) = true then (fillM n p1 p2 (nI p3) m).2 else m) (g8 1) → V X (qS (xK X) h) 98 [some (.ref (h 0)), none, none, none, none] [] g8 0 0 := by
        intro g8 hR8 hL8 hs8 hK8 hRow8
        have hk9 : (fil4 b len n st m k).2.1 = 0 → ¬ (fil4 b len n st m k).1.1 = 4 := by
          rw [fil4_eq hp1 hp2]
          refine when_k (by decide) (fun z => ?_)
          have w := fil3_k2 z
          rw [w]
          decide
        refine v_aload_n C dX6_fillLine_98 rfl ?_
        refine v_callVv C (c_X6_goesOn hl hR8 hb hk9) ym_X6_goesOn ml_X6_106 emb_id_qS rfl rfl rfl rfl rfl dX6_fillLine_99 (Nat.le_of_ble_eq_true rfl) (Nat.le_of_ble_eq_true rfl) (Nat.le_of_ble_eq_true rfl) (Nat.le_of_ble_eq_true rfl) (fun _ _ hu => hu.elim) (fun r u hu => ?_)
        obtain ⟨hR9, hF9⟩ := hu
        obtain ⟨g9, eg9⟩ : ∃ x, x = u := ⟨u, rfl⟩
        subst eg9
        have hK9 := hK8.fq hF9
        refine v_aload_n C dX6_fillLine_102 rfl ?_
        refine v_dup C dX6_fillLine_103 rfl ?_
        refine v_getiQ (x := nI k.2.2.2) C fl_X6_143 oi_qS_0_21 (hK9.2.2.2) dX6_fillLine_104 ?_
        refine v_iconst (v := nI 1) C dX6_fillLine_107 (by decide) ?_
        first | refine v_iaddN C dX6_fillLine_108 ?_ | refine v_iadd C dX6_fillLine_108 ?_
        refine v_puti C fl_X6_143 fw_X6_21 oi_qS_0_21 ⟨rfl, rfl⟩ dX6_fillLine_109 ?_
        refine V.stt (g2 := (sG g9 0 (upd (g9 0) 21 (nI (k.2.2.2 + 1))))) (rfl) ?_
        refine v_vret C F dX6_fillLine_112 (Nat.le_of_ble_eq_true rfl) (Nat.le_of_ble_eq_true rfl) ?_
        rw [lnFill_eq hp1 hp2 hp3]
        have hs9 := (hF9.2 2 (by decide)).trans hs8
        have hRow9 := Row_at hRow8 (hF9.1 1 (by decide))
        exact ⟨QXr_mk (QR.cnt hR9 (by decide)) (Row_at hRow9 rfl) hK9.c21 hs9, FLn.cnt (hL8.tr hF9.fl) (by decide) (by decide)⟩
      refine v_aload_n C dX6_fillLine_82 rfl ?_
      refine v_getiQ (x := nI (fil4 b len n st m k).2.1) C fl_X6_76 oi_qS_0_16 (hR6.2.2.2.2.1) dX6_fillLine_83 ?_
      refine v_if_ne C 98 dX6_fillLine_86 (by decide) (fun c86 => ?_) (fun c86 => ?_)
      · have hz4 : ¬ (fil4 b len n st m k).2.1 = 0 := fun z => c86 (by rw [z]; rfl)
        refine V.sub (lo2 := [some _, none, none, none, none]) ⟨rfl, trivial⟩ ?_
        first
        | exact J98 _ hR8 hL8 hs8 hK8 hRow8
        | exact J98 _ hR6 hFb.fl hs6 hK6 (by rw [if_neg (by rw [ok_b hz4]; exact Bool.false_ne_true)]; exact hRow6)
      · have hz4 : (fil4 b len n st m k).2.1 = 0 := nI_inj (b := 0) (by have := hR6.2.2.2.1; omega) (by omega) c86
        refine v_aload_n C dX6_fillLine_89 rfl ?_
        refine v_iload_n C dX6_fillLine_90 rfl ?_
        refine v_iload_n C dX6_fillLine_91 rfl ?_
        refine v_iload_n C dX6_fillLine_92 rfl ?_
        refine v_callVi C (c_X6_fills hl (g := g6) (m := m) (n := n) (a := p1) (b := p2) (v := nI p3) hRow6 hE hI hs6 rg2.1 (by omega)) ym_X6_fills ml_X6_150 emb_id_qS rfl rfl rfl rfl rfl dX6_fillLine_93 (Nat.le_of_ble_eq_true rfl) (Nat.le_of_ble_eq_true rfl) (Nat.le_of_ble_eq_true rfl) (Nat.le_of_ble_eq_true rfl) (fun _ _ hu => hu.elim) (fun r u hu => ?_)
        obtain ⟨rfl, f, hu, hRf⟩ := hu
        subst u
        obtain ⟨g8, eg8⟩ : ∃ x, x = sG g6 1 f := ⟨_, rfl⟩
        have hR8 : QR b len (fil4 b len n st m k) g8 := by rw [eg8]; exact QR.row hR6
        have hL8 : FLn g g8 := by rw [eg8]; exact FLn.row hFb.fl
        have hs8 : g8 0 2 = nI n := by rw [eg8]; exact hs6
        have hK8 : KQ k g8 := by rw [eg8]; exact hK6
        have hRow8 : RowR (if ok (fil4 b len n st m k) = true then (fillM n p1 p2 (nI p3) m).2 else m) (g8 1) := by rw [if_pos (ok_gz hz4), eg8]; exact hRf
        refine V.stt (g2 := g8) eg8.symm ?_
        refine v_istore C (lo2 := [some _, some _, some _, some _, some _]) dX6_fillLine_96 rfl (Nat.le_of_ble_eq_true rfl) rfl ?_
        refine V.sub (lo2 := [some _, none, none, none, none]) ⟨rfl, trivial⟩ ?_
        first
        | exact J98 _ hR8 hL8 hs8 hK8 hRow8
        | exact J98 _ hR6 hFb.fl hs6 hK6 (by rw [if_neg (by rw [ok_b hz4]; exact Bool.false_ne_true)]; exact hRow6)
    · have hz3 : (fil3 b len n st k).1.2.1 = 0 := nI_inj (b := 0) (by have := hR5.2.2.2.1; omega) (by omega) c61
      refine v_aload_n C dX6_fillLine_64 rfl ?_
      refine v_iload_n C dX6_fillLine_65 rfl ?_
      refine v_iload_n C dX6_fillLine_66 rfl ?_
      refine v_callVi C (c_X6_anyLocked hl (g := g5) (m := m) hRow5 hLK (by omega) (by omega)) ym_X6_anyLocked ml_X6_146 emb_id_qS rfl rfl rfl rfl rfl dX6_fillLine_67 (Nat.le_of_ble_eq_true rfl) (Nat.le_of_ble_eq_true rfl) (Nat.le_of_ble_eq_true rfl) (Nat.le_of_ble_eq_true rfl) (fun _ _ hu => hu.elim) (fun r u hu => ?_)
      obtain ⟨rfl, hu⟩ := hu
      subst u
      refine V.stt (g2 := g5) (rfl) ?_
      refine v_if_eqB C 77 dX6_fillLine_70 (by decide) (fun c70 => ?_) (fun c70 => ?_)
      · refine v_iconst (v := nI 0) C dX6_fillLine_77 (by decide) ?_
        refine V.eqs (st2 := [.int (bI (ok (fil3 b len n st k).1 && anyG (lockB m) p1 (p2 + 1 - p1))), .ref (h 0)]) ?_ (congrArg (fun z => [Value.int z, Value.ref (h 0)]) (by first | exact bI_f (by rw [ok_b hz3]; rfl) | exact bI_f (by rw [ok_gz hz3, c70]; rfl) | exact bI_t (by rw [ok_gz hz3, c70]; rfl)))
        refine v_iconst (v := nI 3) C dX6_fillLine_78 (by decide) ?_
        refine v_callVv C (c_X6_failsIf hl (cd := 3) (p := ok (fil3 b len n st k).1 && anyG (lockB m) p1 (p2 + 1 - p1)) hR5 (by decide) (by decide)) ym_X6_failsIf ml_X6_113 emb_id_qS rfl rfl rfl rfl rfl dX6_fillLine_79 (Nat.le_of_ble_eq_true rfl) (Nat.le_of_ble_eq_true rfl) (Nat.le_of_ble_eq_true rfl) (Nat.le_of_ble_eq_true rfl) (fun _ _ hu => hu.elim) (fun r u hu => ?_)
        rw [show whenS (ok (fil3 b len n st k).1 && anyG (lockB m) p1 (p2 + 1 - p1)) 3 (fil3 b len n st k).1 = (fil4 b len n st m k) by rw [fil4_eq hp1 hp2]; exact when_eq (fun z => by rw [z, Bool.true_and])] at hu
        obtain ⟨hR6, hF6⟩ := hu
        obtain ⟨g6, eg6⟩ : ∃ x, x = u := ⟨u, rfl⟩
        subst eg6
        have hFb := hFa.tr hF6
        have hRow6 : RowR m (g6 1) := by rw [hFb.1 1 (by decide)]; exact hRow
        have hs6 : g6 0 2 = nI n := (hFb.2 2 (by decide)).trans hs
        have hK6 := hK.fq hFb
        have J98 : ∀ g8 : G, QR b len (fil4 b len n st m k) g8 → FLn g g8 → g8 0 2 = nI n → KQ k g8 → RowR (if ok (fil4 b len n st m k) = true then (fillM n p1 p2 (nI p3) m).2 else m) (g8 1) → V X (qS (xK X) h) 98 [some (.ref (h 0)), none, none, none, none] [] g8 0 0 := by
          intro g8 hR8 hL8 hs8 hK8 hRow8
          have hk9 : (fil4 b len n st m k).2.1 = 0 → ¬ (fil4 b len n st m k).1.1 = 4 := by
            rw [fil4_eq hp1 hp2]
            refine when_k (by decide) (fun z => ?_)
            have w := fil3_k2 z
            rw [w]
            decide
          refine v_aload_n C dX6_fillLine_98 rfl ?_
          refine v_callVv C (c_X6_goesOn hl hR8 hb hk9) ym_X6_goesOn ml_X6_106 emb_id_qS rfl rfl rfl rfl rfl dX6_fillLine_99 (Nat.le_of_ble_eq_true rfl) (Nat.le_of_ble_eq_true rfl) (Nat.le_of_ble_eq_true rfl) (Nat.le_of_ble_eq_true rfl) (fun _ _ hu => hu.elim) (fun r u hu => ?_)
          obtain ⟨hR9, hF9⟩ := hu
          obtain ⟨g9, eg9⟩ : ∃ x, x = u := ⟨u, rfl⟩
          subst eg9
          have hK9 := hK8.fq hF9
          refine v_aload_n C dX6_fillLine_102 rfl ?_
          refine v_dup C dX6_fillLine_103 rfl ?_
          refine v_getiQ (x := nI k.2.2.2) C fl_X6_143 oi_qS_0_21 (hK9.2.2.2) dX6_fillLine_104 ?_
          refine v_iconst (v := nI 1) C dX6_fillLine_107 (by decide) ?_
          first | refine v_iaddN C dX6_fillLine_108 ?_ | refine v_iadd C dX6_fillLine_108 ?_
          refine v_puti C fl_X6_143 fw_X6_21 oi_qS_0_21 ⟨rfl, rfl⟩ dX6_fillLine_109 ?_
          refine V.stt (g2 := (sG g9 0 (upd (g9 0) 21 (nI (k.2.2.2 + 1))))) (rfl) ?_
          refine v_vret C F dX6_fillLine_112 (Nat.le_of_ble_eq_true rfl) (Nat.le_of_ble_eq_true rfl) ?_
          rw [lnFill_eq hp1 hp2 hp3]
          have hs9 := (hF9.2 2 (by decide)).trans hs8
          have hRow9 := Row_at hRow8 (hF9.1 1 (by decide))
          exact ⟨QXr_mk (QR.cnt hR9 (by decide)) (Row_at hRow9 rfl) hK9.c21 hs9, FLn.cnt (hL8.tr hF9.fl) (by decide) (by decide)⟩
        refine v_aload_n C dX6_fillLine_82 rfl ?_
        refine v_getiQ (x := nI (fil4 b len n st m k).2.1) C fl_X6_76 oi_qS_0_16 (hR6.2.2.2.2.1) dX6_fillLine_83 ?_
        refine v_if_ne C 98 dX6_fillLine_86 (by decide) (fun c86 => ?_) (fun c86 => ?_)
        · have hz4 : ¬ (fil4 b len n st m k).2.1 = 0 := fun z => c86 (by rw [z]; rfl)
          refine V.sub (lo2 := [some _, none, none, none, none]) ⟨rfl, trivial⟩ ?_
          first
          | exact J98 _ hR8 hL8 hs8 hK8 hRow8
          | exact J98 _ hR6 hFb.fl hs6 hK6 (by rw [if_neg (by rw [ok_b hz4]; exact Bool.false_ne_true)]; exact hRow6)
        · have hz4 : (fil4 b len n st m k).2.1 = 0 := nI_inj (b := 0) (by have := hR6.2.2.2.1; omega) (by omega) c86
          refine v_aload_n C dX6_fillLine_89 rfl ?_
          refine v_iload_n C dX6_fillLine_90 rfl ?_
          refine v_iload_n C dX6_fillLine_91 rfl ?_
          refine v_iload_n C dX6_fillLine_92 rfl ?_
          refine v_callVi C (c_X6_fills hl (g := g6) (m := m) (n := n) (a := p1) (b := p2) (v := nI p3) hRow6 hE hI hs6 rg2.1 (by omega)) ym_X6_fills ml_X6_150 emb_id_qS rfl rfl rfl rfl rfl dX6_fillLine_93 (Nat.le_of_ble_eq_true rfl) (Nat.le_of_ble_eq_true rfl) (Nat.le_of_ble_eq_true rfl) (Nat.le_of_ble_eq_true rfl) (fun _ _ hu => hu.elim) (fun r u hu => ?_)
          obtain ⟨rfl, f, hu, hRf⟩ := hu
          subst u
          obtain ⟨g8, eg8⟩ : ∃ x, x = sG g6 1 f := ⟨_, rfl⟩
          have hR8 : QR b len (fil4 b len n st m k) g8 := by rw [eg8]; exact QR.row hR6
          have hL8 : FLn g g8 := by rw [eg8]; exact FLn.row hFb.fl
          have hs8 : g8 0 2 = nI n := by rw [eg8]; exact hs6
          have hK8 : KQ k g8 := by rw [eg8]; exact hK6
          have hRow8 : RowR (if ok (fil4 b len n st m k) = true then (fillM n p1 p2 (nI p3) m).2 else m) (g8 1) := by rw [if_pos (ok_gz hz4), eg8]; exact hRf
          refine V.stt (g2 := g8) eg8.symm ?_
          refine v_istore C (lo2 := [some _, some _, some _, some _, some _]) dX6_fillLine_96 rfl (Nat.le_of_ble_eq_true rfl) rfl ?_
          refine V.sub (lo2 := [some _, none, none, none, none]) ⟨rfl, trivial⟩ ?_
          first
          | exact J98 _ hR8 hL8 hs8 hK8 hRow8
          | exact J98 _ hR6 hFb.fl hs6 hK6 (by rw [if_neg (by rw [ok_b hz4]; exact Bool.false_ne_true)]; exact hRow6)
      · refine v_iconst (v := nI 1) C dX6_fillLine_73 (by decide) ?_
        refine v_goto C 78 dX6_fillLine_74 (by decide) ?_
        refine V.eqs (st2 := [.int (bI (ok (fil3 b len n st k).1 && anyG (lockB m) p1 (p2 + 1 - p1))), .ref (h 0)]) ?_ (congrArg (fun z => [Value.int z, Value.ref (h 0)]) (by first | exact bI_f (by rw [ok_b hz3]; rfl) | exact bI_f (by rw [ok_gz hz3, c70]; rfl) | exact bI_t (by rw [ok_gz hz3, c70]; rfl)))
        refine v_iconst (v := nI 3) C dX6_fillLine_78 (by decide) ?_
        refine v_callVv C (c_X6_failsIf hl (cd := 3) (p := ok (fil3 b len n st k).1 && anyG (lockB m) p1 (p2 + 1 - p1)) hR5 (by decide) (by decide)) ym_X6_failsIf ml_X6_113 emb_id_qS rfl rfl rfl rfl rfl dX6_fillLine_79 (Nat.le_of_ble_eq_true rfl) (Nat.le_of_ble_eq_true rfl) (Nat.le_of_ble_eq_true rfl) (Nat.le_of_ble_eq_true rfl) (fun _ _ hu => hu.elim) (fun r u hu => ?_)
        rw [show whenS (ok (fil3 b len n st k).1 && anyG (lockB m) p1 (p2 + 1 - p1)) 3 (fil3 b len n st k).1 = (fil4 b len n st m k) by rw [fil4_eq hp1 hp2]; exact when_eq (fun z => by rw [z, Bool.true_and])] at hu
        obtain ⟨hR6, hF6⟩ := hu
        obtain ⟨g6, eg6⟩ : ∃ x, x = u := ⟨u, rfl⟩
        subst eg6
        have hFb := hFa.tr hF6
        have hRow6 : RowR m (g6 1) := by rw [hFb.1 1 (by decide)]; exact hRow
        have hs6 : g6 0 2 = nI n := (hFb.2 2 (by decide)).trans hs
        have hK6 := hK.fq hFb
        have J98 : ∀ g8 : G, QR b len (fil4 b len n st m k) g8 → FLn g g8 → g8 0 2 = nI n → KQ k g8 → RowR (if ok (fil4 b len n st m k) = true then (fillM n p1 p2 (nI p3) m).2 else m) (g8 1) → V X (qS (xK X) h) 98 [some (.ref (h 0)), none, none, none, none] [] g8 0 0 := by
          intro g8 hR8 hL8 hs8 hK8 hRow8
          have hk9 : (fil4 b len n st m k).2.1 = 0 → ¬ (fil4 b len n st m k).1.1 = 4 := by
            rw [fil4_eq hp1 hp2]
            refine when_k (by decide) (fun z => ?_)
            have w := fil3_k2 z
            rw [w]
            decide
          refine v_aload_n C dX6_fillLine_98 rfl ?_
          refine v_callVv C (c_X6_goesOn hl hR8 hb hk9) ym_X6_goesOn ml_X6_106 emb_id_qS rfl rfl rfl rfl rfl dX6_fillLine_99 (Nat.le_of_ble_eq_true rfl) (Nat.le_of_ble_eq_true rfl) (Nat.le_of_ble_eq_true rfl) (Nat.le_of_ble_eq_true rfl) (fun _ _ hu => hu.elim) (fun r u hu => ?_)
          obtain ⟨hR9, hF9⟩ := hu
          obtain ⟨g9, eg9⟩ : ∃ x, x = u := ⟨u, rfl⟩
          subst eg9
          have hK9 := hK8.fq hF9
          refine v_aload_n C dX6_fillLine_102 rfl ?_
          refine v_dup C dX6_fillLine_103 rfl ?_
          refine v_getiQ (x := nI k.2.2.2) C fl_X6_143 oi_qS_0_21 (hK9.2.2.2) dX6_fillLine_104 ?_
          refine v_iconst (v := nI 1) C dX6_fillLine_107 (by decide) ?_
          first | refine v_iaddN C dX6_fillLine_108 ?_ | refine v_iadd C dX6_fillLine_108 ?_
          refine v_puti C fl_X6_143 fw_X6_21 oi_qS_0_21 ⟨rfl, rfl⟩ dX6_fillLine_109 ?_
          refine V.stt (g2 := (sG g9 0 (upd (g9 0) 21 (nI (k.2.2.2 + 1))))) (rfl) ?_
          refine v_vret C F dX6_fillLine_112 (Nat.le_of_ble_eq_true rfl) (Nat.le_of_ble_eq_true rfl) ?_
          rw [lnFill_eq hp1 hp2 hp3]
          have hs9 := (hF9.2 2 (by decide)).trans hs8
          have hRow9 := Row_at hRow8 (hF9.1 1 (by decide))
          exact ⟨QXr_mk (QR.cnt hR9 (by decide)) (Row_at hRow9 rfl) hK9.c21 hs9, FLn.cnt (hL8.tr hF9.fl) (by decide) (by decide)⟩
        refine v_aload_n C dX6_fillLine_82 rfl ?_
        refine v_getiQ (x := nI (fil4 b len n st m k).2.1) C fl_X6_76 oi_qS_0_16 (hR6.2.2.2.2.1) dX6_fillLine_83 ?_
        refine v_if_ne C 98 dX6_fillLine_86 (by decide) (fun c86 => ?_) (fun c86 => ?_)
        · have hz4 : ¬ (fil4 b len n st m k).2.1 = 0 := fun z => c86 (by rw [z]; rfl)
          refine V.sub (lo2 := [some _, none, none, none, none]) ⟨rfl, trivial⟩ ?_
          first
          | exact J98 _ hR8 hL8 hs8 hK8 hRow8
          | exact J98 _ hR6 hFb.fl hs6 hK6 (by rw [if_neg (by rw [ok_b hz4]; exact Bool.false_ne_true)]; exact hRow6)
        · have hz4 : (fil4 b len n st m k).2.1 = 0 := nI_inj (b := 0) (by have := hR6.2.2.2.1; omega) (by omega) c86
          refine v_aload_n C dX6_fillLine_89 rfl ?_
          refine v_iload_n C dX6_fillLine_90 rfl ?_
          refine v_iload_n C dX6_fillLine_91 rfl ?_
          refine v_iload_n C dX6_fillLine_92 rfl ?_
          refine v_callVi C (c_X6_fills hl (g := g6) (m := m) (n := n) (a := p1) (b := p2) (v := nI p3) hRow6 hE hI hs6 rg2.1 (by omega)) ym_X6_fills ml_X6_150 emb_id_qS rfl rfl rfl rfl rfl dX6_fillLine_93 (Nat.le_of_ble_eq_true rfl) (Nat.le_of_ble_eq_true rfl) (Nat.le_of_ble_eq_true rfl) (Nat.le_of_ble_eq_true rfl) (fun _ _ hu => hu.elim) (fun r u hu => ?_)
          obtain ⟨rfl, f, hu, hRf⟩ := hu
          subst u
          obtain ⟨g8, eg8⟩ : ∃ x, x = sG g6 1 f := ⟨_, rfl⟩
          have hR8 : QR b len (fil4 b len n st m k) g8 := by rw [eg8]; exact QR.row hR6
          have hL8 : FLn g g8 := by rw [eg8]; exact FLn.row hFb.fl
          have hs8 : g8 0 2 = nI n := by rw [eg8]; exact hs6
          have hK8 : KQ k g8 := by rw [eg8]; exact hK6
          have hRow8 : RowR (if ok (fil4 b len n st m k) = true then (fillM n p1 p2 (nI p3) m).2 else m) (g8 1) := by rw [if_pos (ok_gz hz4), eg8]; exact hRf
          refine V.stt (g2 := g8) eg8.symm ?_
          refine v_istore C (lo2 := [some _, some _, some _, some _, some _]) dX6_fillLine_96 rfl (Nat.le_of_ble_eq_true rfl) rfl ?_
          refine V.sub (lo2 := [some _, none, none, none, none]) ⟨rfl, trivial⟩ ?_
          first
          | exact J98 _ hR8 hL8 hs8 hK8 hRow8
          | exact J98 _ hR6 hFb.fl hs6 hK6 (by rw [if_neg (by rw [ok_b hz4]; exact Bool.false_ne_true)]; exact hRow6)


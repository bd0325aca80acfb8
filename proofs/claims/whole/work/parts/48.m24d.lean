set_option maxHeartbeats 800000 in
theorem c_X6_lockLine {l : Launch} (hl : l.stackTraces = false) {κ : Kp} {h : Nat → Nat} {g : G} {m : Mg} {n len : Nat} {b : Nat → Int32} {st : St} {k : Cnt} (h96 : n ≤ 96) (hn1 : 1 ≤ n) (hX : QXr b len n (st, m, k) g) (hPI : PI n (st, m, k)) (hKL : KLp (st, m, k)) (hkb : KB k) (hb : BN0 b) (hk4 : ok st = true → ¬ st.1.1 = 4) : Ct SS MM l κ yX6_lockLine cX6_lockLine 5 none 5 0 0 [.ref (h 0)] (qS κ h) g rv (fun _ u => QXr b len n (lnLock b len n (st, m, k)) u ∧ FLn g u) (fun _ _ => False) := by
  refine Ct.of (own := RX6) (by decide) rfl hl (by intro v hv; simp only [List.mem_cons, List.not_mem_nil, or_false] at hv; first | (rcases hv with rfl | rfl | rfl | rfl | rfl | rfl <;> rfl) | (rcases hv with rfl | rfl | rfl | rfl | rfl <;> rfl) | (rcases hv with rfl | rfl | rfl | rfl <;> rfl) | (rcases hv with rfl | rfl | rfl <;> rfl) | (rcases hv with rfl | rfl <;> rfl) | (subst hv; rfl) | exact hv.elim) (Nat.le_of_ble_eq_true rfl) (fun X hxl hxk C F N => ?_)
  subst hxl hxk
  show V X (qS (xK X) h) 0 [some (.ref (h 0)), none, none, none, none] [] g 0 0
  obtain ⟨hR, hRow, hK, hs⟩ := id hX
  have hR : QR b len st g := hR
  have hRow : RowR m (g 1) := hRow
  have hK : KQ k g := hK
  obtain ⟨co, hMI, -, -⟩ := hPI
  have hMI : MI n co m := hMI
  obtain ⟨hI, hE, hLK, -, hSB, hBY, hPR⟩ := id hMI
  obtain ⟨kb1, kb2, kb3, kb4⟩ := id hkb
  have hKL : ok st = true → KL k := hKL
  have hWe : whenS (decide (k.2.1 = 6)) 4 st = (whenS (decide (6 < k.2.1 + 1)) 4 st) := when_eq (fun z => decide_eq_decide.mpr (by have := (hKL z).2.1; omega))
  refine v_aload_n C dX6_lockLine_0 rfl ?_
  refine v_aload_n C dX6_lockLine_1 rfl ?_
  refine v_getiQ (x := nI k.2.1) C fl_X6_129 oi_qS_0_19 (hK.2.1) dX6_lockLine_2 ?_
  refine v_bipush (v := nI 6) C dX6_lockLine_5 (by decide) ?_
  first | refine v_icmp_neN C 14 dX6_lockLine_7 (by decide) (by omega) (by omega) (fun c7 => ?_) (fun c7 => ?_) | refine v_icmp_ne C 14 dX6_lockLine_7 (by decide) (fun c7 => ?_) (fun c7 => ?_)
  · refine v_iconst (v := nI 0) C dX6_lockLine_14 (by decide) ?_
    refine V.eqs (st2 := [.int (bI (decide (k.2.1 = 6))), .ref (h 0)]) ?_ (congrArg (fun z => [Value.int z, Value.ref (h 0)]) (by first | exact bI_t (decide_eq_true (by omega)) | exact bI_f (decide_eq_false (by omega))))
    refine v_iconst (v := nI 4) C dX6_lockLine_15 (by decide) ?_
    refine v_callVv C (c_X6_failsIf hl (cd := 4) (p := decide (k.2.1 = 6)) hR (by decide) (by decide)) ym_X6_failsIf ml_X6_113 emb_id_qS rfl rfl rfl rfl rfl dX6_lockLine_16 (Nat.le_of_ble_eq_true rfl) (Nat.le_of_ble_eq_true rfl) (Nat.le_of_ble_eq_true rfl) (Nat.le_of_ble_eq_true rfl) (fun _ _ hu => hu.elim) (fun r u hu => ?_)
    rw [hWe] at hu
    obtain ⟨hR1, hF1⟩ := hu
    obtain ⟨g1, eg1⟩ : ∃ x, x = u := ⟨u, rfl⟩
    subst eg1
    refine v_aload_n C dX6_lockLine_19 rfl ?_
    refine v_callVv C (c_X6_goesOn hl hR1 hb (when_k (by decide) hk4)) ym_X6_goesOn ml_X6_106 emb_id_qS rfl rfl rfl rfl rfl dX6_lockLine_20 (Nat.le_of_ble_eq_true rfl) (Nat.le_of_ble_eq_true rfl) (Nat.le_of_ble_eq_true rfl) (Nat.le_of_ble_eq_true rfl) (fun _ _ hu => hu.elim) (fun r u hu => ?_)
    obtain ⟨hR2, hF2⟩ := hu
    obtain ⟨g2, eg2⟩ : ∃ x, x = u := ⟨u, rfl⟩
    subst eg2
    have hs2 : g2 0 2 = nI n := (hF2.2 2 (by decide)).trans ((hF1.2 2 (by decide)).trans hs)
    refine v_aload_n C dX6_lockLine_23 rfl ?_
    refine v_iconst (v := nI 0) C dX6_lockLine_24 (by decide) ?_
    refine v_aload_n C dX6_lockLine_25 rfl ?_
    refine v_getiQ (x := nI n) C fl_X6_126 oi_qS_0_2 (hs2) dX6_lockLine_26 ?_
    refine v_iconst (v := nI 1) C dX6_lockLine_29 (by decide) ?_
    first | refine v_isubN C dX6_lockLine_30 (by omega) ?_ | refine v_isub C dX6_lockLine_30 ?_
    refine v_callVi C (c_X6_takesN hl (s0 := (whenS (decide (6 < k.2.1 + 1)) 4 st)) hR2 (by omega) (by omega) hb) ym_X6_takes ml_X6_117 emb_id_qS rfl rfl rfl rfl rfl dX6_lockLine_31 (Nat.le_of_ble_eq_true rfl) (Nat.le_of_ble_eq_true rfl) (Nat.le_of_ble_eq_true rfl) (Nat.le_of_ble_eq_true rfl) (fun _ _ hu => hu.elim) (fun r u hu => ?_)
    obtain ⟨rfl, hR3, hF3⟩ := hu
    obtain ⟨g3, eg3⟩ : ∃ x, x = u := ⟨u, rfl⟩
    subst eg3
    have hR3 : QR b len (advS b len (lok1 b len n st k).1) g3 := hR3
    show V X _ _ _ (Value.int (nI (lok1 b len n st k).2) :: _) _ _ _
    obtain ⟨p1, hp1⟩ : ∃ x, EqH x (lok1 b len n st k).2 := ⟨_, rfl⟩
    have hp1e : (lok1 b len n st k).2 = p1 := Eq.symm hp1
    rw [hp1e]
    clear hp1e
    have rg1 := (numS_h (Nat.zero_le _) hp1).2
    have hs3 : g3 0 2 = nI n := (hF3.2 2 (by decide)).trans hs2
    refine v_istore_n C (lo2 := [some _, some _, none, none, none]) dX6_lockLine_34 rfl (Nat.le_of_ble_eq_true rfl) rfl ?_
    refine v_aload_n C dX6_lockLine_35 rfl ?_
    refine v_iload_n C dX6_lockLine_36 rfl ?_
    refine v_aload_n C dX6_lockLine_37 rfl ?_
    refine v_getiQ (x := nI n) C fl_X6_126 oi_qS_0_2 (hs3) dX6_lockLine_38 ?_
    refine v_iconst (v := nI 1) C dX6_lockLine_41 (by decide) ?_
    first | refine v_isubN C dX6_lockLine_42 (by omega) ?_ | refine v_isub C dX6_lockLine_42 ?_
    refine v_callVi C (c_X6_takesN hl (s0 := (lok1 b len n st k).1) (lo := p1) hR3 (by omega) (by omega) hb) ym_X6_takes ml_X6_117 emb_id_qS rfl rfl rfl rfl rfl dX6_lockLine_43 (Nat.le_of_ble_eq_true rfl) (Nat.le_of_ble_eq_true rfl) (Nat.le_of_ble_eq_true rfl) (Nat.le_of_ble_eq_true rfl) (fun _ _ hu => hu.elim) (fun r u hu => ?_)
    obtain ⟨rfl, hR4, hF4⟩ := hu
    obtain ⟨g4, eg4⟩ : ∃ x, x = u := ⟨u, rfl⟩
    subst eg4
    have hp1e : p1 = (lok1 b len n st k).2 := hp1
    have hR4 : QR b len (advS b len (lok2 b len n st k).1) g4 := by
      rw [hp1e] at hR4
      exact hR4
    obtain ⟨p2, hp2, hp2e⟩ : ∃ x, EqH x (lok2 b len n st k).2 ∧ EqH (numS b len p1 (n - 1) (lok1 b len n st k).1).2 x := ⟨_, rfl, by rw [hp1e]; rfl⟩
    clear hp1e
    have hp2f : (numS b len p1 (n - 1) (lok1 b len n st k).1).2 = p2 := hp2e
    rw [hp2f]
    clear hp2f
    have rg2 := numS_h (p := p2) rg1 (Eq.symm hp2e)
    clear hp2e
    have hs4 : g4 0 2 = nI n := (hF4.2 2 (by decide)).trans hs3
    have hFa := ((hF1.tr hF2).tr hF3).tr hF4
    have hRow4 : RowR m (g4 1) := by rw [hFa.1 1 (by decide)]; exact hRow
    have hK4 := hK.fq hFa
    have h16z : g4 0 16 = nI (lok2 b len n st k).1.2.1 := by have := hR4.2.2.2.2.1; rw [adv_2] at this; exact this
    refine v_istore_n C (lo2 := [some _, some _, some _, none, none]) dX6_lockLine_46 rfl (Nat.le_of_ble_eq_true rfl) rfl ?_
    refine v_iload_n C dX6_lockLine_47 rfl ?_
    refine v_istore_n C (lo2 := [some _, some _, some _, some _, none]) dX6_lockLine_48 rfl (Nat.le_of_ble_eq_true rfl) rfl ?_
    have L49 : ∀ (t : Nat × Mg × (Nat → Int32)), (fun t => p1 ≤ t.1 ∧ t.1 ≤ p2 + 1 ∧ MI n co t.2.1 ∧ RowR t.2.1 t.2.2 ∧ (ok (lok2 b len n st k).1 = true → forG (fun p y => payO 2 (lckM y p (nI 1)) p) t.1 (p2 + 1 - t.1) t.2.1 = lockM p1 p2 m) ∧ (ok (lok2 b len n st k).1 = false → t.2.1 = m)) t → (fun t : Nat × Mg × (Nat → Int32) => V X (qS (xK X) h) 49 [some (.ref (h 0)), some (.int (nI p1)), some (.int (nI p2)), some (.int (nI t.1)), none] [] (sG g4 1 t.2.2) 0 0) t := by
      refine v_ind (fun t : Nat × Mg × (Nat → Int32) => p2 + 1 - t.1) ?_
      rintro ⟨t, y, f⟩ ih49 hI49
      try dsimp only at hI49 ⊢
      obtain ⟨i1, i2, hyI, hRy, i4, i5⟩ := hI49
      have i1 : p1 ≤ t := i1
      have i2 : t ≤ p2 + 1 := i2
      have hyI : MI n co y := hyI
      have hRy : RowR y f := hRy
      refine v_iload_n C dX6_lockLine_49 rfl ?_
      refine v_iload_n C dX6_lockLine_50 rfl ?_
      first | refine v_icmp_gtN C 74 dX6_lockLine_51 (by decide) (by omega) (by omega) (fun c51 => ?_) (fun c51 => ?_) | refine v_icmp_gt C 74 dX6_lockLine_51 (by decide) (fun c51 => ?_) (fun c51 => ?_)
      · have hfin : y = if ok (lok2 b len n st k).1 = true then lockM p1 p2 m else m := by
          cases ho : ok (lok2 b len n st k).1
          · rw [if_neg Bool.false_ne_true]; exact i5 ho
          · rw [if_pos rfl]
            have := i4 ho
            rw [forG_0 (by omega)] at this
            exact this
        refine v_aload_n C dX6_lockLine_74 rfl ?_
        refine v_dup C dX6_lockLine_75 rfl ?_
        refine v_getiQ (x := nI k.2.1) C fl_X6_129 oi_qS_0_19 (hK4.2.1) dX6_lockLine_76 ?_
        refine v_iconst (v := nI 1) C dX6_lockLine_79 (by decide) ?_
        first | refine v_iaddN C dX6_lockLine_80 ?_ | refine v_iadd C dX6_lockLine_80 ?_
        refine v_puti C fl_X6_129 fw_X6_19 oi_qS_0_19 ⟨rfl, rfl⟩ dX6_lockLine_81 ?_
        refine V.stt (g2 := (sG (sG g4 1 f) 0 (upd (g4 0) 19 (nI (k.2.1 + 1))))) (rfl) ?_
        refine v_vret C F dX6_lockLine_84 (Nat.le_of_ble_eq_true rfl) (Nat.le_of_ble_eq_true rfl) ?_
        rw [lnLock_eq hp1 hp2, ← hfin]
        exact ⟨QXr_mk (u := sG (sG g4 1 f) 0 (upd (g4 0) 19 (nI (k.2.1 + 1)))) (QR.cnt (g := sG g4 1 f) (QR.row hR4) (by decide)) (Row_at (g := sG g4 1 f) (by rw [sG_at]; exact hRy) rfl) (KQ.c19 (g := sG g4 1 f) (KQ.row hK4)) hs4, FLn.cnt (u := sG g4 1 f) (FLn.row hFa.fl) (by decide) (by decide)⟩
      · refine v_aload_n C dX6_lockLine_54 rfl ?_
        refine v_getiQ (x := nI (lok2 b len n st k).1.2.1) C fl_X6_76 oi_qS_0_16 (h16z) dX6_lockLine_55 ?_
        refine v_if_ne C 74 dX6_lockLine_58 (by decide) (fun c58 => ?_) (fun c58 => ?_)
        · have hz3 : ¬ (lok2 b len n st k).1.2.1 = 0 := fun z => c58 (by rw [z]; rfl)
          have hfin : y = if ok (lok2 b len n st k).1 = true then lockM p1 p2 m else m := by
            rw [ok_b hz3, if_neg Bool.false_ne_true]; exact i5 (ok_b hz3)
          refine v_aload_n C dX6_lockLine_74 rfl ?_
          refine v_dup C dX6_lockLine_75 rfl ?_
          refine v_getiQ (x := nI k.2.1) C fl_X6_129 oi_qS_0_19 (hK4.2.1) dX6_lockLine_76 ?_
          refine v_iconst (v := nI 1) C dX6_lockLine_79 (by decide) ?_
          first | refine v_iaddN C dX6_lockLine_80 ?_ | refine v_iadd C dX6_lockLine_80 ?_
          refine v_puti C fl_X6_129 fw_X6_19 oi_qS_0_19 ⟨rfl, rfl⟩ dX6_lockLine_81 ?_
          refine V.stt (g2 := (sG (sG g4 1 f) 0 (upd (g4 0) 19 (nI (k.2.1 + 1))))) (rfl) ?_
          refine v_vret C F dX6_lockLine_84 (Nat.le_of_ble_eq_true rfl) (Nat.le_of_ble_eq_true rfl) ?_
          rw [lnLock_eq hp1 hp2, ← hfin]
          exact ⟨QXr_mk (u := sG (sG g4 1 f) 0 (upd (g4 0) 19 (nI (k.2.1 + 1)))) (QR.cnt (g := sG g4 1 f) (QR.row hR4) (by decide)) (Row_at (g := sG g4 1 f) (by rw [sG_at]; exact hRy) rfl) (KQ.c19 (g := sG g4 1 f) (KQ.row hK4)) hs4, FLn.cnt (u := sG g4 1 f) (FLn.row hFa.fl) (by decide) (by decide)⟩
        · have hz3 : (lok2 b len n st k).1.2.1 = 0 := nI_inj (b := 0) (by have := hR4.2.2.2.1; rw [adv_2] at this; omega) (by omega) c58
          refine v_aload_n C dX6_lockLine_61 rfl ?_
          refine v_iload_n C dX6_lockLine_62 rfl ?_
          refine v_callVi C (c_X6_locks hl (g := sG g4 1 f) (m := y) (n := n) (p := t) hRy hyI.2.1 hyI.1 hs4 (by omega)) ym_X6_locks ml_X6_132 emb_id_qS rfl rfl rfl rfl rfl dX6_lockLine_63 (Nat.le_of_ble_eq_true rfl) (Nat.le_of_ble_eq_true rfl) (Nat.le_of_ble_eq_true rfl) (Nat.le_of_ble_eq_true rfl) (fun _ _ hu => hu.elim) (fun r u hu => ?_)
          obtain ⟨rfl, f2, hu, hRf⟩ := hu
          subst u
          refine V.stt (g2 := (sG g4 1 f2)) (sG_sG) ?_
          refine v_istore C (lo2 := [some _, some _, some _, some _, some _]) dX6_lockLine_66 rfl (Nat.le_of_ble_eq_true rfl) rfl ?_
          first | refine v_iinc1 C (lo2 := [some _, some _, some _, some _, some _]) dX6_lockLine_68 rfl rfl rfl ?_ | refine v_iinc C (lo2 := [some _, some _, some _, some _, some _]) dX6_lockLine_68 rfl rfl rfl rfl ?_
          refine v_goto C 49 dX6_lockLine_71 (by decide) ?_
          refine V.sub (lo2 := [some _, some _, some _, some _, none]) ⟨rfl, rfl, rfl, rfl, trivial⟩ ?_
          have ho := ok_gz hz3
          have i6 := i4 ho
          rw [forG_s (show t < p2 + 1 by omega)] at i6
          exact ih49 (t + 1, payO 2 (lckM y t (nI 1)) t, f2) (by show p2 + 1 - (t + 1) < p2 + 1 - t; omega) ⟨by show p1 ≤ t + 1; omega, by show t + 1 ≤ p2 + 1; omega, MI_payO (MI.lck (b := true) hyI) (by omega), hRf, fun _ => i6, fun z => by rw [ho] at z; cases z⟩
    have H := L49 (p1, m, g4 1) ⟨Nat.le_refl _, by show p1 ≤ p2 + 1; omega, hMI, hRow4, fun _ => lock_split, fun _ => rfl⟩
    try dsimp only at H
    rw [show sG g4 1 (g4 1) = g4 from sG_id rfl] at H
    exact H
  · refine v_iconst (v := nI 1) C dX6_lockLine_10 (by decide) ?_
    refine v_goto C 15 dX6_lockLine_11 (by decide) ?_
    refine V.eqs (st2 := [.int (bI (decide (k.2.1 = 6))), .ref (h 0)]) ?_ (congrArg (fun z => [Value.int z, Value.ref (h 0)]) (by first | exact bI_t (decide_eq_true (by omega)) | exact bI_f (decide_eq_false (by omega))))
    refine v_iconst (v := nI 4) C dX6_lockLine_15 (by decide) ?_
    refine v_callVv C (c_X6_failsIf hl (cd := 4) (p := decide (k.2.1 = 6)) hR (by decide) (by decide)) ym_X6_failsIf ml_X6_113 emb_id_qS rfl rfl rfl rfl rfl dX6_lockLine_16 (Nat.le_of_ble_eq_true rfl) (Nat.le_of_ble_eq_true rfl) (Nat.le_of_ble_eq_true rfl) (Nat.le_of_ble_eq_true rfl) (fun _ _ hu => hu.elim) (fun r u hu => ?_)
    rw [hWe] at hu
    obtain ⟨hR1, hF1⟩ := hu
    obtain ⟨g1, eg1⟩ : ∃ x, x = u := ⟨u, rfl⟩
    subst eg1
    refine v_aload_n C dX6_lockLine_19 rfl ?_
    refine v_callVv C (c_X6_goesOn hl hR1 hb (when_k (by decide) hk4)) ym_X6_goesOn ml_X6_106 emb_id_qS rfl rfl rfl rfl rfl dX6_lockLine_20 (Nat.le_of_ble_eq_true rfl) (Nat.le_of_ble_eq_true rfl) (Nat.le_of_ble_eq_true rfl) (Nat.le_of_ble_eq_true rfl) (fun _ _ hu => hu.elim) (fun r u hu => ?_)
    obtain ⟨hR2, hF2⟩ := hu
    obtain ⟨g2, eg2⟩ : ∃ x, x = u := ⟨u, rfl⟩
    subst eg2
    have hs2 : g2 0 2 = nI n := (hF2.2 2 (by decide)).trans ((hF1.2 2 (by decide)).trans hs)
    refine v_aload_n C dX6_lockLine_23 rfl ?_
    refine v_iconst (v := nI 0) C dX6_lockLine_24 (by decide) ?_
    refine v_aload_n C dX6_lockLine_25 rfl ?_
    refine v_getiQ (x := nI n) C fl_X6_126 oi_qS_0_2 (hs2) dX6_lockLine_26 ?_
    refine v_iconst (v := nI 1) C dX6_lockLine_29 (by decide) ?_
    first | refine v_isubN C dX6_lockLine_30 (by omega) ?_ | refine v_isub C dX6_lockLine_30 ?_
    refine v_callVi C (c_X6_takesN hl (s0 := (whenS (decide (6 < k.2.1 + 1)) 4 st)) hR2 (by omega) (by omega) hb) ym_X6_takes ml_X6_117 emb_id_qS rfl rfl rfl rfl rfl dX6_lockLine_31 (Nat.le_of_ble_eq_true rfl) (Nat.le_of_ble_eq_true rfl) (Nat.le_of_ble_eq_true rfl) (Nat.le_of_ble_eq_true rfl) (fun _ _ hu => hu.elim) (fun r u hu => ?_)
    obtain ⟨rfl, hR3, hF3⟩ := hu
    obtain ⟨g3, eg3⟩ : ∃ x, x = u := ⟨u, rfl⟩
    subst eg3
    have hR3 : QR b len (advS b len (lok1 b len n st k).1) g3 := hR3
    show V X _ _ _ (Value.int (nI (lok1 b len n st k).2) :: _) _ _ _
    obtain ⟨p1, hp1⟩ : ∃ x, EqH x (lok1 b len n st k).2 := ⟨_, rfl⟩
    have hp1e : (lok1 b len n st k).2 = p1 := Eq.symm hp1
    rw [hp1e]
    clear hp1e
    have rg1 := (numS_h (Nat.zero_le _) hp1).2
    have hs3 : g3 0 2 = nI n := (hF3.2 2 (by decide)).trans hs2
    refine v_istore_n C (lo2 := [some _, some _, none, none, none]) dX6_lockLine_34 rfl (Nat.le_of_ble_eq_true rfl) rfl ?_
    refine v_aload_n C dX6_lockLine_35 rfl ?_
    refine v_iload_n C dX6_lockLine_36 rfl ?_
    refine v_aload_n C dX6_lockLine_37 rfl ?_
    refine v_getiQ (x := nI n) C fl_X6_126 oi_qS_0_2 (hs3) dX6_lockLine_38 ?_
    refine v_iconst (v := nI 1) C dX6_lockLine_41 (by decide) ?_
    first | refine v_isubN C dX6_lockLine_42 (by omega) ?_ | refine v_isub C dX6_lockLine_42 ?_
    refine v_callVi C (c_X6_takesN hl (s0 := (lok1 b len n st k).1) (lo := p1) hR3 (by omega) (by omega) hb) ym_X6_takes ml_X6_117 emb_id_qS rfl rfl rfl rfl rfl dX6_lockLine_43 (Nat.le_of_ble_eq_true rfl) (Nat.le_of_ble_eq_true rfl) (Nat.le_of_ble_eq_true rfl) (Nat.le_of_ble_eq_true rfl) (fun _ _ hu => hu.elim) (fun r u hu => ?_)
    obtain ⟨rfl, hR4, hF4⟩ := hu
    obtain ⟨g4, eg4⟩ : ∃ x, x = u := ⟨u, rfl⟩
    subst eg4
    have hp1e : p1 = (lok1 b len n st k).2 := hp1
    have hR4 : QR b len (advS b len (lok2 b len n st k).1) g4 := by
      rw [hp1e] at hR4
      exact hR4
    obtain ⟨p2, hp2, hp2e⟩ : ∃ x, EqH x (lok2 b len n st k).2 ∧ EqH (numS b len p1 (n - 1) (lok1 b len n st k).1).2 x := ⟨_, rfl, by rw [hp1e]; rfl⟩
    clear hp1e
    have hp2f : (numS b len p1 (n - 1) (lok1 b len n st k).1).2 = p2 := hp2e
    rw [hp2f]
    clear hp2f
    have rg2 := numS_h (p := p2) rg1 (Eq.symm hp2e)
    clear hp2e
    have hs4 : g4 0 2 = nI n := (hF4.2 2 (by decide)).trans hs3
    have hFa := ((hF1.tr hF2).tr hF3).tr hF4
    have hRow4 : RowR m (g4 1) := by rw [hFa.1 1 (by decide)]; exact hRow
    have hK4 := hK.fq hFa
    have h16z : g4 0 16 = nI (lok2 b len n st k).1.2.1 := by have := hR4.2.2.2.2.1; rw [adv_2] at this; exact this
    refine v_istore_n C (lo2 := [some _, some _, some _, none, none]) dX6_lockLine_46 rfl (Nat.le_of_ble_eq_true rfl) rfl ?_
    refine v_iload_n C dX6_lockLine_47 rfl ?_
    refine v_istore_n C (lo2 := [some _, some _, some _, some _, none]) dX6_lockLine_48 rfl (Nat.le_of_ble_eq_true rfl) rfl ?_
    have L49 : ∀ (t : Nat × Mg × (Nat → Int32)), (fun t => p1 ≤ t.1 ∧ t.1 ≤ p2 + 1 ∧ MI n co t.2.1 ∧ RowR t.2.1 t.2.2 ∧ (ok (lok2 b len n st k).1 = true → forG (fun p y => payO 2 (lckM y p (nI 1)) p) t.1 (p2 + 1 - t.1) t.2.1 = lockM p1 p2 m) ∧ (ok (lok2 b len n st k).1 = false → t.2.1 = m)) t → (fun t : Nat × Mg × (Nat → Int32) => V X (qS (xK X) h) 49 [some (.ref (h 0)), some (.int (nI p1)), some (.int (nI p2)), some (.int (nI t.1)), none] [] (sG g4 1 t.2.2) 0 0) t := by
      refine v_ind (fun t : Nat × Mg × (Nat → Int32) => p2 + 1 - t.1) ?_
      rintro ⟨t, y, f⟩ ih49 hI49
      try dsimp only at hI49 ⊢
      obtain ⟨i1, i2, hyI, hRy, i4, i5⟩ := hI49
      have i1 : p1 ≤ t := i1
      have i2 : t ≤ p2 + 1 := i2
      have hyI : MI n co y := hyI
      have hRy : RowR y f := hRy
      refine v_iload_n C dX6_lockLine_49 rfl ?_
      refine v_iload_n C dX6_lockLine_50 rfl ?_
      first | refine v_icmp_gtN C 74 dX6_lockLine_51 (by decide) (by omega) (by omega) (fun c51 => ?_) (fun c51 => ?_) | refine v_icmp_gt C 74 dX6_lockLine_51 (by decide) (fun c51 => ?_) (fun c51 => ?_)
      · have hfin : y = if ok (lok2 b len n st k).1 = true then lockM p1 p2 m else m := by
          cases ho : ok (lok2 b len n st k).1
          · rw [if_neg Bool.false_ne_true]; exact i5 ho
          · rw [if_pos rfl]
            have := i4 ho
            rw [forG_0 (by omega)] at this
            exact this
        refine v_aload_n C dX6_lockLine_74 rfl ?_
        refine v_dup C dX6_lockLine_75 rfl ?_
        refine v_getiQ (x := nI k.2.1) C fl_X6_129 oi_qS_0_19 (hK4.2.1) dX6_lockLine_76 ?_
        refine v_iconst (v := nI 1) C dX6_lockLine_79 (by decide) ?_
        first | refine v_iaddN C dX6_lockLine_80 ?_ | refine v_iadd C dX6_lockLine_80 ?_
        refine v_puti C fl_X6_129 fw_X6_19 oi_qS_0_19 ⟨rfl, rfl⟩ dX6_lockLine_81 ?_
        refine V.stt (g2 := (sG (sG g4 1 f) 0 (upd (g4 0) 19 (nI (k.2.1 + 1))))) (rfl) ?_
        refine v_vret C F dX6_lockLine_84 (Nat.le_of_ble_eq_true rfl) (Nat.le_of_ble_eq_true rfl) ?_
        rw [lnLock_eq hp1 hp2, ← hfin]
        exact ⟨QXr_mk (u := sG (sG g4 1 f) 0 (upd (g4 0) 19 (nI (k.2.1 + 1)))) (QR.cnt (g := sG g4 1 f) (QR.row hR4) (by decide)) (Row_at (g := sG g4 1 f) (by rw [sG_at]; exact hRy) rfl) (KQ.c19 (g := sG g4 1 f) (KQ.row hK4)) hs4, FLn.cnt (u := sG g4 1 f) (FLn.row hFa.fl) (by decide) (by decide)⟩
      · refine v_aload_n C dX6_lockLine_54 rfl ?_
        refine v_getiQ (x := nI (lok2 b len n st k).1.2.1) C fl_X6_76 oi_qS_0_16 (h16z) dX6_lockLine_55 ?_
        refine v_if_ne C 74 dX6_lockLine_58 (by decide) (fun c58 => ?_) (fun c58 => ?_)
        · have hz3 : ¬ (lok2 b len n st k).1.2.1 = 0 := fun z => c58 (by rw [z]; rfl)
          have hfin : y = if ok (lok2 b len n st k).1 = true then lockM p1 p2 m else m := by
            rw [ok_b hz3, if_neg Bool.false_ne_true]; exact i5 (ok_b hz3)
          refine v_aload_n C dX6_lockLine_74 rfl ?_
          refine v_dup C dX6_lockLine_75 rfl ?_
          refine v_getiQ (x := nI k.2.1) C fl_X6_129 oi_qS_0_19 (hK4.2.1) dX6_lockLine_76 ?_
          refine v_iconst (v := nI 1) C dX6_lockLine_79 (by decide) ?_
          first | refine v_iaddN C dX6_lockLine_80 ?_ | refine v_iadd C dX6_lockLine_80 ?_
          refine v_puti C fl_X6_129 fw_X6_19 oi_qS_0_19 ⟨rfl, rfl⟩ dX6_lockLine_81 ?_
          refine V.stt (g2 := (sG (sG g4 1 f) 0 (upd (g4 0) 19 (nI (k.2.1 + 1))))) (rfl) ?_
          refine v_vret C F dX6_lockLine_84 (Nat.le_of_ble_eq_true rfl) (Nat.le_of_ble_eq_true rfl) ?_
          rw [lnLock_eq hp1 hp2, ← hfin]
          exact ⟨QXr_mk (u := sG (sG g4 1 f) 0 (upd (g4 0) 19 (nI (k.2.1 + 1)))) (QR.cnt (g := sG g4 1 f) (QR.row hR4) (by decide)) (Row_at (g := sG g4 1 f) (by rw [sG_at]; exact hRy) rfl) (KQ.c19 (g := sG g4 1 f) (KQ.row hK4)) hs4, FLn.cnt (u := sG g4 1 f) (FLn.row hFa.fl) (by decide) (by decide)⟩
        · have hz3 : (lok2 b len n st k).1.2.1 = 0 := nI_inj (b := 0) (by have := hR4.2.2.2.1; rw [adv_2] at this; omega) (by omega) c58
          refine v_aload_n C dX6_lockLine_61 rfl ?_
          refine v_iload_n C dX6_lockLine_62 rfl ?_
          refine v_callVi C (c_X6_locks hl (g := sG g4 1 f) (m := y) (n := n) (p := t) hRy hyI.2.1 hyI.1 hs4 (by omega)) ym_X6_locks ml_X6_132 emb_id_qS rfl rfl rfl rfl rfl dX6_lockLine_63 (Nat.le_of_ble_eq_true rfl) (Nat.le_of_ble_eq_true rfl) (Nat.le_of_ble_eq_true rfl) (Nat.le_of_ble_eq_true rfl) (fun _ _ hu => hu.elim) (fun r u hu => ?_)
          obtain ⟨rfl, f2, hu, hRf⟩ := hu
          subst u
          refine V.stt (g2 := (sG g4 1 f2)) (sG_sG) ?_
          refine v_istore C (lo2 := [some _, some _, some _, some _, some _]) dX6_lockLine_66 rfl (Nat.le_of_ble_eq_true rfl) rfl ?_
          first | refine v_iinc1 C (lo2 := [some _, some _, some _, some _, some _]) dX6_lockLine_68 rfl rfl rfl ?_ | refine v_iinc C (lo2 := [some _, some _, some _, some _, some _]) dX6_lockLine_68 rfl rfl rfl rfl ?_
          refine v_goto C 49 dX6_lockLine_71 (by decide) ?_
          refine V.sub (lo2 := [some _, some _, some _, some _, none]) ⟨rfl, rfl, rfl, rfl, trivial⟩ ?_
          have ho := ok_gz hz3
          have i6 := i4 ho
          rw [forG_s (show t < p2 + 1 by omega)] at i6
          exact ih49 (t + 1, payO 2 (lckM y t (nI 1)) t, f2) (by show p2 + 1 - (t + 1) < p2 + 1 - t; omega) ⟨by show p1 ≤ t + 1; omega, by show t + 1 ≤ p2 + 1; omega, MI_payO (MI.lck (b := true) hyI) (by omega), hRf, fun _ => i6, fun z => by rw [ho] at z; cases z⟩
    have H := L49 (p1, m, g4 1) ⟨Nat.le_refl _, by show p1 ≤ p2 + 1; omega, hMI, hRow4, fun _ => lock_split, fun _ => rfl⟩
    try dsimp only at H
    rw [show sG g4 1 (g4 1) = g4 from sG_id rfl] at H
    exact H


theorem wPut_eq {k : Cnt} {st : St} (h : ok st = true → KL k) : whenS (decide (k.1 = 20)) 4 (whenS (decide (0 < k.2.2.1)) 1 st) = wPut k st := by
  unfold wPut
  by_cases c : 0 < k.2.2.1
  · rw [if_pos c, decide_eq_true c]
    refine when_b (fun z => ?_)
    exact ok_fail (c := 1) (st := st) (by decide) (ok_gz z)
  · rw [if_neg c, decide_eq_false c]
    exact when_eq (fun z => decide_eq_decide.mpr (by have := (h z).1; omega))
theorem chk_1 {lo hi : Nat} {st : St} : (chkS lo hi st).1 = st.1 := by
  unfold chkS
  split
  · split
    · exact failS_t
    · rfl
  · exact failS_t
theorem Le.wPut {len : Nat} {k : Cnt} {s : St} : Le len s (wPut k s) := by
  unfold _root_.Jvm.Pilot.@@N@@.wPut
  split
  · exact Le.fail
  · exact Le.when
theorem put1_eq {b : Nat → Int32} {len n : Nat} {st : St} {k : Cnt} : numS b len 0 (n - 1) (wPut k st) = put1 b len n st k := rfl
theorem putS_at {n p v : Nat} {st : St} {m : Mg} : putS n p v st m = (whenS (!decide (p < n)) 2 st, if ok (whenS (!decide (p < n)) 2 st) = true then byteM m p (nI v) else m) := rfl
set_option maxHeartbeats 800000 in
theorem c_X6_putLine {l : Launch} (hl : l.stackTraces = false) {κ : Kp} {h : Nat → Nat} {g : G} {m : Mg} {n len : Nat} {b : Nat → Int32} {st : St} {k : Cnt} (h96 : n ≤ 96) (hn1 : 1 ≤ n) (hX : QXr b len n (st, m, k) g) (hPI : PI n (st, m, k)) (hKL : KLp (st, m, k)) (hkb : KB k) (hb : BN0 b) (hk4 : ok st = true → ¬ st.1.1 = 4) (hG : GTo len st.1) : Ct SS MM l κ yX6_putLine cX6_putLine 4 none 4 0 0 [.ref (h 0)] (qS κ h) g rv (fun _ u => QXr b len n (lnPut b len n (st, m, k)) u ∧ FLn g u) (fun _ _ => False) := by
  refine Ct.of (own := RX6) (by decide) rfl hl (by intro v hv; simp only [List.mem_cons, List.not_mem_nil, or_false] at hv; first | (rcases hv with rfl | rfl | rfl | rfl | rfl | rfl <;> rfl) | (rcases hv with rfl | rfl | rfl | rfl | rfl <;> rfl) | (rcases hv with rfl | rfl | rfl | rfl <;> rfl) | (rcases hv with rfl | rfl | rfl <;> rfl) | (rcases hv with rfl | rfl <;> rfl) | (subst hv; rfl) | exact hv.elim) (Nat.le_of_ble_eq_true rfl) (fun X hxl hxk C F N => ?_)
  subst hxl hxk
  show V X (qS (xK X) h) 0 [some (.ref (h 0)), none, none, none] [] g 0 0
  obtain ⟨hR, hRow, hK, hs⟩ := id hX
  have hR : QR b len st g := hR
  have hRow : RowR m (g 1) := hRow
  have hK : KQ k g := hK
  obtain ⟨co, hMI, -, -⟩ := hPI
  have hMI : MI n co m := hMI
  obtain ⟨hI, hE, hLK, -, hSB, hBY, hPR⟩ := id hMI
  obtain ⟨kb1, kb2, kb3, kb4⟩ := id hkb
  have hKL : ok st = true → KL k := hKL
  have hWe := wPut_eq hKL
  obtain ⟨x4, hx4⟩ : ∃ x, EqH (put4 b len n st m k) x := ⟨_, rfl⟩
  refine v_aload_n C dX6_putLine_0 rfl ?_
  refine v_aload_n C dX6_putLine_1 rfl ?_
  refine v_getiQ (x := nI k.2.2.1) C fl_X6_120 oi_qS_0_20 (hK.2.2.1) dX6_putLine_2 ?_
  refine v_if_le C 12 dX6_putLine_5 (by decide) (fun c5 => ?_) (fun c5 => ?_)
  · refine v_iconst (v := nI 0) C dX6_putLine_12 (by decide) ?_
    refine V.eqs (st2 := [.int (bI (decide (0 < k.2.2.1))), .ref (h 0)]) ?_ (congrArg (fun z => [Value.int z, Value.ref (h 0)]) (by rw [nI_toInt (by omega)] at c5; first | exact bI_t (decide_eq_true (by omega)) | exact bI_f (decide_eq_false (by omega))))
    refine v_iconst (v := nI 1) C dX6_putLine_13 (by decide) ?_
    refine v_callVv C (c_X6_failsIf hl (cd := 1) (p := decide (0 < k.2.2.1)) hR (by decide) (by decide)) ym_X6_failsIf ml_X6_113 emb_id_qS rfl rfl rfl rfl rfl dX6_putLine_14 (Nat.le_of_ble_eq_true rfl) (Nat.le_of_ble_eq_true rfl) (Nat.le_of_ble_eq_true rfl) (Nat.le_of_ble_eq_true rfl) (fun _ _ hu => hu.elim) (fun r u hu => ?_)
    obtain ⟨hR1, hF1⟩ := hu
    obtain ⟨g1, eg1⟩ : ∃ x, x = u := ⟨u, rfl⟩
    subst eg1
    have hK1 := hK.fq hF1
    refine v_aload_n C dX6_putLine_17 rfl ?_
    refine v_aload_n C dX6_putLine_18 rfl ?_
    refine v_getiQ (x := nI k.1) C fl_X6_123 oi_qS_0_18 (hK1.1) dX6_putLine_19 ?_
    refine v_bipush (v := nI 20) C dX6_putLine_22 (by decide) ?_
    first | refine v_icmp_neN C 31 dX6_putLine_24 (by decide) (by omega) (by omega) (fun c24 => ?_) (fun c24 => ?_) | refine v_icmp_ne C 31 dX6_putLine_24 (by decide) (fun c24 => ?_) (fun c24 => ?_)
    · refine v_iconst (v := nI 0) C dX6_putLine_31 (by decide) ?_
      refine V.eqs (st2 := [.int (bI (decide (k.1 = 20))), .ref (h 0)]) ?_ (congrArg (fun z => [Value.int z, Value.ref (h 0)]) (by first | exact bI_t (decide_eq_true (by omega)) | exact bI_f (decide_eq_false (by omega))))
      refine v_iconst (v := nI 4) C dX6_putLine_32 (by decide) ?_
      refine v_callVv C (c_X6_failsIf hl (cd := 4) (p := decide (k.1 = 20)) hR1 (by decide) (by decide)) ym_X6_failsIf ml_X6_113 emb_id_qS rfl rfl rfl rfl rfl dX6_putLine_33 (Nat.le_of_ble_eq_true rfl) (Nat.le_of_ble_eq_true rfl) (Nat.le_of_ble_eq_true rfl) (Nat.le_of_ble_eq_true rfl) (fun _ _ hu => hu.elim) (fun r u hu => ?_)
      rw [hWe] at hu
      obtain ⟨hR2, hF2⟩ := hu
      obtain ⟨g2, eg2⟩ : ∃ x, x = u := ⟨u, rfl⟩
      subst eg2
      refine v_aload_n C dX6_putLine_36 rfl ?_
      refine v_callVv C (c_X6_goesOn hl hR2 hb (fun z => by rw [wPut_1]; exact hk4 (wPut_ok (ok_gz z)).1)) ym_X6_goesOn ml_X6_106 emb_id_qS rfl rfl rfl rfl rfl dX6_putLine_37 (Nat.le_of_ble_eq_true rfl) (Nat.le_of_ble_eq_true rfl) (Nat.le_of_ble_eq_true rfl) (Nat.le_of_ble_eq_true rfl) (fun _ _ hu => hu.elim) (fun r u hu => ?_)
      obtain ⟨hR3, hF3⟩ := hu
      obtain ⟨g3, eg3⟩ : ∃ x, x = u := ⟨u, rfl⟩
      subst eg3
      have hs2 : g3 0 2 = nI n := (hF3.2 2 (by decide)).trans ((hF2.2 2 (by decide)).trans ((hF1.2 2 (by decide)).trans hs))
      refine v_aload_n C dX6_putLine_40 rfl ?_
      refine v_iconst (v := nI 0) C dX6_putLine_41 (by decide) ?_
      refine v_aload_n C dX6_putLine_42 rfl ?_
      refine v_getiQ (x := nI n) C fl_X6_126 oi_qS_0_2 (hs2) dX6_putLine_43 ?_
      refine v_iconst (v := nI 1) C dX6_putLine_46 (by decide) ?_
      first | refine v_isubN C dX6_putLine_47 (by omega) ?_ | refine v_isub C dX6_putLine_47 ?_
      refine v_callVi C (c_X6_takesN hl (s0 := wPut k st) hR3 (by omega) (by omega) hb) ym_X6_takes ml_X6_117 emb_id_qS rfl rfl rfl rfl rfl dX6_putLine_48 (Nat.le_of_ble_eq_true rfl) (Nat.le_of_ble_eq_true rfl) (Nat.le_of_ble_eq_true rfl) (Nat.le_of_ble_eq_true rfl) (fun _ _ hu => hu.elim) (fun r u hu => ?_)
      rw [put1_eq] at hu
      obtain ⟨rfl, hR4, hF4⟩ := hu
      obtain ⟨g4, eg4⟩ : ∃ x, x = u := ⟨u, rfl⟩
      subst eg4
      show V X _ _ _ (Value.int (nI (put1 b len n st k).2) :: _) _ _ _
      obtain ⟨p1, hp1⟩ : ∃ x, EqH x (put1 b len n st k).2 := ⟨_, rfl⟩
      have hp1e : (put1 b len n st k).2 = p1 := Eq.symm hp1
      rw [hp1e]
      clear hp1e
      have rg1 := (numS_h (Nat.zero_le _) hp1).2
      have hFa := ((hF1.tr hF2).tr hF3).tr hF4
      have hRow4 : RowR m (g4 1) := by rw [hFa.1 1 (by decide)]; exact hRow
      have hK4 := hK.fq hFa
      have hs4 : g4 0 2 = nI n := (hFa.2 2 (by decide)).trans hs
      refine v_istore_n C (lo2 := [some _, some _, none, none]) dX6_putLine_51 rfl (Nat.le_of_ble_eq_true rfl) rfl ?_
      refine v_iconst (v := nI 0) C dX6_putLine_52 (by decide) ?_
      refine v_istore_n C (lo2 := [some _, some _, some _, none]) dX6_putLine_53 rfl (Nat.le_of_ble_eq_true rfl) rfl ?_
      have L54 : ∀ (t : Nat × St × Mg × G), (fun t => t.1 ≤ 700 ∧ QR b len t.2.1 t.2.2.2 ∧ RowR t.2.2.1 (t.2.2.2 1) ∧ KQ k t.2.2.2 ∧ t.2.2.2 0 2 = nI n ∧ FLn g t.2.2.2 ∧ putW b len n p1 t.1 t.2.1 t.2.2.1 = x4 ∧ (ok t.2.1 = true → t.1 ≤ t.2.1.1.2.1) ∧ GTo len t.2.1.1) t → (fun t : Nat × St × Mg × G => V X (qS (xK X) h) 54 [some (.ref (h 0)), some (.int (nI p1)), some (.int (nI t.1)), none] [] t.2.2.2 0 0) t := by
        refine v_ind (fun t : Nat × St × Mg × G => 701 - t.1) ?_
        rintro ⟨j, S, y, gx⟩ ih54 hI54
        skip
        obtain ⟨i1, hRx, hRow_x, hKx, hsx, hLx, i4, i5, hGx⟩ := hI54
        have i1 : j ≤ 700 := i1
        have hRx : QR b len S gx := hRx
        have hRow_x : RowR y (gx 1) := hRow_x
        have hKx : KQ k gx := hKx
        have hsx : gx 0 2 = nI n := hsx
        have hLx : FLn g gx := hLx
        have i4 : putW b len n p1 j S y = x4 := i4
        have i5 : ok S = true → j ≤ S.1.2.1 := i5
        have hGx : GTo len S.1 := hGx
        show V X (qS (xK X) h) 54 [some (.ref (h 0)), some (.int (nI p1)), some (.int (nI j)), none] [] gx 0 0
        refine v_aload_n C dX6_putLine_54 rfl ?_
        refine v_getiQ (x := nI S.2.1) C fl_X6_76 oi_qS_0_16 (hRx.2.2.2.2.1) dX6_putLine_55 ?_
        refine v_if_ne C 137 dX6_putLine_58 (by decide) (fun c58 => ?_) (fun c58 => ?_)
        · have hz0 : ¬ S.2.1 = 0 := fun z => c58 (by rw [z]; rfl)
          have hxe : (S, y) = x4 := (putW_b hz0).symm.trans i4
          refine v_aload_n C dX6_putLine_137 rfl ?_
          refine v_dup C dX6_putLine_138 rfl ?_
          refine v_getiQ (x := nI k.1) C fl_X6_123 oi_qS_0_18 (hKx.1) dX6_putLine_139 ?_
          refine v_iconst (v := nI 1) C dX6_putLine_142 (by decide) ?_
          first | refine v_iaddN C dX6_putLine_143 ?_ | refine v_iadd C dX6_putLine_143 ?_
          refine v_puti C fl_X6_123 fw_X6_18 oi_qS_0_18 ⟨rfl, rfl⟩ dX6_putLine_144 ?_
          refine V.stt (g2 := (sG gx 0 (upd (gx 0) 18 (nI (k.1 + 1))))) (rfl) ?_
          refine v_vret C F dX6_putLine_147 (Nat.le_of_ble_eq_true rfl) (Nat.le_of_ble_eq_true rfl) ?_
          rw [lnPut_eq hx4, ← hxe]
          dsimp only
          exact ⟨QXr_mk (QR.cnt hRx (by decide)) (Row_at hRow_x rfl) hKx.c18 hsx, FLn.cnt hLx (by decide) (by decide)⟩
        · have hz0 : S.2.1 = 0 := nI_inj (b := 0) (by have := hRx.2.2.2.1; omega) (by omega) c58
          have J73 : (j = 0 ∨ S.1.1 = 2) → V X (qS (xK X) h) 73 [some (.ref (h 0)), some (.int (nI p1)), some (.int (nI j)), none] [] gx 0 0 := by
            intro hj
            refine v_aload_n C dX6_putLine_73 rfl ?_
            refine v_iconst (v := nI 0) C dX6_putLine_74 (by decide) ?_
            refine v_sipush (v := nI 255) C dX6_putLine_75 (by decide) ?_
            refine v_callVi C (c_X6_numberHere hl (st := S) hRx (by decide) (by decide)) ym_X6_numberHere ml_X6_102 emb_id_qS rfl rfl rfl rfl rfl dX6_putLine_78 (Nat.le_of_ble_eq_true rfl) (Nat.le_of_ble_eq_true rfl) (Nat.le_of_ble_eq_true rfl) (Nat.le_of_ble_eq_true rfl) (fun _ _ hu => hu.elim) (fun r u hu => ?_)
            obtain ⟨rfl, hR5, hF5⟩ := hu
            obtain ⟨g5, eg5⟩ : ∃ x, x = u := ⟨u, rfl⟩
            subst eg5
            obtain ⟨v, hv⟩ : ∃ v, v = chkVl 0 255 S := ⟨_, rfl⟩
            rw [← hv]
            have hs5 : g5 0 2 = nI n := (hF5.2 2 (by decide)).trans hsx
            refine v_istore_n C (lo2 := [some _, some _, some _, some _]) dX6_putLine_81 rfl (Nat.le_of_ble_eq_true rfl) rfl ?_
            refine v_aload_n C dX6_putLine_82 rfl ?_
            refine v_aload_n C dX6_putLine_83 rfl ?_
            refine v_getiQ (x := nI (chkS 0 255 S).2.1) C fl_X6_76 oi_qS_0_16 (hR5.2.2.2.2.1) dX6_putLine_84 ?_
            refine v_if_ne C 104 dX6_putLine_87 (by decide) (fun c87 => ?_) (fun c87 => ?_)
            · have hzc : ¬ (chkS 0 255 S).2.1 = 0 := fun z => c87 (by rw [z]; rfl)
              refine v_iconst (v := nI 0) C dX6_putLine_104 (by decide) ?_
              refine V.eqs (st2 := [.int (bI (ok (chkS 0 255 S) && !decide (p1 + j < n))), .ref (h 0)]) ?_ (congrArg (fun z => [Value.int z, Value.ref (h 0)]) (by first | exact bI_f (by rw [ok_b hzc]; rfl) | exact bI_f (by rw [ok_gz hzc, decide_eq_true (show p1 + j < n by omega)]; rfl) | exact bI_t (by rw [ok_gz hzc, decide_eq_false (show ¬ p1 + j < n by omega)]; rfl)))
              refine v_iconst (v := nI 2) C dX6_putLine_105 (by decide) ?_
              refine v_callVv C (c_X6_failsIf hl (cd := 2) (p := ok (chkS 0 255 S) && !decide (p1 + j < n)) hR5 (by decide) (by decide)) ym_X6_failsIf ml_X6_113 emb_id_qS rfl rfl rfl rfl rfl dX6_putLine_106 (Nat.le_of_ble_eq_true rfl) (Nat.le_of_ble_eq_true rfl) (Nat.le_of_ble_eq_true rfl) (Nat.le_of_ble_eq_true rfl) (fun _ _ hu => hu.elim) (fun r u hu => ?_)
              rw [show whenS (ok (chkS 0 255 S) && !decide (p1 + j < n)) 2 (chkS 0 255 S) = (whenS (!decide (p1 + j < n)) 2 (chkS 0 255 S)) from when_eq (fun z => by rw [z, Bool.true_and])] at hu
              obtain ⟨hR6, hF6⟩ := hu
              obtain ⟨g6, eg6⟩ : ∃ x, x = u := ⟨u, rfl⟩
              subst eg6
              have hFb := hF5.tr hF6
              have hRow6 : RowR y (g6 1) := Row_at hRow_x (hFb.1 1 (by decide))
              have hs6 : g6 0 2 = nI n := (hFb.2 2 (by decide)).trans hsx
              have hK6 := hKx.fq hFb
              have hL6 := hLx.tr hFb.fl
              have J127 : ∀ g8 : G, QR b len (whenS (!decide (p1 + j < n)) 2 (chkS 0 255 S)) g8 → FLn g g8 → g8 0 2 = nI n → KQ k g8 → RowR (if ok (whenS (!decide (p1 + j < n)) 2 (chkS 0 255 S)) = true then byteM y (p1 + j) (nI v) else y) (g8 1) → V X (qS (xK X) h) 127 [some (.ref (h 0)), some (.int (nI p1)), some (.int (nI j)), none] [] g8 0 0 := by
                intro g8 hR8 hL8 hs8 hK8 hRow8
                have hk9 : (whenS (!decide (p1 + j < n)) 2 (chkS 0 255 S)).2.1 = 0 → ¬ (whenS (!decide (p1 + j < n)) 2 (chkS 0 255 S)).1.1 = 4 := when_k (by decide) (fun z => by rw [(chk_k2 (ok_g z)).1]; decide)
                refine v_aload_n C dX6_putLine_127 rfl ?_
                refine v_callVv C (c_X6_goesOn hl hR8 hb hk9) ym_X6_goesOn ml_X6_106 emb_id_qS rfl rfl rfl rfl rfl dX6_putLine_128 (Nat.le_of_ble_eq_true rfl) (Nat.le_of_ble_eq_true rfl) (Nat.le_of_ble_eq_true rfl) (Nat.le_of_ble_eq_true rfl) (fun _ _ hu => hu.elim) (fun r u hu => ?_)
                obtain ⟨hR9, hF9⟩ := hu
                obtain ⟨g9, eg9⟩ : ∃ x, x = u := ⟨u, rfl⟩
                subst eg9
                have hK9 := hK8.fq hF9
                have hs9 := (hF9.2 2 (by decide)).trans hs8
                have hRow9 := Row_at hRow8 (hF9.1 1 (by decide))
                first | refine v_iinc1 C (lo2 := [some _, some _, some _, none]) dX6_putLine_131 rfl rfl rfl ?_ | refine v_iinc C (lo2 := [some _, some _, some _, none]) dX6_putLine_131 rfl rfl rfl rfl ?_
                refine v_goto C 54 dX6_putLine_134 (by decide) ?_
                have hoS := ok_gz hz0
                have hlen : len ≤ 700 := hRx.2.2.1
                have hj7 : j < 700 := by
                  rcases hj with z | z
                  · omega
                  · have q1 := hGx.2.2.1 (Or.inl z)
                    have q2 := hGx.2.1
                    have q3 := i5 hoS
                    omega
                have i6 := (putW_s (m := y) (b := b) (len := len) (n := n) (p := p1) hoS hj hj7).symm.trans i4
                rw [← hv, putS_at] at i6
                have hD1 : (whenS (!decide (p1 + j < n)) 2 (chkS 0 255 S)).1 = S.1 := whenS_1.trans chk_1
                have H := ih54 (j + 1, advS b len (whenS (!decide (p1 + j < n)) 2 (chkS 0 255 S)), (if ok (whenS (!decide (p1 + j < n)) 2 (chkS 0 255 S)) = true then byteM y (p1 + j) (nI v) else y), g9)
                refine H (by show 701 - (j + 1) < 701 - j; omega) ⟨by show j + 1 ≤ 700; omega, hR9, hRow9, hK9, hs9, hL8.tr hF9.fl, i6, fun z => ?_, ?_⟩
                · have hoD := ok_imp (fun q => adv_b q) z
                  have hoC := (whenS_ok (by decide) hoD).2
                  have hkS : S.1.1 = 2 := by rw [← chk_1 (lo := 0) (hi := 255)]; exact (chk_k2 (ok_g hoC)).1
                  have q := adv_lt (b := b) (s := (whenS (!decide (p1 + j < n)) 2 (chkS 0 255 S))) (by rw [hD1]; exact hGx) hoD (by rw [hD1]; exact Or.inl hkS)
                  rw [hD1] at q
                  have q5 := i5 hoS
                  show j + 1 ≤ (advS b len (whenS (!decide (p1 + j < n)) 2 (chkS 0 255 S))).1.2.1
                  omega
                · exact (((Le.chk (len := len) (lo := 0) (hi := 255)).tr Le.when).tr Le.adv hGx).1
              refine v_aload_n C dX6_putLine_109 rfl ?_
              refine v_getiQ (x := nI (whenS (!decide (p1 + j < n)) 2 (chkS 0 255 S)).2.1) C fl_X6_76 oi_qS_0_16 (hR6.2.2.2.2.1) dX6_putLine_110 ?_
              refine v_if_ne C 127 dX6_putLine_113 (by decide) (fun c113 => ?_) (fun c113 => ?_)
              · have hzd : ¬ (whenS (!decide (p1 + j < n)) 2 (chkS 0 255 S)).2.1 = 0 := fun z => c113 (by rw [z]; rfl)
                refine V.sub (lo2 := [some _, some _, some _, none]) ⟨rfl, rfl, rfl, trivial⟩ ?_
                first
                | exact J127 _ hR8 hL8 hs8 hK8 hRow8
                | exact J127 _ hR6 hL6 hs6 hK6 (by rw [if_neg (by rw [ok_b hzd]; exact Bool.false_ne_true)]; exact hRow6)
              · have hzd : (whenS (!decide (p1 + j < n)) 2 (chkS 0 255 S)).2.1 = 0 := nI_inj (b := 0) (by have := hR6.2.2.2.1; omega) (by omega) c113
                have hpn : p1 + j < n := by
                  have w := (whenS_ok (by decide) (ok_gz hzd)).1
                  rw [Bool.not_eq_false'] at w
                  exact of_decide_eq_true w
                refine v_aload_n C dX6_putLine_116 rfl ?_
                refine v_getr C fl_X6_7 or_qS_0_3 dX6_putLine_117 ?_
                refine v_iconst (v := nI 0) C dX6_putLine_120 (by decide) ?_
                refine v_iload_n C dX6_putLine_121 rfl ?_
                first | refine v_iaddN C dX6_putLine_122 ?_ | refine v_iadd C dX6_putLine_122 ?_
                refine v_iload_n C dX6_putLine_123 rfl ?_
                first | refine v_iaddN C dX6_putLine_124 ?_ | refine v_iadd C dX6_putLine_124 ?_
                refine v_iload_n C dX6_putLine_125 rfl ?_
                refine v_iast C ar_qS_1 (by decide) _ ?_ rfl dX6_putLine_126 ?_
                · omega
                obtain ⟨g8, eg8⟩ : ∃ x, x = sG g6 1 (upd (g6 1) (p1 + j) (nI v)) := ⟨_, rfl⟩
                have hR8 : QR b len (whenS (!decide (p1 + j < n)) 2 (chkS 0 255 S)) g8 := by rw [eg8]; exact QR.row hR6
                have hL8 : FLn g g8 := by rw [eg8]; exact FLn.row hL6
                have hs8 : g8 0 2 = nI n := by rw [eg8]; exact hs6
                have hK8 : KQ k g8 := by rw [eg8]; exact hK6
                have hRow8 : RowR (if ok (whenS (!decide (p1 + j < n)) 2 (chkS 0 255 S)) = true then byteM y (p1 + j) (nI v) else y) (g8 1) := by rw [if_pos (ok_gz hzd), eg8]; exact Row_byte hRow6 (by omega)
                refine V.stt (g2 := g8) (by rw [eg8, Nat.zero_add]) ?_
                refine V.sub (lo2 := [some _, some _, some _, none]) ⟨rfl, rfl, rfl, trivial⟩ ?_
                first
                | exact J127 _ hR8 hL8 hs8 hK8 hRow8
                | exact J127 _ hR6 hL6 hs6 hK6 (by rw [if_neg (by rw [ok_b hzd]; exact Bool.false_ne_true)]; exact hRow6)
            · have hzc : (chkS 0 255 S).2.1 = 0 := nI_inj (b := 0) (by have := hR5.2.2.2.1; omega) (by omega) c87
              refine v_iload_n C dX6_putLine_90 rfl ?_
              refine v_iload_n C dX6_putLine_91 rfl ?_
              first | refine v_iaddN C dX6_putLine_92 ?_ | refine v_iadd C dX6_putLine_92 ?_
              refine v_aload_n C dX6_putLine_93 rfl ?_
              refine v_getiQ (x := nI n) C fl_X6_126 oi_qS_0_2 (hs5) dX6_putLine_94 ?_
              first | refine v_icmp_ltN C 104 dX6_putLine_97 (by decide) (by omega) (by omega) (fun c97 => ?_) (fun c97 => ?_) | refine v_icmp_lt C 104 dX6_putLine_97 (by decide) (fun c97 => ?_) (fun c97 => ?_)
              · refine v_iconst (v := nI 0) C dX6_putLine_104 (by decide) ?_
                refine V.eqs (st2 := [.int (bI (ok (chkS 0 255 S) && !decide (p1 + j < n))), .ref (h 0)]) ?_ (congrArg (fun z => [Value.int z, Value.ref (h 0)]) (by first | exact bI_f (by rw [ok_b hzc]; rfl) | exact bI_f (by rw [ok_gz hzc, decide_eq_true (show p1 + j < n by omega)]; rfl) | exact bI_t (by rw [ok_gz hzc, decide_eq_false (show ¬ p1 + j < n by omega)]; rfl)))
                refine v_iconst (v := nI 2) C dX6_putLine_105 (by decide) ?_
                refine v_callVv C (c_X6_failsIf hl (cd := 2) (p := ok (chkS 0 255 S) && !decide (p1 + j < n)) hR5 (by decide) (by decide)) ym_X6_failsIf ml_X6_113 emb_id_qS rfl rfl rfl rfl rfl dX6_putLine_106 (Nat.le_of_ble_eq_true rfl) (Nat.le_of_ble_eq_true rfl) (Nat.le_of_ble_eq_true rfl) (Nat.le_of_ble_eq_true rfl) (fun _ _ hu => hu.elim) (fun r u hu => ?_)
                rw [show whenS (ok (chkS 0 255 S) && !decide (p1 + j < n)) 2 (chkS 0 255 S) = (whenS (!decide (p1 + j < n)) 2 (chkS 0 255 S)) from when_eq (fun z => by rw [z, Bool.true_and])] at hu
                obtain ⟨hR6, hF6⟩ := hu
                obtain ⟨g6, eg6⟩ : ∃ x, x = u := ⟨u, rfl⟩
                subst eg6
                have hFb := hF5.tr hF6
                have hRow6 : RowR y (g6 1) := Row_at hRow_x (hFb.1 1 (by decide))
                have hs6 : g6 0 2 = nI n := (hFb.2 2 (by decide)).trans hsx
                have hK6 := hKx.fq hFb
                have hL6 := hLx.tr hFb.fl
                have J127 : ∀ g8 : G, QR b len (whenS (!decide (p1 + j < n)) 2 (chkS 0 255 S)) g8 → FLn g g8 → g8 0 2 = nI n → KQ k g8 → RowR (if ok (whenS (!decide (p1 + j < n)) 2 (chkS 0 255 S)) = true then byteM y (p1 + j) (nI v) else y) (g8 1) → V X (qS (xK X) h) 127 [some (.ref (h 0)), some (.int (nI p1)), some (.int (nI j)), none] [] g8 0 0 := by
                  intro g8 hR8 hL8 hs8 hK8 hRow8
                  have hk9 : (whenS (!decide (p1 + j < n)) 2 (chkS 0 255 S)).2.1 = 0 → ¬ (whenS (!decide (p1 + j < n)) 2 (chkS 0 255 S)).1.1 = 4 := when_k (by decide) (fun z => by rw [(chk_k2 (ok_g z)).1]; decide)
                  refine v_aload_n C dX6_putLine_127 rfl ?_
                  refine v_callVv C (c_X6_goesOn hl hR8 hb hk9) ym_X6_goesOn ml_X6_106 emb_id_qS rfl rfl rfl rfl rfl dX6_putLine_128 (Nat.le_of_ble_eq_true rfl) (Nat.le_of_ble_eq_true rfl) (Nat.le_of_ble_eq_true rfl) (Nat.le_of_ble_eq_true rfl) (fun _ _ hu => hu.elim) (fun r u hu => ?_)
                  obtain ⟨hR9, hF9⟩ := hu
                  obtain ⟨g9, eg9⟩ : ∃ x, x = u := ⟨u, rfl⟩
                  subst eg9
                  have hK9 := hK8.fq hF9
                  have hs9 := (hF9.2 2 (by decide)).trans hs8
                  have hRow9 := Row_at hRow8 (hF9.1 1 (by decide))
                  first | refine v_iinc1 C (lo2 := [some _, some _, some _, none]) dX6_putLine_131 rfl rfl rfl ?_ | refine v_iinc C (lo2 := [some _, some _, some _, none]) dX6_putLine_131 rfl rfl rfl rfl ?_
                  refine v_goto C 54 dX6_putLine_134 (by decide) ?_
                  have hoS := ok_gz hz0
                  have hlen : len ≤ 700 := hRx.2.2.1
                  have hj7 : j < 700 := by
                    rcases hj with z | z
                    · omega
                    · have q1 := hGx.2.2.1 (Or.inl z)
                      have q2 := hGx.2.1
                      have q3 := i5 hoS
                      omega
                  have i6 := (putW_s (m := y) (b := b) (len := len) (n := n) (p := p1) hoS hj hj7).symm.trans i4
                  rw [← hv, putS_at] at i6
                  have hD1 : (whenS (!decide (p1 + j < n)) 2 (chkS 0 255 S)).1 = S.1 := whenS_1.trans chk_1
                  have H := ih54 (j + 1, advS b len (whenS (!decide (p1 + j < n)) 2 (chkS 0 255 S)), (if ok (whenS (!decide (p1 + j < n)) 2 (chkS 0 255 S)) = true then byteM y (p1 + j) (nI v) else y), g9)
                  refine H (by show 701 - (j + 1) < 701 - j; omega) ⟨by show j + 1 ≤ 700; omega, hR9, hRow9, hK9, hs9, hL8.tr hF9.fl, i6, fun z => ?_, ?_⟩
                  · have hoD := ok_imp (fun q => adv_b q) z
                    have hoC := (whenS_ok (by decide) hoD).2
                    have hkS : S.1.1 = 2 := by rw [← chk_1 (lo := 0) (hi := 255)]; exact (chk_k2 (ok_g hoC)).1
                    have q := adv_lt (b := b) (s := (whenS (!decide (p1 + j < n)) 2 (chkS 0 255 S))) (by rw [hD1]; exact hGx) hoD (by rw [hD1]; exact Or.inl hkS)
                    rw [hD1] at q
                    have q5 := i5 hoS
                    show j + 1 ≤ (advS b len (whenS (!decide (p1 + j < n)) 2 (chkS 0 255 S))).1.2.1
                    omega
                  · exact (((Le.chk (len := len) (lo := 0) (hi := 255)).tr Le.when).tr Le.adv hGx).1
                refine v_aload_n C dX6_putLine_109 rfl ?_
                refine v_getiQ (x := nI (whenS (!decide (p1 + j < n)) 2 (chkS 0 255 S)).2.1) C fl_X6_76 oi_qS_0_16 (hR6.2.2.2.2.1) dX6_putLine_110 ?_
                refine v_if_ne C 127 dX6_putLine_113 (by decide) (fun c113 => ?_) (fun c113 => ?_)
                · have hzd : ¬ (whenS (!decide (p1 + j < n)) 2 (chkS 0 255 S)).2.1 = 0 := fun z => c113 (by rw [z]; rfl)
                  refine V.sub (lo2 := [some _, some _, some _, none]) ⟨rfl, rfl, rfl, trivial⟩ ?_
                  first
                  | exact J127 _ hR8 hL8 hs8 hK8 hRow8
                  | exact J127 _ hR6 hL6 hs6 hK6 (by rw [if_neg (by rw [ok_b hzd]; exact Bool.false_ne_true)]; exact hRow6)
                · have hzd : (whenS (!decide (p1 + j < n)) 2 (chkS 0 255 S)).2.1 = 0 := nI_inj (b := 0) (by have := hR6.2.2.2.1; omega) (by omega) c113
                  have hpn : p1 + j < n := by
                    have w := (whenS_ok (by decide) (ok_gz hzd)).1
                    rw [Bool.not_eq_false'] at w
                    exact of_decide_eq_true w
                  refine v_aload_n C dX6_putLine_116 rfl ?_
                  refine v_getr C fl_X6_7 or_qS_0_3 dX6_putLine_117 ?_
                  refine v_iconst (v := nI 0) C dX6_putLine_120 (by decide) ?_
                  refine v_iload_n C dX6_putLine_121 rfl ?_
                  first | refine v_iaddN C dX6_putLine_122 ?_ | refine v_iadd C dX6_putLine_122 ?_
                  refine v_iload_n C dX6_putLine_123 rfl ?_
                  first | refine v_iaddN C dX6_putLine_124 ?_ | refine v_iadd C dX6_putLine_124 ?_
                  refine v_iload_n C dX6_putLine_125 rfl ?_
                  refine v_iast C ar_qS_1 (by decide) _ ?_ rfl dX6_putLine_126 ?_
                  · omega
                  obtain ⟨g8, eg8⟩ : ∃ x, x = sG g6 1 (upd (g6 1) (p1 + j) (nI v)) := ⟨_, rfl⟩
                  have hR8 : QR b len (whenS (!decide (p1 + j < n)) 2 (chkS 0 255 S)) g8 := by rw [eg8]; exact QR.row hR6
                  have hL8 : FLn g g8 := by rw [eg8]; exact FLn.row hL6
                  have hs8 : g8 0 2 = nI n := by rw [eg8]; exact hs6
                  have hK8 : KQ k g8 := by rw [eg8]; exact hK6
                  have hRow8 : RowR (if ok (whenS (!decide (p1 + j < n)) 2 (chkS 0 255 S)) = true then byteM y (p1 + j) (nI v) else y) (g8 1) := by rw [if_pos (ok_gz hzd), eg8]; exact Row_byte hRow6 (by omega)
                  refine V.stt (g2 := g8) (by rw [eg8, Nat.zero_add]) ?_
                  refine V.sub (lo2 := [some _, some _, some _, none]) ⟨rfl, rfl, rfl, trivial⟩ ?_
                  first
                  | exact J127 _ hR8 hL8 hs8 hK8 hRow8
                  | exact J127 _ hR6 hL6 hs6 hK6 (by rw [if_neg (by rw [ok_b hzd]; exact Bool.false_ne_true)]; exact hRow6)
              · refine v_iconst (v := nI 1) C dX6_putLine_100 (by decide) ?_
                refine v_goto C 105 dX6_putLine_101 (by decide) ?_
                refine V.eqs (st2 := [.int (bI (ok (chkS 0 255 S) && !decide (p1 + j < n))), .ref (h 0)]) ?_ (congrArg (fun z => [Value.int z, Value.ref (h 0)]) (by first | exact bI_f (by rw [ok_b hzc]; rfl) | exact bI_f (by rw [ok_gz hzc, decide_eq_true (show p1 + j < n by omega)]; rfl) | exact bI_t (by rw [ok_gz hzc, decide_eq_false (show ¬ p1 + j < n by omega)]; rfl)))
                refine v_iconst (v := nI 2) C dX6_putLine_105 (by decide) ?_
                refine v_callVv C (c_X6_failsIf hl (cd := 2) (p := ok (chkS 0 255 S) && !decide (p1 + j < n)) hR5 (by decide) (by decide)) ym_X6_failsIf ml_X6_113 emb_id_qS rfl rfl rfl rfl rfl dX6_putLine_106 (Nat.le_of_ble_eq_true rfl) (Nat.le_of_ble_eq_true rfl) (Nat.le_of_ble_eq_true rfl) (Nat.le_of_ble_eq_true rfl) (fun _ _ hu => hu.elim) (fun r u hu => ?_)
                rw [show whenS (ok (chkS 0 255 S) && !decide (p1 + j < n)) 2 (chkS 0 255 S) = (whenS (!decide (p1 + j < n)) 2 (chkS 0 255 S)) from when_eq (fun z => by rw [z, Bool.true_and])] at hu
                obtain ⟨hR6, hF6⟩ := hu
                obtain ⟨g6, eg6⟩ : ∃ x, x = u := ⟨u, rfl⟩
                subst eg6
                have hFb := hF5.tr hF6
                have hRow6 : RowR y (g6 1) := Row_at hRow_x (hFb.1 1 (by decide))
                have hs6 : g6 0 2 = nI n := (hFb.2 2 (by decide)).trans hsx
                have hK6 := hKx.fq hFb
                have hL6 := hLx.tr hFb.fl
                have J127 : ∀ g8 : G, QR b len (whenS (!decide (p1 + j < n)) 2 (chkS 0 255 S)) g8 → FLn g g8 → g8 0 2 = nI n → KQ k g8 → RowR (if ok (whenS (!decide (p1 + j < n)) 2 (chkS 0 255 S)) = true then byteM y (p1 + j) (nI v) else y) (g8 1) → V X (qS (xK X) h) 127 [some (.ref (h 0)), some (.int (nI p1)), some (.int (nI j)), none] [] g8 0 0 := by
                  intro g8 hR8 hL8 hs8 hK8 hRow8
                  have hk9 : (whenS (!decide (p1 + j < n)) 2 (chkS 0 255 S)).2.1 = 0 → ¬ (whenS (!decide (p1 + j < n)) 2 (chkS 0 255 S)).1.1 = 4 := when_k (by decide) (fun z => by rw [(chk_k2 (ok_g z)).1]; decide)
                  refine v_aload_n C dX6_putLine_127 rfl ?_
                  refine v_callVv C (c_X6_goesOn hl hR8 hb hk9) ym_X6_goesOn ml_X6_106 emb_id_qS rfl rfl rfl rfl rfl dX6_putLine_128 (Nat.le_of_ble_eq_true rfl) (Nat.le_of_ble_eq_true rfl) (Nat.le_of_ble_eq_true rfl) (Nat.le_of_ble_eq_true rfl) (fun _ _ hu => hu.elim) (fun r u hu => ?_)
                  obtain ⟨hR9, hF9⟩ := hu
                  obtain ⟨g9, eg9⟩ : ∃ x, x = u := ⟨u, rfl⟩
                  subst eg9
                  have hK9 := hK8.fq hF9
                  have hs9 := (hF9.2 2 (by decide)).trans hs8
                  have hRow9 := Row_at hRow8 (hF9.1 1 (by decide))
                  first | refine v_iinc1 C (lo2 := [some _, some _, some _, none]) dX6_putLine_131 rfl rfl rfl ?_ | refine v_iinc C (lo2 := [some _, some _, some _, none]) dX6_putLine_131 rfl rfl rfl rfl ?_
                  refine v_goto C 54 dX6_putLine_134 (by decide) ?_
                  have hoS := ok_gz hz0
                  have hlen : len ≤ 700 := hRx.2.2.1
                  have hj7 : j < 700 := by
                    rcases hj with z | z
                    · omega
                    · have q1 := hGx.2.2.1 (Or.inl z)
                      have q2 := hGx.2.1
                      have q3 := i5 hoS
                      omega
                  have i6 := (putW_s (m := y) (b := b) (len := len) (n := n) (p := p1) hoS hj hj7).symm.trans i4
                  rw [← hv, putS_at] at i6
                  have hD1 : (whenS (!decide (p1 + j < n)) 2 (chkS 0 255 S)).1 = S.1 := whenS_1.trans chk_1
                  have H := ih54 (j + 1, advS b len (whenS (!decide (p1 + j < n)) 2 (chkS 0 255 S)), (if ok (whenS (!decide (p1 + j < n)) 2 (chkS 0 255 S)) = true then byteM y (p1 + j) (nI v) else y), g9)
                  refine H (by show 701 - (j + 1) < 701 - j; omega) ⟨by show j + 1 ≤ 700; omega, hR9, hRow9, hK9, hs9, hL8.tr hF9.fl, i6, fun z => ?_, ?_⟩
                  · have hoD := ok_imp (fun q => adv_b q) z
                    have hoC := (whenS_ok (by decide) hoD).2
                    have hkS : S.1.1 = 2 := by rw [← chk_1 (lo := 0) (hi := 255)]; exact (chk_k2 (ok_g hoC)).1
                    have q := adv_lt (b := b) (s := (whenS (!decide (p1 + j < n)) 2 (chkS 0 255 S))) (by rw [hD1]; exact hGx) hoD (by rw [hD1]; exact Or.inl hkS)
                    rw [hD1] at q
                    have q5 := i5 hoS
                    show j + 1 ≤ (advS b len (whenS (!decide (p1 + j < n)) 2 (chkS 0 255 S))).1.2.1
                    omega
                  · exact (((Le.chk (len := len) (lo := 0) (hi := 255)).tr Le.when).tr Le.adv hGx).1
                refine v_aload_n C dX6_putLine_109 rfl ?_
                refine v_getiQ (x := nI (whenS (!decide (p1 + j < n)) 2 (chkS 0 255 S)).2.1) C fl_X6_76 oi_qS_0_16 (hR6.2.2.2.2.1) dX6_putLine_110 ?_
                refine v_if_ne C 127 dX6_putLine_113 (by decide) (fun c113 => ?_) (fun c113 => ?_)
                · have hzd : ¬ (whenS (!decide (p1 + j < n)) 2 (chkS 0 255 S)).2.1 = 0 := fun z => c113 (by rw [z]; rfl)
                  refine V.sub (lo2 := [some _, some _, some _, none]) ⟨rfl, rfl, rfl, trivial⟩ ?_
                  first
                  | exact J127 _ hR8 hL8 hs8 hK8 hRow8
                  | exact J127 _ hR6 hL6 hs6 hK6 (by rw [if_neg (by rw [ok_b hzd]; exact Bool.false_ne_true)]; exact hRow6)
                · have hzd : (whenS (!decide (p1 + j < n)) 2 (chkS 0 255 S)).2.1 = 0 := nI_inj (b := 0) (by have := hR6.2.2.2.1; omega) (by omega) c113
                  have hpn : p1 + j < n := by
                    have w := (whenS_ok (by decide) (ok_gz hzd)).1
                    rw [Bool.not_eq_false'] at w
                    exact of_decide_eq_true w
                  refine v_aload_n C dX6_putLine_116 rfl ?_
                  refine v_getr C fl_X6_7 or_qS_0_3 dX6_putLine_117 ?_
                  refine v_iconst (v := nI 0) C dX6_putLine_120 (by decide) ?_
                  refine v_iload_n C dX6_putLine_121 rfl ?_
                  first | refine v_iaddN C dX6_putLine_122 ?_ | refine v_iadd C dX6_putLine_122 ?_
                  refine v_iload_n C dX6_putLine_123 rfl ?_
                  first | refine v_iaddN C dX6_putLine_124 ?_ | refine v_iadd C dX6_putLine_124 ?_
                  refine v_iload_n C dX6_putLine_125 rfl ?_
                  refine v_iast C ar_qS_1 (by decide) _ ?_ rfl dX6_putLine_126 ?_
                  · omega
                  obtain ⟨g8, eg8⟩ : ∃ x, x = sG g6 1 (upd (g6 1) (p1 + j) (nI v)) := ⟨_, rfl⟩
                  have hR8 : QR b len (whenS (!decide (p1 + j < n)) 2 (chkS 0 255 S)) g8 := by rw [eg8]; exact QR.row hR6
                  have hL8 : FLn g g8 := by rw [eg8]; exact FLn.row hL6
                  have hs8 : g8 0 2 = nI n := by rw [eg8]; exact hs6
                  have hK8 : KQ k g8 := by rw [eg8]; exact hK6
                  have hRow8 : RowR (if ok (whenS (!decide (p1 + j < n)) 2 (chkS 0 255 S)) = true then byteM y (p1 + j) (nI v) else y) (g8 1) := by rw [if_pos (ok_gz hzd), eg8]; exact Row_byte hRow6 (by omega)
                  refine V.stt (g2 := g8) (by rw [eg8, Nat.zero_add]) ?_
                  refine V.sub (lo2 := [some _, some _, some _, none]) ⟨rfl, rfl, rfl, trivial⟩ ?_
                  first
                  | exact J127 _ hR8 hL8 hs8 hK8 hRow8
                  | exact J127 _ hR6 hL6 hs6 hK6 (by rw [if_neg (by rw [ok_b hzd]; exact Bool.false_ne_true)]; exact hRow6)
          refine v_iload_n C dX6_putLine_61 rfl ?_
          refine v_if_eq C 73 dX6_putLine_62 (by decide) (fun c62 => ?_) (fun c62 => ?_)
          · have hj : j = 0 ∨ S.1.1 = 2 := Or.inl (nI_inj (b := 0) (by omega) (by omega) c62)
            exact J73 hj
          · have hj0 : ¬ j = 0 := fun z => c62 (by rw [z]; rfl)
            refine v_aload_n C dX6_putLine_65 rfl ?_
            refine v_getiQ (x := nI S.1.1) C fl_X6_63 oi_qS_0_14 ((hRx.2.2.2.2.2.2 hz0).1.1) dX6_putLine_66 ?_
            refine v_iconst (v := nI 2) C dX6_putLine_69 (by decide) ?_
            refine v_icmp_ne C 137 dX6_putLine_70 (by decide) (fun c70 => ?_) (fun c70 => ?_)
            · have hxe : (S, y) = x4 := (putW_e hj0 (fun z => c70 (by rw [z]))).symm.trans i4
              refine v_aload_n C dX6_putLine_137 rfl ?_
              refine v_dup C dX6_putLine_138 rfl ?_
              refine v_getiQ (x := nI k.1) C fl_X6_123 oi_qS_0_18 (hKx.1) dX6_putLine_139 ?_
              refine v_iconst (v := nI 1) C dX6_putLine_142 (by decide) ?_
              first | refine v_iaddN C dX6_putLine_143 ?_ | refine v_iadd C dX6_putLine_143 ?_
              refine v_puti C fl_X6_123 fw_X6_18 oi_qS_0_18 ⟨rfl, rfl⟩ dX6_putLine_144 ?_
              refine V.stt (g2 := (sG gx 0 (upd (gx 0) 18 (nI (k.1 + 1))))) (rfl) ?_
              refine v_vret C F dX6_putLine_147 (Nat.le_of_ble_eq_true rfl) (Nat.le_of_ble_eq_true rfl) ?_
              rw [lnPut_eq hx4, ← hxe]
              dsimp only
              exact ⟨QXr_mk (QR.cnt hRx (by decide)) (Row_at hRow_x rfl) hKx.c18 hsx, FLn.cnt hLx (by decide) (by decide)⟩
            · have hj : j = 0 ∨ S.1.1 = 2 := Or.inr (nI_inj (by have := (hRx.2.2.2.2.2.2 hz0).2.1; omega) (by omega) c70)
              exact J73 hj
      have hG3 : GTo len (advS b len (put1 b len n st k).1).1 := (((Le.wPut (len := len) (k := k)).tr (Le.num (b := b) (lo := 0) (hi := n - 1))).tr Le.adv hG).1
      have hp1e : (put1 b len n st k).2 = p1 := Eq.symm hp1
      have hfin : putW b len n p1 0 (advS b len (put1 b len n st k).1) m = x4 := by
        rw [← hp1e]
        exact put4_W.trans hx4
      exact L54 (0, advS b len (put1 b len n st k).1, m, g4) ⟨Nat.zero_le _, hR4, hRow4, hK4, hs4, hFa.fl, hfin, fun _ => Nat.zero_le _, hG3⟩
    · refine v_iconst (v := nI 1) C dX6_putLine_27 (by decide) ?_
      refine v_goto C 32 dX6_putLine_28 (by decide) ?_
      refine V.eqs (st2 := [.int (bI (decide (k.1 = 20))), .ref (h 0)]) ?_ (congrArg (fun z => [Value.int z, Value.ref (h 0)]) (by first | exact bI_t (decide_eq_true (by omega)) | exact bI_f (decide_eq_false (by omega))))
      refine v_iconst (v := nI 4) C dX6_putLine_32 (by decide) ?_
      refine v_callVv C (c_X6_failsIf hl (cd := 4) (p := decide (k.1 = 20)) hR1 (by decide) (by decide)) ym_X6_failsIf ml_X6_113 emb_id_qS rfl rfl rfl rfl rfl dX6_putLine_33 (Nat.le_of_ble_eq_true rfl) (Nat.le_of_ble_eq_true rfl) (Nat.le_of_ble_eq_true rfl) (Nat.le_of_ble_eq_true rfl) (fun _ _ hu => hu.elim) (fun r u hu => ?_)
      rw [hWe] at hu
      obtain ⟨hR2, hF2⟩ := hu
      obtain ⟨g2, eg2⟩ : ∃ x, x = u := ⟨u, rfl⟩
      subst eg2
      refine v_aload_n C dX6_putLine_36 rfl ?_
      refine v_callVv C (c_X6_goesOn hl hR2 hb (fun z => by rw [wPut_1]; exact hk4 (wPut_ok (ok_gz z)).1)) ym_X6_goesOn ml_X6_106 emb_id_qS rfl rfl rfl rfl rfl dX6_putLine_37 (Nat.le_of_ble_eq_true rfl) (Nat.le_of_ble_eq_true rfl) (Nat.le_of_ble_eq_true rfl) (Nat.le_of_ble_eq_true rfl) (fun _ _ hu => hu.elim) (fun r u hu => ?_)
      obtain ⟨hR3, hF3⟩ := hu
      obtain ⟨g3, eg3⟩ : ∃ x, x = u := ⟨u, rfl⟩
      subst eg3
      have hs2 : g3 0 2 = nI n := (hF3.2 2 (by decide)).trans ((hF2.2 2 (by decide)).trans ((hF1.2 2 (by decide)).trans hs))
      refine v_aload_n C dX6_putLine_40 rfl ?_
      refine v_iconst (v := nI 0) C dX6_putLine_41 (by decide) ?_
      refine v_aload_n C dX6_putLine_42 rfl ?_
      refine v_getiQ (x := nI n) C fl_X6_126 oi_qS_0_2 (hs2) dX6_putLine_43 ?_
      refine v_iconst (v := nI 1) C dX6_putLine_46 (by decide) ?_
      first | refine v_isubN C dX6_putLine_47 (by omega) ?_ | refine v_isub C dX6_putLine_47 ?_
      refine v_callVi C (c_X6_takesN hl (s0 := wPut k st) hR3 (by omega) (by omega) hb) ym_X6_takes ml_X6_117 emb_id_qS rfl rfl rfl rfl rfl dX6_putLine_48 (Nat.le_of_ble_eq_true rfl) (Nat.le_of_ble_eq_true rfl) (Nat.le_of_ble_eq_true rfl) (Nat.le_of_ble_eq_true rfl) (fun _ _ hu => hu.elim) (fun r u hu => ?_)
      rw [put1_eq] at hu
      obtain ⟨rfl, hR4, hF4⟩ := hu
      obtain ⟨g4, eg4⟩ : ∃ x, x = u := ⟨u, rfl⟩
      subst eg4
      show V X _ _ _ (Value.int (nI (put1 b len n st k).2) :: _) _ _ _
      obtain ⟨p1, hp1⟩ : ∃ x, EqH x (put1 b len n st k).2 := ⟨_, rfl⟩
      have hp1e : (put1 b len n st k).2 = p1 := Eq.symm hp1
      rw [hp1e]
      clear hp1e
      have rg1 := (numS_h (Nat.zero_le _) hp1).2
      have hFa := ((hF1.tr hF2).tr hF3).tr hF4
      have hRow4 : RowR m (g4 1) := by rw [hFa.1 1 (by decide)]; exact hRow
      have hK4 := hK.fq hFa
      have hs4 : g4 0 2 = nI n := (hFa.2 2 (by decide)).trans hs
      refine v_istore_n C (lo2 := [some _, some _, none, none]) dX6_putLine_51 rfl (Nat.le_of_ble_eq_true rfl) rfl ?_
      refine v_iconst (v := nI 0) C dX6_putLine_52 (by decide) ?_
      refine v_istore_n C (lo2 := [some _, some _, some _, none]) dX6_putLine_53 rfl (Nat.le_of_ble_eq_true rfl) rfl ?_
      have L54 : ∀ (t : Nat × St × Mg × G), (fun t => t.1 ≤ 700 ∧ QR b len t.2.1 t.2.2.2 ∧ RowR t.2.2.1 (t.2.2.2 1) ∧ KQ k t.2.2.2 ∧ t.2.2.2 0 2 = nI n ∧ FLn g t.2.2.2 ∧ putW b len n p1 t.1 t.2.1 t.2.2.1 = x4 ∧ (ok t.2.1 = true → t.1 ≤ t.2.1.1.2.1) ∧ GTo len t.2.1.1) t → (fun t : Nat × St × Mg × G => V X (qS (xK X) h) 54 [some (.ref (h 0)), some (.int (nI p1)), some (.int (nI t.1)), none] [] t.2.2.2 0 0) t := by
        refine v_ind (fun t : Nat × St × Mg × G => 701 - t.1) ?_
        rintro ⟨j, S, y, gx⟩ ih54 hI54
        skip
        obtain ⟨i1, hRx, hRow_x, hKx, hsx, hLx, i4, i5, hGx⟩ := hI54
        have i1 : j ≤ 700 := i1
        have hRx : QR b len S gx := hRx
        have hRow_x : RowR y (gx 1) := hRow_x
        have hKx : KQ k gx := hKx
        have hsx : gx 0 2 = nI n := hsx
        have hLx : FLn g gx := hLx
        have i4 : putW b len n p1 j S y = x4 := i4
        have i5 : ok S = true → j ≤ S.1.2.1 := i5
        have hGx : GTo len S.1 := hGx
        show V X (qS (xK X) h) 54 [some (.ref (h 0)), some (.int (nI p1)), some (.int (nI j)), none] [] gx 0 0
        refine v_aload_n C dX6_putLine_54 rfl ?_
        refine v_getiQ (x := nI S.2.1) C fl_X6_76 oi_qS_0_16 (hRx.2.2.2.2.1) dX6_putLine_55 ?_
        refine v_if_ne C 137 dX6_putLine_58 (by decide) (fun c58 => ?_) (fun c58 => ?_)
        · have hz0 : ¬ S.2.1 = 0 := fun z => c58 (by rw [z]; rfl)
          have hxe : (S, y) = x4 := (putW_b hz0).symm.trans i4
          refine v_aload_n C dX6_putLine_137 rfl ?_
          refine v_dup C dX6_putLine_138 rfl ?_
          refine v_getiQ (x := nI k.1) C fl_X6_123 oi_qS_0_18 (hKx.1) dX6_putLine_139 ?_
          refine v_iconst (v := nI 1) C dX6_putLine_142 (by decide) ?_
          first | refine v_iaddN C dX6_putLine_143 ?_ | refine v_iadd C dX6_putLine_143 ?_
          refine v_puti C fl_X6_123 fw_X6_18 oi_qS_0_18 ⟨rfl, rfl⟩ dX6_putLine_144 ?_
          refine V.stt (g2 := (sG gx 0 (upd (gx 0) 18 (nI (k.1 + 1))))) (rfl) ?_
          refine v_vret C F dX6_putLine_147 (Nat.le_of_ble_eq_true rfl) (Nat.le_of_ble_eq_true rfl) ?_
          rw [lnPut_eq hx4, ← hxe]
          dsimp only
          exact ⟨QXr_mk (QR.cnt hRx (by decide)) (Row_at hRow_x rfl) hKx.c18 hsx, FLn.cnt hLx (by decide) (by decide)⟩
        · have hz0 : S.2.1 = 0 := nI_inj (b := 0) (by have := hRx.2.2.2.1; omega) (by omega) c58
          have J73 : (j = 0 ∨ S.1.1 = 2) → V X (qS (xK X) h) 73 [some (.ref (h 0)), some (.int (nI p1)), some (.int (nI j)), none] [] gx 0 0 := by
            intro hj
            refine v_aload_n C dX6_putLine_73 rfl ?_
            refine v_iconst (v := nI 0) C dX6_putLine_74 (by decide) ?_
            refine v_sipush (v := nI 255) C dX6_putLine_75 (by decide) ?_
            refine v_callVi C (c_X6_numberHere hl (st := S) hRx (by decide) (by decide)) ym_X6_numberHere ml_X6_102 emb_id_qS rfl rfl rfl rfl rfl dX6_putLine_78 (Nat.le_of_ble_eq_true rfl) (Nat.le_of_ble_eq_true rfl) (Nat.le_of_ble_eq_true rfl) (Nat.le_of_ble_eq_true rfl) (fun _ _ hu => hu.elim) (fun r u hu => ?_)
            obtain ⟨rfl, hR5, hF5⟩ := hu
            obtain ⟨g5, eg5⟩ : ∃ x, x = u := ⟨u, rfl⟩
            subst eg5
            obtain ⟨v, hv⟩ : ∃ v, v = chkVl 0 255 S := ⟨_, rfl⟩
            rw [← hv]
            have hs5 : g5 0 2 = nI n := (hF5.2 2 (by decide)).trans hsx
            refine v_istore_n C (lo2 := [some _, some _, some _, some _]) dX6_putLine_81 rfl (Nat.le_of_ble_eq_true rfl) rfl ?_
            refine v_aload_n C dX6_putLine_82 rfl ?_
            refine v_aload_n C dX6_putLine_83 rfl ?_
            refine v_getiQ (x := nI (chkS 0 255 S).2.1) C fl_X6_76 oi_qS_0_16 (hR5.2.2.2.2.1) dX6_putLine_84 ?_
            refine v_if_ne C 104 dX6_putLine_87 (by decide) (fun c87 => ?_) (fun c87 => ?_)
            · have hzc : ¬ (chkS 0 255 S).2.1 = 0 := fun z => c87 (by rw [z]; rfl)
              refine v_iconst (v := nI 0) C dX6_putLine_104 (by decide) ?_
              refine V.eqs (st2 := [.int (bI (ok (chkS 0 255 S) && !decide (p1 + j < n))), .ref (h 0)]) ?_ (congrArg (fun z => [Value.int z, Value.ref (h 0)]) (by first | exact bI_f (by rw [ok_b hzc]; rfl) | exact bI_f (by rw [ok_gz hzc, decide_eq_true (show p1 + j < n by omega)]; rfl) | exact bI_t (by rw [ok_gz hzc, decide_eq_false (show ¬ p1 + j < n by omega)]; rfl)))
              refine v_iconst (v := nI 2) C dX6_putLine_105 (by decide) ?_
              refine v_callVv C (c_X6_failsIf hl (cd := 2) (p := ok (chkS 0 255 S) && !decide (p1 + j < n)) hR5 (by decide) (by decide)) ym_X6_failsIf ml_X6_113 emb_id_qS rfl rfl rfl rfl rfl dX6_putLine_106 (Nat.le_of_ble_eq_true rfl) (Nat.le_of_ble_eq_true rfl) (Nat.le_of_ble_eq_true rfl) (Nat.le_of_ble_eq_true rfl) (fun _ _ hu => hu.elim) (fun r u hu => ?_)
              rw [show whenS (ok (chkS 0 255 S) && !decide (p1 + j < n)) 2 (chkS 0 255 S) = (whenS (!decide (p1 + j < n)) 2 (chkS 0 255 S)) from when_eq (fun z => by rw [z, Bool.true_and])] at hu
              obtain ⟨hR6, hF6⟩ := hu
              obtain ⟨g6, eg6⟩ : ∃ x, x = u := ⟨u, rfl⟩
              subst eg6
              have hFb := hF5.tr hF6
              have hRow6 : RowR y (g6 1) := Row_at hRow_x (hFb.1 1 (by decide))
              have hs6 : g6 0 2 = nI n := (hFb.2 2 (by decide)).trans hsx
              have hK6 := hKx.fq hFb
              have hL6 := hLx.tr hFb.fl
              have J127 : ∀ g8 : G, QR b len (whenS (!decide (p1 + j < n)) 2 (chkS 0 255 S)) g8 → FLn g g8 → g8 0 2 = nI n → KQ k g8 → RowR (if ok (whenS (!decide (p1 + j < n)) 2 (chkS 0 255 S)) = true then byteM y (p1 + j) (nI v) else y) (g8 1) → V X (qS (xK X) h) 127 [some (.ref (h 0)), some (.int (nI p1)), some (.int (nI j)), none] [] g8 0 0 := by
                intro g8 hR8 hL8 hs8 hK8 hRow8
                have hk9 : (whenS (!decide (p1 + j < n)) 2 (chkS 0 255 S)).2.1 = 0 → ¬ (whenS (!decide (p1 + j < n)) 2 (chkS 0 255 S)).1.1 = 4 := when_k (by decide) (fun z => by rw [(chk_k2 (ok_g z)).1]; decide)
                refine v_aload_n C dX6_putLine_127 rfl ?_
                refine v_callVv C (c_X6_goesOn hl hR8 hb hk9) ym_X6_goesOn ml_X6_106 emb_id_qS rfl rfl rfl rfl rfl dX6_putLine_128 (Nat.le_of_ble_eq_true rfl) (Nat.le_of_ble_eq_true rfl) (Nat.le_of_ble_eq_true rfl) (Nat.le_of_ble_eq_true rfl) (fun _ _ hu => hu.elim) (fun r u hu => ?_)
                obtain ⟨hR9, hF9⟩ := hu
                obtain ⟨g9, eg9⟩ : ∃ x, x = u := ⟨u, rfl⟩
                subst eg9
                have hK9 := hK8.fq hF9
                have hs9 := (hF9.2 2 (by decide)).trans hs8
                have hRow9 := Row_at hRow8 (hF9.1 1 (by decide))
                first | refine v_iinc1 C (lo2 := [some _, some _, some _, none]) dX6_putLine_131 rfl rfl rfl ?_ | refine v_iinc C (lo2 := [some _, some _, some _, none]) dX6_putLine_131 rfl rfl rfl rfl ?_
                refine v_goto C 54 dX6_putLine_134 (by decide) ?_
                have hoS := ok_gz hz0
                have hlen : len ≤ 700 := hRx.2.2.1
                have hj7 : j < 700 := by
                  rcases hj with z | z
                  · omega
                  · have q1 := hGx.2.2.1 (Or.inl z)
                    have q2 := hGx.2.1
                    have q3 := i5 hoS
                    omega
                have i6 := (putW_s (m := y) (b := b) (len := len) (n := n) (p := p1) hoS hj hj7).symm.trans i4
                rw [← hv, putS_at] at i6
                have hD1 : (whenS (!decide (p1 + j < n)) 2 (chkS 0 255 S)).1 = S.1 := whenS_1.trans chk_1
                have H := ih54 (j + 1, advS b len (whenS (!decide (p1 + j < n)) 2 (chkS 0 255 S)), (if ok (whenS (!decide (p1 + j < n)) 2 (chkS 0 255 S)) = true then byteM y (p1 + j) (nI v) else y), g9)
                refine H (by show 701 - (j + 1) < 701 - j; omega) ⟨by show j + 1 ≤ 700; omega, hR9, hRow9, hK9, hs9, hL8.tr hF9.fl, i6, fun z => ?_, ?_⟩
                · have hoD := ok_imp (fun q => adv_b q) z
                  have hoC := (whenS_ok (by decide) hoD).2
                  have hkS : S.1.1 = 2 := by rw [← chk_1 (lo := 0) (hi := 255)]; exact (chk_k2 (ok_g hoC)).1
                  have q := adv_lt (b := b) (s := (whenS (!decide (p1 + j < n)) 2 (chkS 0 255 S))) (by rw [hD1]; exact hGx) hoD (by rw [hD1]; exact Or.inl hkS)
                  rw [hD1] at q
                  have q5 := i5 hoS
                  show j + 1 ≤ (advS b len (whenS (!decide (p1 + j < n)) 2 (chkS 0 255 S))).1.2.1
                  omega
                · exact (((Le.chk (len := len) (lo := 0) (hi := 255)).tr Le.when).tr Le.adv hGx).1
              refine v_aload_n C dX6_putLine_109 rfl ?_
              refine v_getiQ (x := nI (whenS (!decide (p1 + j < n)) 2 (chkS 0 255 S)).2.1) C fl_X6_76 oi_qS_0_16 (hR6.2.2.2.2.1) dX6_putLine_110 ?_
              refine v_if_ne C 127 dX6_putLine_113 (by decide) (fun c113 => ?_) (fun c113 => ?_)
              · have hzd : ¬ (whenS (!decide (p1 + j < n)) 2 (chkS 0 255 S)).2.1 = 0 := fun z => c113 (by rw [z]; rfl)
                refine V.sub (lo2 := [some _, some _, some _, none]) ⟨rfl, rfl, rfl, trivial⟩ ?_
                first
                | exact J127 _ hR8 hL8 hs8 hK8 hRow8
                | exact J127 _ hR6 hL6 hs6 hK6 (by rw [if_neg (by rw [ok_b hzd]; exact Bool.false_ne_true)]; exact hRow6)
              · have hzd : (whenS (!decide (p1 + j < n)) 2 (chkS 0 255 S)).2.1 = 0 := nI_inj (b := 0) (by have := hR6.2.2.2.1; omega) (by omega) c113
                have hpn : p1 + j < n := by
                  have w := (whenS_ok (by decide) (ok_gz hzd)).1
                  rw [Bool.not_eq_false'] at w
                  exact of_decide_eq_true w
                refine v_aload_n C dX6_putLine_116 rfl ?_
                refine v_getr C fl_X6_7 or_qS_0_3 dX6_putLine_117 ?_
                refine v_iconst (v := nI 0) C dX6_putLine_120 (by decide) ?_
                refine v_iload_n C dX6_putLine_121 rfl ?_
                first | refine v_iaddN C dX6_putLine_122 ?_ | refine v_iadd C dX6_putLine_122 ?_
                refine v_iload_n C dX6_putLine_123 rfl ?_
                first | refine v_iaddN C dX6_putLine_124 ?_ | refine v_iadd C dX6_putLine_124 ?_
                refine v_iload_n C dX6_putLine_125 rfl ?_
                refine v_iast C ar_qS_1 (by decide) _ ?_ rfl dX6_putLine_126 ?_
                · omega
                obtain ⟨g8, eg8⟩ : ∃ x, x = sG g6 1 (upd (g6 1) (p1 + j) (nI v)) := ⟨_, rfl⟩
                have hR8 : QR b len (whenS (!decide (p1 + j < n)) 2 (chkS 0 255 S)) g8 := by rw [eg8]; exact QR.row hR6
                have hL8 : FLn g g8 := by rw [eg8]; exact FLn.row hL6
                have hs8 : g8 0 2 = nI n := by rw [eg8]; exact hs6
                have hK8 : KQ k g8 := by rw [eg8]; exact hK6
                have hRow8 : RowR (if ok (whenS (!decide (p1 + j < n)) 2 (chkS 0 255 S)) = true then byteM y (p1 + j) (nI v) else y) (g8 1) := by rw [if_pos (ok_gz hzd), eg8]; exact Row_byte hRow6 (by omega)
                refine V.stt (g2 := g8) (by rw [eg8, Nat.zero_add]) ?_
                refine V.sub (lo2 := [some _, some _, some _, none]) ⟨rfl, rfl, rfl, trivial⟩ ?_
                first
                | exact J127 _ hR8 hL8 hs8 hK8 hRow8
                | exact J127 _ hR6 hL6 hs6 hK6 (by rw [if_neg (by rw [ok_b hzd]; exact Bool.false_ne_true)]; exact hRow6)
            · have hzc : (chkS 0 255 S).2.1 = 0 := nI_inj (b := 0) (by have := hR5.2.2.2.1; omega) (by omega) c87
              refine v_iload_n C dX6_putLine_90 rfl ?_
              refine v_iload_n C dX6_putLine_91 rfl ?_
              first | refine v_iaddN C dX6_putLine_92 ?_ | refine v_iadd C dX6_putLine_92 ?_
              refine v_aload_n C dX6_putLine_93 rfl ?_
              refine v_getiQ (x := nI n) C fl_X6_126 oi_qS_0_2 (hs5) dX6_putLine_94 ?_
              first | refine v_icmp_ltN C 104 dX6_putLine_97 (by decide) (by omega) (by omega) (fun c97 => ?_) (fun c97 => ?_) | refine v_icmp_lt C 104 dX6_putLine_97 (by decide) (fun c97 => ?_) (fun c97 => ?_)
              · refine v_iconst (v := nI 0) C dX6_putLine_104 (by decide) ?_
                refine V.eqs (st2 := [.int (bI (ok (chkS 0 255 S) && !decide (p1 + j < n))), .ref (h 0)]) ?_ (congrArg (fun z => [Value.int z, Value.ref (h 0)]) (by first | exact bI_f (by rw [ok_b hzc]; rfl) | exact bI_f (by rw [ok_gz hzc, decide_eq_true (show p1 + j < n by omega)]; rfl) | exact bI_t (by rw [ok_gz hzc, decide_eq_false (show ¬ p1 + j < n by omega)]; rfl)))
                refine v_iconst (v := nI 2) C dX6_putLine_105 (by decide) ?_
                refine v_callVv C (c_X6_failsIf hl (cd := 2) (p := ok (chkS 0 255 S) && !decide (p1 + j < n)) hR5 (by decide) (by decide)) ym_X6_failsIf ml_X6_113 emb_id_qS rfl rfl rfl rfl rfl dX6_putLine_106 (Nat.le_of_ble_eq_true rfl) (Nat.le_of_ble_eq_true rfl) (Nat.le_of_ble_eq_true rfl) (Nat.le_of_ble_eq_true rfl) (fun _ _ hu => hu.elim) (fun r u hu => ?_)
                rw [show whenS (ok (chkS 0 255 S) && !decide (p1 + j < n)) 2 (chkS 0 255 S) = (whenS (!decide (p1 + j < n)) 2 (chkS 0 255 S)) from when_eq (fun z => by rw [z, Bool.true_and])] at hu
                obtain ⟨hR6, hF6⟩ := hu
                obtain ⟨g6, eg6⟩ : ∃ x, x = u := ⟨u, rfl⟩
                subst eg6
                have hFb := hF5.tr hF6
                have hRow6 : RowR y (g6 1) := Row_at hRow_x (hFb.1 1 (by decide))
                have hs6 : g6 0 2 = nI n := (hFb.2 2 (by decide)).trans hsx
                have hK6 := hKx.fq hFb
                have hL6 := hLx.tr hFb.fl
                have J127 : ∀ g8 : G, QR b len (whenS (!decide (p1 + j < n)) 2 (chkS 0 255 S)) g8 → FLn g g8 → g8 0 2 = nI n → KQ k g8 → RowR (if ok (whenS (!decide (p1 + j < n)) 2 (chkS 0 255 S)) = true then byteM y (p1 + j) (nI v) else y) (g8 1) → V X (qS (xK X) h) 127 [some (.ref (h 0)), some (.int (nI p1)), some (.int (nI j)), none] [] g8 0 0 := by
                  intro g8 hR8 hL8 hs8 hK8 hRow8
                  have hk9 : (whenS (!decide (p1 + j < n)) 2 (chkS 0 255 S)).2.1 = 0 → ¬ (whenS (!decide (p1 + j < n)) 2 (chkS 0 255 S)).1.1 = 4 := when_k (by decide) (fun z => by rw [(chk_k2 (ok_g z)).1]; decide)
                  refine v_aload_n C dX6_putLine_127 rfl ?_
                  refine v_callVv C (c_X6_goesOn hl hR8 hb hk9) ym_X6_goesOn ml_X6_106 emb_id_qS rfl rfl rfl rfl rfl dX6_putLine_128 (Nat.le_of_ble_eq_true rfl) (Nat.le_of_ble_eq_true rfl) (Nat.le_of_ble_eq_true rfl) (Nat.le_of_ble_eq_true rfl) (fun _ _ hu => hu.elim) (fun r u hu => ?_)
                  obtain ⟨hR9, hF9⟩ := hu
                  obtain ⟨g9, eg9⟩ : ∃ x, x = u := ⟨u, rfl⟩
                  subst eg9
                  have hK9 := hK8.fq hF9
                  have hs9 := (hF9.2 2 (by decide)).trans hs8
                  have hRow9 := Row_at hRow8 (hF9.1 1 (by decide))
                  first | refine v_iinc1 C (lo2 := [some _, some _, some _, none]) dX6_putLine_131 rfl rfl rfl ?_ | refine v_iinc C (lo2 := [some _, some _, some _, none]) dX6_putLine_131 rfl rfl rfl rfl ?_
                  refine v_goto C 54 dX6_putLine_134 (by decide) ?_
                  have hoS := ok_gz hz0
                  have hlen : len ≤ 700 := hRx.2.2.1
                  have hj7 : j < 700 := by
                    rcases hj with z | z
                    · omega
                    · have q1 := hGx.2.2.1 (Or.inl z)
                      have q2 := hGx.2.1
                      have q3 := i5 hoS
                      omega
                  have i6 := (putW_s (m := y) (b := b) (len := len) (n := n) (p := p1) hoS hj hj7).symm.trans i4
                  rw [← hv, putS_at] at i6
                  have hD1 : (whenS (!decide (p1 + j < n)) 2 (chkS 0 255 S)).1 = S.1 := whenS_1.trans chk_1
                  have H := ih54 (j + 1, advS b len (whenS (!decide (p1 + j < n)) 2 (chkS 0 255 S)), (if ok (whenS (!decide (p1 + j < n)) 2 (chkS 0 255 S)) = true then byteM y (p1 + j) (nI v) else y), g9)
                  refine H (by show 701 - (j + 1) < 701 - j; omega) ⟨by show j + 1 ≤ 700; omega, hR9, hRow9, hK9, hs9, hL8.tr hF9.fl, i6, fun z => ?_, ?_⟩
                  · have hoD := ok_imp (fun q => adv_b q) z
                    have hoC := (whenS_ok (by decide) hoD).2
                    have hkS : S.1.1 = 2 := by rw [← chk_1 (lo := 0) (hi := 255)]; exact (chk_k2 (ok_g hoC)).1
                    have q := adv_lt (b := b) (s := (whenS (!decide (p1 + j < n)) 2 (chkS 0 255 S))) (by rw [hD1]; exact hGx) hoD (by rw [hD1]; exact Or.inl hkS)
                    rw [hD1] at q
                    have q5 := i5 hoS
                    show j + 1 ≤ (advS b len (whenS (!decide (p1 + j < n)) 2 (chkS 0 255 S))).1.2.1
                    omega
                  · exact (((Le.chk (len := len) (lo := 0) (hi := 255)).tr Le.when).tr Le.adv hGx).1
                refine v_aload_n C dX6_putLine_109 rfl ?_
                refine v_getiQ (x := nI (whenS (!decide (p1 + j < n)) 2 (chkS 0 255 S)).2.1) C fl_X6_76 oi_qS_0_16 (hR6.2.2.2.2.1) dX6_putLine_110 ?_
                refine v_if_ne C 127 dX6_putLine_113 (by decide) (fun c113 => ?_) (fun c113 => ?_)
                · have hzd : ¬ (whenS (!decide (p1 + j < n)) 2 (chkS 0 255 S)).2.1 = 0 := fun z => c113 (by rw [z]; rfl)
                  refine V.sub (lo2 := [some _, some _, some _, none]) ⟨rfl, rfl, rfl, trivial⟩ ?_
                  first
                  | exact J127 _ hR8 hL8 hs8 hK8 hRow8
                  | exact J127 _ hR6 hL6 hs6 hK6 (by rw [if_neg (by rw [ok_b hzd]; exact Bool.false_ne_true)]; exact hRow6)
                · have hzd : (whenS (!decide (p1 + j < n)) 2 (chkS 0 255 S)).2.1 = 0 := nI_inj (b := 0) (by have := hR6.2.2.2.1; omega) (by omega) c113
                  have hpn : p1 + j < n := by
                    have w := (whenS_ok (by decide) (ok_gz hzd)).1
                    rw [Bool.not_eq_false'] at w
                    exact of_decide_eq_true w
                  refine v_aload_n C dX6_putLine_116 rfl ?_
                  refine v_getr C fl_X6_7 or_qS_0_3 dX6_putLine_117 ?_
                  refine v_iconst (v := nI 0) C dX6_putLine_120 (by decide) ?_
                  refine v_iload_n C dX6_putLine_121 rfl ?_
                  first | refine v_iaddN C dX6_putLine_122 ?_ | refine v_iadd C dX6_putLine_122 ?_
                  refine v_iload_n C dX6_putLine_123 rfl ?_
                  first | refine v_iaddN C dX6_putLine_124 ?_ | refine v_iadd C dX6_putLine_124 ?_
                  refine v_iload_n C dX6_putLine_125 rfl ?_
                  refine v_iast C ar_qS_1 (by decide) _ ?_ rfl dX6_putLine_126 ?_
                  · omega
                  obtain ⟨g8, eg8⟩ : ∃ x, x = sG g6 1 (upd (g6 1) (p1 + j) (nI v)) := ⟨_, rfl⟩
                  have hR8 : QR b len (whenS (!decide (p1 + j < n)) 2 (chkS 0 255 S)) g8 := by rw [eg8]; exact QR.row hR6
                  have hL8 : FLn g g8 := by rw [eg8]; exact FLn.row hL6
                  have hs8 : g8 0 2 = nI n := by rw [eg8]; exact hs6
                  have hK8 : KQ k g8 := by rw [eg8]; exact hK6
                  have hRow8 : RowR (if ok (whenS (!decide (p1 + j < n)) 2 (chkS 0 255 S)) = true then byteM y (p1 + j) (nI v) else y) (g8 1) := by rw [if_pos (ok_gz hzd), eg8]; exact Row_byte hRow6 (by omega)
                  refine V.stt (g2 := g8) (by rw [eg8, Nat.zero_add]) ?_
                  refine V.sub (lo2 := [some _, some _, some _, none]) ⟨rfl, rfl, rfl, trivial⟩ ?_
                  first
                  | exact J127 _ hR8 hL8 hs8 hK8 hRow8
                  | exact J127 _ hR6 hL6 hs6 hK6 (by rw [if_neg (by rw [ok_b hzd]; exact Bool.false_ne_true)]; exact hRow6)
              · refine v_iconst (v := nI 1) C dX6_putLine_100 (by decide) ?_
                refine v_goto C 105 dX6_putLine_101 (by decide) ?_
                refine V.eqs (st2 := [.int (bI (ok (chkS 0 255 S) && !decide (p1 + j < n))), .ref (h 0)]) ?_ (congrArg (fun z => [Value.int z, Value.ref (h 0)]) (by first | exact bI_f (by rw [ok_b hzc]; rfl) | exact bI_f (by rw [ok_gz hzc, decide_eq_true (show p1 + j < n by omega)]; rfl) | exact bI_t (by rw [ok_gz hzc, decide_eq_false (show ¬ p1 + j < n by omega)]; rfl)))
                refine v_iconst (v := nI 2) C dX6_putLine_105 (by decide) ?_
                refine v_callVv C (c_X6_failsIf hl (cd := 2) (p := ok (chkS 0 255 S) && !decide (p1 + j < n)) hR5 (by decide) (by decide)) ym_X6_failsIf ml_X6_113 emb_id_qS rfl rfl rfl rfl rfl dX6_putLine_106 (Nat.le_of_ble_eq_true rfl) (Nat.le_of_ble_eq_true rfl) (Nat.le_of_ble_eq_true rfl) (Nat.le_of_ble_eq_true rfl) (fun _ _ hu => hu.elim) (fun r u hu => ?_)
                rw [show whenS (ok (chkS 0 255 S) && !decide (p1 + j < n)) 2 (chkS 0 255 S) = (whenS (!decide (p1 + j < n)) 2 (chkS 0 255 S)) from when_eq (fun z => by rw [z, Bool.true_and])] at hu
                obtain ⟨hR6, hF6⟩ := hu
                obtain ⟨g6, eg6⟩ : ∃ x, x = u := ⟨u, rfl⟩
                subst eg6
                have hFb := hF5.tr hF6
                have hRow6 : RowR y (g6 1) := Row_at hRow_x (hFb.1 1 (by decide))
                have hs6 : g6 0 2 = nI n := (hFb.2 2 (by decide)).trans hsx
                have hK6 := hKx.fq hFb
                have hL6 := hLx.tr hFb.fl
                have J127 : ∀ g8 : G, QR b len (whenS (!decide (p1 + j < n)) 2 (chkS 0 255 S)) g8 → FLn g g8 → g8 0 2 = nI n → KQ k g8 → RowR (if ok (whenS (!decide (p1 + j < n)) 2 (chkS 0 255 S)) = true then byteM y (p1 + j) (nI v) else y) (g8 1) → V X (qS (xK X) h) 127 [some (.ref (h 0)), some (.int (nI p1)), some (.int (nI j)), none] [] g8 0 0 := by
                  intro g8 hR8 hL8 hs8 hK8 hRow8
                  have hk9 : (whenS (!decide (p1 + j < n)) 2 (chkS 0 255 S)).2.1 = 0 → ¬ (whenS (!decide (p1 + j < n)) 2 (chkS 0 255 S)).1.1 = 4 := when_k (by decide) (fun z => by rw [(chk_k2 (ok_g z)).1]; decide)
                  refine v_aload_n C dX6_putLine_127 rfl ?_
                  refine v_callVv C (c_X6_goesOn hl hR8 hb hk9) ym_X6_goesOn ml_X6_106 emb_id_qS rfl rfl rfl rfl rfl dX6_putLine_128 (Nat.le_of_ble_eq_true rfl) (Nat.le_of_ble_eq_true rfl) (Nat.le_of_ble_eq_true rfl) (Nat.le_of_ble_eq_true rfl) (fun _ _ hu => hu.elim) (fun r u hu => ?_)
                  obtain ⟨hR9, hF9⟩ := hu
                  obtain ⟨g9, eg9⟩ : ∃ x, x = u := ⟨u, rfl⟩
                  subst eg9
                  have hK9 := hK8.fq hF9
                  have hs9 := (hF9.2 2 (by decide)).trans hs8
                  have hRow9 := Row_at hRow8 (hF9.1 1 (by decide))
                  first | refine v_iinc1 C (lo2 := [some _, some _, some _, none]) dX6_putLine_131 rfl rfl rfl ?_ | refine v_iinc C (lo2 := [some _, some _, some _, none]) dX6_putLine_131 rfl rfl rfl rfl ?_
                  refine v_goto C 54 dX6_putLine_134 (by decide) ?_
                  have hoS := ok_gz hz0
                  have hlen : len ≤ 700 := hRx.2.2.1
                  have hj7 : j < 700 := by
                    rcases hj with z | z
                    · omega
                    · have q1 := hGx.2.2.1 (Or.inl z)
                      have q2 := hGx.2.1
                      have q3 := i5 hoS
                      omega
                  have i6 := (putW_s (m := y) (b := b) (len := len) (n := n) (p := p1) hoS hj hj7).symm.trans i4
                  rw [← hv, putS_at] at i6
                  have hD1 : (whenS (!decide (p1 + j < n)) 2 (chkS 0 255 S)).1 = S.1 := whenS_1.trans chk_1
                  have H := ih54 (j + 1, advS b len (whenS (!decide (p1 + j < n)) 2 (chkS 0 255 S)), (if ok (whenS (!decide (p1 + j < n)) 2 (chkS 0 255 S)) = true then byteM y (p1 + j) (nI v) else y), g9)
                  refine H (by show 701 - (j + 1) < 701 - j; omega) ⟨by show j + 1 ≤ 700; omega, hR9, hRow9, hK9, hs9, hL8.tr hF9.fl, i6, fun z => ?_, ?_⟩
                  · have hoD := ok_imp (fun q => adv_b q) z
                    have hoC := (whenS_ok (by decide) hoD).2
                    have hkS : S.1.1 = 2 := by rw [← chk_1 (lo := 0) (hi := 255)]; exact (chk_k2 (ok_g hoC)).1
                    have q := adv_lt (b := b) (s := (whenS (!decide (p1 + j < n)) 2 (chkS 0 255 S))) (by rw [hD1]; exact hGx) hoD (by rw [hD1]; exact Or.inl hkS)
                    rw [hD1] at q
                    have q5 := i5 hoS
                    show j + 1 ≤ (advS b len (whenS (!decide (p1 + j < n)) 2 (chkS 0 255 S))).1.2.1
                    omega
                  · exact (((Le.chk (len := len) (lo := 0) (hi := 255)).tr Le.when).tr Le.adv hGx).1
                refine v_aload_n C dX6_putLine_109 rfl ?_
                refine v_getiQ (x := nI (whenS (!decide (p1 + j < n)) 2 (chkS 0 255 S)).2.1) C fl_X6_76 oi_qS_0_16 (hR6.2.2.2.2.1) dX6_putLine_110 ?_
                refine v_if_ne C 127 dX6_putLine_113 (by decide) (fun c113 => ?_) (fun c113 => ?_)
                · have hzd : ¬ (whenS (!decide (p1 + j < n)) 2 (chkS 0 255 S)).2.1 = 0 := fun z => c113 (by rw [z]; rfl)
                  refine V.sub (lo2 := [some _, some _, some _, none]) ⟨rfl, rfl, rfl, trivial⟩ ?_
                  first
                  | exact J127 _ hR8 hL8 hs8 hK8 hRow8
                  | exact J127 _ hR6 hL6 hs6 hK6 (by rw [if_neg (by rw [ok_b hzd]; exact Bool.false_ne_true)]; exact hRow6)
                · have hzd : (whenS (!decide (p1 + j < n)) 2 (chkS 0 255 S)).2.1 = 0 := nI_inj (b := 0) (by have := hR6.2.2.2.1; omega) (by omega) c113
                  have hpn : p1 + j < n := by
                    have w := (whenS_ok (by decide) (ok_gz hzd)).1
                    rw [Bool.not_eq_false'] at w
                    exact of_decide_eq_true w
                  refine v_aload_n C dX6_putLine_116 rfl ?_
                  refine v_getr C fl_X6_7 or_qS_0_3 dX6_putLine_117 ?_
                  refine v_iconst (v := nI 0) C dX6_putLine_120 (by decide) ?_
                  refine v_iload_n C dX6_putLine_121 rfl ?_
                  first | refine v_iaddN C dX6_putLine_122 ?_ | refine v_iadd C dX6_putLine_122 ?_
                  refine v_iload_n C dX6_putLine_123 rfl ?_
                  first | refine v_iaddN C dX6_putLine_124 ?_ | refine v_iadd C dX6_putLine_124 ?_
                  refine v_iload_n C dX6_putLine_125 rfl ?_
                  refine v_iast C ar_qS_1 (by decide) _ ?_ rfl dX6_putLine_126 ?_
                  · omega
                  obtain ⟨g8, eg8⟩ : ∃ x, x = sG g6 1 (upd (g6 1) (p1 + j) (nI v)) := ⟨_, rfl⟩
                  have hR8 : QR b len (whenS (!decide (p1 + j < n)) 2 (chkS 0 255 S)) g8 := by rw [eg8]; exact QR.row hR6
                  have hL8 : FLn g g8 := by rw [eg8]; exact FLn.row hL6
                  have hs8 : g8 0 2 = nI n := by rw [eg8]; exact hs6
                  have hK8 : KQ k g8 := by rw [eg8]; exact hK6
                  have hRow8 : RowR (if ok (whenS (!decide (p1 + j < n)) 2 (chkS 0 255 S)) = true then byteM y (p1 + j) (nI v) else y) (g8 1) := by rw [if_pos (ok_gz hzd), eg8]; exact Row_byte hRow6 (by omega)
                  refine V.stt (g2 := g8) (by rw [eg8, Nat.zero_add]) ?_
                  refine V.sub (lo2 := [some _, some _, some _, none]) ⟨rfl, rfl, rfl, trivial⟩ ?_
                  first
                  | exact J127 _ hR8 hL8 hs8 hK8 hRow8
                  | exact J127 _ hR6 hL6 hs6 hK6 (by rw [if_neg (by rw [ok_b hzd]; exact Bool.false_ne_true)]; exact hRow6)
          refine v_iload_n C dX6_putLine_61 rfl ?_
          refine v_if_eq C 73 dX6_putLine_62 (by decide) (fun c62 => ?_) (fun c62 => ?_)
          · have hj : j = 0 ∨ S.1.1 = 2 := Or.inl (nI_inj (b := 0) (by omega) (by omega) c62)
            exact J73 hj
          · have hj0 : ¬ j = 0 := fun z => c62 (by rw [z]; rfl)
            refine v_aload_n C dX6_putLine_65 rfl ?_
            refine v_getiQ (x := nI S.1.1) C fl_X6_63 oi_qS_0_14 ((hRx.2.2.2.2.2.2 hz0).1.1) dX6_putLine_66 ?_
            refine v_iconst (v := nI 2) C dX6_putLine_69 (by decide) ?_
            refine v_icmp_ne C 137 dX6_putLine_70 (by decide) (fun c70 => ?_) (fun c70 => ?_)
            · have hxe : (S, y) = x4 := (putW_e hj0 (fun z => c70 (by rw [z]))).symm.trans i4
              refine v_aload_n C dX6_putLine_137 rfl ?_
              refine v_dup C dX6_putLine_138 rfl ?_
              refine v_getiQ (x := nI k.1) C fl_X6_123 oi_qS_0_18 (hKx.1) dX6_putLine_139 ?_
              refine v_iconst (v := nI 1) C dX6_putLine_142 (by decide) ?_
              first | refine v_iaddN C dX6_putLine_143 ?_ | refine v_iadd C dX6_putLine_143 ?_
              refine v_puti C fl_X6_123 fw_X6_18 oi_qS_0_18 ⟨rfl, rfl⟩ dX6_putLine_144 ?_
              refine V.stt (g2 := (sG gx 0 (upd (gx 0) 18 (nI (k.1 + 1))))) (rfl) ?_
              refine v_vret C F dX6_putLine_147 (Nat.le_of_ble_eq_true rfl) (Nat.le_of_ble_eq_true rfl) ?_
              rw [lnPut_eq hx4, ← hxe]
              dsimp only
              exact ⟨QXr_mk (QR.cnt hRx (by decide)) (Row_at hRow_x rfl) hKx.c18 hsx, FLn.cnt hLx (by decide) (by decide)⟩
            · have hj : j = 0 ∨ S.1.1 = 2 := Or.inr (nI_inj (by have := (hRx.2.2.2.2.2.2 hz0).2.1; omega) (by omega) c70)
              exact J73 hj
      have hG3 : GTo len (advS b len (put1 b len n st k).1).1 := (((Le.wPut (len := len) (k := k)).tr (Le.num (b := b) (lo := 0) (hi := n - 1))).tr Le.adv hG).1
      have hp1e : (put1 b len n st k).2 = p1 := Eq.symm hp1
      have hfin : putW b len n p1 0 (advS b len (put1 b len n st k).1) m = x4 := by
        rw [← hp1e]
        exact put4_W.trans hx4
      exact L54 (0, advS b len (put1 b len n st k).1, m, g4) ⟨Nat.zero_le _, hR4, hRow4, hK4, hs4, hFa.fl, hfin, fun _ => Nat.zero_le _, hG3⟩
  · refine v_iconst (v := nI 1) C dX6_putLine_8 (by decide) ?_
    refine v_goto C 13 dX6_putLine_9 (by decide) ?_
    refine V.eqs (st2 := [.int (bI (decide (0 < k.2.2.1))), .ref (h 0)]) ?_ (congrArg (fun z => [Value.int z, Value.ref (h 0)]) (by rw [nI_toInt (by omega)] at c5; first | exact bI_t (decide_eq_true (by omega)) | exact bI_f (decide_eq_false (by omega))))
    refine v_iconst (v := nI 1) C dX6_putLine_13 (by decide) ?_
    refine v_callVv C (c_X6_failsIf hl (cd := 1) (p := decide (0 < k.2.2.1)) hR (by decide) (by decide)) ym_X6_failsIf ml_X6_113 emb_id_qS rfl rfl rfl rfl rfl dX6_putLine_14 (Nat.le_of_ble_eq_true rfl) (Nat.le_of_ble_eq_true rfl) (Nat.le_of_ble_eq_true rfl) (Nat.le_of_ble_eq_true rfl) (fun _ _ hu => hu.elim) (fun r u hu => ?_)
    obtain ⟨hR1, hF1⟩ := hu
    obtain ⟨g1, eg1⟩ : ∃ x, x = u := ⟨u, rfl⟩
    subst eg1
    have hK1 := hK.fq hF1
    refine v_aload_n C dX6_putLine_17 rfl ?_
    refine v_aload_n C dX6_putLine_18 rfl ?_
    refine v_getiQ (x := nI k.1) C fl_X6_123 oi_qS_0_18 (hK1.1) dX6_putLine_19 ?_
    refine v_bipush (v := nI 20) C dX6_putLine_22 (by decide) ?_
    first | refine v_icmp_neN C 31 dX6_putLine_24 (by decide) (by omega) (by omega) (fun c24 => ?_) (fun c24 => ?_) | refine v_icmp_ne C 31 dX6_putLine_24 (by decide) (fun c24 => ?_) (fun c24 => ?_)
    · refine v_iconst (v := nI 0) C dX6_putLine_31 (by decide) ?_
      refine V.eqs (st2 := [.int (bI (decide (k.1 = 20))), .ref (h 0)]) ?_ (congrArg (fun z => [Value.int z, Value.ref (h 0)]) (by first | exact bI_t (decide_eq_true (by omega)) | exact bI_f (decide_eq_false (by omega))))
      refine v_iconst (v := nI 4) C dX6_putLine_32 (by decide) ?_
      refine v_callVv C (c_X6_failsIf hl (cd := 4) (p := decide (k.1 = 20)) hR1 (by decide) (by decide)) ym_X6_failsIf ml_X6_113 emb_id_qS rfl rfl rfl rfl rfl dX6_putLine_33 (Nat.le_of_ble_eq_true rfl) (Nat.le_of_ble_eq_true rfl) (Nat.le_of_ble_eq_true rfl) (Nat.le_of_ble_eq_true rfl) (fun _ _ hu => hu.elim) (fun r u hu => ?_)
      rw [hWe] at hu
      obtain ⟨hR2, hF2⟩ := hu
      obtain ⟨g2, eg2⟩ : ∃ x, x = u := ⟨u, rfl⟩
      subst eg2
      refine v_aload_n C dX6_putLine_36 rfl ?_
      refine v_callVv C (c_X6_goesOn hl hR2 hb (fun z => by rw [wPut_1]; exact hk4 (wPut_ok (ok_gz z)).1)) ym_X6_goesOn ml_X6_106 emb_id_qS rfl rfl rfl rfl rfl dX6_putLine_37 (Nat.le_of_ble_eq_true rfl) (Nat.le_of_ble_eq_true rfl) (Nat.le_of_ble_eq_true rfl) (Nat.le_of_ble_eq_true rfl) (fun _ _ hu => hu.elim) (fun r u hu => ?_)
      obtain ⟨hR3, hF3⟩ := hu
      obtain ⟨g3, eg3⟩ : ∃ x, x = u := ⟨u, rfl⟩
      subst eg3
      have hs2 : g3 0 2 = nI n := (hF3.2 2 (by decide)).trans ((hF2.2 2 (by decide)).trans ((hF1.2 2 (by decide)).trans hs))
      refine v_aload_n C dX6_putLine_40 rfl ?_
      refine v_iconst (v := nI 0) C dX6_putLine_41 (by decide) ?_
      refine v_aload_n C dX6_putLine_42 rfl ?_
      refine v_getiQ (x := nI n) C fl_X6_126 oi_qS_0_2 (hs2) dX6_putLine_43 ?_
      refine v_iconst (v := nI 1) C dX6_putLine_46 (by decide) ?_
      first | refine v_isubN C dX6_putLine_47 (by omega) ?_ | refine v_isub C dX6_putLine_47 ?_
      refine v_callVi C (c_X6_takesN hl (s0 := wPut k st) hR3 (by omega) (by omega) hb) ym_X6_takes ml_X6_117 emb_id_qS rfl rfl rfl rfl rfl dX6_putLine_48 (Nat.le_of_ble_eq_true rfl) (Nat.le_of_ble_eq_true rfl) (Nat.le_of_ble_eq_true rfl) (Nat.le_of_ble_eq_true rfl) (fun _ _ hu => hu.elim) (fun r u hu => ?_)
      rw [put1_eq] at hu
      obtain ⟨rfl, hR4, hF4⟩ := hu
      obtain ⟨g4, eg4⟩ : ∃ x, x = u := ⟨u, rfl⟩
      subst eg4
      show V X _ _ _ (Value.int (nI (put1 b len n st k).2) :: _) _ _ _
      obtain ⟨p1, hp1⟩ : ∃ x, EqH x (put1 b len n st k).2 := ⟨_, rfl⟩
      have hp1e : (put1 b len n st k).2 = p1 := Eq.symm hp1
      rw [hp1e]
      clear hp1e
      have rg1 := (numS_h (Nat.zero_le _) hp1).2
      have hFa := ((hF1.tr hF2).tr hF3).tr hF4
      have hRow4 : RowR m (g4 1) := by rw [hFa.1 1 (by decide)]; exact hRow
      have hK4 := hK.fq hFa
      have hs4 : g4 0 2 = nI n := (hFa.2 2 (by decide)).trans hs
      refine v_istore_n C (lo2 := [some _, some _, none, none]) dX6_putLine_51 rfl (Nat.le_of_ble_eq_true rfl) rfl ?_
      refine v_iconst (v := nI 0) C dX6_putLine_52 (by decide) ?_
      refine v_istore_n C (lo2 := [some _, some _, some _, none]) dX6_putLine_53 rfl (Nat.le_of_ble_eq_true rfl) rfl ?_
      have L54 : ∀ (t : Nat × St × Mg × G), (fun t => t.1 ≤ 700 ∧ QR b len t.2.1 t.2.2.2 ∧ RowR t.2.2.1 (t.2.2.2 1) ∧ KQ k t.2.2.2 ∧ t.2.2.2 0 2 = nI n ∧ FLn g t.2.2.2 ∧ putW b len n p1 t.1 t.2.1 t.2.2.1 = x4 ∧ (ok t.2.1 = true → t.1 ≤ t.2.1.1.2.1) ∧ GTo len t.2.1.1) t → (fun t : Nat × St × Mg × G => V X (qS (xK X) h) 54 [some (.ref (h 0)), some (.int (nI p1)), some (.int (nI t.1)), none] [] t.2.2.2 0 0) t := by
        refine v_ind (fun t : Nat × St × Mg × G => 701 - t.1) ?_
        rintro ⟨j, S, y, gx⟩ ih54 hI54
        skip
        obtain ⟨i1, hRx, hRow_x, hKx, hsx, hLx, i4, i5, hGx⟩ := hI54
        have i1 : j ≤ 700 := i1
        have hRx : QR b len S gx := hRx
        have hRow_x : RowR y (gx 1) := hRow_x
        have hKx : KQ k gx := hKx
        have hsx : gx 0 2 = nI n := hsx
        have hLx : FLn g gx := hLx
        have i4 : putW b len n p1 j S y = x4 := i4
        have i5 : ok S = true → j ≤ S.1.2.1 := i5
        have hGx : GTo len S.1 := hGx
        show V X (qS (xK X) h) 54 [some (.ref (h 0)), some (.int (nI p1)), some (.int (nI j)), none] [] gx 0 0
        refine v_aload_n C dX6_putLine_54 rfl ?_
        refine v_getiQ (x := nI S.2.1) C fl_X6_76 oi_qS_0_16 (hRx.2.2.2.2.1) dX6_putLine_55 ?_
        refine v_if_ne C 137 dX6_putLine_58 (by decide) (fun c58 => ?_) (fun c58 => ?_)
        · have hz0 : ¬ S.2.1 = 0 := fun z => c58 (by rw [z]; rfl)
          have hxe : (S, y) = x4 := (putW_b hz0).symm.trans i4
          refine v_aload_n C dX6_putLine_137 rfl ?_
          refine v_dup C dX6_putLine_138 rfl ?_
          refine v_getiQ (x := nI k.1) C fl_X6_123 oi_qS_0_18 (hKx.1) dX6_putLine_139 ?_
          refine v_iconst (v := nI 1) C dX6_putLine_142 (by decide) ?_
          first | refine v_iaddN C dX6_putLine_143 ?_ | refine v_iadd C dX6_putLine_143 ?_
          refine v_puti C fl_X6_123 fw_X6_18 oi_qS_0_18 ⟨rfl, rfl⟩ dX6_putLine_144 ?_
          refine V.stt (g2 := (sG gx 0 (upd (gx 0) 18 (nI (k.1 + 1))))) (rfl) ?_
          refine v_vret C F dX6_putLine_147 (Nat.le_of_ble_eq_true rfl) (Nat.le_of_ble_eq_true rfl) ?_
          rw [lnPut_eq hx4, ← hxe]
          dsimp only
          exact ⟨QXr_mk (QR.cnt hRx (by decide)) (Row_at hRow_x rfl) hKx.c18 hsx, FLn.cnt hLx (by decide) (by decide)⟩
        · have hz0 : S.2.1 = 0 := nI_inj (b := 0) (by have := hRx.2.2.2.1; omega) (by omega) c58
          have J73 : (j = 0 ∨ S.1.1 = 2) → V X (qS (xK X) h) 73 [some (.ref (h 0)), some (.int (nI p1)), some (.int (nI j)), none] [] gx 0 0 := by
            intro hj
            refine v_aload_n C dX6_putLine_73 rfl ?_
            refine v_iconst (v := nI 0) C dX6_putLine_74 (by decide) ?_
            refine v_sipush (v := nI 255) C dX6_putLine_75 (by decide) ?_
            refine v_callVi C (c_X6_numberHere hl (st := S) hRx (by decide) (by decide)) ym_X6_numberHere ml_X6_102 emb_id_qS rfl rfl rfl rfl rfl dX6_putLine_78 (Nat.le_of_ble_eq_true rfl) (Nat.le_of_ble_eq_true rfl) (Nat.le_of_ble_eq_true rfl) (Nat.le_of_ble_eq_true rfl) (fun _ _ hu => hu.elim) (fun r u hu => ?_)
            obtain ⟨rfl, hR5, hF5⟩ := hu
            obtain ⟨g5, eg5⟩ : ∃ x, x = u := ⟨u, rfl⟩
            subst eg5
            obtain ⟨v, hv⟩ : ∃ v, v = chkVl 0 255 S := ⟨_, rfl⟩
            rw [← hv]
            have hs5 : g5 0 2 = nI n := (hF5.2 2 (by decide)).trans hsx
            refine v_istore_n C (lo2 := [some _, some _, some _, some _]) dX6_putLine_81 rfl (Nat.le_of_ble_eq_true rfl) rfl ?_
            refine v_aload_n C dX6_putLine_82 rfl ?_
            refine v_aload_n C dX6_putLine_83 rfl ?_
            refine v_getiQ (x := nI (chkS 0 255 S).2.1) C fl_X6_76 oi_qS_0_16 (hR5.2.2.2.2.1) dX6_putLine_84 ?_
            refine v_if_ne C 104 dX6_putLine_87 (by decide) (fun c87 => ?_) (fun c87 => ?_)
            · have hzc : ¬ (chkS 0 255 S).2.1 = 0 := fun z => c87 (by rw [z]; rfl)
              refine v_iconst (v := nI 0) C dX6_putLine_104 (by decide) ?_
              refine V.eqs (st2 := [.int (bI (ok (chkS 0 255 S) && !decide (p1 + j < n))), .ref (h 0)]) ?_ (congrArg (fun z => [Value.int z, Value.ref (h 0)]) (by first | exact bI_f (by rw [ok_b hzc]; rfl) | exact bI_f (by rw [ok_gz hzc, decide_eq_true (show p1 + j < n by omega)]; rfl) | exact bI_t (by rw [ok_gz hzc, decide_eq_false (show ¬ p1 + j < n by omega)]; rfl)))
              refine v_iconst (v := nI 2) C dX6_putLine_105 (by decide) ?_
              refine v_callVv C (c_X6_failsIf hl (cd := 2) (p := ok (chkS 0 255 S) && !decide (p1 + j < n)) hR5 (by decide) (by decide)) ym_X6_failsIf ml_X6_113 emb_id_qS rfl rfl rfl rfl rfl dX6_putLine_106 (Nat.le_of_ble_eq_true rfl) (Nat.le_of_ble_eq_true rfl) (Nat.le_of_ble_eq_true rfl) (Nat.le_of_ble_eq_true rfl) (fun _ _ hu => hu.elim) (fun r u hu => ?_)
              rw [show whenS (ok (chkS 0 255 S) && !decide (p1 + j < n)) 2 (chkS 0 255 S) = (whenS (!decide (p1 + j < n)) 2 (chkS 0 255 S)) from when_eq (fun z => by rw [z, Bool.true_and])] at hu
              obtain ⟨hR6, hF6⟩ := hu
              obtain ⟨g6, eg6⟩ : ∃ x, x = u := ⟨u, rfl⟩
              subst eg6
              have hFb := hF5.tr hF6
              have hRow6 : RowR y (g6 1) := Row_at hRow_x (hFb.1 1 (by decide))
              have hs6 : g6 0 2 = nI n := (hFb.2 2 (by decide)).trans hsx
              have hK6 := hKx.fq hFb
              have hL6 := hLx.tr hFb.fl
              have J127 : ∀ g8 : G, QR b len (whenS (!decide (p1 + j < n)) 2 (chkS 0 255 S)) g8 → FLn g g8 → g8 0 2 = nI n → KQ k g8 → RowR (if ok (whenS (!decide (p1 + j < n)) 2 (chkS 0 255 S)) = true then byteM y (p1 + j) (nI v) else y) (g8 1) → V X (qS (xK X) h) 127 [some (.ref (h 0)), some (.int (nI p1)), some (.int (nI j)), none] [] g8 0 0 := by
                intro g8 hR8 hL8 hs8 hK8 hRow8
                have hk9 : (whenS (!decide (p1 + j < n)) 2 (chkS 0 255 S)).2.1 = 0 → ¬ (whenS (!decide (p1 + j < n)) 2 (chkS 0 255 S)).1.1 = 4 := when_k (by decide) (fun z => by rw [(chk_k2 (ok_g z)).1]; decide)
                refine v_aload_n C dX6_putLine_127 rfl ?_
                refine v_callVv C (c_X6_goesOn hl hR8 hb hk9) ym_X6_goesOn ml_X6_106 emb_id_qS rfl rfl rfl rfl rfl dX6_putLine_128 (Nat.le_of_ble_eq_true rfl) (Nat.le_of_ble_eq_true rfl) (Nat.le_of_ble_eq_true rfl) (Nat.le_of_ble_eq_true rfl) (fun _ _ hu => hu.elim) (fun r u hu => ?_)
                obtain ⟨hR9, hF9⟩ := hu
                obtain ⟨g9, eg9⟩ : ∃ x, x = u := ⟨u, rfl⟩
                subst eg9
                have hK9 := hK8.fq hF9
                have hs9 := (hF9.2 2 (by decide)).trans hs8
                have hRow9 := Row_at hRow8 (hF9.1 1 (by decide))
                first | refine v_iinc1 C (lo2 := [some _, some _, some _, none]) dX6_putLine_131 rfl rfl rfl ?_ | refine v_iinc C (lo2 := [some _, some _, some _, none]) dX6_putLine_131 rfl rfl rfl rfl ?_
                refine v_goto C 54 dX6_putLine_134 (by decide) ?_
                have hoS := ok_gz hz0
                have hlen : len ≤ 700 := hRx.2.2.1
                have hj7 : j < 700 := by
                  rcases hj with z | z
                  · omega
                  · have q1 := hGx.2.2.1 (Or.inl z)
                    have q2 := hGx.2.1
                    have q3 := i5 hoS
                    omega
                have i6 := (putW_s (m := y) (b := b) (len := len) (n := n) (p := p1) hoS hj hj7).symm.trans i4
                rw [← hv, putS_at] at i6
                have hD1 : (whenS (!decide (p1 + j < n)) 2 (chkS 0 255 S)).1 = S.1 := whenS_1.trans chk_1
                have H := ih54 (j + 1, advS b len (whenS (!decide (p1 + j < n)) 2 (chkS 0 255 S)), (if ok (whenS (!decide (p1 + j < n)) 2 (chkS 0 255 S)) = true then byteM y (p1 + j) (nI v) else y), g9)
                refine H (by show 701 - (j + 1) < 701 - j; omega) ⟨by show j + 1 ≤ 700; omega, hR9, hRow9, hK9, hs9, hL8.tr hF9.fl, i6, fun z => ?_, ?_⟩
                · have hoD := ok_imp (fun q => adv_b q) z
                  have hoC := (whenS_ok (by decide) hoD).2
                  have hkS : S.1.1 = 2 := by rw [← chk_1 (lo := 0) (hi := 255)]; exact (chk_k2 (ok_g hoC)).1
                  have q := adv_lt (b := b) (s := (whenS (!decide (p1 + j < n)) 2 (chkS 0 255 S))) (by rw [hD1]; exact hGx) hoD (by rw [hD1]; exact Or.inl hkS)
                  rw [hD1] at q
                  have q5 := i5 hoS
                  show j + 1 ≤ (advS b len (whenS (!decide (p1 + j < n)) 2 (chkS 0 255 S))).1.2.1
                  omega
                · exact (((Le.chk (len := len) (lo := 0) (hi := 255)).tr Le.when).tr Le.adv hGx).1
              refine v_aload_n C dX6_putLine_109 rfl ?_
              refine v_getiQ (x := nI (whenS (!decide (p1 + j < n)) 2 (chkS 0 255 S)).2.1) C fl_X6_76 oi_qS_0_16 (hR6.2.2.2.2.1) dX6_putLine_110 ?_
              refine v_if_ne C 127 dX6_putLine_113 (by decide) (fun c113 => ?_) (fun c113 => ?_)
              · have hzd : ¬ (whenS (!decide (p1 + j < n)) 2 (chkS 0 255 S)).2.1 = 0 := fun z => c113 (by rw [z]; rfl)
                refine V.sub (lo2 := [some _, some _, some _, none]) ⟨rfl, rfl, rfl, trivial⟩ ?_
                first
                | exact J127 _ hR8 hL8 hs8 hK8 hRow8
                | exact J127 _ hR6 hL6 hs6 hK6 (by rw [if_neg (by rw [ok_b hzd]; exact Bool.false_ne_true)]; exact hRow6)
              · have hzd : (whenS (!decide (p1 + j < n)) 2 (chkS 0 255 S)).2.1 = 0 := nI_inj (b := 0) (by have := hR6.2.2.2.1; omega) (by omega) c113
                have hpn : p1 + j < n := by
                  have w := (whenS_ok (by decide) (ok_gz hzd)).1
                  rw [Bool.not_eq_false'] at w
                  exact of_decide_eq_true w
                refine v_aload_n C dX6_putLine_116 rfl ?_
                refine v_getr C fl_X6_7 or_qS_0_3 dX6_putLine_117 ?_
                refine v_iconst (v := nI 0) C dX6_putLine_120 (by decide) ?_
                refine v_iload_n C dX6_putLine_121 rfl ?_
                first | refine v_iaddN C dX6_putLine_122 ?_ | refine v_iadd C dX6_putLine_122 ?_
                refine v_iload_n C dX6_putLine_123 rfl ?_
                first | refine v_iaddN C dX6_putLine_124 ?_ | refine v_iadd C dX6_putLine_124 ?_
                refine v_iload_n C dX6_putLine_125 rfl ?_
                refine v_iast C ar_qS_1 (by decide) _ ?_ rfl dX6_putLine_126 ?_
                · omega
                obtain ⟨g8, eg8⟩ : ∃ x, x = sG g6 1 (upd (g6 1) (p1 + j) (nI v)) := ⟨_, rfl⟩
                have hR8 : QR b len (whenS (!decide (p1 + j < n)) 2 (chkS 0 255 S)) g8 := by rw [eg8]; exact QR.row hR6
                have hL8 : FLn g g8 := by rw [eg8]; exact FLn.row hL6
                have hs8 : g8 0 2 = nI n := by rw [eg8]; exact hs6
                have hK8 : KQ k g8 := by rw [eg8]; exact hK6
                have hRow8 : RowR (if ok (whenS (!decide (p1 + j < n)) 2 (chkS 0 255 S)) = true then byteM y (p1 + j) (nI v) else y) (g8 1) := by rw [if_pos (ok_gz hzd), eg8]; exact Row_byte hRow6 (by omega)
                refine V.stt (g2 := g8) (by rw [eg8, Nat.zero_add]) ?_
                refine V.sub (lo2 := [some _, some _, some _, none]) ⟨rfl, rfl, rfl, trivial⟩ ?_
                first
                | exact J127 _ hR8 hL8 hs8 hK8 hRow8
                | exact J127 _ hR6 hL6 hs6 hK6 (by rw [if_neg (by rw [ok_b hzd]; exact Bool.false_ne_true)]; exact hRow6)
            · have hzc : (chkS 0 255 S).2.1 = 0 := nI_inj (b := 0) (by have := hR5.2.2.2.1; omega) (by omega) c87
              refine v_iload_n C dX6_putLine_90 rfl ?_
              refine v_iload_n C dX6_putLine_91 rfl ?_
              first | refine v_iaddN C dX6_putLine_92 ?_ | refine v_iadd C dX6_putLine_92 ?_
              refine v_aload_n C dX6_putLine_93 rfl ?_
              refine v_getiQ (x := nI n) C fl_X6_126 oi_qS_0_2 (hs5) dX6_putLine_94 ?_
              first | refine v_icmp_ltN C 104 dX6_putLine_97 (by decide) (by omega) (by omega) (fun c97 => ?_) (fun c97 => ?_) | refine v_icmp_lt C 104 dX6_putLine_97 (by decide) (fun c97 => ?_) (fun c97 => ?_)
              · refine v_iconst (v := nI 0) C dX6_putLine_104 (by decide) ?_
                refine V.eqs (st2 := [.int (bI (ok (chkS 0 255 S) && !decide (p1 + j < n))), .ref (h 0)]) ?_ (congrArg (fun z => [Value.int z, Value.ref (h 0)]) (by first | exact bI_f (by rw [ok_b hzc]; rfl) | exact bI_f (by rw [ok_gz hzc, decide_eq_true (show p1 + j < n by omega)]; rfl) | exact bI_t (by rw [ok_gz hzc, decide_eq_false (show ¬ p1 + j < n by omega)]; rfl)))
                refine v_iconst (v := nI 2) C dX6_putLine_105 (by decide) ?_
                refine v_callVv C (c_X6_failsIf hl (cd := 2) (p := ok (chkS 0 255 S) && !decide (p1 + j < n)) hR5 (by decide) (by decide)) ym_X6_failsIf ml_X6_113 emb_id_qS rfl rfl rfl rfl rfl dX6_putLine_106 (Nat.le_of_ble_eq_true rfl) (Nat.le_of_ble_eq_true rfl) (Nat.le_of_ble_eq_true rfl) (Nat.le_of_ble_eq_true rfl) (fun _ _ hu => hu.elim) (fun r u hu => ?_)
                rw [show whenS (ok (chkS 0 255 S) && !decide (p1 + j < n)) 2 (chkS 0 255 S) = (whenS (!decide (p1 + j < n)) 2 (chkS 0 255 S)) from when_eq (fun z => by rw [z, Bool.true_and])] at hu
                obtain ⟨hR6, hF6⟩ := hu
                obtain ⟨g6, eg6⟩ : ∃ x, x = u := ⟨u, rfl⟩
                subst eg6
                have hFb := hF5.tr hF6
                have hRow6 : RowR y (g6 1) := Row_at hRow_x (hFb.1 1 (by decide))
                have hs6 : g6 0 2 = nI n := (hFb.2 2 (by decide)).trans hsx
                have hK6 := hKx.fq hFb
                have hL6 := hLx.tr hFb.fl
                have J127 : ∀ g8 : G, QR b len (whenS (!decide (p1 + j < n)) 2 (chkS 0 255 S)) g8 → FLn g g8 → g8 0 2 = nI n → KQ k g8 → RowR (if ok (whenS (!decide (p1 + j < n)) 2 (chkS 0 255 S)) = true then byteM y (p1 + j) (nI v) else y) (g8 1) → V X (qS (xK X) h) 127 [some (.ref (h 0)), some (.int (nI p1)), some (.int (nI j)), none] [] g8 0 0 := by
                  intro g8 hR8 hL8 hs8 hK8 hRow8
                  have hk9 : (whenS (!decide (p1 + j < n)) 2 (chkS 0 255 S)).2.1 = 0 → ¬ (whenS (!decide (p1 + j < n)) 2 (chkS 0 255 S)).1.1 = 4 := when_k (by decide) (fun z => by rw [(chk_k2 (ok_g z)).1]; decide)
                  refine v_aload_n C dX6_putLine_127 rfl ?_
                  refine v_callVv C (c_X6_goesOn hl hR8 hb hk9) ym_X6_goesOn ml_X6_106 emb_id_qS rfl rfl rfl rfl rfl dX6_putLine_128 (Nat.le_of_ble_eq_true rfl) (Nat.le_of_ble_eq_true rfl) (Nat.le_of_ble_eq_true rfl) (Nat.le_of_ble_eq_true rfl) (fun _ _ hu => hu.elim) (fun r u hu => ?_)
                  obtain ⟨hR9, hF9⟩ := hu
                  obtain ⟨g9, eg9⟩ : ∃ x, x = u := ⟨u, rfl⟩
                  subst eg9
                  have hK9 := hK8.fq hF9
                  have hs9 := (hF9.2 2 (by decide)).trans hs8
                  have hRow9 := Row_at hRow8 (hF9.1 1 (by decide))
                  first | refine v_iinc1 C (lo2 := [some _, some _, some _, none]) dX6_putLine_131 rfl rfl rfl ?_ | refine v_iinc C (lo2 := [some _, some _, some _, none]) dX6_putLine_131 rfl rfl rfl rfl ?_
                  refine v_goto C 54 dX6_putLine_134 (by decide) ?_
                  have hoS := ok_gz hz0
                  have hlen : len ≤ 700 := hRx.2.2.1
                  have hj7 : j < 700 := by
                    rcases hj with z | z
                    · omega
                    · have q1 := hGx.2.2.1 (Or.inl z)
                      have q2 := hGx.2.1
                      have q3 := i5 hoS
                      omega
                  have i6 := (putW_s (m := y) (b := b) (len := len) (n := n) (p := p1) hoS hj hj7).symm.trans i4
                  rw [← hv, putS_at] at i6
                  have hD1 : (whenS (!decide (p1 + j < n)) 2 (chkS 0 255 S)).1 = S.1 := whenS_1.trans chk_1
                  have H := ih54 (j + 1, advS b len (whenS (!decide (p1 + j < n)) 2 (chkS 0 255 S)), (if ok (whenS (!decide (p1 + j < n)) 2 (chkS 0 255 S)) = true then byteM y (p1 + j) (nI v) else y), g9)
                  refine H (by show 701 - (j + 1) < 701 - j; omega) ⟨by show j + 1 ≤ 700; omega, hR9, hRow9, hK9, hs9, hL8.tr hF9.fl, i6, fun z => ?_, ?_⟩
                  · have hoD := ok_imp (fun q => adv_b q) z
                    have hoC := (whenS_ok (by decide) hoD).2
                    have hkS : S.1.1 = 2 := by rw [← chk_1 (lo := 0) (hi := 255)]; exact (chk_k2 (ok_g hoC)).1
                    have q := adv_lt (b := b) (s := (whenS (!decide (p1 + j < n)) 2 (chkS 0 255 S))) (by rw [hD1]; exact hGx) hoD (by rw [hD1]; exact Or.inl hkS)
                    rw [hD1] at q
                    have q5 := i5 hoS
                    show j + 1 ≤ (advS b len (whenS (!decide (p1 + j < n)) 2 (chkS 0 255 S))).1.2.1
                    omega
                  · exact (((Le.chk (len := len) (lo := 0) (hi := 255)).tr Le.when).tr Le.adv hGx).1
                refine v_aload_n C dX6_putLine_109 rfl ?_
                refine v_getiQ (x := nI (whenS (!decide (p1 + j < n)) 2 (chkS 0 255 S)).2.1) C fl_X6_76 oi_qS_0_16 (hR6.2.2.2.2.1) dX6_putLine_110 ?_
                refine v_if_ne C 127 dX6_putLine_113 (by decide) (fun c113 => ?_) (fun c113 => ?_)
                · have hzd : ¬ (whenS (!decide (p1 + j < n)) 2 (chkS 0 255 S)).2.1 = 0 := fun z => c113 (by rw [z]; rfl)
                  refine V.sub (lo2 := [some _, some _, some _, none]) ⟨rfl, rfl, rfl, trivial⟩ ?_
                  first
                  | exact J127 _ hR8 hL8 hs8 hK8 hRow8
                  | exact J127 _ hR6 hL6 hs6 hK6 (by rw [if_neg (by rw [ok_b hzd]; exact Bool.false_ne_true)]; exact hRow6)
                · have hzd : (whenS (!decide (p1 + j < n)) 2 (chkS 0 255 S)).2.1 = 0 := nI_inj (b := 0) (by have := hR6.2.2.2.1; omega) (by omega) c113
                  have hpn : p1 + j < n := by
                    have w := (whenS_ok (by decide) (ok_gz hzd)).1
                    rw [Bool.not_eq_false'] at w
                    exact of_decide_eq_true w
                  refine v_aload_n C dX6_putLine_116 rfl ?_
                  refine v_getr C fl_X6_7 or_qS_0_3 dX6_putLine_117 ?_
                  refine v_iconst (v := nI 0) C dX6_putLine_120 (by decide) ?_
                  refine v_iload_n C dX6_putLine_121 rfl ?_
                  first | refine v_iaddN C dX6_putLine_122 ?_ | refine v_iadd C dX6_putLine_122 ?_
                  refine v_iload_n C dX6_putLine_123 rfl ?_
                  first | refine v_iaddN C dX6_putLine_124 ?_ | refine v_iadd C dX6_putLine_124 ?_
                  refine v_iload_n C dX6_putLine_125 rfl ?_
                  refine v_iast C ar_qS_1 (by decide) _ ?_ rfl dX6_putLine_126 ?_
                  · omega
                  obtain ⟨g8, eg8⟩ : ∃ x, x = sG g6 1 (upd (g6 1) (p1 + j) (nI v)) := ⟨_, rfl⟩
                  have hR8 : QR b len (whenS (!decide (p1 + j < n)) 2 (chkS 0 255 S)) g8 := by rw [eg8]; exact QR.row hR6
                  have hL8 : FLn g g8 := by rw [eg8]; exact FLn.row hL6
                  have hs8 : g8 0 2 = nI n := by rw [eg8]; exact hs6
                  have hK8 : KQ k g8 := by rw [eg8]; exact hK6
                  have hRow8 : RowR (if ok (whenS (!decide (p1 + j < n)) 2 (chkS 0 255 S)) = true then byteM y (p1 + j) (nI v) else y) (g8 1) := by rw [if_pos (ok_gz hzd), eg8]; exact Row_byte hRow6 (by omega)
                  refine V.stt (g2 := g8) (by rw [eg8, Nat.zero_add]) ?_
                  refine V.sub (lo2 := [some _, some _, some _, none]) ⟨rfl, rfl, rfl, trivial⟩ ?_
                  first
                  | exact J127 _ hR8 hL8 hs8 hK8 hRow8
                  | exact J127 _ hR6 hL6 hs6 hK6 (by rw [if_neg (by rw [ok_b hzd]; exact Bool.false_ne_true)]; exact hRow6)
              · refine v_iconst (v := nI 1) C dX6_putLine_100 (by decide) ?_
                refine v_goto C 105 dX6_putLine_101 (by decide) ?_
                refine V.eqs (st2 := [.int (bI (ok (chkS 0 255 S) && !decide (p1 + j < n))), .ref (h 0)]) ?_ (congrArg (fun z => [Value.int z, Value.ref (h 0)]) (by first | exact bI_f (by rw [ok_b hzc]; rfl) | exact bI_f (by rw [ok_gz hzc, decide_eq_true (show p1 + j < n by omega)]; rfl) | exact bI_t (by rw [ok_gz hzc, decide_eq_false (show ¬ p1 + j < n by omega)]; rfl)))
                refine v_iconst (v := nI 2) C dX6_putLine_105 (by decide) ?_
                refine v_callVv C (c_X6_failsIf hl (cd := 2) (p := ok (chkS 0 255 S) && !decide (p1 + j < n)) hR5 (by decide) (by decide)) ym_X6_failsIf ml_X6_113 emb_id_qS rfl rfl rfl rfl rfl dX6_putLine_106 (Nat.le_of_ble_eq_true rfl) (Nat.le_of_ble_eq_true rfl) (Nat.le_of_ble_eq_true rfl) (Nat.le_of_ble_eq_true rfl) (fun _ _ hu => hu.elim) (fun r u hu => ?_)
                rw [show whenS (ok (chkS 0 255 S) && !decide (p1 + j < n)) 2 (chkS 0 255 S) = (whenS (!decide (p1 + j < n)) 2 (chkS 0 255 S)) from when_eq (fun z => by rw [z, Bool.true_and])] at hu
                obtain ⟨hR6, hF6⟩ := hu
                obtain ⟨g6, eg6⟩ : ∃ x, x = u := ⟨u, rfl⟩
                subst eg6
                have hFb := hF5.tr hF6
                have hRow6 : RowR y (g6 1) := Row_at hRow_x (hFb.1 1 (by decide))
                have hs6 : g6 0 2 = nI n := (hFb.2 2 (by decide)).trans hsx
                have hK6 := hKx.fq hFb
                have hL6 := hLx.tr hFb.fl
                have J127 : ∀ g8 : G, QR b len (whenS (!decide (p1 + j < n)) 2 (chkS 0 255 S)) g8 → FLn g g8 → g8 0 2 = nI n → KQ k g8 → RowR (if ok (whenS (!decide (p1 + j < n)) 2 (chkS 0 255 S)) = true then byteM y (p1 + j) (nI v) else y) (g8 1) → V X (qS (xK X) h) 127 [some (.ref (h 0)), some (.int (nI p1)), some (.int (nI j)), none] [] g8 0 0 := by
                  intro g8 hR8 hL8 hs8 hK8 hRow8
                  have hk9 : (whenS (!decide (p1 + j < n)) 2 (chkS 0 255 S)).2.1 = 0 → ¬ (whenS (!decide (p1 + j < n)) 2 (chkS 0 255 S)).1.1 = 4 := when_k (by decide) (fun z => by rw [(chk_k2 (ok_g z)).1]; decide)
                  refine v_aload_n C dX6_putLine_127 rfl ?_
                  refine v_callVv C (c_X6_goesOn hl hR8 hb hk9) ym_X6_goesOn ml_X6_106 emb_id_qS rfl rfl rfl rfl rfl dX6_putLine_128 (Nat.le_of_ble_eq_true rfl) (Nat.le_of_ble_eq_true rfl) (Nat.le_of_ble_eq_true rfl) (Nat.le_of_ble_eq_true rfl) (fun _ _ hu => hu.elim) (fun r u hu => ?_)
                  obtain ⟨hR9, hF9⟩ := hu
                  obtain ⟨g9, eg9⟩ : ∃ x, x = u := ⟨u, rfl⟩
                  subst eg9
                  have hK9 := hK8.fq hF9
                  have hs9 := (hF9.2 2 (by decide)).trans hs8
                  have hRow9 := Row_at hRow8 (hF9.1 1 (by decide))
                  first | refine v_iinc1 C (lo2 := [some _, some _, some _, none]) dX6_putLine_131 rfl rfl rfl ?_ | refine v_iinc C (lo2 := [some _, some _, some _, none]) dX6_putLine_131 rfl rfl rfl rfl ?_
                  refine v_goto C 54 dX6_putLine_134 (by decide) ?_
                  have hoS := ok_gz hz0
                  have hlen : len ≤ 700 := hRx.2.2.1
                  have hj7 : j < 700 := by
                    rcases hj with z | z
                    · omega
                    · have q1 := hGx.2.2.1 (Or.inl z)
                      have q2 := hGx.2.1
                      have q3 := i5 hoS
                      omega
                  have i6 := (putW_s (m := y) (b := b) (len := len) (n := n) (p := p1) hoS hj hj7).symm.trans i4
                  rw [← hv, putS_at] at i6
                  have hD1 : (whenS (!decide (p1 + j < n)) 2 (chkS 0 255 S)).1 = S.1 := whenS_1.trans chk_1
                  have H := ih54 (j + 1, advS b len (whenS (!decide (p1 + j < n)) 2 (chkS 0 255 S)), (if ok (whenS (!decide (p1 + j < n)) 2 (chkS 0 255 S)) = true then byteM y (p1 + j) (nI v) else y), g9)
                  refine H (by show 701 - (j + 1) < 701 - j; omega) ⟨by show j + 1 ≤ 700; omega, hR9, hRow9, hK9, hs9, hL8.tr hF9.fl, i6, fun z => ?_, ?_⟩
                  · have hoD := ok_imp (fun q => adv_b q) z
                    have hoC := (whenS_ok (by decide) hoD).2
                    have hkS : S.1.1 = 2 := by rw [← chk_1 (lo := 0) (hi := 255)]; exact (chk_k2 (ok_g hoC)).1
                    have q := adv_lt (b := b) (s := (whenS (!decide (p1 + j < n)) 2 (chkS 0 255 S))) (by rw [hD1]; exact hGx) hoD (by rw [hD1]; exact Or.inl hkS)
                    rw [hD1] at q
                    have q5 := i5 hoS
                    show j + 1 ≤ (advS b len (whenS (!decide (p1 + j < n)) 2 (chkS 0 255 S))).1.2.1
                    omega
                  · exact (((Le.chk (len := len) (lo := 0) (hi := 255)).tr Le.when).tr Le.adv hGx).1
                refine v_aload_n C dX6_putLine_109 rfl ?_
                refine v_getiQ (x := nI (whenS (!decide (p1 + j < n)) 2 (chkS 0 255 S)).2.1) C fl_X6_76 oi_qS_0_16 (hR6.2.2.2.2.1) dX6_putLine_110 ?_
                refine v_if_ne C 127 dX6_putLine_113 (by decide) (fun c113 => ?_) (fun c113 => ?_)
                · have hzd : ¬ (whenS (!decide (p1 + j < n)) 2 (chkS 0 255 S)).2.1 = 0 := fun z => c113 (by rw [z]; rfl)
                  refine V.sub (lo2 := [some _, some _, some _, none]) ⟨rfl, rfl, rfl, trivial⟩ ?_
                  first
                  | exact J127 _ hR8 hL8 hs8 hK8 hRow8
                  | exact J127 _ hR6 hL6 hs6 hK6 (by rw [if_neg (by rw [ok_b hzd]; exact Bool.false_ne_true)]; exact hRow6)
                · have hzd : (whenS (!decide (p1 + j < n)) 2 (chkS 0 255 S)).2.1 = 0 := nI_inj (b := 0) (by have := hR6.2.2.2.1; omega) (by omega) c113
                  have hpn : p1 + j < n := by
                    have w := (whenS_ok (by decide) (ok_gz hzd)).1
                    rw [Bool.not_eq_false'] at w
                    exact of_decide_eq_true w
                  refine v_aload_n C dX6_putLine_116 rfl ?_
                  refine v_getr C fl_X6_7 or_qS_0_3 dX6_putLine_117 ?_
                  refine v_iconst (v := nI 0) C dX6_putLine_120 (by decide) ?_
                  refine v_iload_n C dX6_putLine_121 rfl ?_
                  first | refine v_iaddN C dX6_putLine_122 ?_ | refine v_iadd C dX6_putLine_122 ?_
                  refine v_iload_n C dX6_putLine_123 rfl ?_
                  first | refine v_iaddN C dX6_putLine_124 ?_ | refine v_iadd C dX6_putLine_124 ?_
                  refine v_iload_n C dX6_putLine_125 rfl ?_
                  refine v_iast C ar_qS_1 (by decide) _ ?_ rfl dX6_putLine_126 ?_
                  · omega
                  obtain ⟨g8, eg8⟩ : ∃ x, x = sG g6 1 (upd (g6 1) (p1 + j) (nI v)) := ⟨_, rfl⟩
                  have hR8 : QR b len (whenS (!decide (p1 + j < n)) 2 (chkS 0 255 S)) g8 := by rw [eg8]; exact QR.row hR6
                  have hL8 : FLn g g8 := by rw [eg8]; exact FLn.row hL6
                  have hs8 : g8 0 2 = nI n := by rw [eg8]; exact hs6
                  have hK8 : KQ k g8 := by rw [eg8]; exact hK6
                  have hRow8 : RowR (if ok (whenS (!decide (p1 + j < n)) 2 (chkS 0 255 S)) = true then byteM y (p1 + j) (nI v) else y) (g8 1) := by rw [if_pos (ok_gz hzd), eg8]; exact Row_byte hRow6 (by omega)
                  refine V.stt (g2 := g8) (by rw [eg8, Nat.zero_add]) ?_
                  refine V.sub (lo2 := [some _, some _, some _, none]) ⟨rfl, rfl, rfl, trivial⟩ ?_
                  first
                  | exact J127 _ hR8 hL8 hs8 hK8 hRow8
                  | exact J127 _ hR6 hL6 hs6 hK6 (by rw [if_neg (by rw [ok_b hzd]; exact Bool.false_ne_true)]; exact hRow6)
          refine v_iload_n C dX6_putLine_61 rfl ?_
          refine v_if_eq C 73 dX6_putLine_62 (by decide) (fun c62 => ?_) (fun c62 => ?_)
          · have hj : j = 0 ∨ S.1.1 = 2 := Or.inl (nI_inj (b := 0) (by omega) (by omega) c62)
            exact J73 hj
          · have hj0 : ¬ j = 0 := fun z => c62 (by rw [z]; rfl)
            refine v_aload_n C dX6_putLine_65 rfl ?_
            refine v_getiQ (x := nI S.1.1) C fl_X6_63 oi_qS_0_14 ((hRx.2.2.2.2.2.2 hz0).1.1) dX6_putLine_66 ?_
            refine v_iconst (v := nI 2) C dX6_putLine_69 (by decide) ?_
            refine v_icmp_ne C 137 dX6_putLine_70 (by decide) (fun c70 => ?_) (fun c70 => ?_)
            · have hxe : (S, y) = x4 := (putW_e hj0 (fun z => c70 (by rw [z]))).symm.trans i4
              refine v_aload_n C dX6_putLine_137 rfl ?_
              refine v_dup C dX6_putLine_138 rfl ?_
              refine v_getiQ (x := nI k.1) C fl_X6_123 oi_qS_0_18 (hKx.1) dX6_putLine_139 ?_
              refine v_iconst (v := nI 1) C dX6_putLine_142 (by decide) ?_
              first | refine v_iaddN C dX6_putLine_143 ?_ | refine v_iadd C dX6_putLine_143 ?_
              refine v_puti C fl_X6_123 fw_X6_18 oi_qS_0_18 ⟨rfl, rfl⟩ dX6_putLine_144 ?_
              refine V.stt (g2 := (sG gx 0 (upd (gx 0) 18 (nI (k.1 + 1))))) (rfl) ?_
              refine v_vret C F dX6_putLine_147 (Nat.le_of_ble_eq_true rfl) (Nat.le_of_ble_eq_true rfl) ?_
              rw [lnPut_eq hx4, ← hxe]
              dsimp only
              exact ⟨QXr_mk (QR.cnt hRx (by decide)) (Row_at hRow_x rfl) hKx.c18 hsx, FLn.cnt hLx (by decide) (by decide)⟩
            · have hj : j = 0 ∨ S.1.1 = 2 := Or.inr (nI_inj (by have := (hRx.2.2.2.2.2.2 hz0).2.1; omega) (by omega) c70)
              exact J73 hj
      have hG3 : GTo len (advS b len (put1 b len n st k).1).1 := (((Le.wPut (len := len) (k := k)).tr (Le.num (b := b) (lo := 0) (hi := n - 1))).tr Le.adv hG).1
      have hp1e : (put1 b len n st k).2 = p1 := Eq.symm hp1
      have hfin : putW b len n p1 0 (advS b len (put1 b len n st k).1) m = x4 := by
        rw [← hp1e]
        exact put4_W.trans hx4
      exact L54 (0, advS b len (put1 b len n st k).1, m, g4) ⟨Nat.zero_le _, hR4, hRow4, hK4, hs4, hFa.fl, hfin, fun _ => Nat.zero_le _, hG3⟩
    · refine v_iconst (v := nI 1) C dX6_putLine_27 (by decide) ?_
      refine v_goto C 32 dX6_putLine_28 (by decide) ?_
      refine V.eqs (st2 := [.int (bI (decide (k.1 = 20))), .ref (h 0)]) ?_ (congrArg (fun z => [Value.int z, Value.ref (h 0)]) (by first | exact bI_t (decide_eq_true (by omega)) | exact bI_f (decide_eq_false (by omega))))
      refine v_iconst (v := nI 4) C dX6_putLine_32 (by decide) ?_
      refine v_callVv C (c_X6_failsIf hl (cd := 4) (p := decide (k.1 = 20)) hR1 (by decide) (by decide)) ym_X6_failsIf ml_X6_113 emb_id_qS rfl rfl rfl rfl rfl dX6_putLine_33 (Nat.le_of_ble_eq_true rfl) (Nat.le_of_ble_eq_true rfl) (Nat.le_of_ble_eq_true rfl) (Nat.le_of_ble_eq_true rfl) (fun _ _ hu => hu.elim) (fun r u hu => ?_)
      rw [hWe] at hu
      obtain ⟨hR2, hF2⟩ := hu
      obtain ⟨g2, eg2⟩ : ∃ x, x = u := ⟨u, rfl⟩
      subst eg2
      refine v_aload_n C dX6_putLine_36 rfl ?_
      refine v_callVv C (c_X6_goesOn hl hR2 hb (fun z => by rw [wPut_1]; exact hk4 (wPut_ok (ok_gz z)).1)) ym_X6_goesOn ml_X6_106 emb_id_qS rfl rfl rfl rfl rfl dX6_putLine_37 (Nat.le_of_ble_eq_true rfl) (Nat.le_of_ble_eq_true rfl) (Nat.le_of_ble_eq_true rfl) (Nat.le_of_ble_eq_true rfl) (fun _ _ hu => hu.elim) (fun r u hu => ?_)
      obtain ⟨hR3, hF3⟩ := hu
      obtain ⟨g3, eg3⟩ : ∃ x, x = u := ⟨u, rfl⟩
      subst eg3
      have hs2 : g3 0 2 = nI n := (hF3.2 2 (by decide)).trans ((hF2.2 2 (by decide)).trans ((hF1.2 2 (by decide)).trans hs))
      refine v_aload_n C dX6_putLine_40 rfl ?_
      refine v_iconst (v := nI 0) C dX6_putLine_41 (by decide) ?_
      refine v_aload_n C dX6_putLine_42 rfl ?_
      refine v_getiQ (x := nI n) C fl_X6_126 oi_qS_0_2 (hs2) dX6_putLine_43 ?_
      refine v_iconst (v := nI 1) C dX6_putLine_46 (by decide) ?_
      first | refine v_isubN C dX6_putLine_47 (by omega) ?_ | refine v_isub C dX6_putLine_47 ?_
      refine v_callVi C (c_X6_takesN hl (s0 := wPut k st) hR3 (by omega) (by omega) hb) ym_X6_takes ml_X6_117 emb_id_qS rfl rfl rfl rfl rfl dX6_putLine_48 (Nat.le_of_ble_eq_true rfl) (Nat.le_of_ble_eq_true rfl) (Nat.le_of_ble_eq_true rfl) (Nat.le_of_ble_eq_true rfl) (fun _ _ hu => hu.elim) (fun r u hu => ?_)
      rw [put1_eq] at hu
      obtain ⟨rfl, hR4, hF4⟩ := hu
      obtain ⟨g4, eg4⟩ : ∃ x, x = u := ⟨u, rfl⟩
      subst eg4
      show V X _ _ _ (Value.int (nI (put1 b len n st k).2) :: _) _ _ _
      obtain ⟨p1, hp1⟩ : ∃ x, EqH x (put1 b len n st k).2 := ⟨_, rfl⟩
      have hp1e : (put1 b len n st k).2 = p1 := Eq.symm hp1
      rw [hp1e]
      clear hp1e
      have rg1 := (numS_h (Nat.zero_le _) hp1).2
      have hFa := ((hF1.tr hF2).tr hF3).tr hF4
      have hRow4 : RowR m (g4 1) := by rw [hFa.1 1 (by decide)]; exact hRow
      have hK4 := hK.fq hFa
      have hs4 : g4 0 2 = nI n := (hFa.2 2 (by decide)).trans hs
      refine v_istore_n C (lo2 := [some _, some _, none, none]) dX6_putLine_51 rfl (Nat.le_of_ble_eq_true rfl) rfl ?_
      refine v_iconst (v := nI 0) C dX6_putLine_52 (by decide) ?_
      refine v_istore_n C (lo2 := [some _, some _, some _, none]) dX6_putLine_53 rfl (Nat.le_of_ble_eq_true rfl) rfl ?_
      have L54 : ∀ (t : Nat × St × Mg × G), (fun t => t.1 ≤ 700 ∧ QR b len t.2.1 t.2.2.2 ∧ RowR t.2.2.1 (t.2.2.2 1) ∧ KQ k t.2.2.2 ∧ t.2.2.2 0 2 = nI n ∧ FLn g t.2.2.2 ∧ putW b len n p1 t.1 t.2.1 t.2.2.1 = x4 ∧ (ok t.2.1 = true → t.1 ≤ t.2.1.1.2.1) ∧ GTo len t.2.1.1) t → (fun t : Nat × St × Mg × G => V X (qS (xK X) h) 54 [some (.ref (h 0)), some (.int (nI p1)), some (.int (nI t.1)), none] [] t.2.2.2 0 0) t := by
        refine v_ind (fun t : Nat × St × Mg × G => 701 - t.1) ?_
        rintro ⟨j, S, y, gx⟩ ih54 hI54
        skip
        obtain ⟨i1, hRx, hRow_x, hKx, hsx, hLx, i4, i5, hGx⟩ := hI54
        have i1 : j ≤ 700 := i1
        have hRx : QR b len S gx := hRx
        have hRow_x : RowR y (gx 1) := hRow_x
        have hKx : KQ k gx := hKx
        have hsx : gx 0 2 = nI n := hsx
        have hLx : FLn g gx := hLx
        have i4 : putW b len n p1 j S y = x4 := i4
        have i5 : ok S = true → j ≤ S.1.2.1 := i5
        have hGx : GTo len S.1 := hGx
        show V X (qS (xK X) h) 54 [some (.ref (h 0)), some (.int (nI p1)), some (.int (nI j)), none] [] gx 0 0
        refine v_aload_n C dX6_putLine_54 rfl ?_
        refine v_getiQ (x := nI S.2.1) C fl_X6_76 oi_qS_0_16 (hRx.2.2.2.2.1) dX6_putLine_55 ?_
        refine v_if_ne C 137 dX6_putLine_58 (by decide) (fun c58 => ?_) (fun c58 => ?_)
        · have hz0 : ¬ S.2.1 = 0 := fun z => c58 (by rw [z]; rfl)
          have hxe : (S, y) = x4 := (putW_b hz0).symm.trans i4
          refine v_aload_n C dX6_putLine_137 rfl ?_
          refine v_dup C dX6_putLine_138 rfl ?_
          refine v_getiQ (x := nI k.1) C fl_X6_123 oi_qS_0_18 (hKx.1) dX6_putLine_139 ?_
          refine v_iconst (v := nI 1) C dX6_putLine_142 (by decide) ?_
          first | refine v_iaddN C dX6_putLine_143 ?_ | refine v_iadd C dX6_putLine_143 ?_
          refine v_puti C fl_X6_123 fw_X6_18 oi_qS_0_18 ⟨rfl, rfl⟩ dX6_putLine_144 ?_
          refine V.stt (g2 := (sG gx 0 (upd (gx 0) 18 (nI (k.1 + 1))))) (rfl) ?_
          refine v_vret C F dX6_putLine_147 (Nat.le_of_ble_eq_true rfl) (Nat.le_of_ble_eq_true rfl) ?_
          rw [lnPut_eq hx4, ← hxe]
          dsimp only
          exact ⟨QXr_mk (QR.cnt hRx (by decide)) (Row_at hRow_x rfl) hKx.c18 hsx, FLn.cnt hLx (by decide) (by decide)⟩
        · have hz0 : S.2.1 = 0 := nI_inj (b := 0) (by have := hRx.2.2.2.1; omega) (by omega) c58
          have J73 : (j = 0 ∨ S.1.1 = 2) → V X (qS (xK X) h) 73 [some (.ref (h 0)), some (.int (nI p1)), some (.int (nI j)), none] [] gx 0 0 := by
            intro hj
            refine v_aload_n C dX6_putLine_73 rfl ?_
            refine v_iconst (v := nI 0) C dX6_putLine_74 (by decide) ?_
            refine v_sipush (v := nI 255) C dX6_putLine_75 (by decide) ?_
            refine v_callVi C (c_X6_numberHere hl (st := S) hRx (by decide) (by decide)) ym_X6_numberHere ml_X6_102 emb_id_qS rfl rfl rfl rfl rfl dX6_putLine_78 (Nat.le_of_ble_eq_true rfl) (Nat.le_of_ble_eq_true rfl) (Nat.le_of_ble_eq_true rfl) (Nat.le_of_ble_eq_true rfl) (fun _ _ hu => hu.elim) (fun r u hu => ?_)
            obtain ⟨rfl, hR5, hF5⟩ := hu
            obtain ⟨g5, eg5⟩ : ∃ x, x = u := ⟨u, rfl⟩
            subst eg5
            obtain ⟨v, hv⟩ : ∃ v, v = chkVl 0 255 S := ⟨_, rfl⟩
            rw [← hv]
            have hs5 : g5 0 2 = nI n := (hF5.2 2 (by decide)).trans hsx
            refine v_istore_n C (lo2 := [some _, some _, some _, some _]) dX6_putLine_81 rfl (Nat.le_of_ble_eq_true rfl) rfl ?_
            refine v_aload_n C dX6_putLine_82 rfl ?_
            refine v_aload_n C dX6_putLine_83 rfl ?_
            refine v_getiQ (x := nI (chkS 0 255 S).2.1) C fl_X6_76 oi_qS_0_16 (hR5.2.2.2.2.1) dX6_putLine_84 ?_
            refine v_if_ne C 104 dX6_putLine_87 (by decide) (fun c87 => ?_) (fun c87 => ?_)
            · have hzc : ¬ (chkS 0 255 S).2.1 = 0 := fun z => c87 (by rw [z]; rfl)
              refine v_iconst (v := nI 0) C dX6_putLine_104 (by decide) ?_
              refine V.eqs (st2 := [.int (bI (ok (chkS 0 255 S) && !decide (p1 + j < n))), .ref (h 0)]) ?_ (congrArg (fun z => [Value.int z, Value.ref (h 0)]) (by first | exact bI_f (by rw [ok_b hzc]; rfl) | exact bI_f (by rw [ok_gz hzc, decide_eq_true (show p1 + j < n by omega)]; rfl) | exact bI_t (by rw [ok_gz hzc, decide_eq_false (show ¬ p1 + j < n by omega)]; rfl)))
              refine v_iconst (v := nI 2) C dX6_putLine_105 (by decide) ?_
              refine v_callVv C (c_X6_failsIf hl (cd := 2) (p := ok (chkS 0 255 S) && !decide (p1 + j < n)) hR5 (by decide) (by decide)) ym_X6_failsIf ml_X6_113 emb_id_qS rfl rfl rfl rfl rfl dX6_putLine_106 (Nat.le_of_ble_eq_true rfl) (Nat.le_of_ble_eq_true rfl) (Nat.le_of_ble_eq_true rfl) (Nat.le_of_ble_eq_true rfl) (fun _ _ hu => hu.elim) (fun r u hu => ?_)
              rw [show whenS (ok (chkS 0 255 S) && !decide (p1 + j < n)) 2 (chkS 0 255 S) = (whenS (!decide (p1 + j < n)) 2 (chkS 0 255 S)) from when_eq (fun z => by rw [z, Bool.true_and])] at hu
              obtain ⟨hR6, hF6⟩ := hu
              obtain ⟨g6, eg6⟩ : ∃ x, x = u := ⟨u, rfl⟩
              subst eg6
              have hFb := hF5.tr hF6
              have hRow6 : RowR y (g6 1) := Row_at hRow_x (hFb.1 1 (by decide))
              have hs6 : g6 0 2 = nI n := (hFb.2 2 (by decide)).trans hsx
              have hK6 := hKx.fq hFb
              have hL6 := hLx.tr hFb.fl
              have J127 : ∀ g8 : G, QR b len (whenS (!decide (p1 + j < n)) 2 (chkS 0 255 S)) g8 → FLn g g8 → g8 0 2 = nI n → KQ k g8 → RowR (if ok (whenS (!decide (p1 + j < n)) 2 (chkS 0 255 S)) = true then byteM y (p1 + j) (nI v) else y) (g8 1) → V X (qS (xK X) h) 127 [some (.ref (h 0)), some (.int (nI p1)), some (.int (nI j)), none] [] g8 0 0 := by
                intro g8 hR8 hL8 hs8 hK8 hRow8
                have hk9 : (whenS (!decide (p1 + j < n)) 2 (chkS 0 255 S)).2.1 = 0 → ¬ (whenS (!decide (p1 + j < n)) 2 (chkS 0 255 S)).1.1 = 4 := when_k (by decide) (fun z => by rw [(chk_k2 (ok_g z)).1]; decide)
                refine v_aload_n C dX6_putLine_127 rfl ?_
                refine v_callVv C (c_X6_goesOn hl hR8 hb hk9) ym_X6_goesOn ml_X6_106 emb_id_qS rfl rfl rfl rfl rfl dX6_putLine_128 (Nat.le_of_ble_eq_true rfl) (Nat.le_of_ble_eq_true rfl) (Nat.le_of_ble_eq_true rfl) (Nat.le_of_ble_eq_true rfl) (fun _ _ hu => hu.elim) (fun r u hu => ?_)
                obtain ⟨hR9, hF9⟩ := hu
                obtain ⟨g9, eg9⟩ : ∃ x, x = u := ⟨u, rfl⟩
                subst eg9
                have hK9 := hK8.fq hF9
                have hs9 := (hF9.2 2 (by decide)).trans hs8
                have hRow9 := Row_at hRow8 (hF9.1 1 (by decide))
                first | refine v_iinc1 C (lo2 := [some _, some _, some _, none]) dX6_putLine_131 rfl rfl rfl ?_ | refine v_iinc C (lo2 := [some _, some _, some _, none]) dX6_putLine_131 rfl rfl rfl rfl ?_
                refine v_goto C 54 dX6_putLine_134 (by decide) ?_
                have hoS := ok_gz hz0
                have hlen : len ≤ 700 := hRx.2.2.1
                have hj7 : j < 700 := by
                  rcases hj with z | z
                  · omega
                  · have q1 := hGx.2.2.1 (Or.inl z)
                    have q2 := hGx.2.1
                    have q3 := i5 hoS
                    omega
                have i6 := (putW_s (m := y) (b := b) (len := len) (n := n) (p := p1) hoS hj hj7).symm.trans i4
                rw [← hv, putS_at] at i6
                have hD1 : (whenS (!decide (p1 + j < n)) 2 (chkS 0 255 S)).1 = S.1 := whenS_1.trans chk_1
                have H := ih54 (j + 1, advS b len (whenS (!decide (p1 + j < n)) 2 (chkS 0 255 S)), (if ok (whenS (!decide (p1 + j < n)) 2 (chkS 0 255 S)) = true then byteM y (p1 + j) (nI v) else y), g9)
                refine H (by show 701 - (j + 1) < 701 - j; omega) ⟨by show j + 1 ≤ 700; omega, hR9, hRow9, hK9, hs9, hL8.tr hF9.fl, i6, fun z => ?_, ?_⟩
                · have hoD := ok_imp (fun q => adv_b q) z
                  have hoC := (whenS_ok (by decide) hoD).2
                  have hkS : S.1.1 = 2 := by rw [← chk_1 (lo := 0) (hi := 255)]; exact (chk_k2 (ok_g hoC)).1
                  have q := adv_lt (b := b) (s := (whenS (!decide (p1 + j < n)) 2 (chkS 0 255 S))) (by rw [hD1]; exact hGx) hoD (by rw [hD1]; exact Or.inl hkS)
                  rw [hD1] at q
                  have q5 := i5 hoS
                  show j + 1 ≤ (advS b len (whenS (!decide (p1 + j < n)) 2 (chkS 0 255 S))).1.2.1
                  omega
                · exact (((Le.chk (len := len) (lo := 0) (hi := 255)).tr Le.when).tr Le.adv hGx).1
              refine v_aload_n C dX6_putLine_109 rfl ?_
              refine v_getiQ (x := nI (whenS (!decide (p1 + j < n)) 2 (chkS 0 255 S)).2.1) C fl_X6_76 oi_qS_0_16 (hR6.2.2.2.2.1) dX6_putLine_110 ?_
              refine v_if_ne C 127 dX6_putLine_113 (by decide) (fun c113 => ?_) (fun c113 => ?_)
              · have hzd : ¬ (whenS (!decide (p1 + j < n)) 2 (chkS 0 255 S)).2.1 = 0 := fun z => c113 (by rw [z]; rfl)
                refine V.sub (lo2 := [some _, some _, some _, none]) ⟨rfl, rfl, rfl, trivial⟩ ?_
                first
                | exact J127 _ hR8 hL8 hs8 hK8 hRow8
                | exact J127 _ hR6 hL6 hs6 hK6 (by rw [if_neg (by rw [ok_b hzd]; exact Bool.false_ne_true)]; exact hRow6)
              · have hzd : (whenS (!decide (p1 + j < n)) 2 (chkS 0 255 S)).2.1 = 0 := nI_inj (b := 0) (by have := hR6.2.2.2.1; omega) (by omega) c113
                have hpn : p1 + j < n := by
                  have w := (whenS_ok (by decide) (ok_gz hzd)).1
                  rw [Bool.not_eq_false'] at w
                  exact of_decide_eq_true w
                refine v_aload_n C dX6_putLine_116 rfl ?_
                refine v_getr C fl_X6_7 or_qS_0_3 dX6_putLine_117 ?_
                refine v_iconst (v := nI 0) C dX6_putLine_120 (by decide) ?_
                refine v_iload_n C dX6_putLine_121 rfl ?_
                first | refine v_iaddN C dX6_putLine_122 ?_ | refine v_iadd C dX6_putLine_122 ?_
                refine v_iload_n C dX6_putLine_123 rfl ?_
                first | refine v_iaddN C dX6_putLine_124 ?_ | refine v_iadd C dX6_putLine_124 ?_
                refine v_iload_n C dX6_putLine_125 rfl ?_
                refine v_iast C ar_qS_1 (by decide) _ ?_ rfl dX6_putLine_126 ?_
                · omega
                obtain ⟨g8, eg8⟩ : ∃ x, x = sG g6 1 (upd (g6 1) (p1 + j) (nI v)) := ⟨_, rfl⟩
                have hR8 : QR b len (whenS (!decide (p1 + j < n)) 2 (chkS 0 255 S)) g8 := by rw [eg8]; exact QR.row hR6
                have hL8 : FLn g g8 := by rw [eg8]; exact FLn.row hL6
                have hs8 : g8 0 2 = nI n := by rw [eg8]; exact hs6
                have hK8 : KQ k g8 := by rw [eg8]; exact hK6
                have hRow8 : RowR (if ok (whenS (!decide (p1 + j < n)) 2 (chkS 0 255 S)) = true then byteM y (p1 + j) (nI v) else y) (g8 1) := by rw [if_pos (ok_gz hzd), eg8]; exact Row_byte hRow6 (by omega)
                refine V.stt (g2 := g8) (by rw [eg8, Nat.zero_add]) ?_
                refine V.sub (lo2 := [some _, some _, some _, none]) ⟨rfl, rfl, rfl, trivial⟩ ?_
                first
                | exact J127 _ hR8 hL8 hs8 hK8 hRow8
                | exact J127 _ hR6 hL6 hs6 hK6 (by rw [if_neg (by rw [ok_b hzd]; exact Bool.false_ne_true)]; exact hRow6)
            · have hzc : (chkS 0 255 S).2.1 = 0 := nI_inj (b := 0) (by have := hR5.2.2.2.1; omega) (by omega) c87
              refine v_iload_n C dX6_putLine_90 rfl ?_
              refine v_iload_n C dX6_putLine_91 rfl ?_
              first | refine v_iaddN C dX6_putLine_92 ?_ | refine v_iadd C dX6_putLine_92 ?_
              refine v_aload_n C dX6_putLine_93 rfl ?_
              refine v_getiQ (x := nI n) C fl_X6_126 oi_qS_0_2 (hs5) dX6_putLine_94 ?_
              first | refine v_icmp_ltN C 104 dX6_putLine_97 (by decide) (by omega) (by omega) (fun c97 => ?_) (fun c97 => ?_) | refine v_icmp_lt C 104 dX6_putLine_97 (by decide) (fun c97 => ?_) (fun c97 => ?_)
              · refine v_iconst (v := nI 0) C dX6_putLine_104 (by decide) ?_
                refine V.eqs (st2 := [.int (bI (ok (chkS 0 255 S) && !decide (p1 + j < n))), .ref (h 0)]) ?_ (congrArg (fun z => [Value.int z, Value.ref (h 0)]) (by first | exact bI_f (by rw [ok_b hzc]; rfl) | exact bI_f (by rw [ok_gz hzc, decide_eq_true (show p1 + j < n by omega)]; rfl) | exact bI_t (by rw [ok_gz hzc, decide_eq_false (show ¬ p1 + j < n by omega)]; rfl)))
                refine v_iconst (v := nI 2) C dX6_putLine_105 (by decide) ?_
                refine v_callVv C (c_X6_failsIf hl (cd := 2) (p := ok (chkS 0 255 S) && !decide (p1 + j < n)) hR5 (by decide) (by decide)) ym_X6_failsIf ml_X6_113 emb_id_qS rfl rfl rfl rfl rfl dX6_putLine_106 (Nat.le_of_ble_eq_true rfl) (Nat.le_of_ble_eq_true rfl) (Nat.le_of_ble_eq_true rfl) (Nat.le_of_ble_eq_true rfl) (fun _ _ hu => hu.elim) (fun r u hu => ?_)
                rw [show whenS (ok (chkS 0 255 S) && !decide (p1 + j < n)) 2 (chkS 0 255 S) = (whenS (!decide (p1 + j < n)) 2 (chkS 0 255 S)) from when_eq (fun z => by rw [z, Bool.true_and])] at hu
                obtain ⟨hR6, hF6⟩ := hu
                obtain ⟨g6, eg6⟩ : ∃ x, x = u := ⟨u, rfl⟩
                subst eg6
                have hFb := hF5.tr hF6
                have hRow6 : RowR y (g6 1) := Row_at hRow_x (hFb.1 1 (by decide))
                have hs6 : g6 0 2 = nI n := (hFb.2 2 (by decide)).trans hsx
                have hK6 := hKx.fq hFb
                have hL6 := hLx.tr hFb.fl
                have J127 : ∀ g8 : G, QR b len (whenS (!decide (p1 + j < n)) 2 (chkS 0 255 S)) g8 → FLn g g8 → g8 0 2 = nI n → KQ k g8 → RowR (if ok (whenS (!decide (p1 + j < n)) 2 (chkS 0 255 S)) = true then byteM y (p1 + j) (nI v) else y) (g8 1) → V X (qS (xK X) h) 127 [some (.ref (h 0)), some (.int (nI p1)), some (.int (nI j)), none] [] g8 0 0 := by
                  intro g8 hR8 hL8 hs8 hK8 hRow8
                  have hk9 : (whenS (!decide (p1 + j < n)) 2 (chkS 0 255 S)).2.1 = 0 → ¬ (whenS (!decide (p1 + j < n)) 2 (chkS 0 255 S)).1.1 = 4 := when_k (by decide) (fun z => by rw [(chk_k2 (ok_g z)).1]; decide)
                  refine v_aload_n C dX6_putLine_127 rfl ?_
                  refine v_callVv C (c_X6_goesOn hl hR8 hb hk9) ym_X6_goesOn ml_X6_106 emb_id_qS rfl rfl rfl rfl rfl dX6_putLine_128 (Nat.le_of_ble_eq_true rfl) (Nat.le_of_ble_eq_true rfl) (Nat.le_of_ble_eq_true rfl) (Nat.le_of_ble_eq_true rfl) (fun _ _ hu => hu.elim) (fun r u hu => ?_)
                  obtain ⟨hR9, hF9⟩ := hu
                  obtain ⟨g9, eg9⟩ : ∃ x, x = u := ⟨u, rfl⟩
                  subst eg9
                  have hK9 := hK8.fq hF9
                  have hs9 := (hF9.2 2 (by decide)).trans hs8
                  have hRow9 := Row_at hRow8 (hF9.1 1 (by decide))
                  first | refine v_iinc1 C (lo2 := [some _, some _, some _, none]) dX6_putLine_131 rfl rfl rfl ?_ | refine v_iinc C (lo2 := [some _, some _, some _, none]) dX6_putLine_131 rfl rfl rfl rfl ?_
                  refine v_goto C 54 dX6_putLine_134 (by decide) ?_
                  have hoS := ok_gz hz0
                  have hlen : len ≤ 700 := hRx.2.2.1
                  have hj7 : j < 700 := by
                    rcases hj with z | z
                    · omega
                    · have q1 := hGx.2.2.1 (Or.inl z)
                      have q2 := hGx.2.1
                      have q3 := i5 hoS
                      omega
                  have i6 := (putW_s (m := y) (b := b) (len := len) (n := n) (p := p1) hoS hj hj7).symm.trans i4
                  rw [← hv, putS_at] at i6
                  have hD1 : (whenS (!decide (p1 + j < n)) 2 (chkS 0 255 S)).1 = S.1 := whenS_1.trans chk_1
                  have H := ih54 (j + 1, advS b len (whenS (!decide (p1 + j < n)) 2 (chkS 0 255 S)), (if ok (whenS (!decide (p1 + j < n)) 2 (chkS 0 255 S)) = true then byteM y (p1 + j) (nI v) else y), g9)
                  refine H (by show 701 - (j + 1) < 701 - j; omega) ⟨by show j + 1 ≤ 700; omega, hR9, hRow9, hK9, hs9, hL8.tr hF9.fl, i6, fun z => ?_, ?_⟩
                  · have hoD := ok_imp (fun q => adv_b q) z
                    have hoC := (whenS_ok (by decide) hoD).2
                    have hkS : S.1.1 = 2 := by rw [← chk_1 (lo := 0) (hi := 255)]; exact (chk_k2 (ok_g hoC)).1
                    have q := adv_lt (b := b) (s := (whenS (!decide (p1 + j < n)) 2 (chkS 0 255 S))) (by rw [hD1]; exact hGx) hoD (by rw [hD1]; exact Or.inl hkS)
                    rw [hD1] at q
                    have q5 := i5 hoS
                    show j + 1 ≤ (advS b len (whenS (!decide (p1 + j < n)) 2 (chkS 0 255 S))).1.2.1
                    omega
                  · exact (((Le.chk (len := len) (lo := 0) (hi := 255)).tr Le.when).tr Le.adv hGx).1
                refine v_aload_n C dX6_putLine_109 rfl ?_
                refine v_getiQ (x := nI (whenS (!decide (p1 + j < n)) 2 (chkS 0 255 S)).2.1) C fl_X6_76 oi_qS_0_16 (hR6.2.2.2.2.1) dX6_putLine_110 ?_
                refine v_if_ne C 127 dX6_putLine_113 (by decide) (fun c113 => ?_) (fun c113 => ?_)
                · have hzd : ¬ (whenS (!decide (p1 + j < n)) 2 (chkS 0 255 S)).2.1 = 0 := fun z => c113 (by rw [z]; rfl)
                  refine V.sub (lo2 := [some _, some _, some _, none]) ⟨rfl, rfl, rfl, trivial⟩ ?_
                  first
                  | exact J127 _ hR8 hL8 hs8 hK8 hRow8
                  | exact J127 _ hR6 hL6 hs6 hK6 (by rw [if_neg (by rw [ok_b hzd]; exact Bool.false_ne_true)]; exact hRow6)
                · have hzd : (whenS (!decide (p1 + j < n)) 2 (chkS 0 255 S)).2.1 = 0 := nI_inj (b := 0) (by have := hR6.2.2.2.1; omega) (by omega) c113
                  have hpn : p1 + j < n := by
                    have w := (whenS_ok (by decide) (ok_gz hzd)).1
                    rw [Bool.not_eq_false'] at w
                    exact of_decide_eq_true w
                  refine v_aload_n C dX6_putLine_116 rfl ?_
                  refine v_getr C fl_X6_7 or_qS_0_3 dX6_putLine_117 ?_
                  refine v_iconst (v := nI 0) C dX6_putLine_120 (by decide) ?_
                  refine v_iload_n C dX6_putLine_121 rfl ?_
                  first | refine v_iaddN C dX6_putLine_122 ?_ | refine v_iadd C dX6_putLine_122 ?_
                  refine v_iload_n C dX6_putLine_123 rfl ?_
                  first | refine v_iaddN C dX6_putLine_124 ?_ | refine v_iadd C dX6_putLine_124 ?_
                  refine v_iload_n C dX6_putLine_125 rfl ?_
                  refine v_iast C ar_qS_1 (by decide) _ ?_ rfl dX6_putLine_126 ?_
                  · omega
                  obtain ⟨g8, eg8⟩ : ∃ x, x = sG g6 1 (upd (g6 1) (p1 + j) (nI v)) := ⟨_, rfl⟩
                  have hR8 : QR b len (whenS (!decide (p1 + j < n)) 2 (chkS 0 255 S)) g8 := by rw [eg8]; exact QR.row hR6
                  have hL8 : FLn g g8 := by rw [eg8]; exact FLn.row hL6
                  have hs8 : g8 0 2 = nI n := by rw [eg8]; exact hs6
                  have hK8 : KQ k g8 := by rw [eg8]; exact hK6
                  have hRow8 : RowR (if ok (whenS (!decide (p1 + j < n)) 2 (chkS 0 255 S)) = true then byteM y (p1 + j) (nI v) else y) (g8 1) := by rw [if_pos (ok_gz hzd), eg8]; exact Row_byte hRow6 (by omega)
                  refine V.stt (g2 := g8) (by rw [eg8, Nat.zero_add]) ?_
                  refine V.sub (lo2 := [some _, some _, some _, none]) ⟨rfl, rfl, rfl, trivial⟩ ?_
                  first
                  | exact J127 _ hR8 hL8 hs8 hK8 hRow8
                  | exact J127 _ hR6 hL6 hs6 hK6 (by rw [if_neg (by rw [ok_b hzd]; exact Bool.false_ne_true)]; exact hRow6)
              · refine v_iconst (v := nI 1) C dX6_putLine_100 (by decide) ?_
                refine v_goto C 105 dX6_putLine_101 (by decide) ?_
                refine V.eqs (st2 := [.int (bI (ok (chkS 0 255 S) && !decide (p1 + j < n))), .ref (h 0)]) ?_ (congrArg (fun z => [Value.int z, Value.ref (h 0)]) (by first | exact bI_f (by rw [ok_b hzc]; rfl) | exact bI_f (by rw [ok_gz hzc, decide_eq_true (show p1 + j < n by omega)]; rfl) | exact bI_t (by rw [ok_gz hzc, decide_eq_false (show ¬ p1 + j < n by omega)]; rfl)))
                refine v_iconst (v := nI 2) C dX6_putLine_105 (by decide) ?_
                refine v_callVv C (c_X6_failsIf hl (cd := 2) (p := ok (chkS 0 255 S) && !decide (p1 + j < n)) hR5 (by decide) (by decide)) ym_X6_failsIf ml_X6_113 emb_id_qS rfl rfl rfl rfl rfl dX6_putLine_106 (Nat.le_of_ble_eq_true rfl) (Nat.le_of_ble_eq_true rfl) (Nat.le_of_ble_eq_true rfl) (Nat.le_of_ble_eq_true rfl) (fun _ _ hu => hu.elim) (fun r u hu => ?_)
                rw [show whenS (ok (chkS 0 255 S) && !decide (p1 + j < n)) 2 (chkS 0 255 S) = (whenS (!decide (p1 + j < n)) 2 (chkS 0 255 S)) from when_eq (fun z => by rw [z, Bool.true_and])] at hu
                obtain ⟨hR6, hF6⟩ := hu
                obtain ⟨g6, eg6⟩ : ∃ x, x = u := ⟨u, rfl⟩
                subst eg6
                have hFb := hF5.tr hF6
                have hRow6 : RowR y (g6 1) := Row_at hRow_x (hFb.1 1 (by decide))
                have hs6 : g6 0 2 = nI n := (hFb.2 2 (by decide)).trans hsx
                have hK6 := hKx.fq hFb
                have hL6 := hLx.tr hFb.fl
                have J127 : ∀ g8 : G, QR b len (whenS (!decide (p1 + j < n)) 2 (chkS 0 255 S)) g8 → FLn g g8 → g8 0 2 = nI n → KQ k g8 → RowR (if ok (whenS (!decide (p1 + j < n)) 2 (chkS 0 255 S)) = true then byteM y (p1 + j) (nI v) else y) (g8 1) → V X (qS (xK X) h) 127 [some (.ref (h 0)), some (.int (nI p1)), some (.int (nI j)), none] [] g8 0 0 := by
                  intro g8 hR8 hL8 hs8 hK8 hRow8
                  have hk9 : (whenS (!decide (p1 + j < n)) 2 (chkS 0 255 S)).2.1 = 0 → ¬ (whenS (!decide (p1 + j < n)) 2 (chkS 0 255 S)).1.1 = 4 := when_k (by decide) (fun z => by rw [(chk_k2 (ok_g z)).1]; decide)
                  refine v_aload_n C dX6_putLine_127 rfl ?_
                  refine v_callVv C (c_X6_goesOn hl hR8 hb hk9) ym_X6_goesOn ml_X6_106 emb_id_qS rfl rfl rfl rfl rfl dX6_putLine_128 (Nat.le_of_ble_eq_true rfl) (Nat.le_of_ble_eq_true rfl) (Nat.le_of_ble_eq_true rfl) (Nat.le_of_ble_eq_true rfl) (fun _ _ hu => hu.elim) (fun r u hu => ?_)
                  obtain ⟨hR9, hF9⟩ := hu
                  obtain ⟨g9, eg9⟩ : ∃ x, x = u := ⟨u, rfl⟩
                  subst eg9
                  have hK9 := hK8.fq hF9
                  have hs9 := (hF9.2 2 (by decide)).trans hs8
                  have hRow9 := Row_at hRow8 (hF9.1 1 (by decide))
                  first | refine v_iinc1 C (lo2 := [some _, some _, some _, none]) dX6_putLine_131 rfl rfl rfl ?_ | refine v_iinc C (lo2 := [some _, some _, some _, none]) dX6_putLine_131 rfl rfl rfl rfl ?_
                  refine v_goto C 54 dX6_putLine_134 (by decide) ?_
                  have hoS := ok_gz hz0
                  have hlen : len ≤ 700 := hRx.2.2.1
                  have hj7 : j < 700 := by
                    rcases hj with z | z
                    · omega
                    · have q1 := hGx.2.2.1 (Or.inl z)
                      have q2 := hGx.2.1
                      have q3 := i5 hoS
                      omega
                  have i6 := (putW_s (m := y) (b := b) (len := len) (n := n) (p := p1) hoS hj hj7).symm.trans i4
                  rw [← hv, putS_at] at i6
                  have hD1 : (whenS (!decide (p1 + j < n)) 2 (chkS 0 255 S)).1 = S.1 := whenS_1.trans chk_1
                  have H := ih54 (j + 1, advS b len (whenS (!decide (p1 + j < n)) 2 (chkS 0 255 S)), (if ok (whenS (!decide (p1 + j < n)) 2 (chkS 0 255 S)) = true then byteM y (p1 + j) (nI v) else y), g9)
                  refine H (by show 701 - (j + 1) < 701 - j; omega) ⟨by show j + 1 ≤ 700; omega, hR9, hRow9, hK9, hs9, hL8.tr hF9.fl, i6, fun z => ?_, ?_⟩
                  · have hoD := ok_imp (fun q => adv_b q) z
                    have hoC := (whenS_ok (by decide) hoD).2
                    have hkS : S.1.1 = 2 := by rw [← chk_1 (lo := 0) (hi := 255)]; exact (chk_k2 (ok_g hoC)).1
                    have q := adv_lt (b := b) (s := (whenS (!decide (p1 + j < n)) 2 (chkS 0 255 S))) (by rw [hD1]; exact hGx) hoD (by rw [hD1]; exact Or.inl hkS)
                    rw [hD1] at q
                    have q5 := i5 hoS
                    show j + 1 ≤ (advS b len (whenS (!decide (p1 + j < n)) 2 (chkS 0 255 S))).1.2.1
                    omega
                  · exact (((Le.chk (len := len) (lo := 0) (hi := 255)).tr Le.when).tr Le.adv hGx).1
                refine v_aload_n C dX6_putLine_109 rfl ?_
                refine v_getiQ (x := nI (whenS (!decide (p1 + j < n)) 2 (chkS 0 255 S)).2.1) C fl_X6_76 oi_qS_0_16 (hR6.2.2.2.2.1) dX6_putLine_110 ?_
                refine v_if_ne C 127 dX6_putLine_113 (by decide) (fun c113 => ?_) (fun c113 => ?_)
                · have hzd : ¬ (whenS (!decide (p1 + j < n)) 2 (chkS 0 255 S)).2.1 = 0 := fun z => c113 (by rw [z]; rfl)
                  refine V.sub (lo2 := [some _, some _, some _, none]) ⟨rfl, rfl, rfl, trivial⟩ ?_
                  first
                  | exact J127 _ hR8 hL8 hs8 hK8 hRow8
                  | exact J127 _ hR6 hL6 hs6 hK6 (by rw [if_neg (by rw [ok_b hzd]; exact Bool.false_ne_true)]; exact hRow6)
                · have hzd : (whenS (!decide (p1 + j < n)) 2 (chkS 0 255 S)).2.1 = 0 := nI_inj (b := 0) (by have := hR6.2.2.2.1; omega) (by omega) c113
                  have hpn : p1 + j < n := by
                    have w := (whenS_ok (by decide) (ok_gz hzd)).1
                    rw [Bool.not_eq_false'] at w
                    exact of_decide_eq_true w
                  refine v_aload_n C dX6_putLine_116 rfl ?_
                  refine v_getr C fl_X6_7 or_qS_0_3 dX6_putLine_117 ?_
                  refine v_iconst (v := nI 0) C dX6_putLine_120 (by decide) ?_
                  refine v_iload_n C dX6_putLine_121 rfl ?_
                  first | refine v_iaddN C dX6_putLine_122 ?_ | refine v_iadd C dX6_putLine_122 ?_
                  refine v_iload_n C dX6_putLine_123 rfl ?_
                  first | refine v_iaddN C dX6_putLine_124 ?_ | refine v_iadd C dX6_putLine_124 ?_
                  refine v_iload_n C dX6_putLine_125 rfl ?_
                  refine v_iast C ar_qS_1 (by decide) _ ?_ rfl dX6_putLine_126 ?_
                  · omega
                  obtain ⟨g8, eg8⟩ : ∃ x, x = sG g6 1 (upd (g6 1) (p1 + j) (nI v)) := ⟨_, rfl⟩
                  have hR8 : QR b len (whenS (!decide (p1 + j < n)) 2 (chkS 0 255 S)) g8 := by rw [eg8]; exact QR.row hR6
                  have hL8 : FLn g g8 := by rw [eg8]; exact FLn.row hL6
                  have hs8 : g8 0 2 = nI n := by rw [eg8]; exact hs6
                  have hK8 : KQ k g8 := by rw [eg8]; exact hK6
                  have hRow8 : RowR (if ok (whenS (!decide (p1 + j < n)) 2 (chkS 0 255 S)) = true then byteM y (p1 + j) (nI v) else y) (g8 1) := by rw [if_pos (ok_gz hzd), eg8]; exact Row_byte hRow6 (by omega)
                  refine V.stt (g2 := g8) (by rw [eg8, Nat.zero_add]) ?_
                  refine V.sub (lo2 := [some _, some _, some _, none]) ⟨rfl, rfl, rfl, trivial⟩ ?_
                  first
                  | exact J127 _ hR8 hL8 hs8 hK8 hRow8
                  | exact J127 _ hR6 hL6 hs6 hK6 (by rw [if_neg (by rw [ok_b hzd]; exact Bool.false_ne_true)]; exact hRow6)
          refine v_iload_n C dX6_putLine_61 rfl ?_
          refine v_if_eq C 73 dX6_putLine_62 (by decide) (fun c62 => ?_) (fun c62 => ?_)
          · have hj : j = 0 ∨ S.1.1 = 2 := Or.inl (nI_inj (b := 0) (by omega) (by omega) c62)
            exact J73 hj
          · have hj0 : ¬ j = 0 := fun z => c62 (by rw [z]; rfl)
            refine v_aload_n C dX6_putLine_65 rfl ?_
            refine v_getiQ (x := nI S.1.1) C fl_X6_63 oi_qS_0_14 ((hRx.2.2.2.2.2.2 hz0).1.1) dX6_putLine_66 ?_
            refine v_iconst (v := nI 2) C dX6_putLine_69 (by decide) ?_
            refine v_icmp_ne C 137 dX6_putLine_70 (by decide) (fun c70 => ?_) (fun c70 => ?_)
            · have hxe : (S, y) = x4 := (putW_e hj0 (fun z => c70 (by rw [z]))).symm.trans i4
              refine v_aload_n C dX6_putLine_137 rfl ?_
              refine v_dup C dX6_putLine_138 rfl ?_
              refine v_getiQ (x := nI k.1) C fl_X6_123 oi_qS_0_18 (hKx.1) dX6_putLine_139 ?_
              refine v_iconst (v := nI 1) C dX6_putLine_142 (by decide) ?_
              first | refine v_iaddN C dX6_putLine_143 ?_ | refine v_iadd C dX6_putLine_143 ?_
              refine v_puti C fl_X6_123 fw_X6_18 oi_qS_0_18 ⟨rfl, rfl⟩ dX6_putLine_144 ?_
              refine V.stt (g2 := (sG gx 0 (upd (gx 0) 18 (nI (k.1 + 1))))) (rfl) ?_
              refine v_vret C F dX6_putLine_147 (Nat.le_of_ble_eq_true rfl) (Nat.le_of_ble_eq_true rfl) ?_
              rw [lnPut_eq hx4, ← hxe]
              dsimp only
              exact ⟨QXr_mk (QR.cnt hRx (by decide)) (Row_at hRow_x rfl) hKx.c18 hsx, FLn.cnt hLx (by decide) (by decide)⟩
            · have hj : j = 0 ∨ S.1.1 = 2 := Or.inr (nI_inj (by have := (hRx.2.2.2.2.2.2 hz0).2.1; omega) (by omega) c70)
              exact J73 hj
      have hG3 : GTo len (advS b len (put1 b len n st k).1).1 := (((Le.wPut (len := len) (k := k)).tr (Le.num (b := b) (lo := 0) (hi := n - 1))).tr Le.adv hG).1
      have hp1e : (put1 b len n st k).2 = p1 := Eq.symm hp1
      have hfin : putW b len n p1 0 (advS b len (put1 b len n st k).1) m = x4 := by
        rw [← hp1e]
        exact put4_W.trans hx4
      exact L54 (0, advS b len (put1 b len n st k).1, m, g4) ⟨Nat.zero_le _, hR4, hRow4, hK4, hs4, hFa.fl, hfin, fun _ => Nat.zero_le _, hG3⟩

set_option maxHeartbeats 16000000 in
theorem c_X3_readPut {l : Launch} (hl : l.stackTraces = false) {κ : Kp} {h : Nat → Nat} {r s : G} {m : Mg} {n len : Nat} {b : Nat → Int32} {st : St} {k : Cnt} {fl : Int32} (hR : RS b len st r) (hK : KC k r) (hf : r 0 2 = fl) (hkb : KB k) (hI : PI n (st, m, k)) : Ct SS MM l κ yX3_readPut cX3_readPut 3 none 4 0 0 [.ref (h 0)] (rS κ h) (r, s, m) rv (fun _ u => RXP b len (lnPut b len n (st, m, k)) fl u) (fun _ _ => False) := by
  refine Ct.of (own := RX3) (by decide) rfl hl (by intro v hv; simp only [List.mem_cons, List.not_mem_nil, or_false] at hv; first | (rcases hv with rfl | rfl | rfl | rfl | rfl | rfl <;> rfl) | (rcases hv with rfl | rfl | rfl | rfl | rfl <;> rfl) | (rcases hv with rfl | rfl | rfl | rfl <;> rfl) | (rcases hv with rfl | rfl | rfl <;> rfl) | (rcases hv with rfl | rfl <;> rfl) | (subst hv; rfl) | exact hv.elim) (Nat.le_of_ble_eq_true rfl) (fun X hxl hxk C F N => ?_)
  subst hxl hxk
  show V X (rS (xK X) h) 0 [some (.ref (h 0)), none, none] [] (r, s, m) 0 0
  obtain ⟨co, hMI, hco1, hco2⟩ := id hI
  have hn : m 0 7 = nI n := hMI.1.1
  have h96 : n ≤ 96 := hMI.1.2.1
  have hn1 := hMI.2.2.2.1
  obtain ⟨kb1, kb2, kb3, kb4⟩ := hkb
  obtain ⟨w, lim, pol, hw0, hw1, hw2, hlim, hlim96, hpol, hpol3⟩ := hMI.2.2.2.2.1
  refine v_aload_n C dX3_readPut_0 rfl ?_
  refine v_dup C dX3_readPut_1 rfl ?_
  refine v_getiQ (x := nI k.1) C fl_X3_95 oi_rS_0_10 (hK.1) dX3_readPut_2 ?_
  refine v_iconst (v := nI 1) C dX3_readPut_5 (by decide) ?_
  first | refine v_iaddN C dX3_readPut_6 ?_ | refine v_iadd C dX3_readPut_6 ?_
  refine v_puti C fl_X3_95 fw_X3_10 oi_rS_0_10 ⟨rfl, rfl⟩ dX3_readPut_7 ?_
  obtain ⟨r0, hr0⟩ : ∃ r0, r0 = sG r 0 (upd (r 0) 10 (nI (k.1 + 1))) := ⟨_, rfl⟩
  refine V.stt (g2 := (r0, s, m)) (by rw [hr0]) ?_
  have hR0 : RS b len st r0 := by
    rw [hr0]
    exact hR.cnt (by omega)
  have hK0 : KC (k.1 + 1, k.2) r0 := by
    rw [hr0]
    exact ⟨rfl, hK.2.1, hK.2.2.1, hK.2.2.2⟩
  have hf0 : r0 0 2 = fl := by
    rw [hr0]
    exact hf
  refine v_aload_n C dX3_readPut_10 rfl ?_
  refine v_getiQ (x := nI k.2.2.1) C fl_X3_101 oi_rS_0_12 (hK0.2.2.1) dX3_readPut_11 ?_
  have J39 : ∀ r1 : G, RS b len (if 0 < k.2.2.1 then failS 1 st else whenS (decide (20 < k.1 + 1)) 4 st) r1 → FB r0 r1 → V X (rS (xK X) h) 39 [some (.ref (h 0)), none, none] [] (r1, s, m) 0 0 := by
    intro r1 hW hF
    refine v_aload_n C dX3_readPut_39 rfl ?_
    refine v_iconst (v := nI 0) C dX3_readPut_40 (by decide) ?_
    refine v_callVi C (c_X3_readPlace hl (n := n) (lo := 0) hW.ra (by omega) hn hn1 h96) ym_X3_readPlace ml_X3_139 emb_id_rS rfl rfl rfl rfl rfl dX3_readPut_41 (Nat.le_of_ble_eq_true rfl) (Nat.le_of_ble_eq_true rfl) (Nat.le_of_ble_eq_true rfl) (Nat.le_of_ble_eq_true rfl) (fun _ _ hu => hu.elim) (fun r u hu => ?_)
    rcases u with ⟨r2, s2, m2⟩
    obtain ⟨rfl, hy, hR2, hF2⟩ := hu
    obtain ⟨he1, he2⟩ := Prod.mk.inj (show (s2, m2) = _ from hy)
    subst s2 m2
    have hR2 : RS b len (put1 b len n st k).1 r2 := hR2
    show V X _ _ _ (Value.int (nI (put1 b len n st k).2) :: _) _ _ _
    obtain ⟨p1, hp1⟩ : ∃ x, EqH x (put1 b len n st k).2 := ⟨_, rfl⟩
    have hp1e : (put1 b len n st k).2 = p1 := Eq.symm hp1
    rw [hp1e]
    clear hp1e
    have rg1 := (numS_h (Nat.zero_le _) hp1).2
    refine v_istore_n C (lo2 := [some _, some _, none]) dX3_readPut_44 rfl (Nat.le_of_ble_eq_true rfl) rfl ?_
    refine v_aload_n C dX3_readPut_45 rfl ?_
    refine v_iload_n C dX3_readPut_46 rfl ?_
    refine v_aload_n C dX3_readPut_47 rfl ?_
    refine v_iconst (v := nI 0) C dX3_readPut_48 (by decide) ?_
    refine v_sipush (v := nI 255) C dX3_readPut_49 (by decide) ?_
    refine v_callVi C (c_X3_readNumber hl (lo := 0) (hi := 255) hR2.ra (by omega) (by omega)) ym_X3_readNumber ml_X3_133 emb_id_rS rfl rfl rfl rfl rfl dX3_readPut_52 (Nat.le_of_ble_eq_true rfl) (Nat.le_of_ble_eq_true rfl) (Nat.le_of_ble_eq_true rfl) (Nat.le_of_ble_eq_true rfl) (fun _ _ hu => hu.elim) (fun r u hu => ?_)
    rcases u with ⟨r3, s3, m3⟩
    obtain ⟨rfl, hy, hR3, hF3⟩ := hu
    obtain ⟨he1, he2⟩ := Prod.mk.inj (show (s3, m3) = _ from hy)
    subst s3 m3
    have hR3 : RS b len (put2 b len n st k).1 r3 := hR3
    show V X _ _ _ (Value.int (nI (put2 b len n st k).2) :: _) _ _ _
    obtain ⟨p2, hp2⟩ : ∃ x, EqH x (put2 b len n st k).2 := ⟨_, rfl⟩
    have hp2e : (put2 b len n st k).2 = p2 := Eq.symm hp2
    rw [hp2e]
    clear hp2e
    have rg2 := (numS_h (Nat.zero_le _) hp2).2
    refine v_callVv C (c_X3_putByte hl (n := n) (p := p1) (v := p2) hR3 (by omega) hn hn1 h96) ym_X3_putByte ml_X3_143 emb_id_rS rfl rfl rfl rfl rfl dX3_readPut_55 (Nat.le_of_ble_eq_true rfl) (Nat.le_of_ble_eq_true rfl) (Nat.le_of_ble_eq_true rfl) (Nat.le_of_ble_eq_true rfl) (fun _ _ hu => hu.elim) (fun r u hu => ?_)
    rcases u with ⟨r4, s4, m4⟩
    obtain ⟨hy, hR4, hF4⟩ := hu
    obtain ⟨he1, he2⟩ := Prod.mk.inj (show (s4, m4) = _ from hy)
    subst s4 m4
    have hR4 : RS b len (putS n p1 p2 (put2 b len n st k).1 m).1 r4 := hR4
    have h407 : (putS n p1 p2 (put2 b len n st k).1 m).2 0 7 = nI n := (putS_07 (n := n)).trans hn
    refine v_aload_n C dX3_readPut_58 rfl ?_
    refine v_callVv C (c_X3_advance hl hR4.ra) ym_X3_advance ml_X3_49 emb_id_rS rfl rfl rfl rfl rfl dX3_readPut_59 (Nat.le_of_ble_eq_true rfl) (Nat.le_of_ble_eq_true rfl) (Nat.le_of_ble_eq_true rfl) (Nat.le_of_ble_eq_true rfl) (fun _ _ hu => hu.elim) (fun r u hu => ?_)
    rcases u with ⟨r5, s5, m5⟩
    obtain ⟨hy, hR5, hF5⟩ := hu
    obtain ⟨he1, he2⟩ := Prod.mk.inj (show (s5, m5) = _ from hy)
    subst s5 m5
    refine v_iconst (v := nI 1) C dX3_readPut_62 (by decide) ?_
    refine v_istore_n C (lo2 := [some _, some _, some _]) dX3_readPut_63 rfl (Nat.le_of_ble_eq_true rfl) rfl ?_
    have L64 : ∀ (t : Nat × G × St × Mg), (fun t => t.1 ≤ 700 ∧ RS b len t.2.2.1 t.2.1 ∧ FB r0 t.2.1 ∧ t.2.2.2 0 7 = nI n ∧ putF b len n p1 (700 - t.1) t.1 t.2.2.1 t.2.2.2 = putF b len n p1 699 1 (advS b len (putS n p1 p2 (put2 b len n st k).1 m).1) (putS n p1 p2 (put2 b len n st k).1 m).2) t → (fun t : Nat × G × St × Mg => V X (rS (xK X) h) 64 [some (.ref (h 0)), some (.int (nI p1)), some (.int (nI t.1))] [] (t.2.1, s, t.2.2.2) 0 0) t := by
      refine v_ind (fun t : Nat × G × St × Mg => 700 - t.1) ?_
      rintro ⟨i, rr, sx, mx⟩ ih64 hI64
      try dsimp only at hI64 ⊢
      obtain ⟨i1, hRx, i2, hmx, i3⟩ := hI64
      have hk4 := hRx.2.2.2.2.2.1
      refine v_iload_n C dX3_readPut_64 rfl ?_
      refine v_sipush (v := nI 700) C dX3_readPut_65 (by decide) ?_
      first | refine v_icmp_geN C 122 dX3_readPut_68 (by decide) (by omega) (by omega) (fun c68 => ?_) (fun c68 => ?_) | refine v_icmp_ge C 122 dX3_readPut_68 (by decide) (fun c68 => ?_) (fun c68 => ?_)
      · have hz : putF b len n p1 (700 - i) i sx mx = (sx, mx) := by
          rw [show 700 - i = 0 by omega]
          rfl
        refine v_vret C F dX3_readPut_122 (Nat.le_of_ble_eq_true rfl) (Nat.le_of_ble_eq_true rfl) ?_
        rw [hz] at i3
        exact RXP_put hp1 hp2 i3.symm hRx (hK0.fb i2) (i2.2.1.trans hf0) rfl
      · refine v_aload_n C dX3_readPut_71 rfl ?_
        refine v_getiQ (x := nI sx.2.1) C fl_X3_40 oi_rS_0_3 (hRx.2.2.2.1.2.2.1) dX3_readPut_72 ?_
        refine v_if_ne C 122 dX3_readPut_75 (by decide) (fun c75 => ?_) (fun c75 => ?_)
        · have hz : putF b len n p1 (700 - i) i sx mx = (sx, mx) := by
            rw [show 700 - i = (700 - (i + 1)) + 1 by omega]
            exact putF_e (by rw [(ok_n c75).1]; rfl)
          refine v_vret C F dX3_readPut_122 (Nat.le_of_ble_eq_true rfl) (Nat.le_of_ble_eq_true rfl) ?_
          rw [hz] at i3
          exact RXP_put hp1 hp2 i3.symm hRx (hK0.fb i2) (i2.2.1.trans hf0) rfl
        · have ho := (ok_z hRx.2.2.2.1.1 c75).1
          refine v_aload_n C dX3_readPut_78 rfl ?_
          refine v_getiQ (x := nI sx.1.1) C fl_X3_43 oi_rS_0_6 (hRx.2.2.2.2.1.1) dX3_readPut_79 ?_
          refine v_iconst (v := nI 2) C dX3_readPut_82 (by decide) ?_
          first | refine v_icmp_neN C 122 dX3_readPut_83 (by decide) (by omega) (by omega) (fun c83 => ?_) (fun c83 => ?_) | refine v_icmp_ne C 122 dX3_readPut_83 (by decide) (fun c83 => ?_) (fun c83 => ?_)
          · have hz : putF b len n p1 (700 - i) i sx mx = (sx, mx) := by
              rw [show 700 - i = (700 - (i + 1)) + 1 by omega]
              exact putF_e (by rw [decide_eq_false c83, Bool.and_false])
            refine v_vret C F dX3_readPut_122 (Nat.le_of_ble_eq_true rfl) (Nat.le_of_ble_eq_true rfl) ?_
            rw [hz] at i3
            exact RXP_put hp1 hp2 i3.symm hRx (hK0.fb i2) (i2.2.1.trans hf0) rfl
          · have hv := hRx.2.2.2.2.2.2.2.2 c83
            have hz : putF b len n p1 (700 - i) i sx mx = putF b len n p1 (700 - (i + 1)) (i + 1) (advS b len (putS n (p1 + i) sx.1.2.2.2 (whenS (decide (255 < sx.1.2.2.2)) 2 sx) mx).1) (putS n (p1 + i) sx.1.2.2.2 (whenS (decide (255 < sx.1.2.2.2)) 2 sx) mx).2 := by
              rw [show 700 - i = (700 - (i + 1)) + 1 by omega]
              exact putF_t (by rw [ho, decide_eq_true c83]; rfl)
            refine v_aload_n C dX3_readPut_86 rfl ?_
            refine v_getiQ (x := nI sx.1.2.2.2) C fl_X3_136 oi_rS_0_9 (hRx.2.2.2.2.1.2.2.2 c83) dX3_readPut_87 ?_
            refine v_sipush (v := nI 255) C dX3_readPut_90 (by decide) ?_
            have J101 : ∀ r7 : G, RS b len (whenS (decide (255 < sx.1.2.2.2)) 2 sx) r7 → FB rr r7 → r7 0 9 = nI sx.1.2.2.2 → V X (rS (xK X) h) 101 [some (.ref (h 0)), some (.int (nI p1)), some (.int (nI i))] [] (r7, s, mx) 0 0 := by
              intro r7 hV hG hN
              refine v_aload_n C dX3_readPut_101 rfl ?_
              refine v_iload_n C dX3_readPut_102 rfl ?_
              refine v_iload_n C dX3_readPut_103 rfl ?_
              first | refine v_iaddN C dX3_readPut_104 ?_ | refine v_iadd C dX3_readPut_104 ?_
              refine v_aload_n C dX3_readPut_105 rfl ?_
              refine v_getiQ (x := nI sx.1.2.2.2) C fl_X3_136 oi_rS_0_9 (hN) dX3_readPut_106 ?_
              refine v_callVv C (c_X3_putByte hl (n := n) (p := p1 + i) (v := sx.1.2.2.2) hV (by omega) hmx hn1 h96) ym_X3_putByte ml_X3_143 emb_id_rS rfl rfl rfl rfl rfl dX3_readPut_109 (Nat.le_of_ble_eq_true rfl) (Nat.le_of_ble_eq_true rfl) (Nat.le_of_ble_eq_true rfl) (Nat.le_of_ble_eq_true rfl) (fun _ _ hu => hu.elim) (fun r u hu => ?_)
              rcases u with ⟨r8, s8, m8⟩
              obtain ⟨hy, hR8, hF8⟩ := hu
              obtain ⟨he1, he2⟩ := Prod.mk.inj (show (s8, m8) = _ from hy)
              subst s8 m8
              refine v_aload_n C dX3_readPut_112 rfl ?_
              refine v_callVv C (c_X3_advance hl hR8.ra) ym_X3_advance ml_X3_49 emb_id_rS rfl rfl rfl rfl rfl dX3_readPut_113 (Nat.le_of_ble_eq_true rfl) (Nat.le_of_ble_eq_true rfl) (Nat.le_of_ble_eq_true rfl) (Nat.le_of_ble_eq_true rfl) (fun _ _ hu => hu.elim) (fun r u hu => ?_)
              rcases u with ⟨r9, s9, m9⟩
              obtain ⟨hy, hR9, hF9⟩ := hu
              obtain ⟨he1, he2⟩ := Prod.mk.inj (show (s9, m9) = _ from hy)
              subst s9 m9
              first | refine v_iinc1 C (lo2 := [some _, some _, some _]) dX3_readPut_116 rfl rfl rfl ?_ | refine v_iinc C (lo2 := [some _, some _, some _]) dX3_readPut_116 rfl rfl rfl rfl ?_
              refine v_goto C 64 dX3_readPut_119 (by decide) ?_
              rw [hz] at i3
              exact ih64 (i + 1, r9, advS b len (putS n (p1 + i) sx.1.2.2.2 (whenS (decide (255 < sx.1.2.2.2)) 2 sx) mx).1, (putS n (p1 + i) sx.1.2.2.2 (whenS (decide (255 < sx.1.2.2.2)) 2 sx) mx).2) (by show 700 - (i + 1) < 700 - i; omega) ⟨by show i + 1 ≤ 700; omega, hR9, i2.tr ((hG.tr hF8).tr hF9), (putS_07 (n := n)).trans hmx, i3⟩
            first | refine v_icmp_leN C 101 dX3_readPut_93 (by decide) (by omega) (by omega) (fun c93 => ?_) (fun c93 => ?_) | refine v_icmp_le C 101 dX3_readPut_93 (by decide) (fun c93 => ?_) (fun c93 => ?_)
            · have hV : RS b len (whenS (decide (255 < sx.1.2.2.2)) 2 sx) rr := by
                rw [whenS_f (by simp; omega)]
                exact hRx
              have hG := FB.rf (r := rr)
              have hN := hRx.2.2.2.2.1.2.2.2 c83
              exact J101 _ hV hG hN
            · refine v_aload_n C dX3_readPut_96 rfl ?_
              refine v_iconst (v := nI 2) C dX3_readPut_97 (by decide) ?_
              refine v_callVv C (c_X3_fail hl (cd := 2) hRx (by omega) (by omega)) ym_X3_fail ml_X3_46 emb_id_rS rfl rfl rfl rfl rfl dX3_readPut_98 (Nat.le_of_ble_eq_true rfl) (Nat.le_of_ble_eq_true rfl) (Nat.le_of_ble_eq_true rfl) (Nat.le_of_ble_eq_true rfl) (fun _ _ hu => hu.elim) (fun r u hu => ?_)
              rcases u with ⟨r7, s7, m7⟩
              obtain ⟨hy, hR7, hF7⟩ := hu
              obtain ⟨he1, he2⟩ := Prod.mk.inj (show (s7, m7) = _ from hy)
              subst s7 m7
              have hV : RS b len (whenS (decide (255 < sx.1.2.2.2)) 2 sx) r7 := by
                rw [whenS_t (by simp; omega)]
                exact hR7
              have hG := hF7
              have hN : r7 0 9 = nI sx.1.2.2.2 := by
                have z := hV.2.2.2.2.1
                rw [whenS_1] at z
                exact z.2.2.2 c83
              exact J101 _ hV hG hN
    exact L64 (1, r5, advS b len (putS n p1 p2 (put2 b len n st k).1 m).1, (putS n p1 p2 (put2 b len n st k).1 m).2) ⟨by show 1 ≤ 700; omega, hR5, (((hF.tr hF2).tr hF3).tr hF4).tr hF5, h407, rfl⟩
  refine v_if_le C 25 dX3_readPut_14 (by decide) (fun c14 => ?_) (fun c14 => ?_)
  · rw [nI_toInt (by omega)] at c14
    have c14 : ¬ 0 < k.2.2.1 := by omega
    refine v_aload_n C dX3_readPut_25 rfl ?_
    refine v_getiQ (x := nI (k.1 + 1)) C fl_X3_95 oi_rS_0_10 (hK0.1) dX3_readPut_26 ?_
    refine v_bipush (v := nI 20) C dX3_readPut_29 (by decide) ?_
    first | refine v_icmp_leN C 39 dX3_readPut_31 (by decide) (by omega) (by omega) (fun c31 => ?_) (fun c31 => ?_) | refine v_icmp_le C 39 dX3_readPut_31 (by decide) (fun c31 => ?_) (fun c31 => ?_)
    · have hW : RS b len (if 0 < k.2.2.1 then failS 1 st else whenS (decide (20 < k.1 + 1)) 4 st) r0 := by
        rw [if_neg c14, whenS_f (by simp; omega)]
        exact hR0
      have hF := FB.rf (r := r0)
      exact J39 _ hW hF
    · refine v_aload_n C dX3_readPut_34 rfl ?_
      refine v_iconst (v := nI 4) C dX3_readPut_35 (by decide) ?_
      refine v_callVv C (c_X3_fail hl (cd := 4) hR0 (by omega) (by omega)) ym_X3_fail ml_X3_46 emb_id_rS rfl rfl rfl rfl rfl dX3_readPut_36 (Nat.le_of_ble_eq_true rfl) (Nat.le_of_ble_eq_true rfl) (Nat.le_of_ble_eq_true rfl) (Nat.le_of_ble_eq_true rfl) (fun _ _ hu => hu.elim) (fun r u hu => ?_)
      rcases u with ⟨r1, s1, m1⟩
      obtain ⟨hy, hR1, hF1⟩ := hu
      obtain ⟨he1, he2⟩ := Prod.mk.inj (show (s1, m1) = _ from hy)
      subst s1 m1
      have hW : RS b len (if 0 < k.2.2.1 then failS 1 st else whenS (decide (20 < k.1 + 1)) 4 st) r1 := by
        rw [if_neg c14, whenS_t (by simp; omega)]
        exact hR1
      have hF := hF1
      exact J39 _ hW hF
  · rw [nI_toInt (by omega)] at c14
    have c14 : 0 < k.2.2.1 := by omega
    refine v_aload_n C dX3_readPut_17 rfl ?_
    refine v_iconst (v := nI 1) C dX3_readPut_18 (by decide) ?_
    refine v_callVv C (c_X3_fail hl (cd := 1) hR0 (by omega) (by omega)) ym_X3_fail ml_X3_46 emb_id_rS rfl rfl rfl rfl rfl dX3_readPut_19 (Nat.le_of_ble_eq_true rfl) (Nat.le_of_ble_eq_true rfl) (Nat.le_of_ble_eq_true rfl) (Nat.le_of_ble_eq_true rfl) (fun _ _ hu => hu.elim) (fun r u hu => ?_)
    rcases u with ⟨r1, s1, m1⟩
    obtain ⟨hy, hR1, hF1⟩ := hu
    obtain ⟨he1, he2⟩ := Prod.mk.inj (show (s1, m1) = _ from hy)
    subst s1 m1
    have hW : RS b len (if 0 < k.2.2.1 then failS 1 st else whenS (decide (20 < k.1 + 1)) 4 st) r1 := by
      rw [if_pos c14]
      exact hR1
    have hF := hF1
    refine v_goto C 39 dX3_readPut_22 (by decide) ?_
    exact J39 _ hW hF

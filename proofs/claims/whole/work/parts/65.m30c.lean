set_option maxHeartbeats 1000000 in
theorem k_32 {X : Cx} {kc ks : Nat} (hl : (xl X).stackTraces = false) (C : Ok SS MM X RL cL_law 9 30 kc ks) {b L : Nat} {w : Nat → Int32} (Z : Lok X b L w) {h : Nat → Nat} {j : Nat} (hj : 6 * j + 6 ≤ L) (hL : L ≤ 3072) {c : Cg} {o : Nat → Int64} {dd : Nat → UInt64} {q : G} (I : INV (20 + j) c q) {k n : Nat} (hk : k + 6 ≤ kc) (hn : n + 36 ≤ ks) (back : ∀ c2 o2 d2 q2, INV (20 + j + 1) c2 q2 → V X (lS (xK X) h) 3915 [some (.ref b), some (.ref (h 0)), some (.ref (sh 126 h 0)), some (.ref (h 124)), some (.ref (h 125)), some (.int (nI (6 * j))), none, none, none] [] (c2, o2, d2, q2) (k + 6) (n + 36)) : V X (lS (xK X) h) 1994 [some (.ref b), some (.ref (h 0)), some (.ref (sh 126 h 0)), some (.ref (h 124)), some (.ref (h 125)), some (.int (nI (6 * j))), none, none, none] [] (c, o, dd, q) k n := by
  refine v_aload_n C dL_law_1994 rfl ?_
  refine v_aload_n C dL_law_1995 rfl ?_
  refine v_iload C dL_law_1996 rfl ?_
  refine v_iconst C dL_law_1998 (v := nI 1) (by decide) ?_
  refine v_iaddN C dL_law_1999 ?_
  refine v_sld C Z (6 * j + 1) rfl (by omega) hL dL_law_2000 ?_
  refine v_aload_n C dL_law_2001 rfl ?_
  refine v_iload C dL_law_2002 rfl ?_
  refine v_iconst C dL_law_2004 (v := nI 2) (by decide) ?_
  refine v_iaddN C dL_law_2005 ?_
  refine v_sld C Z (6 * j + 2) rfl (by omega) hL dL_law_2006 ?_
  refine v_aload_n C dL_law_2007 rfl ?_
  refine v_iload C dL_law_2008 rfl ?_
  refine v_iconst C dL_law_2010 (v := nI 3) (by decide) ?_
  refine v_iaddN C dL_law_2011 ?_
  refine v_sld C Z (6 * j + 3) rfl (by omega) hL dL_law_2012 ?_
  refine v_aload_n C dL_law_2013 rfl ?_
  obtain ⟨dM, mc, ms, dq, post, px, pq, ⟨a1, a2, a3, a4⟩, M, Mq, hE, ⟨J1, J2⟩, hP⟩ := s_forcedByCopy hl (κ := xK X) (h := h) (by omega) I (w (6 * j + 1)) (w (6 * j + 2)) (w (6 * j + 3))
  refine v_callSH C (hc_forcedByCopy hl (κ := xK X) (h := h) (c := c) (o := o) (dd := dd) (q := q) a1 a2 a3 M hE) ysh_L_forcedByCopy rfl ml_L_312 emb_id_lS rfl rfl rfl dL_law_2014 (Nat.le_of_ble_eq_true rfl) hk hn (Nat.le_of_ble_eq_true rfl) (fun _ _ hz => hz.elim) (fun r u hu => ?_)
  rcases hu with ⟨v, c2, hp, rfl, rfl⟩ | ⟨e, c2, i, hp, hi, rfl, rfl⟩
  · skip
    refine v_istore C dL_law_2017 rfl (Nat.le_of_ble_eq_true rfl) rfl ?_
    refine v_aload_n C dL_law_2019 rfl ?_
    refine v_aload_n C dL_law_2020 rfl ?_
    refine v_iload C dL_law_2021 rfl ?_
    refine v_iconst C dL_law_2023 (v := nI 1) (by decide) ?_
    refine v_iaddN C dL_law_2024 ?_
    refine v_sld C Z (6 * j + 1) rfl (by omega) hL dL_law_2025 ?_
    refine v_aload_n C dL_law_2026 rfl ?_
    refine v_iload C dL_law_2027 rfl ?_
    refine v_iconst C dL_law_2029 (v := nI 2) (by decide) ?_
    refine v_iaddN C dL_law_2030 ?_
    refine v_sld C Z (6 * j + 2) rfl (by omega) hL dL_law_2031 ?_
    refine v_aload_n C dL_law_2032 rfl ?_
    refine v_iload C dL_law_2033 rfl ?_
    refine v_iconst C dL_law_2035 (v := nI 3) (by decide) ?_
    refine v_iaddN C dL_law_2036 ?_
    refine v_sld C Z (6 * j + 3) rfl (by omega) hL dL_law_2037 ?_
    refine v_callVi C Mq ym_X6_forcedByCopy ml_L_314 emb_l_q rfl rfl rfl rfl rfl dL_law_2038 (by omega) (by omega) (by omega) (Nat.le_of_ble_eq_true rfl) (fun _ _ hz => hz.elim) (fun r2 u2 hq => ?_)
    obtain ⟨t0, rfl, hIV⟩ := J1 _ _ _ _ hp hq
    refine V.stt (g2 := (c2, vp_updL o 0 (cvI v), dd, u2)) rfl ?_
    refine v_istore C dL_law_2041 rfl (Nat.le_of_ble_eq_true rfl) rfl ?_
    refine v_aload_n C dL_law_2043 rfl ?_
    refine v_callVi C (c_X6_thrown hl t0) ym_X6_thrown ml_L_211 emb_l_q rfl rfl rfl rfl rfl dL_law_2044 (Nat.le_of_ble_eq_true rfl) (by omega) (by omega) (Nat.le_of_ble_eq_true rfl) (fun _ _ hz => hz.elim) (fun r3 u3 hr => ?_)
    obtain ⟨hr, rfl⟩ := hr
    subst hr
    refine V.stt (g2 := (c2, vp_updL o 0 (cvI v), dd, u3)) rfl ?_
    refine v_iload C dL_law_2047 rfl ?_
    refine v_icmp_eq C 2054 dL_law_2049 (by decide) (fun _ => ?_) (fun z => absurd rfl z)
    refine v_iload C dL_law_2054 rfl ?_
    refine v_if_ne C 2071 dL_law_2056 (by decide) (fun z => absurd (by decide) z) (fun _ => ?_)
    refine v_aload_n C dL_law_2059 rfl ?_
    refine v_iconst C dL_law_2060 (v := nI 0) (by decide) ?_
    refine v_lald C aj_l (by decide) 0 (by decide) rfl dL_law_2061 ?_
    refine v_iload C dL_law_2062 rfl ?_
    refine v_i2l C dL_law_2064 rfl ?_
    refine v_lcmp C dL_law_2065 ?_
    refine v_if_eq C 2071 dL_law_2066 (by decide) (fun _ => ?_) (fun z => absurd (lg_out (o := o) (x := cvI v) (y := v.toInt64) rfl) z)
    refine v_goto C 3915 dL_law_2071 (by decide) ?_
    refine V.sub (lo2 := [some (.ref b), some (.ref (h 0)), some (.ref (sh 126 h 0)), some (.ref (h 124)), some (.ref (h 125)), some (.int (nI (6 * j))), none, none, none]) ⟨rfl, rfl, rfl, rfl, rfl, rfl, trivial⟩ ?_
    exact back _ _ _ _ hIV
  · skip
    refine v_istore C dL_law_2017 rfl (Nat.le_of_ble_eq_true rfl) rfl ?_
    refine v_aload_n C dL_law_2019 rfl ?_
    refine v_aload_n C dL_law_2020 rfl ?_
    refine v_iload C dL_law_2021 rfl ?_
    refine v_iconst C dL_law_2023 (v := nI 1) (by decide) ?_
    refine v_iaddN C dL_law_2024 ?_
    refine v_sld C Z (6 * j + 1) rfl (by omega) hL dL_law_2025 ?_
    refine v_aload_n C dL_law_2026 rfl ?_
    refine v_iload C dL_law_2027 rfl ?_
    refine v_iconst C dL_law_2029 (v := nI 2) (by decide) ?_
    refine v_iaddN C dL_law_2030 ?_
    refine v_sld C Z (6 * j + 2) rfl (by omega) hL dL_law_2031 ?_
    refine v_aload_n C dL_law_2032 rfl ?_
    refine v_iload C dL_law_2033 rfl ?_
    refine v_iconst C dL_law_2035 (v := nI 3) (by decide) ?_
    refine v_iaddN C dL_law_2036 ?_
    refine v_sld C Z (6 * j + 3) rfl (by omega) hL dL_law_2037 ?_
    refine v_callVi C Mq ym_X6_forcedByCopy ml_L_314 emb_l_q rfl rfl rfl rfl rfl dL_law_2038 (by omega) (by omega) (by omega) (Nat.le_of_ble_eq_true rfl) (fun _ _ hz => hz.elim) (fun r2 u2 hq => ?_)
    obtain ⟨i2, h2, hi3, t0, hIV⟩ := J2 _ _ _ _ hp hq
    obtain rfl := EL_inj nd_SA hi h2
    refine V.stt (g2 := (c2, o, dd, u2)) rfl ?_
    refine v_istore C dL_law_2041 rfl (Nat.le_of_ble_eq_true rfl) rfl ?_
    refine v_aload_n C dL_law_2043 rfl ?_
    refine v_callVi C (c_X6_thrown hl t0) ym_X6_thrown ml_L_211 emb_l_q rfl rfl rfl rfl rfl dL_law_2044 (Nat.le_of_ble_eq_true rfl) (by omega) (by omega) (Nat.le_of_ble_eq_true rfl) (fun _ _ hz => hz.elim) (fun r3 u3 hr => ?_)
    obtain ⟨hr, rfl⟩ := hr
    subst hr
    refine V.stt (g2 := (c2, o, dd, u3)) rfl ?_
    refine v_iload C dL_law_2047 rfl ?_
    refine v_icmp_eq C 2054 dL_law_2049 (by decide) (fun _ => ?_) (fun z => absurd rfl z)
    refine v_iload C dL_law_2054 rfl ?_
    refine v_if_ne C 2071 dL_law_2056 (by decide) (fun _ => ?_) (fun z => absurd z (nI_pos3 hi3))
    refine v_goto C 3915 dL_law_2071 (by decide) ?_
    refine V.sub (lo2 := [some (.ref b), some (.ref (h 0)), some (.ref (sh 126 h 0)), some (.ref (h 124)), some (.ref (h 125)), some (.int (nI (6 * j))), none, none, none]) ⟨rfl, rfl, rfl, rfl, rfl, rfl, trivial⟩ ?_
    exact back _ _ _ _ hIV
set_option maxHeartbeats 1000000 in
theorem k_33 {X : Cx} {kc ks : Nat} (hl : (xl X).stackTraces = false) (C : Ok SS MM X RL cL_law 9 30 kc ks) {b L : Nat} {w : Nat → Int32} (Z : Lok X b L w) {h : Nat → Nat} {j : Nat} (hj : 6 * j + 6 ≤ L) (hL : L ≤ 3072) {c : Cg} {o : Nat → Int64} {dd : Nat → UInt64} {q : G} (I : INV (20 + j) c q) {k n : Nat} (hk : k + 6 ≤ kc) (hn : n + 36 ≤ ks) (back : ∀ c2 o2 d2 q2, INV (20 + j + 1) c2 q2 → V X (lS (xK X) h) 3915 [some (.ref b), some (.ref (h 0)), some (.ref (sh 126 h 0)), some (.ref (h 124)), some (.ref (h 125)), some (.int (nI (6 * j))), none, none, none] [] (c2, o2, d2, q2) (k + 6) (n + 36)) : V X (lS (xK X) h) 2074 [some (.ref b), some (.ref (h 0)), some (.ref (sh 126 h 0)), some (.ref (h 124)), some (.ref (h 125)), some (.int (nI (6 * j))), none, none, none] [] (c, o, dd, q) k n := by
  refine v_aload_n C dL_law_2074 rfl ?_
  refine v_aload_n C dL_law_2075 rfl ?_
  refine v_iload C dL_law_2076 rfl ?_
  refine v_iconst C dL_law_2078 (v := nI 1) (by decide) ?_
  refine v_iaddN C dL_law_2079 ?_
  refine v_sld C Z (6 * j + 1) rfl (by omega) hL dL_law_2080 ?_
  refine v_aload_n C dL_law_2081 rfl ?_
  refine v_iload C dL_law_2082 rfl ?_
  refine v_iconst C dL_law_2084 (v := nI 2) (by decide) ?_
  refine v_iaddN C dL_law_2085 ?_
  refine v_sld C Z (6 * j + 2) rfl (by omega) hL dL_law_2086 ?_
  refine v_aload_n C dL_law_2087 rfl ?_
  refine v_iload C dL_law_2088 rfl ?_
  refine v_iconst C dL_law_2090 (v := nI 3) (by decide) ?_
  refine v_iaddN C dL_law_2091 ?_
  refine v_sld C Z (6 * j + 3) rfl (by omega) hL dL_law_2092 ?_
  refine v_aload_n C dL_law_2093 rfl ?_
  obtain ⟨dM, mc, ms, dq, post, px, pq, ⟨a1, a2, a3, a4⟩, M, Mq, hE, ⟨J1, J2⟩, hP⟩ := s_owedIfCopy hl (κ := xK X) (h := h) (by omega) I (w (6 * j + 1)) (w (6 * j + 2)) (w (6 * j + 3))
  refine v_callSH C (hc_owedIfCopy hl (κ := xK X) (h := h) (c := c) (o := o) (dd := dd) (q := q) a1 a2 a3 M hE) ysh_L_owedIfCopy rfl ml_L_315 emb_id_lS rfl rfl rfl dL_law_2094 (Nat.le_of_ble_eq_true rfl) hk hn (Nat.le_of_ble_eq_true rfl) (fun _ _ hz => hz.elim) (fun r u hu => ?_)
  rcases hu with ⟨v, c2, hp, rfl, rfl⟩ | ⟨e, c2, i, hp, hi, rfl, rfl⟩
  · skip
    refine v_istore C dL_law_2097 rfl (Nat.le_of_ble_eq_true rfl) rfl ?_
    refine v_aload_n C dL_law_2099 rfl ?_
    refine v_aload_n C dL_law_2100 rfl ?_
    refine v_iload C dL_law_2101 rfl ?_
    refine v_iconst C dL_law_2103 (v := nI 1) (by decide) ?_
    refine v_iaddN C dL_law_2104 ?_
    refine v_sld C Z (6 * j + 1) rfl (by omega) hL dL_law_2105 ?_
    refine v_aload_n C dL_law_2106 rfl ?_
    refine v_iload C dL_law_2107 rfl ?_
    refine v_iconst C dL_law_2109 (v := nI 2) (by decide) ?_
    refine v_iaddN C dL_law_2110 ?_
    refine v_sld C Z (6 * j + 2) rfl (by omega) hL dL_law_2111 ?_
    refine v_aload_n C dL_law_2112 rfl ?_
    refine v_iload C dL_law_2113 rfl ?_
    refine v_iconst C dL_law_2115 (v := nI 3) (by decide) ?_
    refine v_iaddN C dL_law_2116 ?_
    refine v_sld C Z (6 * j + 3) rfl (by omega) hL dL_law_2117 ?_
    refine v_callVi C Mq ym_X6_owedIfCopy ml_L_317 emb_l_q rfl rfl rfl rfl rfl dL_law_2118 (by omega) (by omega) (by omega) (Nat.le_of_ble_eq_true rfl) (fun _ _ hz => hz.elim) (fun r2 u2 hq => ?_)
    obtain ⟨t0, rfl, hIV⟩ := J1 _ _ _ _ hp hq
    refine V.stt (g2 := (c2, vp_updL o 0 (cvI v), dd, u2)) rfl ?_
    refine v_istore C dL_law_2121 rfl (Nat.le_of_ble_eq_true rfl) rfl ?_
    refine v_aload_n C dL_law_2123 rfl ?_
    refine v_callVi C (c_X6_thrown hl t0) ym_X6_thrown ml_L_211 emb_l_q rfl rfl rfl rfl rfl dL_law_2124 (Nat.le_of_ble_eq_true rfl) (by omega) (by omega) (Nat.le_of_ble_eq_true rfl) (fun _ _ hz => hz.elim) (fun r3 u3 hr => ?_)
    obtain ⟨hr, rfl⟩ := hr
    subst hr
    refine V.stt (g2 := (c2, vp_updL o 0 (cvI v), dd, u3)) rfl ?_
    refine v_iload C dL_law_2127 rfl ?_
    refine v_icmp_eq C 2134 dL_law_2129 (by decide) (fun _ => ?_) (fun z => absurd rfl z)
    refine v_iload C dL_law_2134 rfl ?_
    refine v_if_ne C 2151 dL_law_2136 (by decide) (fun z => absurd (by decide) z) (fun _ => ?_)
    refine v_aload_n C dL_law_2139 rfl ?_
    refine v_iconst C dL_law_2140 (v := nI 0) (by decide) ?_
    refine v_lald C aj_l (by decide) 0 (by decide) rfl dL_law_2141 ?_
    refine v_iload C dL_law_2142 rfl ?_
    refine v_i2l C dL_law_2144 rfl ?_
    refine v_lcmp C dL_law_2145 ?_
    refine v_if_eq C 2151 dL_law_2146 (by decide) (fun _ => ?_) (fun z => absurd (lg_out (o := o) (x := cvI v) (y := v.toInt64) rfl) z)
    refine v_goto C 3915 dL_law_2151 (by decide) ?_
    refine V.sub (lo2 := [some (.ref b), some (.ref (h 0)), some (.ref (sh 126 h 0)), some (.ref (h 124)), some (.ref (h 125)), some (.int (nI (6 * j))), none, none, none]) ⟨rfl, rfl, rfl, rfl, rfl, rfl, trivial⟩ ?_
    exact back _ _ _ _ hIV
  · skip
    refine v_istore C dL_law_2097 rfl (Nat.le_of_ble_eq_true rfl) rfl ?_
    refine v_aload_n C dL_law_2099 rfl ?_
    refine v_aload_n C dL_law_2100 rfl ?_
    refine v_iload C dL_law_2101 rfl ?_
    refine v_iconst C dL_law_2103 (v := nI 1) (by decide) ?_
    refine v_iaddN C dL_law_2104 ?_
    refine v_sld C Z (6 * j + 1) rfl (by omega) hL dL_law_2105 ?_
    refine v_aload_n C dL_law_2106 rfl ?_
    refine v_iload C dL_law_2107 rfl ?_
    refine v_iconst C dL_law_2109 (v := nI 2) (by decide) ?_
    refine v_iaddN C dL_law_2110 ?_
    refine v_sld C Z (6 * j + 2) rfl (by omega) hL dL_law_2111 ?_
    refine v_aload_n C dL_law_2112 rfl ?_
    refine v_iload C dL_law_2113 rfl ?_
    refine v_iconst C dL_law_2115 (v := nI 3) (by decide) ?_
    refine v_iaddN C dL_law_2116 ?_
    refine v_sld C Z (6 * j + 3) rfl (by omega) hL dL_law_2117 ?_
    refine v_callVi C Mq ym_X6_owedIfCopy ml_L_317 emb_l_q rfl rfl rfl rfl rfl dL_law_2118 (by omega) (by omega) (by omega) (Nat.le_of_ble_eq_true rfl) (fun _ _ hz => hz.elim) (fun r2 u2 hq => ?_)
    obtain ⟨i2, h2, hi3, t0, hIV⟩ := J2 _ _ _ _ hp hq
    obtain rfl := EL_inj nd_SA hi h2
    refine V.stt (g2 := (c2, o, dd, u2)) rfl ?_
    refine v_istore C dL_law_2121 rfl (Nat.le_of_ble_eq_true rfl) rfl ?_
    refine v_aload_n C dL_law_2123 rfl ?_
    refine v_callVi C (c_X6_thrown hl t0) ym_X6_thrown ml_L_211 emb_l_q rfl rfl rfl rfl rfl dL_law_2124 (Nat.le_of_ble_eq_true rfl) (by omega) (by omega) (Nat.le_of_ble_eq_true rfl) (fun _ _ hz => hz.elim) (fun r3 u3 hr => ?_)
    obtain ⟨hr, rfl⟩ := hr
    subst hr
    refine V.stt (g2 := (c2, o, dd, u3)) rfl ?_
    refine v_iload C dL_law_2127 rfl ?_
    refine v_icmp_eq C 2134 dL_law_2129 (by decide) (fun _ => ?_) (fun z => absurd rfl z)
    refine v_iload C dL_law_2134 rfl ?_
    refine v_if_ne C 2151 dL_law_2136 (by decide) (fun _ => ?_) (fun z => absurd z (nI_pos3 hi3))
    refine v_goto C 3915 dL_law_2151 (by decide) ?_
    refine V.sub (lo2 := [some (.ref b), some (.ref (h 0)), some (.ref (sh 126 h 0)), some (.ref (h 124)), some (.ref (h 125)), some (.int (nI (6 * j))), none, none, none]) ⟨rfl, rfl, rfl, rfl, rfl, rfl, trivial⟩ ?_
    exact back _ _ _ _ hIV
set_option maxHeartbeats 1000000 in
theorem k_34 {X : Cx} {kc ks : Nat} (hl : (xl X).stackTraces = false) (C : Ok SS MM X RL cL_law 9 30 kc ks) {b L : Nat} {w : Nat → Int32} (Z : Lok X b L w) {h : Nat → Nat} {j : Nat} (hj : 6 * j + 6 ≤ L) (hL : L ≤ 3072) {c : Cg} {o : Nat → Int64} {dd : Nat → UInt64} {q : G} (I : INV (20 + j) c q) {k n : Nat} (hk : k + 6 ≤ kc) (hn : n + 36 ≤ ks) (back : ∀ c2 o2 d2 q2, INV (20 + j + 1) c2 q2 → V X (lS (xK X) h) 3915 [some (.ref b), some (.ref (h 0)), some (.ref (sh 126 h 0)), some (.ref (h 124)), some (.ref (h 125)), some (.int (nI (6 * j))), none, none, none] [] (c2, o2, d2, q2) (k + 6) (n + 36)) : V X (lS (xK X) h) 2154 [some (.ref b), some (.ref (h 0)), some (.ref (sh 126 h 0)), some (.ref (h 124)), some (.ref (h 125)), some (.int (nI (6 * j))), none, none, none] [] (c, o, dd, q) k n := by
  refine v_aload_n C dL_law_2154 rfl ?_
  refine v_aload_n C dL_law_2155 rfl ?_
  refine v_iload C dL_law_2156 rfl ?_
  refine v_iconst C dL_law_2158 (v := nI 1) (by decide) ?_
  refine v_iaddN C dL_law_2159 ?_
  refine v_sld C Z (6 * j + 1) rfl (by omega) hL dL_law_2160 ?_
  refine v_aload_n C dL_law_2161 rfl ?_
  refine v_iload C dL_law_2162 rfl ?_
  refine v_iconst C dL_law_2164 (v := nI 2) (by decide) ?_
  refine v_iaddN C dL_law_2165 ?_
  refine v_sld C Z (6 * j + 2) rfl (by omega) hL dL_law_2166 ?_
  refine v_aload_n C dL_law_2167 rfl ?_
  refine v_iload C dL_law_2168 rfl ?_
  refine v_iconst C dL_law_2170 (v := nI 3) (by decide) ?_
  refine v_iaddN C dL_law_2171 ?_
  refine v_sld C Z (6 * j + 3) rfl (by omega) hL dL_law_2172 ?_
  refine v_aload_n C dL_law_2173 rfl ?_
  obtain ⟨dM, mc, ms, dq, post, px, pq, ⟨a1, a2, a3, a4⟩, M, Mq, hE, ⟨J1, J2⟩, hP⟩ := s_costOfCopy hl (κ := xK X) (h := h) (by omega) I (w (6 * j + 1)) (w (6 * j + 2)) (w (6 * j + 3))
  refine v_callSH C (hc_costOfCopy hl (κ := xK X) (h := h) (c := c) (o := o) (dd := dd) (q := q) a1 a2 a3 M hE) ysh_L_costOfCopy rfl ml_L_318 emb_id_lS rfl rfl rfl dL_law_2174 (Nat.le_of_ble_eq_true rfl) hk hn (Nat.le_of_ble_eq_true rfl) (fun _ _ hz => hz.elim) (fun r u hu => ?_)
  rcases hu with ⟨v, c2, hp, rfl, rfl⟩ | ⟨e, c2, i, hp, hi, rfl, rfl⟩
  · skip
    refine v_istore C dL_law_2177 rfl (Nat.le_of_ble_eq_true rfl) rfl ?_
    refine v_aload_n C dL_law_2179 rfl ?_
    refine v_aload_n C dL_law_2180 rfl ?_
    refine v_iload C dL_law_2181 rfl ?_
    refine v_iconst C dL_law_2183 (v := nI 1) (by decide) ?_
    refine v_iaddN C dL_law_2184 ?_
    refine v_sld C Z (6 * j + 1) rfl (by omega) hL dL_law_2185 ?_
    refine v_aload_n C dL_law_2186 rfl ?_
    refine v_iload C dL_law_2187 rfl ?_
    refine v_iconst C dL_law_2189 (v := nI 2) (by decide) ?_
    refine v_iaddN C dL_law_2190 ?_
    refine v_sld C Z (6 * j + 2) rfl (by omega) hL dL_law_2191 ?_
    refine v_aload_n C dL_law_2192 rfl ?_
    refine v_iload C dL_law_2193 rfl ?_
    refine v_iconst C dL_law_2195 (v := nI 3) (by decide) ?_
    refine v_iaddN C dL_law_2196 ?_
    refine v_sld C Z (6 * j + 3) rfl (by omega) hL dL_law_2197 ?_
    refine v_callVi C Mq ym_X6_costOfCopy ml_L_320 emb_l_q rfl rfl rfl rfl rfl dL_law_2198 (by omega) (by omega) (by omega) (Nat.le_of_ble_eq_true rfl) (fun _ _ hz => hz.elim) (fun r2 u2 hq => ?_)
    obtain ⟨t0, rfl, hIV⟩ := J1 _ _ _ _ hp hq
    refine V.stt (g2 := (c2, vp_updL o 0 (cvI v), dd, u2)) rfl ?_
    refine v_istore C dL_law_2201 rfl (Nat.le_of_ble_eq_true rfl) rfl ?_
    refine v_aload_n C dL_law_2203 rfl ?_
    refine v_callVi C (c_X6_thrown hl t0) ym_X6_thrown ml_L_211 emb_l_q rfl rfl rfl rfl rfl dL_law_2204 (Nat.le_of_ble_eq_true rfl) (by omega) (by omega) (Nat.le_of_ble_eq_true rfl) (fun _ _ hz => hz.elim) (fun r3 u3 hr => ?_)
    obtain ⟨hr, rfl⟩ := hr
    subst hr
    refine V.stt (g2 := (c2, vp_updL o 0 (cvI v), dd, u3)) rfl ?_
    refine v_iload C dL_law_2207 rfl ?_
    refine v_icmp_eq C 2214 dL_law_2209 (by decide) (fun _ => ?_) (fun z => absurd rfl z)
    refine v_iload C dL_law_2214 rfl ?_
    refine v_if_ne C 2231 dL_law_2216 (by decide) (fun z => absurd (by decide) z) (fun _ => ?_)
    refine v_aload_n C dL_law_2219 rfl ?_
    refine v_iconst C dL_law_2220 (v := nI 0) (by decide) ?_
    refine v_lald C aj_l (by decide) 0 (by decide) rfl dL_law_2221 ?_
    refine v_iload C dL_law_2222 rfl ?_
    refine v_i2l C dL_law_2224 rfl ?_
    refine v_lcmp C dL_law_2225 ?_
    refine v_if_eq C 2231 dL_law_2226 (by decide) (fun _ => ?_) (fun z => absurd (lg_out (o := o) (x := cvI v) (y := v.toInt64) rfl) z)
    refine v_goto C 3915 dL_law_2231 (by decide) ?_
    refine V.sub (lo2 := [some (.ref b), some (.ref (h 0)), some (.ref (sh 126 h 0)), some (.ref (h 124)), some (.ref (h 125)), some (.int (nI (6 * j))), none, none, none]) ⟨rfl, rfl, rfl, rfl, rfl, rfl, trivial⟩ ?_
    exact back _ _ _ _ hIV
  · skip
    refine v_istore C dL_law_2177 rfl (Nat.le_of_ble_eq_true rfl) rfl ?_
    refine v_aload_n C dL_law_2179 rfl ?_
    refine v_aload_n C dL_law_2180 rfl ?_
    refine v_iload C dL_law_2181 rfl ?_
    refine v_iconst C dL_law_2183 (v := nI 1) (by decide) ?_
    refine v_iaddN C dL_law_2184 ?_
    refine v_sld C Z (6 * j + 1) rfl (by omega) hL dL_law_2185 ?_
    refine v_aload_n C dL_law_2186 rfl ?_
    refine v_iload C dL_law_2187 rfl ?_
    refine v_iconst C dL_law_2189 (v := nI 2) (by decide) ?_
    refine v_iaddN C dL_law_2190 ?_
    refine v_sld C Z (6 * j + 2) rfl (by omega) hL dL_law_2191 ?_
    refine v_aload_n C dL_law_2192 rfl ?_
    refine v_iload C dL_law_2193 rfl ?_
    refine v_iconst C dL_law_2195 (v := nI 3) (by decide) ?_
    refine v_iaddN C dL_law_2196 ?_
    refine v_sld C Z (6 * j + 3) rfl (by omega) hL dL_law_2197 ?_
    refine v_callVi C Mq ym_X6_costOfCopy ml_L_320 emb_l_q rfl rfl rfl rfl rfl dL_law_2198 (by omega) (by omega) (by omega) (Nat.le_of_ble_eq_true rfl) (fun _ _ hz => hz.elim) (fun r2 u2 hq => ?_)
    obtain ⟨i2, h2, hi3, t0, hIV⟩ := J2 _ _ _ _ hp hq
    obtain rfl := EL_inj nd_SA hi h2
    refine V.stt (g2 := (c2, o, dd, u2)) rfl ?_
    refine v_istore C dL_law_2201 rfl (Nat.le_of_ble_eq_true rfl) rfl ?_
    refine v_aload_n C dL_law_2203 rfl ?_
    refine v_callVi C (c_X6_thrown hl t0) ym_X6_thrown ml_L_211 emb_l_q rfl rfl rfl rfl rfl dL_law_2204 (Nat.le_of_ble_eq_true rfl) (by omega) (by omega) (Nat.le_of_ble_eq_true rfl) (fun _ _ hz => hz.elim) (fun r3 u3 hr => ?_)
    obtain ⟨hr, rfl⟩ := hr
    subst hr
    refine V.stt (g2 := (c2, o, dd, u3)) rfl ?_
    refine v_iload C dL_law_2207 rfl ?_
    refine v_icmp_eq C 2214 dL_law_2209 (by decide) (fun _ => ?_) (fun z => absurd rfl z)
    refine v_iload C dL_law_2214 rfl ?_
    refine v_if_ne C 2231 dL_law_2216 (by decide) (fun _ => ?_) (fun z => absurd z (nI_pos3 hi3))
    refine v_goto C 3915 dL_law_2231 (by decide) ?_
    refine V.sub (lo2 := [some (.ref b), some (.ref (h 0)), some (.ref (sh 126 h 0)), some (.ref (h 124)), some (.ref (h 125)), some (.int (nI (6 * j))), none, none, none]) ⟨rfl, rfl, rfl, rfl, rfl, rfl, trivial⟩ ?_
    exact back _ _ _ _ hIV
set_option maxHeartbeats 1000000 in
theorem k_35 {X : Cx} {kc ks : Nat} (hl : (xl X).stackTraces = false) (C : Ok SS MM X RL cL_law 9 30 kc ks) {b L : Nat} {w : Nat → Int32} (Z : Lok X b L w) {h : Nat → Nat} {j : Nat} (hj : 6 * j + 6 ≤ L) (hL : L ≤ 3072) {c : Cg} {o : Nat → Int64} {dd : Nat → UInt64} {q : G} (I : INV (20 + j) c q) {k n : Nat} (hk : k + 6 ≤ kc) (hn : n + 36 ≤ ks) (back : ∀ c2 o2 d2 q2, INV (20 + j + 1) c2 q2 → V X (lS (xK X) h) 3915 [some (.ref b), some (.ref (h 0)), some (.ref (sh 126 h 0)), some (.ref (h 124)), some (.ref (h 125)), some (.int (nI (6 * j))), none, none, none] [] (c2, o2, d2, q2) (k + 6) (n + 36)) : V X (lS (xK X) h) 2234 [some (.ref b), some (.ref (h 0)), some (.ref (sh 126 h 0)), some (.ref (h 124)), some (.ref (h 125)), some (.int (nI (6 * j))), none, none, none] [] (c, o, dd, q) k n := by
  refine v_aload_n C dL_law_2234 rfl ?_
  refine v_aload_n C dL_law_2235 rfl ?_
  refine v_iload C dL_law_2236 rfl ?_
  refine v_iconst C dL_law_2238 (v := nI 1) (by decide) ?_
  refine v_iaddN C dL_law_2239 ?_
  refine v_sld C Z (6 * j + 1) rfl (by omega) hL dL_law_2240 ?_
  refine v_aload_n C dL_law_2241 rfl ?_
  obtain ⟨dM, mc, ms, dq, post, px, pq, ⟨a1, a2, a3, a4⟩, M, Mq, hE, ⟨J1, J2⟩, hP⟩ := s_forcedByWrite hl (κ := xK X) (h := h) (by omega) I (w (6 * j + 1))
  refine v_callSH C (hc_forcedByWrite hl (κ := xK X) (h := h) (c := c) (o := o) (dd := dd) (q := q) a1 a2 a3 M hE) ysh_L_forcedByWrite rfl ml_L_321 emb_id_lS rfl rfl rfl dL_law_2242 (Nat.le_of_ble_eq_true rfl) hk hn (Nat.le_of_ble_eq_true rfl) (fun _ _ hz => hz.elim) (fun r u hu => ?_)
  rcases hu with ⟨v, c2, hp, rfl, rfl⟩ | ⟨e, c2, i, hp, hi, rfl, rfl⟩
  · skip
    refine v_istore C dL_law_2245 rfl (Nat.le_of_ble_eq_true rfl) rfl ?_
    refine v_aload_n C dL_law_2247 rfl ?_
    refine v_aload_n C dL_law_2248 rfl ?_
    refine v_iload C dL_law_2249 rfl ?_
    refine v_iconst C dL_law_2251 (v := nI 1) (by decide) ?_
    refine v_iaddN C dL_law_2252 ?_
    refine v_sld C Z (6 * j + 1) rfl (by omega) hL dL_law_2253 ?_
    refine v_callVi C Mq ym_X6_forcedByWrite ml_L_323 emb_l_q rfl rfl rfl rfl rfl dL_law_2254 (by omega) (by omega) (by omega) (Nat.le_of_ble_eq_true rfl) (fun _ _ hz => hz.elim) (fun r2 u2 hq => ?_)
    obtain ⟨t0, rfl, hIV⟩ := J1 _ _ _ _ hp hq
    refine V.stt (g2 := (c2, vp_updL o 0 (cvI v), dd, u2)) rfl ?_
    refine v_istore C dL_law_2257 rfl (Nat.le_of_ble_eq_true rfl) rfl ?_
    refine v_aload_n C dL_law_2259 rfl ?_
    refine v_callVi C (c_X6_thrown hl t0) ym_X6_thrown ml_L_211 emb_l_q rfl rfl rfl rfl rfl dL_law_2260 (Nat.le_of_ble_eq_true rfl) (by omega) (by omega) (Nat.le_of_ble_eq_true rfl) (fun _ _ hz => hz.elim) (fun r3 u3 hr => ?_)
    obtain ⟨hr, rfl⟩ := hr
    subst hr
    refine V.stt (g2 := (c2, vp_updL o 0 (cvI v), dd, u3)) rfl ?_
    refine v_iload C dL_law_2263 rfl ?_
    refine v_icmp_eq C 2270 dL_law_2265 (by decide) (fun _ => ?_) (fun z => absurd rfl z)
    refine v_iload C dL_law_2270 rfl ?_
    refine v_if_ne C 2287 dL_law_2272 (by decide) (fun z => absurd (by decide) z) (fun _ => ?_)
    refine v_aload_n C dL_law_2275 rfl ?_
    refine v_iconst C dL_law_2276 (v := nI 0) (by decide) ?_
    refine v_lald C aj_l (by decide) 0 (by decide) rfl dL_law_2277 ?_
    refine v_iload C dL_law_2278 rfl ?_
    refine v_i2l C dL_law_2280 rfl ?_
    refine v_lcmp C dL_law_2281 ?_
    refine v_if_eq C 2287 dL_law_2282 (by decide) (fun _ => ?_) (fun z => absurd (lg_out (o := o) (x := cvI v) (y := v.toInt64) rfl) z)
    refine v_goto C 3915 dL_law_2287 (by decide) ?_
    refine V.sub (lo2 := [some (.ref b), some (.ref (h 0)), some (.ref (sh 126 h 0)), some (.ref (h 124)), some (.ref (h 125)), some (.int (nI (6 * j))), none, none, none]) ⟨rfl, rfl, rfl, rfl, rfl, rfl, trivial⟩ ?_
    exact back _ _ _ _ hIV
  · skip
    refine v_istore C dL_law_2245 rfl (Nat.le_of_ble_eq_true rfl) rfl ?_
    refine v_aload_n C dL_law_2247 rfl ?_
    refine v_aload_n C dL_law_2248 rfl ?_
    refine v_iload C dL_law_2249 rfl ?_
    refine v_iconst C dL_law_2251 (v := nI 1) (by decide) ?_
    refine v_iaddN C dL_law_2252 ?_
    refine v_sld C Z (6 * j + 1) rfl (by omega) hL dL_law_2253 ?_
    refine v_callVi C Mq ym_X6_forcedByWrite ml_L_323 emb_l_q rfl rfl rfl rfl rfl dL_law_2254 (by omega) (by omega) (by omega) (Nat.le_of_ble_eq_true rfl) (fun _ _ hz => hz.elim) (fun r2 u2 hq => ?_)
    obtain ⟨i2, h2, hi3, t0, hIV⟩ := J2 _ _ _ _ hp hq
    obtain rfl := EL_inj nd_SOA hi h2
    refine V.stt (g2 := (c2, o, dd, u2)) rfl ?_
    refine v_istore C dL_law_2257 rfl (Nat.le_of_ble_eq_true rfl) rfl ?_
    refine v_aload_n C dL_law_2259 rfl ?_
    refine v_callVi C (c_X6_thrown hl t0) ym_X6_thrown ml_L_211 emb_l_q rfl rfl rfl rfl rfl dL_law_2260 (Nat.le_of_ble_eq_true rfl) (by omega) (by omega) (Nat.le_of_ble_eq_true rfl) (fun _ _ hz => hz.elim) (fun r3 u3 hr => ?_)
    obtain ⟨hr, rfl⟩ := hr
    subst hr
    refine V.stt (g2 := (c2, o, dd, u3)) rfl ?_
    refine v_iload C dL_law_2263 rfl ?_
    refine v_icmp_eq C 2270 dL_law_2265 (by decide) (fun _ => ?_) (fun z => absurd rfl z)
    refine v_iload C dL_law_2270 rfl ?_
    refine v_if_ne C 2287 dL_law_2272 (by decide) (fun _ => ?_) (fun z => absurd z (nI_pos3 hi3))
    refine v_goto C 3915 dL_law_2287 (by decide) ?_
    refine V.sub (lo2 := [some (.ref b), some (.ref (h 0)), some (.ref (sh 126 h 0)), some (.ref (h 124)), some (.ref (h 125)), some (.int (nI (6 * j))), none, none, none]) ⟨rfl, rfl, rfl, rfl, rfl, rfl, trivial⟩ ?_
    exact back _ _ _ _ hIV
set_option maxHeartbeats 1000000 in
theorem k_36 {X : Cx} {kc ks : Nat} (hl : (xl X).stackTraces = false) (C : Ok SS MM X RL cL_law 9 30 kc ks) {b L : Nat} {w : Nat → Int32} (Z : Lok X b L w) {h : Nat → Nat} {j : Nat} (hj : 6 * j + 6 ≤ L) (hL : L ≤ 3072) {c : Cg} {o : Nat → Int64} {dd : Nat → UInt64} {q : G} (I : INV (20 + j) c q) {k n : Nat} (hk : k + 6 ≤ kc) (hn : n + 36 ≤ ks) (back : ∀ c2 o2 d2 q2, INV (20 + j + 1) c2 q2 → V X (lS (xK X) h) 3915 [some (.ref b), some (.ref (h 0)), some (.ref (sh 126 h 0)), some (.ref (h 124)), some (.ref (h 125)), some (.int (nI (6 * j))), none, none, none] [] (c2, o2, d2, q2) (k + 6) (n + 36)) : V X (lS (xK X) h) 2290 [some (.ref b), some (.ref (h 0)), some (.ref (sh 126 h 0)), some (.ref (h 124)), some (.ref (h 125)), some (.int (nI (6 * j))), none, none, none] [] (c, o, dd, q) k n := by
  refine v_aload_n C dL_law_2290 rfl ?_
  refine v_aload_n C dL_law_2291 rfl ?_
  refine v_iload C dL_law_2292 rfl ?_
  refine v_iconst C dL_law_2294 (v := nI 1) (by decide) ?_
  refine v_iaddN C dL_law_2295 ?_
  refine v_sld C Z (6 * j + 1) rfl (by omega) hL dL_law_2296 ?_
  refine v_aload_n C dL_law_2297 rfl ?_
  refine v_iload C dL_law_2298 rfl ?_
  refine v_iconst C dL_law_2300 (v := nI 2) (by decide) ?_
  refine v_iaddN C dL_law_2301 ?_
  refine v_sld C Z (6 * j + 2) rfl (by omega) hL dL_law_2302 ?_
  refine v_aload_n C dL_law_2303 rfl ?_
  obtain ⟨dM, mc, ms, dq, post, px, pq, ⟨a1, a2, a3, a4⟩, M, Mq, hE, ⟨J1, J2⟩, hP⟩ := s_forcedByFill hl (κ := xK X) (h := h) (by omega) I (w (6 * j + 1)) (w (6 * j + 2))
  refine v_callSH C (hc_forcedByFill hl (κ := xK X) (h := h) (c := c) (o := o) (dd := dd) (q := q) a1 a2 a3 M hE) ysh_L_forcedByFill rfl ml_L_324 emb_id_lS rfl rfl rfl dL_law_2304 (Nat.le_of_ble_eq_true rfl) hk hn (Nat.le_of_ble_eq_true rfl) (fun _ _ hz => hz.elim) (fun r u hu => ?_)
  rcases hu with ⟨v, c2, hp, rfl, rfl⟩ | ⟨e, c2, i, hp, hi, rfl, rfl⟩
  · skip
    refine v_istore C dL_law_2307 rfl (Nat.le_of_ble_eq_true rfl) rfl ?_
    refine v_aload_n C dL_law_2309 rfl ?_
    refine v_aload_n C dL_law_2310 rfl ?_
    refine v_iload C dL_law_2311 rfl ?_
    refine v_iconst C dL_law_2313 (v := nI 1) (by decide) ?_
    refine v_iaddN C dL_law_2314 ?_
    refine v_sld C Z (6 * j + 1) rfl (by omega) hL dL_law_2315 ?_
    refine v_aload_n C dL_law_2316 rfl ?_
    refine v_iload C dL_law_2317 rfl ?_
    refine v_iconst C dL_law_2319 (v := nI 2) (by decide) ?_
    refine v_iaddN C dL_law_2320 ?_
    refine v_sld C Z (6 * j + 2) rfl (by omega) hL dL_law_2321 ?_
    refine v_callVi C Mq ym_X6_forcedByFill ml_L_326 emb_l_q rfl rfl rfl rfl rfl dL_law_2322 (by omega) (by omega) (by omega) (Nat.le_of_ble_eq_true rfl) (fun _ _ hz => hz.elim) (fun r2 u2 hq => ?_)
    obtain ⟨t0, rfl, hIV⟩ := J1 _ _ _ _ hp hq
    refine V.stt (g2 := (c2, vp_updL o 0 (cvI v), dd, u2)) rfl ?_
    refine v_istore C dL_law_2325 rfl (Nat.le_of_ble_eq_true rfl) rfl ?_
    refine v_aload_n C dL_law_2327 rfl ?_
    refine v_callVi C (c_X6_thrown hl t0) ym_X6_thrown ml_L_211 emb_l_q rfl rfl rfl rfl rfl dL_law_2328 (Nat.le_of_ble_eq_true rfl) (by omega) (by omega) (Nat.le_of_ble_eq_true rfl) (fun _ _ hz => hz.elim) (fun r3 u3 hr => ?_)
    obtain ⟨hr, rfl⟩ := hr
    subst hr
    refine V.stt (g2 := (c2, vp_updL o 0 (cvI v), dd, u3)) rfl ?_
    refine v_iload C dL_law_2331 rfl ?_
    refine v_icmp_eq C 2338 dL_law_2333 (by decide) (fun _ => ?_) (fun z => absurd rfl z)
    refine v_iload C dL_law_2338 rfl ?_
    refine v_if_ne C 2355 dL_law_2340 (by decide) (fun z => absurd (by decide) z) (fun _ => ?_)
    refine v_aload_n C dL_law_2343 rfl ?_
    refine v_iconst C dL_law_2344 (v := nI 0) (by decide) ?_
    refine v_lald C aj_l (by decide) 0 (by decide) rfl dL_law_2345 ?_
    refine v_iload C dL_law_2346 rfl ?_
    refine v_i2l C dL_law_2348 rfl ?_
    refine v_lcmp C dL_law_2349 ?_
    refine v_if_eq C 2355 dL_law_2350 (by decide) (fun _ => ?_) (fun z => absurd (lg_out (o := o) (x := cvI v) (y := v.toInt64) rfl) z)
    refine v_goto C 3915 dL_law_2355 (by decide) ?_
    refine V.sub (lo2 := [some (.ref b), some (.ref (h 0)), some (.ref (sh 126 h 0)), some (.ref (h 124)), some (.ref (h 125)), some (.int (nI (6 * j))), none, none, none]) ⟨rfl, rfl, rfl, rfl, rfl, rfl, trivial⟩ ?_
    exact back _ _ _ _ hIV
  · skip
    refine v_istore C dL_law_2307 rfl (Nat.le_of_ble_eq_true rfl) rfl ?_
    refine v_aload_n C dL_law_2309 rfl ?_
    refine v_aload_n C dL_law_2310 rfl ?_
    refine v_iload C dL_law_2311 rfl ?_
    refine v_iconst C dL_law_2313 (v := nI 1) (by decide) ?_
    refine v_iaddN C dL_law_2314 ?_
    refine v_sld C Z (6 * j + 1) rfl (by omega) hL dL_law_2315 ?_
    refine v_aload_n C dL_law_2316 rfl ?_
    refine v_iload C dL_law_2317 rfl ?_
    refine v_iconst C dL_law_2319 (v := nI 2) (by decide) ?_
    refine v_iaddN C dL_law_2320 ?_
    refine v_sld C Z (6 * j + 2) rfl (by omega) hL dL_law_2321 ?_
    refine v_callVi C Mq ym_X6_forcedByFill ml_L_326 emb_l_q rfl rfl rfl rfl rfl dL_law_2322 (by omega) (by omega) (by omega) (Nat.le_of_ble_eq_true rfl) (fun _ _ hz => hz.elim) (fun r2 u2 hq => ?_)
    obtain ⟨i2, h2, hi3, t0, hIV⟩ := J2 _ _ _ _ hp hq
    obtain rfl := EL_inj nd_SOA hi h2
    refine V.stt (g2 := (c2, o, dd, u2)) rfl ?_
    refine v_istore C dL_law_2325 rfl (Nat.le_of_ble_eq_true rfl) rfl ?_
    refine v_aload_n C dL_law_2327 rfl ?_
    refine v_callVi C (c_X6_thrown hl t0) ym_X6_thrown ml_L_211 emb_l_q rfl rfl rfl rfl rfl dL_law_2328 (Nat.le_of_ble_eq_true rfl) (by omega) (by omega) (Nat.le_of_ble_eq_true rfl) (fun _ _ hz => hz.elim) (fun r3 u3 hr => ?_)
    obtain ⟨hr, rfl⟩ := hr
    subst hr
    refine V.stt (g2 := (c2, o, dd, u3)) rfl ?_
    refine v_iload C dL_law_2331 rfl ?_
    refine v_icmp_eq C 2338 dL_law_2333 (by decide) (fun _ => ?_) (fun z => absurd rfl z)
    refine v_iload C dL_law_2338 rfl ?_
    refine v_if_ne C 2355 dL_law_2340 (by decide) (fun _ => ?_) (fun z => absurd z (nI_pos3 hi3))
    refine v_goto C 3915 dL_law_2355 (by decide) ?_
    refine V.sub (lo2 := [some (.ref b), some (.ref (h 0)), some (.ref (sh 126 h 0)), some (.ref (h 124)), some (.ref (h 125)), some (.int (nI (6 * j))), none, none, none]) ⟨rfl, rfl, rfl, rfl, rfl, rfl, trivial⟩ ?_
    exact back _ _ _ _ hIV
set_option maxHeartbeats 1000000 in
theorem k_37 {X : Cx} {kc ks : Nat} (hl : (xl X).stackTraces = false) (C : Ok SS MM X RL cL_law 9 30 kc ks) {b L : Nat} {w : Nat → Int32} (Z : Lok X b L w) {h : Nat → Nat} {j : Nat} (hj : 6 * j + 6 ≤ L) (hL : L ≤ 3072) {c : Cg} {o : Nat → Int64} {dd : Nat → UInt64} {q : G} (I : INV (20 + j) c q) {k n : Nat} (hk : k + 6 ≤ kc) (hn : n + 36 ≤ ks) (back : ∀ c2 o2 d2 q2, INV (20 + j + 1) c2 q2 → V X (lS (xK X) h) 3915 [some (.ref b), some (.ref (h 0)), some (.ref (sh 126 h 0)), some (.ref (h 124)), some (.ref (h 125)), some (.int (nI (6 * j))), none, none, none] [] (c2, o2, d2, q2) (k + 6) (n + 36)) : V X (lS (xK X) h) 2358 [some (.ref b), some (.ref (h 0)), some (.ref (sh 126 h 0)), some (.ref (h 124)), some (.ref (h 125)), some (.int (nI (6 * j))), none, none, none] [] (c, o, dd, q) k n := by
  refine v_aload_n C dL_law_2358 rfl ?_
  refine v_aload_n C dL_law_2359 rfl ?_
  obtain ⟨dM, mc, ms, dq, post, px, pq, ⟨a1, a2, a3, a4⟩, M, Mq, hE, ⟨J1, J2⟩, hP⟩ := s_ticksToClear hl (κ := xK X) (h := h) (by omega) I
  refine v_callSH C (hc_ticksToClear hl (κ := xK X) (h := h) (c := c) (o := o) (dd := dd) (q := q) a1 a2 a3 M hE) ysh_L_ticksToClear rfl ml_L_327 emb_id_lS rfl rfl rfl dL_law_2360 (Nat.le_of_ble_eq_true rfl) hk hn (Nat.le_of_ble_eq_true rfl) (fun _ _ hz => hz.elim) (fun r u hu => ?_)
  rcases hu with ⟨v, c2, hp, rfl, rfl⟩ | ⟨e, c2, i, hp, hi, rfl, rfl⟩
  · skip
    refine v_istore C dL_law_2363 rfl (Nat.le_of_ble_eq_true rfl) rfl ?_
    refine v_aload_n C dL_law_2365 rfl ?_
    refine v_callVi C Mq ym_X6_ticksToClear ml_L_329 emb_l_q rfl rfl rfl rfl rfl dL_law_2366 (by omega) (by omega) (by omega) (Nat.le_of_ble_eq_true rfl) (fun _ _ hz => hz.elim) (fun r2 u2 hq => ?_)
    obtain ⟨t0, rfl, hIV⟩ := J1 _ _ _ _ hp hq
    refine V.stt (g2 := (c2, vp_updL o 0 (cvI v), dd, u2)) rfl ?_
    refine v_istore C dL_law_2369 rfl (Nat.le_of_ble_eq_true rfl) rfl ?_
    refine v_aload_n C dL_law_2371 rfl ?_
    refine v_callVi C (c_X6_thrown hl t0) ym_X6_thrown ml_L_211 emb_l_q rfl rfl rfl rfl rfl dL_law_2372 (Nat.le_of_ble_eq_true rfl) (by omega) (by omega) (Nat.le_of_ble_eq_true rfl) (fun _ _ hz => hz.elim) (fun r3 u3 hr => ?_)
    obtain ⟨hr, rfl⟩ := hr
    subst hr
    refine V.stt (g2 := (c2, vp_updL o 0 (cvI v), dd, u3)) rfl ?_
    refine v_iload C dL_law_2375 rfl ?_
    refine v_icmp_eq C 2382 dL_law_2377 (by decide) (fun _ => ?_) (fun z => absurd rfl z)
    refine v_iload C dL_law_2382 rfl ?_
    refine v_if_ne C 2399 dL_law_2384 (by decide) (fun z => absurd (by decide) z) (fun _ => ?_)
    refine v_aload_n C dL_law_2387 rfl ?_
    refine v_iconst C dL_law_2388 (v := nI 0) (by decide) ?_
    refine v_lald C aj_l (by decide) 0 (by decide) rfl dL_law_2389 ?_
    refine v_iload C dL_law_2390 rfl ?_
    refine v_i2l C dL_law_2392 rfl ?_
    refine v_lcmp C dL_law_2393 ?_
    refine v_if_eq C 2399 dL_law_2394 (by decide) (fun _ => ?_) (fun z => absurd (lg_out (o := o) (x := cvI v) (y := v.toInt64) rfl) z)
    refine v_goto C 3915 dL_law_2399 (by decide) ?_
    refine V.sub (lo2 := [some (.ref b), some (.ref (h 0)), some (.ref (sh 126 h 0)), some (.ref (h 124)), some (.ref (h 125)), some (.int (nI (6 * j))), none, none, none]) ⟨rfl, rfl, rfl, rfl, rfl, rfl, trivial⟩ ?_
    exact back _ _ _ _ hIV
  · skip
    refine v_istore C dL_law_2363 rfl (Nat.le_of_ble_eq_true rfl) rfl ?_
    refine v_aload_n C dL_law_2365 rfl ?_
    refine v_callVi C Mq ym_X6_ticksToClear ml_L_329 emb_l_q rfl rfl rfl rfl rfl dL_law_2366 (by omega) (by omega) (by omega) (Nat.le_of_ble_eq_true rfl) (fun _ _ hz => hz.elim) (fun r2 u2 hq => ?_)
    obtain ⟨i2, h2, hi3, t0, hIV⟩ := J2 _ _ _ _ hp hq
    obtain rfl := EL_inj nd_S hi h2
    refine V.stt (g2 := (c2, o, dd, u2)) rfl ?_
    refine v_istore C dL_law_2369 rfl (Nat.le_of_ble_eq_true rfl) rfl ?_
    refine v_aload_n C dL_law_2371 rfl ?_
    refine v_callVi C (c_X6_thrown hl t0) ym_X6_thrown ml_L_211 emb_l_q rfl rfl rfl rfl rfl dL_law_2372 (Nat.le_of_ble_eq_true rfl) (by omega) (by omega) (Nat.le_of_ble_eq_true rfl) (fun _ _ hz => hz.elim) (fun r3 u3 hr => ?_)
    obtain ⟨hr, rfl⟩ := hr
    subst hr
    refine V.stt (g2 := (c2, o, dd, u3)) rfl ?_
    refine v_iload C dL_law_2375 rfl ?_
    refine v_icmp_eq C 2382 dL_law_2377 (by decide) (fun _ => ?_) (fun z => absurd rfl z)
    refine v_iload C dL_law_2382 rfl ?_
    refine v_if_ne C 2399 dL_law_2384 (by decide) (fun _ => ?_) (fun z => absurd z (nI_pos3 hi3))
    refine v_goto C 3915 dL_law_2399 (by decide) ?_
    refine V.sub (lo2 := [some (.ref b), some (.ref (h 0)), some (.ref (sh 126 h 0)), some (.ref (h 124)), some (.ref (h 125)), some (.int (nI (6 * j))), none, none, none]) ⟨rfl, rfl, rfl, rfl, rfl, rfl, trivial⟩ ?_
    exact back _ _ _ _ hIV
set_option maxHeartbeats 1000000 in
theorem k_38 {X : Cx} {kc ks : Nat} (hl : (xl X).stackTraces = false) (C : Ok SS MM X RL cL_law 9 30 kc ks) {b L : Nat} {w : Nat → Int32} (Z : Lok X b L w) {h : Nat → Nat} {j : Nat} (hj : 6 * j + 6 ≤ L) (hL : L ≤ 3072) {c : Cg} {o : Nat → Int64} {dd : Nat → UInt64} {q : G} (I : INV (20 + j) c q) {k n : Nat} (hk : k + 6 ≤ kc) (hn : n + 36 ≤ ks) (back : ∀ c2 o2 d2 q2, INV (20 + j + 1) c2 q2 → V X (lS (xK X) h) 3915 [some (.ref b), some (.ref (h 0)), some (.ref (sh 126 h 0)), some (.ref (h 124)), some (.ref (h 125)), some (.int (nI (6 * j))), none, none, none] [] (c2, o2, d2, q2) (k + 6) (n + 36)) : V X (lS (xK X) h) 2402 [some (.ref b), some (.ref (h 0)), some (.ref (sh 126 h 0)), some (.ref (h 124)), some (.ref (h 125)), some (.int (nI (6 * j))), none, none, none] [] (c, o, dd, q) k n := by
  refine v_aload_n C dL_law_2402 rfl ?_
  refine v_aload_n C dL_law_2403 rfl ?_
  refine v_iload C dL_law_2404 rfl ?_
  refine v_iconst C dL_law_2406 (v := nI 1) (by decide) ?_
  refine v_iaddN C dL_law_2407 ?_
  refine v_sld C Z (6 * j + 1) rfl (by omega) hL dL_law_2408 ?_
  refine v_aload_n C dL_law_2409 rfl ?_
  obtain ⟨dM, mc, ms, dq, post, px, pq, ⟨a1, a2, a3, a4⟩, M, Mq, hE, ⟨J1, J2⟩, hP⟩ := s_owedAfter hl (κ := xK X) (h := h) (by omega) I (w (6 * j + 1))
  refine v_callSH C (hc_owedAfter hl (κ := xK X) (h := h) (c := c) (o := o) (dd := dd) (q := q) a1 a2 a3 M hE) ysh_L_owedAfter rfl ml_L_330 emb_id_lS rfl rfl rfl dL_law_2410 (Nat.le_of_ble_eq_true rfl) hk hn (Nat.le_of_ble_eq_true rfl) (fun _ _ hz => hz.elim) (fun r u hu => ?_)
  rcases hu with ⟨v, c2, hp, rfl, rfl⟩ | ⟨e, c2, i, hp, hi, rfl, rfl⟩
  · skip
    refine v_istore C dL_law_2413 rfl (Nat.le_of_ble_eq_true rfl) rfl ?_
    refine v_aload_n C dL_law_2415 rfl ?_
    refine v_aload_n C dL_law_2416 rfl ?_
    refine v_iload C dL_law_2417 rfl ?_
    refine v_iconst C dL_law_2419 (v := nI 1) (by decide) ?_
    refine v_iaddN C dL_law_2420 ?_
    refine v_sld C Z (6 * j + 1) rfl (by omega) hL dL_law_2421 ?_
    refine v_callVi C Mq ym_X6_owedAfter ml_L_332 emb_l_q rfl rfl rfl rfl rfl dL_law_2422 (by omega) (by omega) (by omega) (Nat.le_of_ble_eq_true rfl) (fun _ _ hz => hz.elim) (fun r2 u2 hq => ?_)
    obtain ⟨t0, rfl, hIV⟩ := J1 _ _ _ _ hp hq
    refine V.stt (g2 := (c2, vp_updL o 0 (cvI v), dd, u2)) rfl ?_
    refine v_istore C dL_law_2425 rfl (Nat.le_of_ble_eq_true rfl) rfl ?_
    refine v_aload_n C dL_law_2427 rfl ?_
    refine v_callVi C (c_X6_thrown hl t0) ym_X6_thrown ml_L_211 emb_l_q rfl rfl rfl rfl rfl dL_law_2428 (Nat.le_of_ble_eq_true rfl) (by omega) (by omega) (Nat.le_of_ble_eq_true rfl) (fun _ _ hz => hz.elim) (fun r3 u3 hr => ?_)
    obtain ⟨hr, rfl⟩ := hr
    subst hr
    refine V.stt (g2 := (c2, vp_updL o 0 (cvI v), dd, u3)) rfl ?_
    refine v_iload C dL_law_2431 rfl ?_
    refine v_icmp_eq C 2438 dL_law_2433 (by decide) (fun _ => ?_) (fun z => absurd rfl z)
    refine v_iload C dL_law_2438 rfl ?_
    refine v_if_ne C 2455 dL_law_2440 (by decide) (fun z => absurd (by decide) z) (fun _ => ?_)
    refine v_aload_n C dL_law_2443 rfl ?_
    refine v_iconst C dL_law_2444 (v := nI 0) (by decide) ?_
    refine v_lald C aj_l (by decide) 0 (by decide) rfl dL_law_2445 ?_
    refine v_iload C dL_law_2446 rfl ?_
    refine v_i2l C dL_law_2448 rfl ?_
    refine v_lcmp C dL_law_2449 ?_
    refine v_if_eq C 2455 dL_law_2450 (by decide) (fun _ => ?_) (fun z => absurd (lg_out (o := o) (x := cvI v) (y := v.toInt64) rfl) z)
    refine v_goto C 3915 dL_law_2455 (by decide) ?_
    refine V.sub (lo2 := [some (.ref b), some (.ref (h 0)), some (.ref (sh 126 h 0)), some (.ref (h 124)), some (.ref (h 125)), some (.int (nI (6 * j))), none, none, none]) ⟨rfl, rfl, rfl, rfl, rfl, rfl, trivial⟩ ?_
    exact back _ _ _ _ hIV
  · skip
    refine v_istore C dL_law_2413 rfl (Nat.le_of_ble_eq_true rfl) rfl ?_
    refine v_aload_n C dL_law_2415 rfl ?_
    refine v_aload_n C dL_law_2416 rfl ?_
    refine v_iload C dL_law_2417 rfl ?_
    refine v_iconst C dL_law_2419 (v := nI 1) (by decide) ?_
    refine v_iaddN C dL_law_2420 ?_
    refine v_sld C Z (6 * j + 1) rfl (by omega) hL dL_law_2421 ?_
    refine v_callVi C Mq ym_X6_owedAfter ml_L_332 emb_l_q rfl rfl rfl rfl rfl dL_law_2422 (by omega) (by omega) (by omega) (Nat.le_of_ble_eq_true rfl) (fun _ _ hz => hz.elim) (fun r2 u2 hq => ?_)
    obtain ⟨i2, h2, hi3, t0, hIV⟩ := J2 _ _ _ _ hp hq
    obtain rfl := EL_inj nd_SA hi h2
    refine V.stt (g2 := (c2, o, dd, u2)) rfl ?_
    refine v_istore C dL_law_2425 rfl (Nat.le_of_ble_eq_true rfl) rfl ?_
    refine v_aload_n C dL_law_2427 rfl ?_
    refine v_callVi C (c_X6_thrown hl t0) ym_X6_thrown ml_L_211 emb_l_q rfl rfl rfl rfl rfl dL_law_2428 (Nat.le_of_ble_eq_true rfl) (by omega) (by omega) (Nat.le_of_ble_eq_true rfl) (fun _ _ hz => hz.elim) (fun r3 u3 hr => ?_)
    obtain ⟨hr, rfl⟩ := hr
    subst hr
    refine V.stt (g2 := (c2, o, dd, u3)) rfl ?_
    refine v_iload C dL_law_2431 rfl ?_
    refine v_icmp_eq C 2438 dL_law_2433 (by decide) (fun _ => ?_) (fun z => absurd rfl z)
    refine v_iload C dL_law_2438 rfl ?_
    refine v_if_ne C 2455 dL_law_2440 (by decide) (fun _ => ?_) (fun z => absurd z (nI_pos3 hi3))
    refine v_goto C 3915 dL_law_2455 (by decide) ?_
    refine V.sub (lo2 := [some (.ref b), some (.ref (h 0)), some (.ref (sh 126 h 0)), some (.ref (h 124)), some (.ref (h 125)), some (.int (nI (6 * j))), none, none, none]) ⟨rfl, rfl, rfl, rfl, rfl, rfl, trivial⟩ ?_
    exact back _ _ _ _ hIV
set_option maxHeartbeats 1000000 in
theorem k_39 {X : Cx} {kc ks : Nat} (hl : (xl X).stackTraces = false) (C : Ok SS MM X RL cL_law 9 30 kc ks) {b L : Nat} {w : Nat → Int32} (Z : Lok X b L w) {h : Nat → Nat} {j : Nat} (hj : 6 * j + 6 ≤ L) (hL : L ≤ 3072) {c : Cg} {o : Nat → Int64} {dd : Nat → UInt64} {q : G} (I : INV (20 + j) c q) {k n : Nat} (hk : k + 6 ≤ kc) (hn : n + 36 ≤ ks) (back : ∀ c2 o2 d2 q2, INV (20 + j + 1) c2 q2 → V X (lS (xK X) h) 3915 [some (.ref b), some (.ref (h 0)), some (.ref (sh 126 h 0)), some (.ref (h 124)), some (.ref (h 125)), some (.int (nI (6 * j))), none, none, none] [] (c2, o2, d2, q2) (k + 6) (n + 36)) : V X (lS (xK X) h) 2458 [some (.ref b), some (.ref (h 0)), some (.ref (sh 126 h 0)), some (.ref (h 124)), some (.ref (h 125)), some (.int (nI (6 * j))), none, none, none] [] (c, o, dd, q) k n := by
  refine v_aload_n C dL_law_2458 rfl ?_
  refine v_aload_n C dL_law_2459 rfl ?_
  refine v_iload C dL_law_2460 rfl ?_
  refine v_iconst C dL_law_2462 (v := nI 1) (by decide) ?_
  refine v_iaddN C dL_law_2463 ?_
  refine v_sld C Z (6 * j + 1) rfl (by omega) hL dL_law_2464 ?_
  refine v_aload_n C dL_law_2465 rfl ?_
  obtain ⟨dM, mc, ms, dq, post, px, pq, ⟨a1, a2, a3, a4⟩, M, Mq, hE, ⟨J1, J2⟩, hP⟩ := s_paidIn hl (κ := xK X) (h := h) (by omega) I (w (6 * j + 1))
  refine v_callSH C (hc_paidIn hl (κ := xK X) (h := h) (c := c) (o := o) (dd := dd) (q := q) a1 a2 a3 M hE) ysh_L_paidIn rfl ml_L_333 emb_id_lS rfl rfl rfl dL_law_2466 (Nat.le_of_ble_eq_true rfl) hk hn (Nat.le_of_ble_eq_true rfl) (fun _ _ hz => hz.elim) (fun r u hu => ?_)
  rcases hu with ⟨v, c2, hp, rfl, rfl⟩ | ⟨e, c2, i, hp, hi, rfl, rfl⟩
  · skip
    refine v_istore C dL_law_2469 rfl (Nat.le_of_ble_eq_true rfl) rfl ?_
    refine v_aload_n C dL_law_2471 rfl ?_
    refine v_aload_n C dL_law_2472 rfl ?_
    refine v_iload C dL_law_2473 rfl ?_
    refine v_iconst C dL_law_2475 (v := nI 1) (by decide) ?_
    refine v_iaddN C dL_law_2476 ?_
    refine v_sld C Z (6 * j + 1) rfl (by omega) hL dL_law_2477 ?_
    refine v_callVi C Mq ym_X6_paidIn ml_L_335 emb_l_q rfl rfl rfl rfl rfl dL_law_2478 (by omega) (by omega) (by omega) (Nat.le_of_ble_eq_true rfl) (fun _ _ hz => hz.elim) (fun r2 u2 hq => ?_)
    obtain ⟨t0, rfl, hIV⟩ := J1 _ _ _ _ hp hq
    refine V.stt (g2 := (c2, vp_updL o 0 (cvI v), dd, u2)) rfl ?_
    refine v_istore C dL_law_2481 rfl (Nat.le_of_ble_eq_true rfl) rfl ?_
    refine v_aload_n C dL_law_2483 rfl ?_
    refine v_callVi C (c_X6_thrown hl t0) ym_X6_thrown ml_L_211 emb_l_q rfl rfl rfl rfl rfl dL_law_2484 (Nat.le_of_ble_eq_true rfl) (by omega) (by omega) (Nat.le_of_ble_eq_true rfl) (fun _ _ hz => hz.elim) (fun r3 u3 hr => ?_)
    obtain ⟨hr, rfl⟩ := hr
    subst hr
    refine V.stt (g2 := (c2, vp_updL o 0 (cvI v), dd, u3)) rfl ?_
    refine v_iload C dL_law_2487 rfl ?_
    refine v_icmp_eq C 2494 dL_law_2489 (by decide) (fun _ => ?_) (fun z => absurd rfl z)
    refine v_iload C dL_law_2494 rfl ?_
    refine v_if_ne C 2511 dL_law_2496 (by decide) (fun z => absurd (by decide) z) (fun _ => ?_)
    refine v_aload_n C dL_law_2499 rfl ?_
    refine v_iconst C dL_law_2500 (v := nI 0) (by decide) ?_
    refine v_lald C aj_l (by decide) 0 (by decide) rfl dL_law_2501 ?_
    refine v_iload C dL_law_2502 rfl ?_
    refine v_i2l C dL_law_2504 rfl ?_
    refine v_lcmp C dL_law_2505 ?_
    refine v_if_eq C 2511 dL_law_2506 (by decide) (fun _ => ?_) (fun z => absurd (lg_out (o := o) (x := cvI v) (y := v.toInt64) rfl) z)
    refine v_goto C 3915 dL_law_2511 (by decide) ?_
    refine V.sub (lo2 := [some (.ref b), some (.ref (h 0)), some (.ref (sh 126 h 0)), some (.ref (h 124)), some (.ref (h 125)), some (.int (nI (6 * j))), none, none, none]) ⟨rfl, rfl, rfl, rfl, rfl, rfl, trivial⟩ ?_
    exact back _ _ _ _ hIV
  · skip
    refine v_istore C dL_law_2469 rfl (Nat.le_of_ble_eq_true rfl) rfl ?_
    refine v_aload_n C dL_law_2471 rfl ?_
    refine v_aload_n C dL_law_2472 rfl ?_
    refine v_iload C dL_law_2473 rfl ?_
    refine v_iconst C dL_law_2475 (v := nI 1) (by decide) ?_
    refine v_iaddN C dL_law_2476 ?_
    refine v_sld C Z (6 * j + 1) rfl (by omega) hL dL_law_2477 ?_
    refine v_callVi C Mq ym_X6_paidIn ml_L_335 emb_l_q rfl rfl rfl rfl rfl dL_law_2478 (by omega) (by omega) (by omega) (Nat.le_of_ble_eq_true rfl) (fun _ _ hz => hz.elim) (fun r2 u2 hq => ?_)
    obtain ⟨i2, h2, hi3, t0, hIV⟩ := J2 _ _ _ _ hp hq
    obtain rfl := EL_inj nd_SO hi h2
    refine V.stt (g2 := (c2, o, dd, u2)) rfl ?_
    refine v_istore C dL_law_2481 rfl (Nat.le_of_ble_eq_true rfl) rfl ?_
    refine v_aload_n C dL_law_2483 rfl ?_
    refine v_callVi C (c_X6_thrown hl t0) ym_X6_thrown ml_L_211 emb_l_q rfl rfl rfl rfl rfl dL_law_2484 (Nat.le_of_ble_eq_true rfl) (by omega) (by omega) (Nat.le_of_ble_eq_true rfl) (fun _ _ hz => hz.elim) (fun r3 u3 hr => ?_)
    obtain ⟨hr, rfl⟩ := hr
    subst hr
    refine V.stt (g2 := (c2, o, dd, u3)) rfl ?_
    refine v_iload C dL_law_2487 rfl ?_
    refine v_icmp_eq C 2494 dL_law_2489 (by decide) (fun _ => ?_) (fun z => absurd rfl z)
    refine v_iload C dL_law_2494 rfl ?_
    refine v_if_ne C 2511 dL_law_2496 (by decide) (fun _ => ?_) (fun z => absurd z (nI_pos3 hi3))
    refine v_goto C 3915 dL_law_2511 (by decide) ?_
    refine V.sub (lo2 := [some (.ref b), some (.ref (h 0)), some (.ref (sh 126 h 0)), some (.ref (h 124)), some (.ref (h 125)), some (.int (nI (6 * j))), none, none, none]) ⟨rfl, rfl, rfl, rfl, rfl, rfl, trivial⟩ ?_
    exact back _ _ _ _ hIV
set_option maxHeartbeats 1000000 in
theorem k_40 {X : Cx} {kc ks : Nat} (hl : (xl X).stackTraces = false) (C : Ok SS MM X RL cL_law 9 30 kc ks) {b L : Nat} {w : Nat → Int32} (Z : Lok X b L w) {h : Nat → Nat} {j : Nat} (hj : 6 * j + 6 ≤ L) (hL : L ≤ 3072) {c : Cg} {o : Nat → Int64} {dd : Nat → UInt64} {q : G} (I : INV (20 + j) c q) {k n : Nat} (hk : k + 6 ≤ kc) (hn : n + 36 ≤ ks) (back : ∀ c2 o2 d2 q2, INV (20 + j + 1) c2 q2 → V X (lS (xK X) h) 3915 [some (.ref b), some (.ref (h 0)), some (.ref (sh 126 h 0)), some (.ref (h 124)), some (.ref (h 125)), some (.int (nI (6 * j))), none, none, none] [] (c2, o2, d2, q2) (k + 6) (n + 36)) : V X (lS (xK X) h) 2514 [some (.ref b), some (.ref (h 0)), some (.ref (sh 126 h 0)), some (.ref (h 124)), some (.ref (h 125)), some (.int (nI (6 * j))), none, none, none] [] (c, o, dd, q) k n := by
  refine v_aload_n C dL_law_2514 rfl ?_
  refine v_aload_n C dL_law_2515 rfl ?_
  obtain ⟨dM, mc, ms, dq, post, px, pq, ⟨a1, a2, a3, a4⟩, M, Mq, hE, ⟨J1, J2⟩, hP⟩ := s_bestPolicy hl (κ := xK X) (h := h) (by omega) I
  refine v_callSH C (hc_bestPolicy hl (κ := xK X) (h := h) (c := c) (o := o) (dd := dd) (q := q) a1 a2 a3 M hE) ysh_L_bestPolicy rfl ml_L_336 emb_id_lS rfl rfl rfl dL_law_2516 (Nat.le_of_ble_eq_true rfl) hk hn (Nat.le_of_ble_eq_true rfl) (fun _ _ hz => hz.elim) (fun r u hu => ?_)
  rcases hu with ⟨v, c2, hp, rfl, rfl⟩ | ⟨e, c2, i, hp, hi, rfl, rfl⟩
  · skip
    refine v_istore C dL_law_2519 rfl (Nat.le_of_ble_eq_true rfl) rfl ?_
    refine v_aload_n C dL_law_2521 rfl ?_
    refine v_callVi C Mq ym_X6_bestPolicy ml_L_338 emb_l_q rfl rfl rfl rfl rfl dL_law_2522 (by omega) (by omega) (by omega) (Nat.le_of_ble_eq_true rfl) (fun _ _ hz => hz.elim) (fun r2 u2 hq => ?_)
    obtain ⟨t0, rfl, hIV⟩ := J1 _ _ _ _ hp hq
    refine V.stt (g2 := (c2, vp_updL o 0 (cvI v), dd, u2)) rfl ?_
    refine v_istore C dL_law_2525 rfl (Nat.le_of_ble_eq_true rfl) rfl ?_
    refine v_aload_n C dL_law_2527 rfl ?_
    refine v_callVi C (c_X6_thrown hl t0) ym_X6_thrown ml_L_211 emb_l_q rfl rfl rfl rfl rfl dL_law_2528 (Nat.le_of_ble_eq_true rfl) (by omega) (by omega) (Nat.le_of_ble_eq_true rfl) (fun _ _ hz => hz.elim) (fun r3 u3 hr => ?_)
    obtain ⟨hr, rfl⟩ := hr
    subst hr
    refine V.stt (g2 := (c2, vp_updL o 0 (cvI v), dd, u3)) rfl ?_
    refine v_iload C dL_law_2531 rfl ?_
    refine v_icmp_eq C 2538 dL_law_2533 (by decide) (fun _ => ?_) (fun z => absurd rfl z)
    refine v_iload C dL_law_2538 rfl ?_
    refine v_if_ne C 2555 dL_law_2540 (by decide) (fun z => absurd (by decide) z) (fun _ => ?_)
    refine v_aload_n C dL_law_2543 rfl ?_
    refine v_iconst C dL_law_2544 (v := nI 0) (by decide) ?_
    refine v_lald C aj_l (by decide) 0 (by decide) rfl dL_law_2545 ?_
    refine v_iload C dL_law_2546 rfl ?_
    refine v_i2l C dL_law_2548 rfl ?_
    refine v_lcmp C dL_law_2549 ?_
    refine v_if_eq C 2555 dL_law_2550 (by decide) (fun _ => ?_) (fun z => absurd (lg_out (o := o) (x := cvI v) (y := v.toInt64) rfl) z)
    refine v_goto C 3915 dL_law_2555 (by decide) ?_
    refine V.sub (lo2 := [some (.ref b), some (.ref (h 0)), some (.ref (sh 126 h 0)), some (.ref (h 124)), some (.ref (h 125)), some (.int (nI (6 * j))), none, none, none]) ⟨rfl, rfl, rfl, rfl, rfl, rfl, trivial⟩ ?_
    exact back _ _ _ _ hIV
  · skip
    refine v_istore C dL_law_2519 rfl (Nat.le_of_ble_eq_true rfl) rfl ?_
    refine v_aload_n C dL_law_2521 rfl ?_
    refine v_callVi C Mq ym_X6_bestPolicy ml_L_338 emb_l_q rfl rfl rfl rfl rfl dL_law_2522 (by omega) (by omega) (by omega) (Nat.le_of_ble_eq_true rfl) (fun _ _ hz => hz.elim) (fun r2 u2 hq => ?_)
    obtain ⟨i2, h2, hi3, t0, hIV⟩ := J2 _ _ _ _ hp hq
    obtain rfl := EL_inj nd_S hi h2
    refine V.stt (g2 := (c2, o, dd, u2)) rfl ?_
    refine v_istore C dL_law_2525 rfl (Nat.le_of_ble_eq_true rfl) rfl ?_
    refine v_aload_n C dL_law_2527 rfl ?_
    refine v_callVi C (c_X6_thrown hl t0) ym_X6_thrown ml_L_211 emb_l_q rfl rfl rfl rfl rfl dL_law_2528 (Nat.le_of_ble_eq_true rfl) (by omega) (by omega) (Nat.le_of_ble_eq_true rfl) (fun _ _ hz => hz.elim) (fun r3 u3 hr => ?_)
    obtain ⟨hr, rfl⟩ := hr
    subst hr
    refine V.stt (g2 := (c2, o, dd, u3)) rfl ?_
    refine v_iload C dL_law_2531 rfl ?_
    refine v_icmp_eq C 2538 dL_law_2533 (by decide) (fun _ => ?_) (fun z => absurd rfl z)
    refine v_iload C dL_law_2538 rfl ?_
    refine v_if_ne C 2555 dL_law_2540 (by decide) (fun _ => ?_) (fun z => absurd z (nI_pos3 hi3))
    refine v_goto C 3915 dL_law_2555 (by decide) ?_
    refine V.sub (lo2 := [some (.ref b), some (.ref (h 0)), some (.ref (sh 126 h 0)), some (.ref (h 124)), some (.ref (h 125)), some (.int (nI (6 * j))), none, none, none]) ⟨rfl, rfl, rfl, rfl, rfl, rfl, trivial⟩ ?_
    exact back _ _ _ _ hIV
set_option maxHeartbeats 1000000 in
theorem k_41 {X : Cx} {kc ks : Nat} (hl : (xl X).stackTraces = false) (C : Ok SS MM X RL cL_law 9 30 kc ks) {b L : Nat} {w : Nat → Int32} (Z : Lok X b L w) {h : Nat → Nat} {j : Nat} (hj : 6 * j + 6 ≤ L) (hL : L ≤ 3072) {c : Cg} {o : Nat → Int64} {dd : Nat → UInt64} {q : G} (I : INV (20 + j) c q) {k n : Nat} (hk : k + 6 ≤ kc) (hn : n + 36 ≤ ks) (back : ∀ c2 o2 d2 q2, INV (20 + j + 1) c2 q2 → V X (lS (xK X) h) 3915 [some (.ref b), some (.ref (h 0)), some (.ref (sh 126 h 0)), some (.ref (h 124)), some (.ref (h 125)), some (.int (nI (6 * j))), none, none, none] [] (c2, o2, d2, q2) (k + 6) (n + 36)) : V X (lS (xK X) h) 2558 [some (.ref b), some (.ref (h 0)), some (.ref (sh 126 h 0)), some (.ref (h 124)), some (.ref (h 125)), some (.int (nI (6 * j))), none, none, none] [] (c, o, dd, q) k n := by
  refine v_aload_n C dL_law_2558 rfl ?_
  refine v_aload_n C dL_law_2559 rfl ?_
  refine v_iload C dL_law_2560 rfl ?_
  refine v_iconst C dL_law_2562 (v := nI 1) (by decide) ?_
  refine v_iaddN C dL_law_2563 ?_
  refine v_sld C Z (6 * j + 1) rfl (by omega) hL dL_law_2564 ?_
  refine v_aload_n C dL_law_2565 rfl ?_
  obtain ⟨dM, mc, ms, dq, post, px, pq, ⟨a1, a2, a3, a4⟩, M, Mq, hE, ⟨J1, J2⟩, hP⟩ := s_account hl (κ := xK X) (h := h) (by omega) I (w (6 * j + 1))
  refine v_callSH C (hc_account hl (κ := xK X) (h := h) (c := c) (o := o) (dd := dd) (q := q) a1 a2 a3 M hE) ysh_L_account rfl ml_L_339 emb_id_lS rfl rfl rfl dL_law_2566 (Nat.le_of_ble_eq_true rfl) hk hn (Nat.le_of_ble_eq_true rfl) (fun _ _ hz => hz.elim) (fun r u hu => ?_)
  rcases hu with ⟨v, c2, hp, rfl, rfl⟩ | ⟨e, c2, i, hp, hi, rfl, rfl⟩
  · skip
    refine v_istore C dL_law_2569 rfl (Nat.le_of_ble_eq_true rfl) rfl ?_
    refine v_aload_n C dL_law_2571 rfl ?_
    refine v_aload_n C dL_law_2572 rfl ?_
    refine v_iload C dL_law_2573 rfl ?_
    refine v_iconst C dL_law_2575 (v := nI 1) (by decide) ?_
    refine v_iaddN C dL_law_2576 ?_
    refine v_sld C Z (6 * j + 1) rfl (by omega) hL dL_law_2577 ?_
    refine v_callVi C Mq ym_X6_account ml_L_341 emb_l_q rfl rfl rfl rfl rfl dL_law_2578 (by omega) (by omega) (by omega) (Nat.le_of_ble_eq_true rfl) (fun _ _ hz => hz.elim) (fun r2 u2 hq => ?_)
    obtain ⟨t0, rfl, hIV⟩ := J1 _ _ _ _ hp hq
    refine V.stt (g2 := (c2, vp_updL o 0 (cvI v), dd, u2)) rfl ?_
    refine v_istore C dL_law_2581 rfl (Nat.le_of_ble_eq_true rfl) rfl ?_
    refine v_aload_n C dL_law_2583 rfl ?_
    refine v_callVi C (c_X6_thrown hl t0) ym_X6_thrown ml_L_211 emb_l_q rfl rfl rfl rfl rfl dL_law_2584 (Nat.le_of_ble_eq_true rfl) (by omega) (by omega) (Nat.le_of_ble_eq_true rfl) (fun _ _ hz => hz.elim) (fun r3 u3 hr => ?_)
    obtain ⟨hr, rfl⟩ := hr
    subst hr
    refine V.stt (g2 := (c2, vp_updL o 0 (cvI v), dd, u3)) rfl ?_
    refine v_iload C dL_law_2587 rfl ?_
    refine v_icmp_eq C 2594 dL_law_2589 (by decide) (fun _ => ?_) (fun z => absurd rfl z)
    refine v_iload C dL_law_2594 rfl ?_
    refine v_if_ne C 2611 dL_law_2596 (by decide) (fun z => absurd (by decide) z) (fun _ => ?_)
    refine v_aload_n C dL_law_2599 rfl ?_
    refine v_iconst C dL_law_2600 (v := nI 0) (by decide) ?_
    refine v_lald C aj_l (by decide) 0 (by decide) rfl dL_law_2601 ?_
    refine v_iload C dL_law_2602 rfl ?_
    refine v_i2l C dL_law_2604 rfl ?_
    refine v_lcmp C dL_law_2605 ?_
    refine v_if_eq C 2611 dL_law_2606 (by decide) (fun _ => ?_) (fun z => absurd (lg_out (o := o) (x := cvI v) (y := v.toInt64) rfl) z)
    refine v_goto C 3915 dL_law_2611 (by decide) ?_
    refine V.sub (lo2 := [some (.ref b), some (.ref (h 0)), some (.ref (sh 126 h 0)), some (.ref (h 124)), some (.ref (h 125)), some (.int (nI (6 * j))), none, none, none]) ⟨rfl, rfl, rfl, rfl, rfl, rfl, trivial⟩ ?_
    exact back _ _ _ _ hIV
  · skip
    refine v_istore C dL_law_2569 rfl (Nat.le_of_ble_eq_true rfl) rfl ?_
    refine v_aload_n C dL_law_2571 rfl ?_
    refine v_aload_n C dL_law_2572 rfl ?_
    refine v_iload C dL_law_2573 rfl ?_
    refine v_iconst C dL_law_2575 (v := nI 1) (by decide) ?_
    refine v_iaddN C dL_law_2576 ?_
    refine v_sld C Z (6 * j + 1) rfl (by omega) hL dL_law_2577 ?_
    refine v_callVi C Mq ym_X6_account ml_L_341 emb_l_q rfl rfl rfl rfl rfl dL_law_2578 (by omega) (by omega) (by omega) (Nat.le_of_ble_eq_true rfl) (fun _ _ hz => hz.elim) (fun r2 u2 hq => ?_)
    obtain ⟨i2, h2, hi3, t0, hIV⟩ := J2 _ _ _ _ hp hq
    obtain rfl := EL_inj nd_SA hi h2
    refine V.stt (g2 := (c2, o, dd, u2)) rfl ?_
    refine v_istore C dL_law_2581 rfl (Nat.le_of_ble_eq_true rfl) rfl ?_
    refine v_aload_n C dL_law_2583 rfl ?_
    refine v_callVi C (c_X6_thrown hl t0) ym_X6_thrown ml_L_211 emb_l_q rfl rfl rfl rfl rfl dL_law_2584 (Nat.le_of_ble_eq_true rfl) (by omega) (by omega) (Nat.le_of_ble_eq_true rfl) (fun _ _ hz => hz.elim) (fun r3 u3 hr => ?_)
    obtain ⟨hr, rfl⟩ := hr
    subst hr
    refine V.stt (g2 := (c2, o, dd, u3)) rfl ?_
    refine v_iload C dL_law_2587 rfl ?_
    refine v_icmp_eq C 2594 dL_law_2589 (by decide) (fun _ => ?_) (fun z => absurd rfl z)
    refine v_iload C dL_law_2594 rfl ?_
    refine v_if_ne C 2611 dL_law_2596 (by decide) (fun _ => ?_) (fun z => absurd z (nI_pos3 hi3))
    refine v_goto C 3915 dL_law_2611 (by decide) ?_
    refine V.sub (lo2 := [some (.ref b), some (.ref (h 0)), some (.ref (sh 126 h 0)), some (.ref (h 124)), some (.ref (h 125)), some (.int (nI (6 * j))), none, none, none]) ⟨rfl, rfl, rfl, rfl, rfl, rfl, trivial⟩ ?_
    exact back _ _ _ _ hIV
set_option maxHeartbeats 1000000 in
theorem k_42 {X : Cx} {kc ks : Nat} (hl : (xl X).stackTraces = false) (C : Ok SS MM X RL cL_law 9 30 kc ks) {b L : Nat} {w : Nat → Int32} (Z : Lok X b L w) {h : Nat → Nat} {j : Nat} (hj : 6 * j + 6 ≤ L) (hL : L ≤ 3072) {c : Cg} {o : Nat → Int64} {dd : Nat → UInt64} {q : G} (I : INV (20 + j) c q) {k n : Nat} (hk : k + 6 ≤ kc) (hn : n + 36 ≤ ks) (back : ∀ c2 o2 d2 q2, INV (20 + j + 1) c2 q2 → V X (lS (xK X) h) 3915 [some (.ref b), some (.ref (h 0)), some (.ref (sh 126 h 0)), some (.ref (h 124)), some (.ref (h 125)), some (.int (nI (6 * j))), none, none, none] [] (c2, o2, d2, q2) (k + 6) (n + 36)) : V X (lS (xK X) h) 2614 [some (.ref b), some (.ref (h 0)), some (.ref (sh 126 h 0)), some (.ref (h 124)), some (.ref (h 125)), some (.int (nI (6 * j))), none, none, none] [] (c, o, dd, q) k n := by
  refine v_aload_n C dL_law_2614 rfl ?_
  refine v_aload C dL_law_2615 rfl ?_
  obtain ⟨dM, mc, ms, dq, post, px, pq, ⟨a1, a2, a3, a4⟩, M, Mq, hE, ⟨J1, J2⟩, hP⟩ := s_meanHops hl (κ := xK X) (h := h) (by omega) I
  refine v_callSH C (hc_meanHops hl (κ := xK X) (h := h) (c := c) (o := o) (dd := dd) (q := q) a1 a2 a3 M hE) ysh_L_meanHops rfl ml_L_342 emb_id_lS rfl rfl rfl dL_law_2617 (Nat.le_of_ble_eq_true rfl) hk hn (Nat.le_of_ble_eq_true rfl) (fun _ _ hz => hz.elim) (fun r u hu => ?_)
  rcases hu with ⟨v, c2, hp, rfl, rfl⟩ | ⟨e, c2, i, hp, hi, rfl, rfl⟩
  · skip
    refine v_istore C dL_law_2620 rfl (Nat.le_of_ble_eq_true rfl) rfl ?_
    refine v_aload_n C dL_law_2622 rfl ?_
    refine v_callVd C Mq ym_X6_meanHops ml_L_345 emb_l_q rfl rfl rfl rfl rfl dL_law_2623 (by omega) (by omega) (by omega) (Nat.le_of_ble_eq_true rfl) (fun _ _ hz => hz.elim) (fun r2 u2 hq => ?_)
    obtain ⟨t0, rfl, hIV⟩ := J1 _ _ _ _ hp hq
    refine V.stt (g2 := (c2, o, vf_upd dd 0 (v), u2)) rfl ?_
    refine v_dstore C dL_law_2626 rfl (Nat.le_of_ble_eq_true rfl) rfl ?_
    refine v_aload_n C dL_law_2628 rfl ?_
    refine v_callVi C (c_X6_thrown hl t0) ym_X6_thrown ml_L_211 emb_l_q rfl rfl rfl rfl rfl dL_law_2629 (Nat.le_of_ble_eq_true rfl) (by omega) (by omega) (Nat.le_of_ble_eq_true rfl) (fun _ _ hz => hz.elim) (fun r3 u3 hr => ?_)
    obtain ⟨hr, rfl⟩ := hr
    subst hr
    refine V.stt (g2 := (c2, o, vf_upd dd 0 (v), u3)) rfl ?_
    refine v_iload C dL_law_2632 rfl ?_
    refine v_icmp_eq C 2639 dL_law_2634 (by decide) (fun _ => ?_) (fun z => absurd rfl z)
    refine v_iload C dL_law_2639 rfl ?_
    refine v_if_ne C 2676 dL_law_2641 (by decide) (fun z => absurd (by decide) z) (fun _ => ?_)
    refine v_aload C dL_law_2644 rfl ?_
    refine v_iconst C dL_law_2646 (v := nI 0) (by decide) ?_
    refine v_dald C af_l (by decide) 0 (by decide) rfl dL_law_2647 ?_
    refine v_dload C dL_law_2648 rfl ?_
    refine v_dcmp C dL_law_2650 ?_
    refine v_if_eq C 2676 dL_law_2651 (by decide) (fun _ => ?_) (fun z => absurd (dc_out (o := dd) (x := v) (y := v) rfl (hP _ _ hp)) z)
    refine v_goto C 3915 dL_law_2676 (by decide) ?_
    refine V.sub (lo2 := [some (.ref b), some (.ref (h 0)), some (.ref (sh 126 h 0)), some (.ref (h 124)), some (.ref (h 125)), some (.int (nI (6 * j))), none, none, none]) ⟨rfl, rfl, rfl, rfl, rfl, rfl, trivial⟩ ?_
    exact back _ _ _ _ hIV
  · skip
    refine v_istore C dL_law_2620 rfl (Nat.le_of_ble_eq_true rfl) rfl ?_
    refine v_aload_n C dL_law_2622 rfl ?_
    refine v_callVd C Mq ym_X6_meanHops ml_L_345 emb_l_q rfl rfl rfl rfl rfl dL_law_2623 (by omega) (by omega) (by omega) (Nat.le_of_ble_eq_true rfl) (fun _ _ hz => hz.elim) (fun r2 u2 hq => ?_)
    obtain ⟨i2, h2, hi3, t0, hIV⟩ := J2 _ _ _ _ hp hq
    obtain rfl := EL_inj nd_S hi h2
    refine V.stt (g2 := (c2, o, dd, u2)) rfl ?_
    refine v_dstore C dL_law_2626 rfl (Nat.le_of_ble_eq_true rfl) rfl ?_
    refine v_aload_n C dL_law_2628 rfl ?_
    refine v_callVi C (c_X6_thrown hl t0) ym_X6_thrown ml_L_211 emb_l_q rfl rfl rfl rfl rfl dL_law_2629 (Nat.le_of_ble_eq_true rfl) (by omega) (by omega) (Nat.le_of_ble_eq_true rfl) (fun _ _ hz => hz.elim) (fun r3 u3 hr => ?_)
    obtain ⟨hr, rfl⟩ := hr
    subst hr
    refine V.stt (g2 := (c2, o, dd, u3)) rfl ?_
    refine v_iload C dL_law_2632 rfl ?_
    refine v_icmp_eq C 2639 dL_law_2634 (by decide) (fun _ => ?_) (fun z => absurd rfl z)
    refine v_iload C dL_law_2639 rfl ?_
    refine v_if_ne C 2676 dL_law_2641 (by decide) (fun _ => ?_) (fun z => absurd z (nI_pos3 hi3))
    refine v_goto C 3915 dL_law_2676 (by decide) ?_
    refine V.sub (lo2 := [some (.ref b), some (.ref (h 0)), some (.ref (sh 126 h 0)), some (.ref (h 124)), some (.ref (h 125)), some (.int (nI (6 * j))), none, none, none]) ⟨rfl, rfl, rfl, rfl, rfl, rfl, trivial⟩ ?_
    exact back _ _ _ _ hIV
set_option maxHeartbeats 1000000 in
theorem k_43 {X : Cx} {kc ks : Nat} (hl : (xl X).stackTraces = false) (C : Ok SS MM X RL cL_law 9 30 kc ks) {b L : Nat} {w : Nat → Int32} (Z : Lok X b L w) {h : Nat → Nat} {j : Nat} (hj : 6 * j + 6 ≤ L) (hL : L ≤ 3072) {c : Cg} {o : Nat → Int64} {dd : Nat → UInt64} {q : G} (I : INV (20 + j) c q) {k n : Nat} (hk : k + 6 ≤ kc) (hn : n + 36 ≤ ks) (back : ∀ c2 o2 d2 q2, INV (20 + j + 1) c2 q2 → V X (lS (xK X) h) 3915 [some (.ref b), some (.ref (h 0)), some (.ref (sh 126 h 0)), some (.ref (h 124)), some (.ref (h 125)), some (.int (nI (6 * j))), none, none, none] [] (c2, o2, d2, q2) (k + 6) (n + 36)) : V X (lS (xK X) h) 2679 [some (.ref b), some (.ref (h 0)), some (.ref (sh 126 h 0)), some (.ref (h 124)), some (.ref (h 125)), some (.int (nI (6 * j))), none, none, none] [] (c, o, dd, q) k n := by
  refine v_aload_n C dL_law_2679 rfl ?_
  refine v_aload C dL_law_2680 rfl ?_
  obtain ⟨dM, mc, ms, dq, post, px, pq, ⟨a1, a2, a3, a4⟩, M, Mq, hE, ⟨J1, J2⟩, hP⟩ := s_idleShare hl (κ := xK X) (h := h) (by omega) I
  refine v_callSH C (hc_idleShare hl (κ := xK X) (h := h) (c := c) (o := o) (dd := dd) (q := q) a1 a2 a3 M hE (fun v u hp => fp_w (hP v u hp))) ysh_L_idleShare rfl ml_L_346 emb_id_lS rfl rfl rfl dL_law_2682 (Nat.le_of_ble_eq_true rfl) hk hn (Nat.le_of_ble_eq_true rfl) (fun _ _ hz => hz.elim) (fun r u hu => ?_)
  rcases hu with ⟨v, c2, hp, rfl, rfl⟩ | ⟨e, c2, i, hp, hi, rfl, rfl⟩
  · skip
    refine v_istore C dL_law_2685 rfl (Nat.le_of_ble_eq_true rfl) rfl ?_
    refine v_aload_n C dL_law_2687 rfl ?_
    refine v_callVf C Mq ym_X6_idleShare ml_L_348 emb_l_q rfl rfl rfl rfl rfl dL_law_2688 (by omega) (by omega) (by omega) (Nat.le_of_ble_eq_true rfl) (fun _ _ hz => hz.elim) (fun r2 u2 hq => ?_)
    obtain ⟨t0, rfl, hIV⟩ := J1 _ _ _ _ hp hq
    refine V.stt (g2 := (c2, o, vf_upd dd 0 (FP.f2d v), u2)) rfl ?_
    refine v_fstore C dL_law_2691 rfl (Nat.le_of_ble_eq_true rfl) rfl ?_
    refine v_aload_n C dL_law_2693 rfl ?_
    refine v_callVi C (c_X6_thrown hl t0) ym_X6_thrown ml_L_211 emb_l_q rfl rfl rfl rfl rfl dL_law_2694 (Nat.le_of_ble_eq_true rfl) (by omega) (by omega) (Nat.le_of_ble_eq_true rfl) (fun _ _ hz => hz.elim) (fun r3 u3 hr => ?_)
    obtain ⟨hr, rfl⟩ := hr
    subst hr
    refine V.stt (g2 := (c2, o, vf_upd dd 0 (FP.f2d v), u3)) rfl ?_
    refine v_iload C dL_law_2697 rfl ?_
    refine v_icmp_eq C 2704 dL_law_2699 (by decide) (fun _ => ?_) (fun z => absurd rfl z)
    refine v_iload C dL_law_2704 rfl ?_
    refine v_if_ne C 2742 dL_law_2706 (by decide) (fun z => absurd (by decide) z) (fun _ => ?_)
    refine v_aload C dL_law_2709 rfl ?_
    refine v_iconst C dL_law_2711 (v := nI 0) (by decide) ?_
    refine v_dald C af_l (by decide) 0 (by decide) rfl dL_law_2712 ?_
    refine v_fload C dL_law_2713 rfl ?_
    refine v_f2d C dL_law_2715 (fp_w (hP _ _ hp)) ?_
    refine v_dcmp C dL_law_2716 ?_
    refine v_if_eq C 2742 dL_law_2717 (by decide) (fun _ => ?_) (fun z => absurd (dc_out (o := dd) (x := FP.f2d v) (y := FP.f2d v) rfl (fp_wn (hP _ _ hp))) z)
    refine v_goto C 3915 dL_law_2742 (by decide) ?_
    refine V.sub (lo2 := [some (.ref b), some (.ref (h 0)), some (.ref (sh 126 h 0)), some (.ref (h 124)), some (.ref (h 125)), some (.int (nI (6 * j))), none, none, none]) ⟨rfl, rfl, rfl, rfl, rfl, rfl, trivial⟩ ?_
    exact back _ _ _ _ hIV
  · skip
    refine v_istore C dL_law_2685 rfl (Nat.le_of_ble_eq_true rfl) rfl ?_
    refine v_aload_n C dL_law_2687 rfl ?_
    refine v_callVf C Mq ym_X6_idleShare ml_L_348 emb_l_q rfl rfl rfl rfl rfl dL_law_2688 (by omega) (by omega) (by omega) (Nat.le_of_ble_eq_true rfl) (fun _ _ hz => hz.elim) (fun r2 u2 hq => ?_)
    obtain ⟨i2, h2, hi3, t0, hIV⟩ := J2 _ _ _ _ hp hq
    obtain rfl := EL_inj nd_S hi h2
    refine V.stt (g2 := (c2, o, dd, u2)) rfl ?_
    refine v_fstore C dL_law_2691 rfl (Nat.le_of_ble_eq_true rfl) rfl ?_
    refine v_aload_n C dL_law_2693 rfl ?_
    refine v_callVi C (c_X6_thrown hl t0) ym_X6_thrown ml_L_211 emb_l_q rfl rfl rfl rfl rfl dL_law_2694 (Nat.le_of_ble_eq_true rfl) (by omega) (by omega) (Nat.le_of_ble_eq_true rfl) (fun _ _ hz => hz.elim) (fun r3 u3 hr => ?_)
    obtain ⟨hr, rfl⟩ := hr
    subst hr
    refine V.stt (g2 := (c2, o, dd, u3)) rfl ?_
    refine v_iload C dL_law_2697 rfl ?_
    refine v_icmp_eq C 2704 dL_law_2699 (by decide) (fun _ => ?_) (fun z => absurd rfl z)
    refine v_iload C dL_law_2704 rfl ?_
    refine v_if_ne C 2742 dL_law_2706 (by decide) (fun _ => ?_) (fun z => absurd z (nI_pos3 hi3))
    refine v_goto C 3915 dL_law_2742 (by decide) ?_
    refine V.sub (lo2 := [some (.ref b), some (.ref (h 0)), some (.ref (sh 126 h 0)), some (.ref (h 124)), some (.ref (h 125)), some (.int (nI (6 * j))), none, none, none]) ⟨rfl, rfl, rfl, rfl, rfl, rfl, trivial⟩ ?_
    exact back _ _ _ _ hIV
set_option maxHeartbeats 1000000 in
theorem k_44 {X : Cx} {kc ks : Nat} (hl : (xl X).stackTraces = false) (C : Ok SS MM X RL cL_law 9 30 kc ks) {b L : Nat} {w : Nat → Int32} (Z : Lok X b L w) {h : Nat → Nat} {j : Nat} (hj : 6 * j + 6 ≤ L) (hL : L ≤ 3072) {c : Cg} {o : Nat → Int64} {dd : Nat → UInt64} {q : G} (I : INV (20 + j) c q) {k n : Nat} (hk : k + 6 ≤ kc) (hn : n + 36 ≤ ks) (back : ∀ c2 o2 d2 q2, INV (20 + j + 1) c2 q2 → V X (lS (xK X) h) 3915 [some (.ref b), some (.ref (h 0)), some (.ref (sh 126 h 0)), some (.ref (h 124)), some (.ref (h 125)), some (.int (nI (6 * j))), none, none, none] [] (c2, o2, d2, q2) (k + 6) (n + 36)) : V X (lS (xK X) h) 2745 [some (.ref b), some (.ref (h 0)), some (.ref (sh 126 h 0)), some (.ref (h 124)), some (.ref (h 125)), some (.int (nI (6 * j))), none, none, none] [] (c, o, dd, q) k n := by
  refine v_aload_n C dL_law_2745 rfl ?_
  obtain ⟨dM, dq, post, pq, ⟨a1, a4⟩, M, Mq, J⟩ := z_events hl (κ := xK X) (h := h) I
  refine v_callVi C M ym_X5_events ml_L_349 emb_l_c rfl rfl rfl rfl rfl dL_law_2746 (by omega) (by omega) (by omega) (Nat.le_of_ble_eq_true rfl) (fun _ _ hz => hz.elim) (fun v c2 hp => ?_)
  refine v_aload_n C dL_law_2749 rfl ?_
  refine v_callVi C Mq ym_X6_events ml_L_352 emb_l_q rfl rfl rfl rfl rfl dL_law_2750 (by omega) (by omega) (by omega) (Nat.le_of_ble_eq_true rfl) (fun _ _ hz => hz.elim) (fun r2 u2 hq => ?_)
  obtain ⟨rfl, hIV⟩ := J _ _ _ _ hp hq
  refine V.stt (g2 := (c2, o, dd, u2)) rfl ?_
  refine v_icmp_eq C 3915 dL_law_2753 (by decide) (fun _ => ?_) (fun z => absurd rfl z)
  refine V.sub (lo2 := [some (.ref b), some (.ref (h 0)), some (.ref (sh 126 h 0)), some (.ref (h 124)), some (.ref (h 125)), some (.int (nI (6 * j))), none, none, none]) ⟨rfl, rfl, rfl, rfl, rfl, rfl, trivial⟩ ?_
  exact V.widen (by omega) (by omega) (back _ _ _ _ hIV)
set_option maxHeartbeats 1000000 in
theorem k_45 {X : Cx} {kc ks : Nat} (hl : (xl X).stackTraces = false) (C : Ok SS MM X RL cL_law 9 30 kc ks) {b L : Nat} {w : Nat → Int32} (Z : Lok X b L w) {h : Nat → Nat} {j : Nat} (hj : 6 * j + 6 ≤ L) (hL : L ≤ 3072) {c : Cg} {o : Nat → Int64} {dd : Nat → UInt64} {q : G} (I : INV (20 + j) c q) {k n : Nat} (hk : k + 6 ≤ kc) (hn : n + 36 ≤ ks) (back : ∀ c2 o2 d2 q2, INV (20 + j + 1) c2 q2 → V X (lS (xK X) h) 3915 [some (.ref b), some (.ref (h 0)), some (.ref (sh 126 h 0)), some (.ref (h 124)), some (.ref (h 125)), some (.int (nI (6 * j))), none, none, none] [] (c2, o2, d2, q2) (k + 6) (n + 36)) : V X (lS (xK X) h) 2758 [some (.ref b), some (.ref (h 0)), some (.ref (sh 126 h 0)), some (.ref (h 124)), some (.ref (h 125)), some (.int (nI (6 * j))), none, none, none] [] (c, o, dd, q) k n := by
  refine v_aload_n C dL_law_2758 rfl ?_
  refine v_aload_n C dL_law_2759 rfl ?_
  refine v_iload C dL_law_2760 rfl ?_
  refine v_iconst C dL_law_2762 (v := nI 1) (by decide) ?_
  refine v_iaddN C dL_law_2763 ?_
  refine v_sld C Z (6 * j + 1) rfl (by omega) hL dL_law_2764 ?_
  refine v_aload_n C dL_law_2765 rfl ?_
  refine v_iload C dL_law_2766 rfl ?_
  refine v_iconst C dL_law_2768 (v := nI 2) (by decide) ?_
  refine v_iaddN C dL_law_2769 ?_
  refine v_sld C Z (6 * j + 2) rfl (by omega) hL dL_law_2770 ?_
  refine v_aload_n C dL_law_2771 rfl ?_
  obtain ⟨dM, mc, ms, dq, post, px, pq, ⟨a1, a2, a3, a4⟩, M, Mq, hE, ⟨J1, J2⟩, hP⟩ := s_event hl (κ := xK X) (h := h) (by omega) I (w (6 * j + 1)) (w (6 * j + 2))
  refine v_callSH C (hc_event hl (κ := xK X) (h := h) (c := c) (o := o) (dd := dd) (q := q) a1 a2 a3 M hE) ysh_L_event rfl ml_L_353 emb_id_lS rfl rfl rfl dL_law_2772 (Nat.le_of_ble_eq_true rfl) hk hn (Nat.le_of_ble_eq_true rfl) (fun _ _ hz => hz.elim) (fun r u hu => ?_)
  rcases hu with ⟨v, c2, hp, rfl, rfl⟩ | ⟨e, c2, i, hp, hi, rfl, rfl⟩
  · skip
    refine v_istore C dL_law_2775 rfl (Nat.le_of_ble_eq_true rfl) rfl ?_
    refine v_aload_n C dL_law_2777 rfl ?_
    refine v_aload_n C dL_law_2778 rfl ?_
    refine v_iload C dL_law_2779 rfl ?_
    refine v_iconst C dL_law_2781 (v := nI 1) (by decide) ?_
    refine v_iaddN C dL_law_2782 ?_
    refine v_sld C Z (6 * j + 1) rfl (by omega) hL dL_law_2783 ?_
    refine v_aload_n C dL_law_2784 rfl ?_
    refine v_iload C dL_law_2785 rfl ?_
    refine v_iconst C dL_law_2787 (v := nI 2) (by decide) ?_
    refine v_iaddN C dL_law_2788 ?_
    refine v_sld C Z (6 * j + 2) rfl (by omega) hL dL_law_2789 ?_
    refine v_callVi C Mq ym_X6_event ml_L_355 emb_l_q rfl rfl rfl rfl rfl dL_law_2790 (by omega) (by omega) (by omega) (Nat.le_of_ble_eq_true rfl) (fun _ _ hz => hz.elim) (fun r2 u2 hq => ?_)
    obtain ⟨t0, rfl, hIV⟩ := J1 _ _ _ _ hp hq
    refine V.stt (g2 := (c2, vp_updL o 0 (cvI v), dd, u2)) rfl ?_
    refine v_istore C dL_law_2793 rfl (Nat.le_of_ble_eq_true rfl) rfl ?_
    refine v_aload_n C dL_law_2795 rfl ?_
    refine v_callVi C (c_X6_thrown hl t0) ym_X6_thrown ml_L_211 emb_l_q rfl rfl rfl rfl rfl dL_law_2796 (Nat.le_of_ble_eq_true rfl) (by omega) (by omega) (Nat.le_of_ble_eq_true rfl) (fun _ _ hz => hz.elim) (fun r3 u3 hr => ?_)
    obtain ⟨hr, rfl⟩ := hr
    subst hr
    refine V.stt (g2 := (c2, vp_updL o 0 (cvI v), dd, u3)) rfl ?_
    refine v_iload C dL_law_2799 rfl ?_
    refine v_icmp_eq C 2806 dL_law_2801 (by decide) (fun _ => ?_) (fun z => absurd rfl z)
    refine v_iload C dL_law_2806 rfl ?_
    refine v_if_ne C 2823 dL_law_2808 (by decide) (fun z => absurd (by decide) z) (fun _ => ?_)
    refine v_aload_n C dL_law_2811 rfl ?_
    refine v_iconst C dL_law_2812 (v := nI 0) (by decide) ?_
    refine v_lald C aj_l (by decide) 0 (by decide) rfl dL_law_2813 ?_
    refine v_iload C dL_law_2814 rfl ?_
    refine v_i2l C dL_law_2816 rfl ?_
    refine v_lcmp C dL_law_2817 ?_
    refine v_if_eq C 2823 dL_law_2818 (by decide) (fun _ => ?_) (fun z => absurd (lg_out (o := o) (x := cvI v) (y := v.toInt64) rfl) z)
    refine v_goto C 3915 dL_law_2823 (by decide) ?_
    refine V.sub (lo2 := [some (.ref b), some (.ref (h 0)), some (.ref (sh 126 h 0)), some (.ref (h 124)), some (.ref (h 125)), some (.int (nI (6 * j))), none, none, none]) ⟨rfl, rfl, rfl, rfl, rfl, rfl, trivial⟩ ?_
    exact back _ _ _ _ hIV
  · skip
    refine v_istore C dL_law_2775 rfl (Nat.le_of_ble_eq_true rfl) rfl ?_
    refine v_aload_n C dL_law_2777 rfl ?_
    refine v_aload_n C dL_law_2778 rfl ?_
    refine v_iload C dL_law_2779 rfl ?_
    refine v_iconst C dL_law_2781 (v := nI 1) (by decide) ?_
    refine v_iaddN C dL_law_2782 ?_
    refine v_sld C Z (6 * j + 1) rfl (by omega) hL dL_law_2783 ?_
    refine v_aload_n C dL_law_2784 rfl ?_
    refine v_iload C dL_law_2785 rfl ?_
    refine v_iconst C dL_law_2787 (v := nI 2) (by decide) ?_
    refine v_iaddN C dL_law_2788 ?_
    refine v_sld C Z (6 * j + 2) rfl (by omega) hL dL_law_2789 ?_
    refine v_callVi C Mq ym_X6_event ml_L_355 emb_l_q rfl rfl rfl rfl rfl dL_law_2790 (by omega) (by omega) (by omega) (Nat.le_of_ble_eq_true rfl) (fun _ _ hz => hz.elim) (fun r2 u2 hq => ?_)
    obtain ⟨i2, h2, hi3, t0, hIV⟩ := J2 _ _ _ _ hp hq
    obtain rfl := EL_inj nd_SOA hi h2
    refine V.stt (g2 := (c2, o, dd, u2)) rfl ?_
    refine v_istore C dL_law_2793 rfl (Nat.le_of_ble_eq_true rfl) rfl ?_
    refine v_aload_n C dL_law_2795 rfl ?_
    refine v_callVi C (c_X6_thrown hl t0) ym_X6_thrown ml_L_211 emb_l_q rfl rfl rfl rfl rfl dL_law_2796 (Nat.le_of_ble_eq_true rfl) (by omega) (by omega) (Nat.le_of_ble_eq_true rfl) (fun _ _ hz => hz.elim) (fun r3 u3 hr => ?_)
    obtain ⟨hr, rfl⟩ := hr
    subst hr
    refine V.stt (g2 := (c2, o, dd, u3)) rfl ?_
    refine v_iload C dL_law_2799 rfl ?_
    refine v_icmp_eq C 2806 dL_law_2801 (by decide) (fun _ => ?_) (fun z => absurd rfl z)
    refine v_iload C dL_law_2806 rfl ?_
    refine v_if_ne C 2823 dL_law_2808 (by decide) (fun _ => ?_) (fun z => absurd z (nI_pos3 hi3))
    refine v_goto C 3915 dL_law_2823 (by decide) ?_
    refine V.sub (lo2 := [some (.ref b), some (.ref (h 0)), some (.ref (sh 126 h 0)), some (.ref (h 124)), some (.ref (h 125)), some (.int (nI (6 * j))), none, none, none]) ⟨rfl, rfl, rfl, rfl, rfl, rfl, trivial⟩ ?_
    exact back _ _ _ _ hIV
set_option maxHeartbeats 1000000 in
theorem k_46 {X : Cx} {kc ks : Nat} (hl : (xl X).stackTraces = false) (C : Ok SS MM X RL cL_law 9 30 kc ks) {b L : Nat} {w : Nat → Int32} (Z : Lok X b L w) {h : Nat → Nat} {j : Nat} (hj : 6 * j + 6 ≤ L) (hL : L ≤ 3072) {c : Cg} {o : Nat → Int64} {dd : Nat → UInt64} {q : G} (I : INV (20 + j) c q) {k n : Nat} (hk : k + 6 ≤ kc) (hn : n + 36 ≤ ks) (back : ∀ c2 o2 d2 q2, INV (20 + j + 1) c2 q2 → V X (lS (xK X) h) 3915 [some (.ref b), some (.ref (h 0)), some (.ref (sh 126 h 0)), some (.ref (h 124)), some (.ref (h 125)), some (.int (nI (6 * j))), none, none, none] [] (c2, o2, d2, q2) (k + 6) (n + 36)) : V X (lS (xK X) h) 2826 [some (.ref b), some (.ref (h 0)), some (.ref (sh 126 h 0)), some (.ref (h 124)), some (.ref (h 125)), some (.int (nI (6 * j))), none, none, none] [] (c, o, dd, q) k n := by
  refine v_aload_n C dL_law_2826 rfl ?_
  refine v_aload_n C dL_law_2827 rfl ?_
  obtain ⟨dM, mc, ms, dq, post, px, pq, ⟨a1, a2, a3, a4⟩, M, Mq, hE, ⟨J1, J2⟩, hP⟩ := s_writeDebts hl (κ := xK X) (h := h) (by omega) I
  refine v_callSH C (hc_writeDebts hl (κ := xK X) (h := h) (c := c) (o := o) (dd := dd) (q := q) a1 a2 a3 M hE) ysh_L_writeDebts rfl ml_L_356 emb_id_lS rfl rfl rfl dL_law_2828 (Nat.le_of_ble_eq_true rfl) hk hn (Nat.le_of_ble_eq_true rfl) (fun _ _ hz => hz.elim) (fun r u hu => ?_)
  rcases hu with ⟨v, c2, hp, rfl, rfl⟩ | ⟨e, c2, i, hp, hi, rfl, rfl⟩
  · skip
    refine v_istore C dL_law_2831 rfl (Nat.le_of_ble_eq_true rfl) rfl ?_
    refine v_aload_n C dL_law_2833 rfl ?_
    refine v_callVi C Mq ym_X6_writeDebts ml_L_358 emb_l_q rfl rfl rfl rfl rfl dL_law_2834 (by omega) (by omega) (by omega) (Nat.le_of_ble_eq_true rfl) (fun _ _ hz => hz.elim) (fun r2 u2 hq => ?_)
    obtain ⟨t0, rfl, hIV⟩ := J1 _ _ _ _ hp hq
    refine V.stt (g2 := (c2, vp_updL o 0 (cvI v), dd, u2)) rfl ?_
    refine v_istore C dL_law_2837 rfl (Nat.le_of_ble_eq_true rfl) rfl ?_
    refine v_aload_n C dL_law_2839 rfl ?_
    refine v_callVi C (c_X6_thrown hl t0) ym_X6_thrown ml_L_211 emb_l_q rfl rfl rfl rfl rfl dL_law_2840 (Nat.le_of_ble_eq_true rfl) (by omega) (by omega) (Nat.le_of_ble_eq_true rfl) (fun _ _ hz => hz.elim) (fun r3 u3 hr => ?_)
    obtain ⟨hr, rfl⟩ := hr
    subst hr
    refine V.stt (g2 := (c2, vp_updL o 0 (cvI v), dd, u3)) rfl ?_
    refine v_iload C dL_law_2843 rfl ?_
    refine v_icmp_eq C 2850 dL_law_2845 (by decide) (fun _ => ?_) (fun z => absurd rfl z)
    refine v_iload C dL_law_2850 rfl ?_
    refine v_if_ne C 2867 dL_law_2852 (by decide) (fun z => absurd (by decide) z) (fun _ => ?_)
    refine v_aload_n C dL_law_2855 rfl ?_
    refine v_iconst C dL_law_2856 (v := nI 0) (by decide) ?_
    refine v_lald C aj_l (by decide) 0 (by decide) rfl dL_law_2857 ?_
    refine v_iload C dL_law_2858 rfl ?_
    refine v_i2l C dL_law_2860 rfl ?_
    refine v_lcmp C dL_law_2861 ?_
    refine v_if_eq C 2867 dL_law_2862 (by decide) (fun _ => ?_) (fun z => absurd (lg_out (o := o) (x := cvI v) (y := v.toInt64) rfl) z)
    refine v_goto C 3915 dL_law_2867 (by decide) ?_
    refine V.sub (lo2 := [some (.ref b), some (.ref (h 0)), some (.ref (sh 126 h 0)), some (.ref (h 124)), some (.ref (h 125)), some (.int (nI (6 * j))), none, none, none]) ⟨rfl, rfl, rfl, rfl, rfl, rfl, trivial⟩ ?_
    exact back _ _ _ _ hIV
  · skip
    refine v_istore C dL_law_2831 rfl (Nat.le_of_ble_eq_true rfl) rfl ?_
    refine v_aload_n C dL_law_2833 rfl ?_
    refine v_callVi C Mq ym_X6_writeDebts ml_L_358 emb_l_q rfl rfl rfl rfl rfl dL_law_2834 (by omega) (by omega) (by omega) (Nat.le_of_ble_eq_true rfl) (fun _ _ hz => hz.elim) (fun r2 u2 hq => ?_)
    obtain ⟨i2, h2, hi3, t0, hIV⟩ := J2 _ _ _ _ hp hq
    obtain rfl := EL_inj nd_S hi h2
    refine V.stt (g2 := (c2, o, dd, u2)) rfl ?_
    refine v_istore C dL_law_2837 rfl (Nat.le_of_ble_eq_true rfl) rfl ?_
    refine v_aload_n C dL_law_2839 rfl ?_
    refine v_callVi C (c_X6_thrown hl t0) ym_X6_thrown ml_L_211 emb_l_q rfl rfl rfl rfl rfl dL_law_2840 (Nat.le_of_ble_eq_true rfl) (by omega) (by omega) (Nat.le_of_ble_eq_true rfl) (fun _ _ hz => hz.elim) (fun r3 u3 hr => ?_)
    obtain ⟨hr, rfl⟩ := hr
    subst hr
    refine V.stt (g2 := (c2, o, dd, u3)) rfl ?_
    refine v_iload C dL_law_2843 rfl ?_
    refine v_icmp_eq C 2850 dL_law_2845 (by decide) (fun _ => ?_) (fun z => absurd rfl z)
    refine v_iload C dL_law_2850 rfl ?_
    refine v_if_ne C 2867 dL_law_2852 (by decide) (fun _ => ?_) (fun z => absurd z (nI_pos3 hi3))
    refine v_goto C 3915 dL_law_2867 (by decide) ?_
    refine V.sub (lo2 := [some (.ref b), some (.ref (h 0)), some (.ref (sh 126 h 0)), some (.ref (h 124)), some (.ref (h 125)), some (.int (nI (6 * j))), none, none, none]) ⟨rfl, rfl, rfl, rfl, rfl, rfl, trivial⟩ ?_
    exact back _ _ _ _ hIV
set_option maxHeartbeats 1000000 in
theorem k_47 {X : Cx} {kc ks : Nat} (hl : (xl X).stackTraces = false) (C : Ok SS MM X RL cL_law 9 30 kc ks) {b L : Nat} {w : Nat → Int32} (Z : Lok X b L w) {h : Nat → Nat} {j : Nat} (hj : 6 * j + 6 ≤ L) (hL : L ≤ 3072) {c : Cg} {o : Nat → Int64} {dd : Nat → UInt64} {q : G} (I : INV (20 + j) c q) {k n : Nat} (hk : k + 6 ≤ kc) (hn : n + 36 ≤ ks) (back : ∀ c2 o2 d2 q2, INV (20 + j + 1) c2 q2 → V X (lS (xK X) h) 3915 [some (.ref b), some (.ref (h 0)), some (.ref (sh 126 h 0)), some (.ref (h 124)), some (.ref (h 125)), some (.int (nI (6 * j))), none, none, none] [] (c2, o2, d2, q2) (k + 6) (n + 36)) : V X (lS (xK X) h) 2870 [some (.ref b), some (.ref (h 0)), some (.ref (sh 126 h 0)), some (.ref (h 124)), some (.ref (h 125)), some (.int (nI (6 * j))), none, none, none] [] (c, o, dd, q) k n := by
  refine v_aload_n C dL_law_2870 rfl ?_
  refine v_aload_n C dL_law_2871 rfl ?_
  refine v_iload C dL_law_2872 rfl ?_
  refine v_iconst C dL_law_2874 (v := nI 1) (by decide) ?_
  refine v_iaddN C dL_law_2875 ?_
  refine v_sld C Z (6 * j + 1) rfl (by omega) hL dL_law_2876 ?_
  refine v_aload_n C dL_law_2877 rfl ?_
  obtain ⟨dM, mc, ms, dq, post, px, pq, ⟨a1, a2, a3, a4⟩, M, Mq, hE, ⟨J1, J2⟩, hP⟩ := s_writeChain hl (κ := xK X) (h := h) (by omega) I (w (6 * j + 1))
  refine v_callSH C (hc_writeChain hl (κ := xK X) (h := h) (c := c) (o := o) (dd := dd) (q := q) a1 a2 a3 M hE) ysh_L_writeChain rfl ml_L_359 emb_id_lS rfl rfl rfl dL_law_2878 (Nat.le_of_ble_eq_true rfl) hk hn (Nat.le_of_ble_eq_true rfl) (fun _ _ hz => hz.elim) (fun r u hu => ?_)
  rcases hu with ⟨v, c2, hp, rfl, rfl⟩ | ⟨e, c2, i, hp, hi, rfl, rfl⟩
  · skip
    refine v_istore C dL_law_2881 rfl (Nat.le_of_ble_eq_true rfl) rfl ?_
    refine v_aload_n C dL_law_2883 rfl ?_
    refine v_aload_n C dL_law_2884 rfl ?_
    refine v_iload C dL_law_2885 rfl ?_
    refine v_iconst C dL_law_2887 (v := nI 1) (by decide) ?_
    refine v_iaddN C dL_law_2888 ?_
    refine v_sld C Z (6 * j + 1) rfl (by omega) hL dL_law_2889 ?_
    refine v_callVi C Mq ym_X6_writeChain ml_L_361 emb_l_q rfl rfl rfl rfl rfl dL_law_2890 (by omega) (by omega) (by omega) (Nat.le_of_ble_eq_true rfl) (fun _ _ hz => hz.elim) (fun r2 u2 hq => ?_)
    obtain ⟨t0, rfl, hIV⟩ := J1 _ _ _ _ hp hq
    refine V.stt (g2 := (c2, vp_updL o 0 (cvI v), dd, u2)) rfl ?_
    refine v_istore C dL_law_2893 rfl (Nat.le_of_ble_eq_true rfl) rfl ?_
    refine v_aload_n C dL_law_2895 rfl ?_
    refine v_callVi C (c_X6_thrown hl t0) ym_X6_thrown ml_L_211 emb_l_q rfl rfl rfl rfl rfl dL_law_2896 (Nat.le_of_ble_eq_true rfl) (by omega) (by omega) (Nat.le_of_ble_eq_true rfl) (fun _ _ hz => hz.elim) (fun r3 u3 hr => ?_)
    obtain ⟨hr, rfl⟩ := hr
    subst hr
    refine V.stt (g2 := (c2, vp_updL o 0 (cvI v), dd, u3)) rfl ?_
    refine v_iload C dL_law_2899 rfl ?_
    refine v_icmp_eq C 2906 dL_law_2901 (by decide) (fun _ => ?_) (fun z => absurd rfl z)
    refine v_iload C dL_law_2906 rfl ?_
    refine v_if_ne C 2923 dL_law_2908 (by decide) (fun z => absurd (by decide) z) (fun _ => ?_)
    refine v_aload_n C dL_law_2911 rfl ?_
    refine v_iconst C dL_law_2912 (v := nI 0) (by decide) ?_
    refine v_lald C aj_l (by decide) 0 (by decide) rfl dL_law_2913 ?_
    refine v_iload C dL_law_2914 rfl ?_
    refine v_i2l C dL_law_2916 rfl ?_
    refine v_lcmp C dL_law_2917 ?_
    refine v_if_eq C 2923 dL_law_2918 (by decide) (fun _ => ?_) (fun z => absurd (lg_out (o := o) (x := cvI v) (y := v.toInt64) rfl) z)
    refine v_goto C 3915 dL_law_2923 (by decide) ?_
    refine V.sub (lo2 := [some (.ref b), some (.ref (h 0)), some (.ref (sh 126 h 0)), some (.ref (h 124)), some (.ref (h 125)), some (.int (nI (6 * j))), none, none, none]) ⟨rfl, rfl, rfl, rfl, rfl, rfl, trivial⟩ ?_
    exact back _ _ _ _ hIV
  · skip
    refine v_istore C dL_law_2881 rfl (Nat.le_of_ble_eq_true rfl) rfl ?_
    refine v_aload_n C dL_law_2883 rfl ?_
    refine v_aload_n C dL_law_2884 rfl ?_
    refine v_iload C dL_law_2885 rfl ?_
    refine v_iconst C dL_law_2887 (v := nI 1) (by decide) ?_
    refine v_iaddN C dL_law_2888 ?_
    refine v_sld C Z (6 * j + 1) rfl (by omega) hL dL_law_2889 ?_
    refine v_callVi C Mq ym_X6_writeChain ml_L_361 emb_l_q rfl rfl rfl rfl rfl dL_law_2890 (by omega) (by omega) (by omega) (Nat.le_of_ble_eq_true rfl) (fun _ _ hz => hz.elim) (fun r2 u2 hq => ?_)
    obtain ⟨i2, h2, hi3, t0, hIV⟩ := J2 _ _ _ _ hp hq
    obtain rfl := EL_inj nd_SO hi h2
    refine V.stt (g2 := (c2, o, dd, u2)) rfl ?_
    refine v_istore C dL_law_2893 rfl (Nat.le_of_ble_eq_true rfl) rfl ?_
    refine v_aload_n C dL_law_2895 rfl ?_
    refine v_callVi C (c_X6_thrown hl t0) ym_X6_thrown ml_L_211 emb_l_q rfl rfl rfl rfl rfl dL_law_2896 (Nat.le_of_ble_eq_true rfl) (by omega) (by omega) (Nat.le_of_ble_eq_true rfl) (fun _ _ hz => hz.elim) (fun r3 u3 hr => ?_)
    obtain ⟨hr, rfl⟩ := hr
    subst hr
    refine V.stt (g2 := (c2, o, dd, u3)) rfl ?_
    refine v_iload C dL_law_2899 rfl ?_
    refine v_icmp_eq C 2906 dL_law_2901 (by decide) (fun _ => ?_) (fun z => absurd rfl z)
    refine v_iload C dL_law_2906 rfl ?_
    refine v_if_ne C 2923 dL_law_2908 (by decide) (fun _ => ?_) (fun z => absurd z (nI_pos3 hi3))
    refine v_goto C 3915 dL_law_2923 (by decide) ?_
    refine V.sub (lo2 := [some (.ref b), some (.ref (h 0)), some (.ref (sh 126 h 0)), some (.ref (h 124)), some (.ref (h 125)), some (.int (nI (6 * j))), none, none, none]) ⟨rfl, rfl, rfl, rfl, rfl, rfl, trivial⟩ ?_
    exact back _ _ _ _ hIV

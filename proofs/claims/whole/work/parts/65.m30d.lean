set_option maxHeartbeats 1000000 in
theorem k_48 {X : Cx} {kc ks : Nat} (hl : (xl X).stackTraces = false) (C : Ok SS MM X RL cL_law 9 30 kc ks) {b L : Nat} {w : Nat → Int32} (Z : Lok X b L w) {h : Nat → Nat} {j : Nat} (hj : 6 * j + 6 ≤ L) (hL : L ≤ 3072) {c : Cg} {o : Nat → Int64} {dd : Nat → UInt64} {q : G} (I : INV (20 + j) c q) {k n : Nat} (hk : k + 6 ≤ kc) (hn : n + 36 ≤ ks) (back : ∀ c2 o2 d2 q2, INV (20 + j + 1) c2 q2 → V X (lS (xK X) h) 3915 [some (.ref b), some (.ref (h 0)), some (.ref (sh 126 h 0)), some (.ref (h 124)), some (.ref (h 125)), some (.int (nI (6 * j))), none, none, none] [] (c2, o2, d2, q2) (k + 6) (n + 36)) : V X (lS (xK X) h) 2926 [some (.ref b), some (.ref (h 0)), some (.ref (sh 126 h 0)), some (.ref (h 124)), some (.ref (h 125)), some (.int (nI (6 * j))), none, none, none] [] (c, o, dd, q) k n := by
  refine v_aload_n C dL_law_2926 rfl ?_
  refine v_aload_n C dL_law_2927 rfl ?_
  refine v_iload C dL_law_2928 rfl ?_
  refine v_iconst C dL_law_2930 (v := nI 1) (by decide) ?_
  refine v_iaddN C dL_law_2931 ?_
  refine v_sld C Z (6 * j + 1) rfl (by omega) hL dL_law_2932 ?_
  refine v_aload_n C dL_law_2933 rfl ?_
  obtain ⟨dM, mc, ms, dq, post, px, pq, ⟨a1, a2, a3, a4⟩, M, Mq, hE, ⟨J1, J2⟩, hP⟩ := s_textByte hl (κ := xK X) (h := h) (by omega) I (w (6 * j + 1))
  refine v_callSH C (hc_textByte hl (κ := xK X) (h := h) (c := c) (o := o) (dd := dd) (q := q) a1 a2 a3 M hE) ysh_L_textByte rfl ml_L_362 emb_id_lS rfl rfl rfl dL_law_2934 (Nat.le_of_ble_eq_true rfl) hk hn (Nat.le_of_ble_eq_true rfl) (fun _ _ hz => hz.elim) (fun r u hu => ?_)
  rcases hu with ⟨v, c2, hp, rfl, rfl⟩ | ⟨e, c2, i, hp, hi, rfl, rfl⟩
  · skip
    refine v_istore C dL_law_2937 rfl (Nat.le_of_ble_eq_true rfl) rfl ?_
    refine v_aload_n C dL_law_2939 rfl ?_
    refine v_aload_n C dL_law_2940 rfl ?_
    refine v_iload C dL_law_2941 rfl ?_
    refine v_iconst C dL_law_2943 (v := nI 1) (by decide) ?_
    refine v_iaddN C dL_law_2944 ?_
    refine v_sld C Z (6 * j + 1) rfl (by omega) hL dL_law_2945 ?_
    refine v_callVi C Mq ym_X6_textByte ml_L_364 emb_l_q rfl rfl rfl rfl rfl dL_law_2946 (by omega) (by omega) (by omega) (Nat.le_of_ble_eq_true rfl) (fun _ _ hz => hz.elim) (fun r2 u2 hq => ?_)
    obtain ⟨t0, rfl, hIV⟩ := J1 _ _ _ _ hp hq
    refine V.stt (g2 := (c2, vp_updL o 0 (cvI v), dd, u2)) rfl ?_
    refine v_istore C dL_law_2949 rfl (Nat.le_of_ble_eq_true rfl) rfl ?_
    refine v_aload_n C dL_law_2951 rfl ?_
    refine v_callVi C (c_X6_thrown hl t0) ym_X6_thrown ml_L_211 emb_l_q rfl rfl rfl rfl rfl dL_law_2952 (Nat.le_of_ble_eq_true rfl) (by omega) (by omega) (Nat.le_of_ble_eq_true rfl) (fun _ _ hz => hz.elim) (fun r3 u3 hr => ?_)
    obtain ⟨hr, rfl⟩ := hr
    subst hr
    refine V.stt (g2 := (c2, vp_updL o 0 (cvI v), dd, u3)) rfl ?_
    refine v_iload C dL_law_2955 rfl ?_
    refine v_icmp_eq C 2962 dL_law_2957 (by decide) (fun _ => ?_) (fun z => absurd rfl z)
    refine v_iload C dL_law_2962 rfl ?_
    refine v_if_ne C 2979 dL_law_2964 (by decide) (fun z => absurd (by decide) z) (fun _ => ?_)
    refine v_aload_n C dL_law_2967 rfl ?_
    refine v_iconst C dL_law_2968 (v := nI 0) (by decide) ?_
    refine v_lald C aj_l (by decide) 0 (by decide) rfl dL_law_2969 ?_
    refine v_iload C dL_law_2970 rfl ?_
    refine v_i2l C dL_law_2972 rfl ?_
    refine v_lcmp C dL_law_2973 ?_
    refine v_if_eq C 2979 dL_law_2974 (by decide) (fun _ => ?_) (fun z => absurd (lg_out (o := o) (x := cvI v) (y := v.toInt64) rfl) z)
    refine v_goto C 3915 dL_law_2979 (by decide) ?_
    refine V.sub (lo2 := [some (.ref b), some (.ref (h 0)), some (.ref (sh 126 h 0)), some (.ref (h 124)), some (.ref (h 125)), some (.int (nI (6 * j))), none, none, none]) ⟨rfl, rfl, rfl, rfl, rfl, rfl, trivial⟩ ?_
    exact back _ _ _ _ hIV
  · skip
    refine v_istore C dL_law_2937 rfl (Nat.le_of_ble_eq_true rfl) rfl ?_
    refine v_aload_n C dL_law_2939 rfl ?_
    refine v_aload_n C dL_law_2940 rfl ?_
    refine v_iload C dL_law_2941 rfl ?_
    refine v_iconst C dL_law_2943 (v := nI 1) (by decide) ?_
    refine v_iaddN C dL_law_2944 ?_
    refine v_sld C Z (6 * j + 1) rfl (by omega) hL dL_law_2945 ?_
    refine v_callVi C Mq ym_X6_textByte ml_L_364 emb_l_q rfl rfl rfl rfl rfl dL_law_2946 (by omega) (by omega) (by omega) (Nat.le_of_ble_eq_true rfl) (fun _ _ hz => hz.elim) (fun r2 u2 hq => ?_)
    obtain ⟨i2, h2, hi3, t0, hIV⟩ := J2 _ _ _ _ hp hq
    obtain rfl := EL_inj nd_O hi h2
    refine V.stt (g2 := (c2, o, dd, u2)) rfl ?_
    refine v_istore C dL_law_2949 rfl (Nat.le_of_ble_eq_true rfl) rfl ?_
    refine v_aload_n C dL_law_2951 rfl ?_
    refine v_callVi C (c_X6_thrown hl t0) ym_X6_thrown ml_L_211 emb_l_q rfl rfl rfl rfl rfl dL_law_2952 (Nat.le_of_ble_eq_true rfl) (by omega) (by omega) (Nat.le_of_ble_eq_true rfl) (fun _ _ hz => hz.elim) (fun r3 u3 hr => ?_)
    obtain ⟨hr, rfl⟩ := hr
    subst hr
    refine V.stt (g2 := (c2, o, dd, u3)) rfl ?_
    refine v_iload C dL_law_2955 rfl ?_
    refine v_icmp_eq C 2962 dL_law_2957 (by decide) (fun _ => ?_) (fun z => absurd rfl z)
    refine v_iload C dL_law_2962 rfl ?_
    refine v_if_ne C 2979 dL_law_2964 (by decide) (fun _ => ?_) (fun z => absurd z (nI_pos3 hi3))
    refine v_goto C 3915 dL_law_2979 (by decide) ?_
    refine V.sub (lo2 := [some (.ref b), some (.ref (h 0)), some (.ref (sh 126 h 0)), some (.ref (h 124)), some (.ref (h 125)), some (.int (nI (6 * j))), none, none, none]) ⟨rfl, rfl, rfl, rfl, rfl, rfl, trivial⟩ ?_
    exact back _ _ _ _ hIV
set_option maxHeartbeats 1000000 in
theorem k_49 {X : Cx} {kc ks : Nat} (hl : (xl X).stackTraces = false) (C : Ok SS MM X RL cL_law 9 30 kc ks) {b L : Nat} {w : Nat → Int32} (Z : Lok X b L w) {h : Nat → Nat} {j : Nat} (hj : 6 * j + 6 ≤ L) (hL : L ≤ 3072) {c : Cg} {o : Nat → Int64} {dd : Nat → UInt64} {q : G} (I : INV (20 + j) c q) {k n : Nat} (hk : k + 6 ≤ kc) (hn : n + 36 ≤ ks) (back : ∀ c2 o2 d2 q2, INV (20 + j + 1) c2 q2 → V X (lS (xK X) h) 3915 [some (.ref b), some (.ref (h 0)), some (.ref (sh 126 h 0)), some (.ref (h 124)), some (.ref (h 125)), some (.int (nI (6 * j))), none, none, none] [] (c2, o2, d2, q2) (k + 6) (n + 36)) : V X (lS (xK X) h) 2982 [some (.ref b), some (.ref (h 0)), some (.ref (sh 126 h 0)), some (.ref (h 124)), some (.ref (h 125)), some (.int (nI (6 * j))), none, none, none] [] (c, o, dd, q) k n := by
  refine v_aload_n C dL_law_2982 rfl ?_
  refine v_aload_n C dL_law_2983 rfl ?_
  refine v_iload C dL_law_2984 rfl ?_
  refine v_iconst C dL_law_2986 (v := nI 1) (by decide) ?_
  refine v_iaddN C dL_law_2987 ?_
  refine v_sld C Z (6 * j + 1) rfl (by omega) hL dL_law_2988 ?_
  refine v_aload_n C dL_law_2989 rfl ?_
  refine v_iload C dL_law_2990 rfl ?_
  refine v_iconst C dL_law_2992 (v := nI 2) (by decide) ?_
  refine v_iaddN C dL_law_2993 ?_
  refine v_sld C Z (6 * j + 2) rfl (by omega) hL dL_law_2994 ?_
  refine v_aload_n C dL_law_2995 rfl ?_
  refine v_iload C dL_law_2996 rfl ?_
  refine v_iconst C dL_law_2998 (v := nI 3) (by decide) ?_
  refine v_iaddN C dL_law_2999 ?_
  refine v_sld C Z (6 * j + 3) rfl (by omega) hL dL_law_3000 ?_
  refine v_aload_n C dL_law_3001 rfl ?_
  obtain ⟨dM, mc, ms, dq, post, px, pq, ⟨a1, a2, a3, a4⟩, M, Mq, hE, ⟨J1, J2⟩, hP⟩ := s_copy hl (κ := xK X) (h := h) (by omega) I (w (6 * j + 1)) (w (6 * j + 2)) (w (6 * j + 3))
  refine v_callSH C (hc_copy hl (κ := xK X) (h := h) (c := c) (o := o) (dd := dd) (q := q) a1 a2 a3 M hE) ysh_L_copy rfl ml_L_365 emb_id_lS rfl rfl rfl dL_law_3002 (Nat.le_of_ble_eq_true rfl) hk hn (Nat.le_of_ble_eq_true rfl) (fun _ _ hz => hz.elim) (fun r u hu => ?_)
  rcases hu with ⟨v, c2, hp, rfl, rfl⟩ | ⟨e, c2, i, hp, hi, rfl, rfl⟩
  · skip
    refine v_istore C dL_law_3005 rfl (Nat.le_of_ble_eq_true rfl) rfl ?_
    refine v_aload_n C dL_law_3007 rfl ?_
    refine v_aload_n C dL_law_3008 rfl ?_
    refine v_iload C dL_law_3009 rfl ?_
    refine v_iconst C dL_law_3011 (v := nI 1) (by decide) ?_
    refine v_iaddN C dL_law_3012 ?_
    refine v_sld C Z (6 * j + 1) rfl (by omega) hL dL_law_3013 ?_
    refine v_aload_n C dL_law_3014 rfl ?_
    refine v_iload C dL_law_3015 rfl ?_
    refine v_iconst C dL_law_3017 (v := nI 2) (by decide) ?_
    refine v_iaddN C dL_law_3018 ?_
    refine v_sld C Z (6 * j + 2) rfl (by omega) hL dL_law_3019 ?_
    refine v_aload_n C dL_law_3020 rfl ?_
    refine v_iload C dL_law_3021 rfl ?_
    refine v_iconst C dL_law_3023 (v := nI 3) (by decide) ?_
    refine v_iaddN C dL_law_3024 ?_
    refine v_sld C Z (6 * j + 3) rfl (by omega) hL dL_law_3025 ?_
    refine v_callVi C Mq ym_X6_copy ml_L_367 emb_l_q rfl rfl rfl rfl rfl dL_law_3026 (by omega) (by omega) (by omega) (Nat.le_of_ble_eq_true rfl) (fun _ _ hz => hz.elim) (fun r2 u2 hq => ?_)
    obtain ⟨t0, rfl, hIV⟩ := J1 _ _ _ _ hp hq
    refine V.stt (g2 := (c2, vp_updL o 0 (cvI v), dd, u2)) rfl ?_
    refine v_istore C dL_law_3029 rfl (Nat.le_of_ble_eq_true rfl) rfl ?_
    refine v_aload_n C dL_law_3031 rfl ?_
    refine v_callVi C (c_X6_thrown hl t0) ym_X6_thrown ml_L_211 emb_l_q rfl rfl rfl rfl rfl dL_law_3032 (Nat.le_of_ble_eq_true rfl) (by omega) (by omega) (Nat.le_of_ble_eq_true rfl) (fun _ _ hz => hz.elim) (fun r3 u3 hr => ?_)
    obtain ⟨hr, rfl⟩ := hr
    subst hr
    refine V.stt (g2 := (c2, vp_updL o 0 (cvI v), dd, u3)) rfl ?_
    refine v_iload C dL_law_3035 rfl ?_
    refine v_icmp_eq C 3042 dL_law_3037 (by decide) (fun _ => ?_) (fun z => absurd rfl z)
    refine v_iload C dL_law_3042 rfl ?_
    refine v_if_ne C 3059 dL_law_3044 (by decide) (fun z => absurd (by decide) z) (fun _ => ?_)
    refine v_aload_n C dL_law_3047 rfl ?_
    refine v_iconst C dL_law_3048 (v := nI 0) (by decide) ?_
    refine v_lald C aj_l (by decide) 0 (by decide) rfl dL_law_3049 ?_
    refine v_iload C dL_law_3050 rfl ?_
    refine v_i2l C dL_law_3052 rfl ?_
    refine v_lcmp C dL_law_3053 ?_
    refine v_if_eq C 3059 dL_law_3054 (by decide) (fun _ => ?_) (fun z => absurd (lg_out (o := o) (x := cvI v) (y := v.toInt64) rfl) z)
    refine v_goto C 3915 dL_law_3059 (by decide) ?_
    refine V.sub (lo2 := [some (.ref b), some (.ref (h 0)), some (.ref (sh 126 h 0)), some (.ref (h 124)), some (.ref (h 125)), some (.int (nI (6 * j))), none, none, none]) ⟨rfl, rfl, rfl, rfl, rfl, rfl, trivial⟩ ?_
    exact back _ _ _ _ hIV
  · skip
    refine v_istore C dL_law_3005 rfl (Nat.le_of_ble_eq_true rfl) rfl ?_
    refine v_aload_n C dL_law_3007 rfl ?_
    refine v_aload_n C dL_law_3008 rfl ?_
    refine v_iload C dL_law_3009 rfl ?_
    refine v_iconst C dL_law_3011 (v := nI 1) (by decide) ?_
    refine v_iaddN C dL_law_3012 ?_
    refine v_sld C Z (6 * j + 1) rfl (by omega) hL dL_law_3013 ?_
    refine v_aload_n C dL_law_3014 rfl ?_
    refine v_iload C dL_law_3015 rfl ?_
    refine v_iconst C dL_law_3017 (v := nI 2) (by decide) ?_
    refine v_iaddN C dL_law_3018 ?_
    refine v_sld C Z (6 * j + 2) rfl (by omega) hL dL_law_3019 ?_
    refine v_aload_n C dL_law_3020 rfl ?_
    refine v_iload C dL_law_3021 rfl ?_
    refine v_iconst C dL_law_3023 (v := nI 3) (by decide) ?_
    refine v_iaddN C dL_law_3024 ?_
    refine v_sld C Z (6 * j + 3) rfl (by omega) hL dL_law_3025 ?_
    refine v_callVi C Mq ym_X6_copy ml_L_367 emb_l_q rfl rfl rfl rfl rfl dL_law_3026 (by omega) (by omega) (by omega) (Nat.le_of_ble_eq_true rfl) (fun _ _ hz => hz.elim) (fun r2 u2 hq => ?_)
    obtain ⟨i2, h2, hi3, t0, hIV⟩ := J2 _ _ _ _ hp hq
    obtain rfl := EL_inj nd_SA hi h2
    refine V.stt (g2 := (c2, o, dd, u2)) rfl ?_
    refine v_istore C dL_law_3029 rfl (Nat.le_of_ble_eq_true rfl) rfl ?_
    refine v_aload_n C dL_law_3031 rfl ?_
    refine v_callVi C (c_X6_thrown hl t0) ym_X6_thrown ml_L_211 emb_l_q rfl rfl rfl rfl rfl dL_law_3032 (Nat.le_of_ble_eq_true rfl) (by omega) (by omega) (Nat.le_of_ble_eq_true rfl) (fun _ _ hz => hz.elim) (fun r3 u3 hr => ?_)
    obtain ⟨hr, rfl⟩ := hr
    subst hr
    refine V.stt (g2 := (c2, o, dd, u3)) rfl ?_
    refine v_iload C dL_law_3035 rfl ?_
    refine v_icmp_eq C 3042 dL_law_3037 (by decide) (fun _ => ?_) (fun z => absurd rfl z)
    refine v_iload C dL_law_3042 rfl ?_
    refine v_if_ne C 3059 dL_law_3044 (by decide) (fun _ => ?_) (fun z => absurd z (nI_pos3 hi3))
    refine v_goto C 3915 dL_law_3059 (by decide) ?_
    refine V.sub (lo2 := [some (.ref b), some (.ref (h 0)), some (.ref (sh 126 h 0)), some (.ref (h 124)), some (.ref (h 125)), some (.int (nI (6 * j))), none, none, none]) ⟨rfl, rfl, rfl, rfl, rfl, rfl, trivial⟩ ?_
    exact back _ _ _ _ hIV
set_option maxHeartbeats 1000000 in
theorem k_50 {X : Cx} {kc ks : Nat} (hl : (xl X).stackTraces = false) (C : Ok SS MM X RL cL_law 9 30 kc ks) {b L : Nat} {w : Nat → Int32} (Z : Lok X b L w) {h : Nat → Nat} {j : Nat} (hj : 6 * j + 6 ≤ L) (hL : L ≤ 3072) {c : Cg} {o : Nat → Int64} {dd : Nat → UInt64} {q : G} (I : INV (20 + j) c q) {k n : Nat} (hk : k + 6 ≤ kc) (hn : n + 36 ≤ ks) (back : ∀ c2 o2 d2 q2, INV (20 + j + 1) c2 q2 → V X (lS (xK X) h) 3915 [some (.ref b), some (.ref (h 0)), some (.ref (sh 126 h 0)), some (.ref (h 124)), some (.ref (h 125)), some (.int (nI (6 * j))), none, none, none] [] (c2, o2, d2, q2) (k + 6) (n + 36)) : V X (lS (xK X) h) 3062 [some (.ref b), some (.ref (h 0)), some (.ref (sh 126 h 0)), some (.ref (h 124)), some (.ref (h 125)), some (.int (nI (6 * j))), none, none, none] [] (c, o, dd, q) k n := by
  refine v_aload_n C dL_law_3062 rfl ?_
  refine v_aload_n C dL_law_3063 rfl ?_
  refine v_iload C dL_law_3064 rfl ?_
  refine v_iconst C dL_law_3066 (v := nI 1) (by decide) ?_
  refine v_iaddN C dL_law_3067 ?_
  refine v_sld C Z (6 * j + 1) rfl (by omega) hL dL_law_3068 ?_
  refine v_aload_n C dL_law_3069 rfl ?_
  refine v_iload C dL_law_3070 rfl ?_
  refine v_iconst C dL_law_3072 (v := nI 2) (by decide) ?_
  refine v_iaddN C dL_law_3073 ?_
  refine v_sld C Z (6 * j + 2) rfl (by omega) hL dL_law_3074 ?_
  refine v_aload_n C dL_law_3075 rfl ?_
  obtain ⟨dM, mc, ms, dq, post, px, pq, ⟨a1, a2, a3, a4⟩, M, Mq, hE, ⟨J1, J2⟩, hP⟩ := s_write hl (κ := xK X) (h := h) (by omega) I (w (6 * j + 1)) (w (6 * j + 2))
  refine v_callSH C (hc_write hl (κ := xK X) (h := h) (c := c) (o := o) (dd := dd) (q := q) a1 a2 a3 M hE) ysh_L_write rfl ml_L_368 emb_id_lS rfl rfl rfl dL_law_3076 (Nat.le_of_ble_eq_true rfl) hk hn (Nat.le_of_ble_eq_true rfl) (fun _ _ hz => hz.elim) (fun r u hu => ?_)
  rcases hu with ⟨v, c2, hp, rfl, rfl⟩ | ⟨e, c2, i, hp, hi, rfl, rfl⟩
  · skip
    refine v_istore C dL_law_3079 rfl (Nat.le_of_ble_eq_true rfl) rfl ?_
    refine v_aload_n C dL_law_3081 rfl ?_
    refine v_aload_n C dL_law_3082 rfl ?_
    refine v_iload C dL_law_3083 rfl ?_
    refine v_iconst C dL_law_3085 (v := nI 1) (by decide) ?_
    refine v_iaddN C dL_law_3086 ?_
    refine v_sld C Z (6 * j + 1) rfl (by omega) hL dL_law_3087 ?_
    refine v_aload_n C dL_law_3088 rfl ?_
    refine v_iload C dL_law_3089 rfl ?_
    refine v_iconst C dL_law_3091 (v := nI 2) (by decide) ?_
    refine v_iaddN C dL_law_3092 ?_
    refine v_sld C Z (6 * j + 2) rfl (by omega) hL dL_law_3093 ?_
    refine v_callVi C Mq ym_X6_write ml_L_370 emb_l_q rfl rfl rfl rfl rfl dL_law_3094 (by omega) (by omega) (by omega) (Nat.le_of_ble_eq_true rfl) (fun _ _ hz => hz.elim) (fun r2 u2 hq => ?_)
    obtain ⟨t0, rfl, hIV⟩ := J1 _ _ _ _ hp hq
    refine V.stt (g2 := (c2, vp_updL o 0 (cvI v), dd, u2)) rfl ?_
    refine v_istore C dL_law_3097 rfl (Nat.le_of_ble_eq_true rfl) rfl ?_
    refine v_aload_n C dL_law_3099 rfl ?_
    refine v_callVi C (c_X6_thrown hl t0) ym_X6_thrown ml_L_211 emb_l_q rfl rfl rfl rfl rfl dL_law_3100 (Nat.le_of_ble_eq_true rfl) (by omega) (by omega) (Nat.le_of_ble_eq_true rfl) (fun _ _ hz => hz.elim) (fun r3 u3 hr => ?_)
    obtain ⟨hr, rfl⟩ := hr
    subst hr
    refine V.stt (g2 := (c2, vp_updL o 0 (cvI v), dd, u3)) rfl ?_
    refine v_iload C dL_law_3103 rfl ?_
    refine v_icmp_eq C 3110 dL_law_3105 (by decide) (fun _ => ?_) (fun z => absurd rfl z)
    refine v_iload C dL_law_3110 rfl ?_
    refine v_if_ne C 3127 dL_law_3112 (by decide) (fun z => absurd (by decide) z) (fun _ => ?_)
    refine v_aload_n C dL_law_3115 rfl ?_
    refine v_iconst C dL_law_3116 (v := nI 0) (by decide) ?_
    refine v_lald C aj_l (by decide) 0 (by decide) rfl dL_law_3117 ?_
    refine v_iload C dL_law_3118 rfl ?_
    refine v_i2l C dL_law_3120 rfl ?_
    refine v_lcmp C dL_law_3121 ?_
    refine v_if_eq C 3127 dL_law_3122 (by decide) (fun _ => ?_) (fun z => absurd (lg_out (o := o) (x := cvI v) (y := v.toInt64) rfl) z)
    refine v_goto C 3915 dL_law_3127 (by decide) ?_
    refine V.sub (lo2 := [some (.ref b), some (.ref (h 0)), some (.ref (sh 126 h 0)), some (.ref (h 124)), some (.ref (h 125)), some (.int (nI (6 * j))), none, none, none]) ⟨rfl, rfl, rfl, rfl, rfl, rfl, trivial⟩ ?_
    exact back _ _ _ _ hIV
  · skip
    refine v_istore C dL_law_3079 rfl (Nat.le_of_ble_eq_true rfl) rfl ?_
    refine v_aload_n C dL_law_3081 rfl ?_
    refine v_aload_n C dL_law_3082 rfl ?_
    refine v_iload C dL_law_3083 rfl ?_
    refine v_iconst C dL_law_3085 (v := nI 1) (by decide) ?_
    refine v_iaddN C dL_law_3086 ?_
    refine v_sld C Z (6 * j + 1) rfl (by omega) hL dL_law_3087 ?_
    refine v_aload_n C dL_law_3088 rfl ?_
    refine v_iload C dL_law_3089 rfl ?_
    refine v_iconst C dL_law_3091 (v := nI 2) (by decide) ?_
    refine v_iaddN C dL_law_3092 ?_
    refine v_sld C Z (6 * j + 2) rfl (by omega) hL dL_law_3093 ?_
    refine v_callVi C Mq ym_X6_write ml_L_370 emb_l_q rfl rfl rfl rfl rfl dL_law_3094 (by omega) (by omega) (by omega) (Nat.le_of_ble_eq_true rfl) (fun _ _ hz => hz.elim) (fun r2 u2 hq => ?_)
    obtain ⟨i2, h2, hi3, t0, hIV⟩ := J2 _ _ _ _ hp hq
    obtain rfl := EL_inj nd_SOA hi h2
    refine V.stt (g2 := (c2, o, dd, u2)) rfl ?_
    refine v_istore C dL_law_3097 rfl (Nat.le_of_ble_eq_true rfl) rfl ?_
    refine v_aload_n C dL_law_3099 rfl ?_
    refine v_callVi C (c_X6_thrown hl t0) ym_X6_thrown ml_L_211 emb_l_q rfl rfl rfl rfl rfl dL_law_3100 (Nat.le_of_ble_eq_true rfl) (by omega) (by omega) (Nat.le_of_ble_eq_true rfl) (fun _ _ hz => hz.elim) (fun r3 u3 hr => ?_)
    obtain ⟨hr, rfl⟩ := hr
    subst hr
    refine V.stt (g2 := (c2, o, dd, u3)) rfl ?_
    refine v_iload C dL_law_3103 rfl ?_
    refine v_icmp_eq C 3110 dL_law_3105 (by decide) (fun _ => ?_) (fun z => absurd rfl z)
    refine v_iload C dL_law_3110 rfl ?_
    refine v_if_ne C 3127 dL_law_3112 (by decide) (fun _ => ?_) (fun z => absurd z (nI_pos3 hi3))
    refine v_goto C 3915 dL_law_3127 (by decide) ?_
    refine V.sub (lo2 := [some (.ref b), some (.ref (h 0)), some (.ref (sh 126 h 0)), some (.ref (h 124)), some (.ref (h 125)), some (.int (nI (6 * j))), none, none, none]) ⟨rfl, rfl, rfl, rfl, rfl, rfl, trivial⟩ ?_
    exact back _ _ _ _ hIV
set_option maxHeartbeats 1000000 in
theorem k_51 {X : Cx} {kc ks : Nat} (hl : (xl X).stackTraces = false) (C : Ok SS MM X RL cL_law 9 30 kc ks) {b L : Nat} {w : Nat → Int32} (Z : Lok X b L w) {h : Nat → Nat} {j : Nat} (hj : 6 * j + 6 ≤ L) (hL : L ≤ 3072) {c : Cg} {o : Nat → Int64} {dd : Nat → UInt64} {q : G} (I : INV (20 + j) c q) {k n : Nat} (hk : k + 6 ≤ kc) (hn : n + 36 ≤ ks) (back : ∀ c2 o2 d2 q2, INV (20 + j + 1) c2 q2 → V X (lS (xK X) h) 3915 [some (.ref b), some (.ref (h 0)), some (.ref (sh 126 h 0)), some (.ref (h 124)), some (.ref (h 125)), some (.int (nI (6 * j))), none, none, none] [] (c2, o2, d2, q2) (k + 6) (n + 36)) : V X (lS (xK X) h) 3130 [some (.ref b), some (.ref (h 0)), some (.ref (sh 126 h 0)), some (.ref (h 124)), some (.ref (h 125)), some (.int (nI (6 * j))), none, none, none] [] (c, o, dd, q) k n := by
  refine v_aload_n C dL_law_3130 rfl ?_
  refine v_aload_n C dL_law_3131 rfl ?_
  refine v_iload C dL_law_3132 rfl ?_
  refine v_iconst C dL_law_3134 (v := nI 1) (by decide) ?_
  refine v_iaddN C dL_law_3135 ?_
  refine v_sld C Z (6 * j + 1) rfl (by omega) hL dL_law_3136 ?_
  refine v_aload_n C dL_law_3137 rfl ?_
  refine v_iload C dL_law_3138 rfl ?_
  refine v_iconst C dL_law_3140 (v := nI 2) (by decide) ?_
  refine v_iaddN C dL_law_3141 ?_
  refine v_sld C Z (6 * j + 2) rfl (by omega) hL dL_law_3142 ?_
  refine v_aload_n C dL_law_3143 rfl ?_
  refine v_iload C dL_law_3144 rfl ?_
  refine v_iconst C dL_law_3146 (v := nI 3) (by decide) ?_
  refine v_iaddN C dL_law_3147 ?_
  refine v_sld C Z (6 * j + 3) rfl (by omega) hL dL_law_3148 ?_
  refine v_aload_n C dL_law_3149 rfl ?_
  obtain ⟨dM, mc, ms, dq, post, px, pq, ⟨a1, a2, a3, a4⟩, M, Mq, hE, ⟨J1, J2⟩, hP⟩ := s_fill hl (κ := xK X) (h := h) (by omega) I (w (6 * j + 1)) (w (6 * j + 2)) (w (6 * j + 3))
  refine v_callSH C (hc_fill hl (κ := xK X) (h := h) (c := c) (o := o) (dd := dd) (q := q) a1 a2 a3 M hE) ysh_L_fill rfl ml_L_371 emb_id_lS rfl rfl rfl dL_law_3150 (Nat.le_of_ble_eq_true rfl) hk hn (Nat.le_of_ble_eq_true rfl) (fun _ _ hz => hz.elim) (fun r u hu => ?_)
  rcases hu with ⟨v, c2, hp, rfl, rfl⟩ | ⟨e, c2, i, hp, hi, rfl, rfl⟩
  · skip
    refine v_istore C dL_law_3153 rfl (Nat.le_of_ble_eq_true rfl) rfl ?_
    refine v_aload_n C dL_law_3155 rfl ?_
    refine v_aload_n C dL_law_3156 rfl ?_
    refine v_iload C dL_law_3157 rfl ?_
    refine v_iconst C dL_law_3159 (v := nI 1) (by decide) ?_
    refine v_iaddN C dL_law_3160 ?_
    refine v_sld C Z (6 * j + 1) rfl (by omega) hL dL_law_3161 ?_
    refine v_aload_n C dL_law_3162 rfl ?_
    refine v_iload C dL_law_3163 rfl ?_
    refine v_iconst C dL_law_3165 (v := nI 2) (by decide) ?_
    refine v_iaddN C dL_law_3166 ?_
    refine v_sld C Z (6 * j + 2) rfl (by omega) hL dL_law_3167 ?_
    refine v_aload_n C dL_law_3168 rfl ?_
    refine v_iload C dL_law_3169 rfl ?_
    refine v_iconst C dL_law_3171 (v := nI 3) (by decide) ?_
    refine v_iaddN C dL_law_3172 ?_
    refine v_sld C Z (6 * j + 3) rfl (by omega) hL dL_law_3173 ?_
    refine v_callVi C Mq ym_X6_fill ml_L_373 emb_l_q rfl rfl rfl rfl rfl dL_law_3174 (by omega) (by omega) (by omega) (Nat.le_of_ble_eq_true rfl) (fun _ _ hz => hz.elim) (fun r2 u2 hq => ?_)
    obtain ⟨t0, rfl, hIV⟩ := J1 _ _ _ _ hp hq
    refine V.stt (g2 := (c2, vp_updL o 0 (cvI v), dd, u2)) rfl ?_
    refine v_istore C dL_law_3177 rfl (Nat.le_of_ble_eq_true rfl) rfl ?_
    refine v_aload_n C dL_law_3179 rfl ?_
    refine v_callVi C (c_X6_thrown hl t0) ym_X6_thrown ml_L_211 emb_l_q rfl rfl rfl rfl rfl dL_law_3180 (Nat.le_of_ble_eq_true rfl) (by omega) (by omega) (Nat.le_of_ble_eq_true rfl) (fun _ _ hz => hz.elim) (fun r3 u3 hr => ?_)
    obtain ⟨hr, rfl⟩ := hr
    subst hr
    refine V.stt (g2 := (c2, vp_updL o 0 (cvI v), dd, u3)) rfl ?_
    refine v_iload C dL_law_3183 rfl ?_
    refine v_icmp_eq C 3190 dL_law_3185 (by decide) (fun _ => ?_) (fun z => absurd rfl z)
    refine v_iload C dL_law_3190 rfl ?_
    refine v_if_ne C 3207 dL_law_3192 (by decide) (fun z => absurd (by decide) z) (fun _ => ?_)
    refine v_aload_n C dL_law_3195 rfl ?_
    refine v_iconst C dL_law_3196 (v := nI 0) (by decide) ?_
    refine v_lald C aj_l (by decide) 0 (by decide) rfl dL_law_3197 ?_
    refine v_iload C dL_law_3198 rfl ?_
    refine v_i2l C dL_law_3200 rfl ?_
    refine v_lcmp C dL_law_3201 ?_
    refine v_if_eq C 3207 dL_law_3202 (by decide) (fun _ => ?_) (fun z => absurd (lg_out (o := o) (x := cvI v) (y := v.toInt64) rfl) z)
    refine v_goto C 3915 dL_law_3207 (by decide) ?_
    refine V.sub (lo2 := [some (.ref b), some (.ref (h 0)), some (.ref (sh 126 h 0)), some (.ref (h 124)), some (.ref (h 125)), some (.int (nI (6 * j))), none, none, none]) ⟨rfl, rfl, rfl, rfl, rfl, rfl, trivial⟩ ?_
    exact back _ _ _ _ hIV
  · skip
    refine v_istore C dL_law_3153 rfl (Nat.le_of_ble_eq_true rfl) rfl ?_
    refine v_aload_n C dL_law_3155 rfl ?_
    refine v_aload_n C dL_law_3156 rfl ?_
    refine v_iload C dL_law_3157 rfl ?_
    refine v_iconst C dL_law_3159 (v := nI 1) (by decide) ?_
    refine v_iaddN C dL_law_3160 ?_
    refine v_sld C Z (6 * j + 1) rfl (by omega) hL dL_law_3161 ?_
    refine v_aload_n C dL_law_3162 rfl ?_
    refine v_iload C dL_law_3163 rfl ?_
    refine v_iconst C dL_law_3165 (v := nI 2) (by decide) ?_
    refine v_iaddN C dL_law_3166 ?_
    refine v_sld C Z (6 * j + 2) rfl (by omega) hL dL_law_3167 ?_
    refine v_aload_n C dL_law_3168 rfl ?_
    refine v_iload C dL_law_3169 rfl ?_
    refine v_iconst C dL_law_3171 (v := nI 3) (by decide) ?_
    refine v_iaddN C dL_law_3172 ?_
    refine v_sld C Z (6 * j + 3) rfl (by omega) hL dL_law_3173 ?_
    refine v_callVi C Mq ym_X6_fill ml_L_373 emb_l_q rfl rfl rfl rfl rfl dL_law_3174 (by omega) (by omega) (by omega) (Nat.le_of_ble_eq_true rfl) (fun _ _ hz => hz.elim) (fun r2 u2 hq => ?_)
    obtain ⟨i2, h2, hi3, t0, hIV⟩ := J2 _ _ _ _ hp hq
    obtain rfl := EL_inj nd_SOA hi h2
    refine V.stt (g2 := (c2, o, dd, u2)) rfl ?_
    refine v_istore C dL_law_3177 rfl (Nat.le_of_ble_eq_true rfl) rfl ?_
    refine v_aload_n C dL_law_3179 rfl ?_
    refine v_callVi C (c_X6_thrown hl t0) ym_X6_thrown ml_L_211 emb_l_q rfl rfl rfl rfl rfl dL_law_3180 (Nat.le_of_ble_eq_true rfl) (by omega) (by omega) (Nat.le_of_ble_eq_true rfl) (fun _ _ hz => hz.elim) (fun r3 u3 hr => ?_)
    obtain ⟨hr, rfl⟩ := hr
    subst hr
    refine V.stt (g2 := (c2, o, dd, u3)) rfl ?_
    refine v_iload C dL_law_3183 rfl ?_
    refine v_icmp_eq C 3190 dL_law_3185 (by decide) (fun _ => ?_) (fun z => absurd rfl z)
    refine v_iload C dL_law_3190 rfl ?_
    refine v_if_ne C 3207 dL_law_3192 (by decide) (fun _ => ?_) (fun z => absurd z (nI_pos3 hi3))
    refine v_goto C 3915 dL_law_3207 (by decide) ?_
    refine V.sub (lo2 := [some (.ref b), some (.ref (h 0)), some (.ref (sh 126 h 0)), some (.ref (h 124)), some (.ref (h 125)), some (.int (nI (6 * j))), none, none, none]) ⟨rfl, rfl, rfl, rfl, rfl, rfl, trivial⟩ ?_
    exact back _ _ _ _ hIV
set_option maxHeartbeats 1000000 in
theorem k_52 {X : Cx} {kc ks : Nat} (hl : (xl X).stackTraces = false) (C : Ok SS MM X RL cL_law 9 30 kc ks) {b L : Nat} {w : Nat → Int32} (Z : Lok X b L w) {h : Nat → Nat} {j : Nat} (hj : 6 * j + 6 ≤ L) (hL : L ≤ 3072) {c : Cg} {o : Nat → Int64} {dd : Nat → UInt64} {q : G} (I : INV (20 + j) c q) {k n : Nat} (hk : k + 6 ≤ kc) (hn : n + 36 ≤ ks) (back : ∀ c2 o2 d2 q2, INV (20 + j + 1) c2 q2 → V X (lS (xK X) h) 3915 [some (.ref b), some (.ref (h 0)), some (.ref (sh 126 h 0)), some (.ref (h 124)), some (.ref (h 125)), some (.int (nI (6 * j))), none, none, none] [] (c2, o2, d2, q2) (k + 6) (n + 36)) : V X (lS (xK X) h) 3210 [some (.ref b), some (.ref (h 0)), some (.ref (sh 126 h 0)), some (.ref (h 124)), some (.ref (h 125)), some (.int (nI (6 * j))), none, none, none] [] (c, o, dd, q) k n := by
  refine v_aload_n C dL_law_3210 rfl ?_
  refine v_aload_n C dL_law_3211 rfl ?_
  refine v_iload C dL_law_3212 rfl ?_
  refine v_iconst C dL_law_3214 (v := nI 1) (by decide) ?_
  refine v_iaddN C dL_law_3215 ?_
  refine v_sld C Z (6 * j + 1) rfl (by omega) hL dL_law_3216 ?_
  refine v_aload_n C dL_law_3217 rfl ?_
  refine v_iload C dL_law_3218 rfl ?_
  refine v_iconst C dL_law_3220 (v := nI 2) (by decide) ?_
  refine v_iaddN C dL_law_3221 ?_
  refine v_sld C Z (6 * j + 2) rfl (by omega) hL dL_law_3222 ?_
  refine v_aload_n C dL_law_3223 rfl ?_
  obtain ⟨dM, mc, ms, dq, post, px, pq, ⟨a1, a2, a3, a4⟩, M, Mq, hE, ⟨J1, J2⟩, hP⟩ := s_exchange hl (κ := xK X) (h := h) (by omega) I (w (6 * j + 1)) (w (6 * j + 2))
  refine v_callSH C (hc_exchange hl (κ := xK X) (h := h) (c := c) (o := o) (dd := dd) (q := q) a1 a2 a3 M hE) ysh_L_exchange rfl ml_L_374 emb_id_lS rfl rfl rfl dL_law_3224 (Nat.le_of_ble_eq_true rfl) hk hn (Nat.le_of_ble_eq_true rfl) (fun _ _ hz => hz.elim) (fun r u hu => ?_)
  rcases hu with ⟨v, c2, hp, rfl, rfl⟩ | ⟨e, c2, i, hp, hi, rfl, rfl⟩
  · skip
    refine v_istore C dL_law_3227 rfl (Nat.le_of_ble_eq_true rfl) rfl ?_
    refine v_aload_n C dL_law_3229 rfl ?_
    refine v_aload_n C dL_law_3230 rfl ?_
    refine v_iload C dL_law_3231 rfl ?_
    refine v_iconst C dL_law_3233 (v := nI 1) (by decide) ?_
    refine v_iaddN C dL_law_3234 ?_
    refine v_sld C Z (6 * j + 1) rfl (by omega) hL dL_law_3235 ?_
    refine v_aload_n C dL_law_3236 rfl ?_
    refine v_iload C dL_law_3237 rfl ?_
    refine v_iconst C dL_law_3239 (v := nI 2) (by decide) ?_
    refine v_iaddN C dL_law_3240 ?_
    refine v_sld C Z (6 * j + 2) rfl (by omega) hL dL_law_3241 ?_
    refine v_callVi C Mq ym_X6_exchange ml_L_376 emb_l_q rfl rfl rfl rfl rfl dL_law_3242 (by omega) (by omega) (by omega) (Nat.le_of_ble_eq_true rfl) (fun _ _ hz => hz.elim) (fun r2 u2 hq => ?_)
    obtain ⟨t0, rfl, hIV⟩ := J1 _ _ _ _ hp hq
    refine V.stt (g2 := (c2, vp_updL o 0 (cvI v), dd, u2)) rfl ?_
    refine v_istore C dL_law_3245 rfl (Nat.le_of_ble_eq_true rfl) rfl ?_
    refine v_aload_n C dL_law_3247 rfl ?_
    refine v_callVi C (c_X6_thrown hl t0) ym_X6_thrown ml_L_211 emb_l_q rfl rfl rfl rfl rfl dL_law_3248 (Nat.le_of_ble_eq_true rfl) (by omega) (by omega) (Nat.le_of_ble_eq_true rfl) (fun _ _ hz => hz.elim) (fun r3 u3 hr => ?_)
    obtain ⟨hr, rfl⟩ := hr
    subst hr
    refine V.stt (g2 := (c2, vp_updL o 0 (cvI v), dd, u3)) rfl ?_
    refine v_iload C dL_law_3251 rfl ?_
    refine v_icmp_eq C 3258 dL_law_3253 (by decide) (fun _ => ?_) (fun z => absurd rfl z)
    refine v_iload C dL_law_3258 rfl ?_
    refine v_if_ne C 3275 dL_law_3260 (by decide) (fun z => absurd (by decide) z) (fun _ => ?_)
    refine v_aload_n C dL_law_3263 rfl ?_
    refine v_iconst C dL_law_3264 (v := nI 0) (by decide) ?_
    refine v_lald C aj_l (by decide) 0 (by decide) rfl dL_law_3265 ?_
    refine v_iload C dL_law_3266 rfl ?_
    refine v_i2l C dL_law_3268 rfl ?_
    refine v_lcmp C dL_law_3269 ?_
    refine v_if_eq C 3275 dL_law_3270 (by decide) (fun _ => ?_) (fun z => absurd (lg_out (o := o) (x := cvI v) (y := v.toInt64) rfl) z)
    refine v_goto C 3915 dL_law_3275 (by decide) ?_
    refine V.sub (lo2 := [some (.ref b), some (.ref (h 0)), some (.ref (sh 126 h 0)), some (.ref (h 124)), some (.ref (h 125)), some (.int (nI (6 * j))), none, none, none]) ⟨rfl, rfl, rfl, rfl, rfl, rfl, trivial⟩ ?_
    exact back _ _ _ _ hIV
  · skip
    refine v_istore C dL_law_3227 rfl (Nat.le_of_ble_eq_true rfl) rfl ?_
    refine v_aload_n C dL_law_3229 rfl ?_
    refine v_aload_n C dL_law_3230 rfl ?_
    refine v_iload C dL_law_3231 rfl ?_
    refine v_iconst C dL_law_3233 (v := nI 1) (by decide) ?_
    refine v_iaddN C dL_law_3234 ?_
    refine v_sld C Z (6 * j + 1) rfl (by omega) hL dL_law_3235 ?_
    refine v_aload_n C dL_law_3236 rfl ?_
    refine v_iload C dL_law_3237 rfl ?_
    refine v_iconst C dL_law_3239 (v := nI 2) (by decide) ?_
    refine v_iaddN C dL_law_3240 ?_
    refine v_sld C Z (6 * j + 2) rfl (by omega) hL dL_law_3241 ?_
    refine v_callVi C Mq ym_X6_exchange ml_L_376 emb_l_q rfl rfl rfl rfl rfl dL_law_3242 (by omega) (by omega) (by omega) (Nat.le_of_ble_eq_true rfl) (fun _ _ hz => hz.elim) (fun r2 u2 hq => ?_)
    obtain ⟨i2, h2, hi3, t0, hIV⟩ := J2 _ _ _ _ hp hq
    obtain rfl := EL_inj nd_SOA hi h2
    refine V.stt (g2 := (c2, o, dd, u2)) rfl ?_
    refine v_istore C dL_law_3245 rfl (Nat.le_of_ble_eq_true rfl) rfl ?_
    refine v_aload_n C dL_law_3247 rfl ?_
    refine v_callVi C (c_X6_thrown hl t0) ym_X6_thrown ml_L_211 emb_l_q rfl rfl rfl rfl rfl dL_law_3248 (Nat.le_of_ble_eq_true rfl) (by omega) (by omega) (Nat.le_of_ble_eq_true rfl) (fun _ _ hz => hz.elim) (fun r3 u3 hr => ?_)
    obtain ⟨hr, rfl⟩ := hr
    subst hr
    refine V.stt (g2 := (c2, o, dd, u3)) rfl ?_
    refine v_iload C dL_law_3251 rfl ?_
    refine v_icmp_eq C 3258 dL_law_3253 (by decide) (fun _ => ?_) (fun z => absurd rfl z)
    refine v_iload C dL_law_3258 rfl ?_
    refine v_if_ne C 3275 dL_law_3260 (by decide) (fun _ => ?_) (fun z => absurd z (nI_pos3 hi3))
    refine v_goto C 3915 dL_law_3275 (by decide) ?_
    refine V.sub (lo2 := [some (.ref b), some (.ref (h 0)), some (.ref (sh 126 h 0)), some (.ref (h 124)), some (.ref (h 125)), some (.int (nI (6 * j))), none, none, none]) ⟨rfl, rfl, rfl, rfl, rfl, rfl, trivial⟩ ?_
    exact back _ _ _ _ hIV
set_option maxHeartbeats 1000000 in
theorem k_53 {X : Cx} {kc ks : Nat} (hl : (xl X).stackTraces = false) (C : Ok SS MM X RL cL_law 9 30 kc ks) {b L : Nat} {w : Nat → Int32} (Z : Lok X b L w) {h : Nat → Nat} {j : Nat} (hj : 6 * j + 6 ≤ L) (hL : L ≤ 3072) {c : Cg} {o : Nat → Int64} {dd : Nat → UInt64} {q : G} (I : INV (20 + j) c q) {k n : Nat} (hk : k + 6 ≤ kc) (hn : n + 36 ≤ ks) (back : ∀ c2 o2 d2 q2, INV (20 + j + 1) c2 q2 → V X (lS (xK X) h) 3915 [some (.ref b), some (.ref (h 0)), some (.ref (sh 126 h 0)), some (.ref (h 124)), some (.ref (h 125)), some (.int (nI (6 * j))), none, none, none] [] (c2, o2, d2, q2) (k + 6) (n + 36)) : V X (lS (xK X) h) 3278 [some (.ref b), some (.ref (h 0)), some (.ref (sh 126 h 0)), some (.ref (h 124)), some (.ref (h 125)), some (.int (nI (6 * j))), none, none, none] [] (c, o, dd, q) k n := by
  refine v_aload_n C dL_law_3278 rfl ?_
  refine v_aload_n C dL_law_3279 rfl ?_
  refine v_iload C dL_law_3280 rfl ?_
  refine v_iconst C dL_law_3282 (v := nI 1) (by decide) ?_
  refine v_iaddN C dL_law_3283 ?_
  refine v_sld C Z (6 * j + 1) rfl (by omega) hL dL_law_3284 ?_
  refine v_aload_n C dL_law_3285 rfl ?_
  refine v_iload C dL_law_3286 rfl ?_
  refine v_iconst C dL_law_3288 (v := nI 2) (by decide) ?_
  refine v_iaddN C dL_law_3289 ?_
  refine v_sld C Z (6 * j + 2) rfl (by omega) hL dL_law_3290 ?_
  refine v_aload_n C dL_law_3291 rfl ?_
  refine v_iload C dL_law_3292 rfl ?_
  refine v_iconst C dL_law_3294 (v := nI 3) (by decide) ?_
  refine v_iaddN C dL_law_3295 ?_
  refine v_sld C Z (6 * j + 3) rfl (by omega) hL dL_law_3296 ?_
  refine v_aload_n C dL_law_3297 rfl ?_
  obtain ⟨dM, mc, ms, dq, post, px, pq, ⟨a1, a2, a3, a4⟩, M, Mq, hE, ⟨J1, J2⟩, hP⟩ := s_move hl (κ := xK X) (h := h) (by omega) I (w (6 * j + 1)) (w (6 * j + 2)) (w (6 * j + 3))
  refine v_callSH C (hc_move hl (κ := xK X) (h := h) (c := c) (o := o) (dd := dd) (q := q) a1 a2 a3 M hE) ysh_L_move rfl ml_L_377 emb_id_lS rfl rfl rfl dL_law_3298 (Nat.le_of_ble_eq_true rfl) hk hn (Nat.le_of_ble_eq_true rfl) (fun _ _ hz => hz.elim) (fun r u hu => ?_)
  rcases hu with ⟨v, c2, hp, rfl, rfl⟩ | ⟨e, c2, i, hp, hi, rfl, rfl⟩
  · skip
    refine v_istore C dL_law_3301 rfl (Nat.le_of_ble_eq_true rfl) rfl ?_
    refine v_aload_n C dL_law_3303 rfl ?_
    refine v_aload_n C dL_law_3304 rfl ?_
    refine v_iload C dL_law_3305 rfl ?_
    refine v_iconst C dL_law_3307 (v := nI 1) (by decide) ?_
    refine v_iaddN C dL_law_3308 ?_
    refine v_sld C Z (6 * j + 1) rfl (by omega) hL dL_law_3309 ?_
    refine v_aload_n C dL_law_3310 rfl ?_
    refine v_iload C dL_law_3311 rfl ?_
    refine v_iconst C dL_law_3313 (v := nI 2) (by decide) ?_
    refine v_iaddN C dL_law_3314 ?_
    refine v_sld C Z (6 * j + 2) rfl (by omega) hL dL_law_3315 ?_
    refine v_aload_n C dL_law_3316 rfl ?_
    refine v_iload C dL_law_3317 rfl ?_
    refine v_iconst C dL_law_3319 (v := nI 3) (by decide) ?_
    refine v_iaddN C dL_law_3320 ?_
    refine v_sld C Z (6 * j + 3) rfl (by omega) hL dL_law_3321 ?_
    refine v_callVi C Mq ym_X6_move ml_L_379 emb_l_q rfl rfl rfl rfl rfl dL_law_3322 (by omega) (by omega) (by omega) (Nat.le_of_ble_eq_true rfl) (fun _ _ hz => hz.elim) (fun r2 u2 hq => ?_)
    obtain ⟨t0, rfl, hIV⟩ := J1 _ _ _ _ hp hq
    refine V.stt (g2 := (c2, vp_updL o 0 (cvI v), dd, u2)) rfl ?_
    refine v_istore C dL_law_3325 rfl (Nat.le_of_ble_eq_true rfl) rfl ?_
    refine v_aload_n C dL_law_3327 rfl ?_
    refine v_callVi C (c_X6_thrown hl t0) ym_X6_thrown ml_L_211 emb_l_q rfl rfl rfl rfl rfl dL_law_3328 (Nat.le_of_ble_eq_true rfl) (by omega) (by omega) (Nat.le_of_ble_eq_true rfl) (fun _ _ hz => hz.elim) (fun r3 u3 hr => ?_)
    obtain ⟨hr, rfl⟩ := hr
    subst hr
    refine V.stt (g2 := (c2, vp_updL o 0 (cvI v), dd, u3)) rfl ?_
    refine v_iload C dL_law_3331 rfl ?_
    refine v_icmp_eq C 3338 dL_law_3333 (by decide) (fun _ => ?_) (fun z => absurd rfl z)
    refine v_iload C dL_law_3338 rfl ?_
    refine v_if_ne C 3355 dL_law_3340 (by decide) (fun z => absurd (by decide) z) (fun _ => ?_)
    refine v_aload_n C dL_law_3343 rfl ?_
    refine v_iconst C dL_law_3344 (v := nI 0) (by decide) ?_
    refine v_lald C aj_l (by decide) 0 (by decide) rfl dL_law_3345 ?_
    refine v_iload C dL_law_3346 rfl ?_
    refine v_i2l C dL_law_3348 rfl ?_
    refine v_lcmp C dL_law_3349 ?_
    refine v_if_eq C 3355 dL_law_3350 (by decide) (fun _ => ?_) (fun z => absurd (lg_out (o := o) (x := cvI v) (y := v.toInt64) rfl) z)
    refine v_goto C 3915 dL_law_3355 (by decide) ?_
    refine V.sub (lo2 := [some (.ref b), some (.ref (h 0)), some (.ref (sh 126 h 0)), some (.ref (h 124)), some (.ref (h 125)), some (.int (nI (6 * j))), none, none, none]) ⟨rfl, rfl, rfl, rfl, rfl, rfl, trivial⟩ ?_
    exact back _ _ _ _ hIV
  · skip
    refine v_istore C dL_law_3301 rfl (Nat.le_of_ble_eq_true rfl) rfl ?_
    refine v_aload_n C dL_law_3303 rfl ?_
    refine v_aload_n C dL_law_3304 rfl ?_
    refine v_iload C dL_law_3305 rfl ?_
    refine v_iconst C dL_law_3307 (v := nI 1) (by decide) ?_
    refine v_iaddN C dL_law_3308 ?_
    refine v_sld C Z (6 * j + 1) rfl (by omega) hL dL_law_3309 ?_
    refine v_aload_n C dL_law_3310 rfl ?_
    refine v_iload C dL_law_3311 rfl ?_
    refine v_iconst C dL_law_3313 (v := nI 2) (by decide) ?_
    refine v_iaddN C dL_law_3314 ?_
    refine v_sld C Z (6 * j + 2) rfl (by omega) hL dL_law_3315 ?_
    refine v_aload_n C dL_law_3316 rfl ?_
    refine v_iload C dL_law_3317 rfl ?_
    refine v_iconst C dL_law_3319 (v := nI 3) (by decide) ?_
    refine v_iaddN C dL_law_3320 ?_
    refine v_sld C Z (6 * j + 3) rfl (by omega) hL dL_law_3321 ?_
    refine v_callVi C Mq ym_X6_move ml_L_379 emb_l_q rfl rfl rfl rfl rfl dL_law_3322 (by omega) (by omega) (by omega) (Nat.le_of_ble_eq_true rfl) (fun _ _ hz => hz.elim) (fun r2 u2 hq => ?_)
    obtain ⟨i2, h2, hi3, t0, hIV⟩ := J2 _ _ _ _ hp hq
    obtain rfl := EL_inj nd_SA hi h2
    refine V.stt (g2 := (c2, o, dd, u2)) rfl ?_
    refine v_istore C dL_law_3325 rfl (Nat.le_of_ble_eq_true rfl) rfl ?_
    refine v_aload_n C dL_law_3327 rfl ?_
    refine v_callVi C (c_X6_thrown hl t0) ym_X6_thrown ml_L_211 emb_l_q rfl rfl rfl rfl rfl dL_law_3328 (Nat.le_of_ble_eq_true rfl) (by omega) (by omega) (Nat.le_of_ble_eq_true rfl) (fun _ _ hz => hz.elim) (fun r3 u3 hr => ?_)
    obtain ⟨hr, rfl⟩ := hr
    subst hr
    refine V.stt (g2 := (c2, o, dd, u3)) rfl ?_
    refine v_iload C dL_law_3331 rfl ?_
    refine v_icmp_eq C 3338 dL_law_3333 (by decide) (fun _ => ?_) (fun z => absurd rfl z)
    refine v_iload C dL_law_3338 rfl ?_
    refine v_if_ne C 3355 dL_law_3340 (by decide) (fun _ => ?_) (fun z => absurd z (nI_pos3 hi3))
    refine v_goto C 3915 dL_law_3355 (by decide) ?_
    refine V.sub (lo2 := [some (.ref b), some (.ref (h 0)), some (.ref (sh 126 h 0)), some (.ref (h 124)), some (.ref (h 125)), some (.int (nI (6 * j))), none, none, none]) ⟨rfl, rfl, rfl, rfl, rfl, rfl, trivial⟩ ?_
    exact back _ _ _ _ hIV
set_option maxHeartbeats 1000000 in
theorem k_54 {X : Cx} {kc ks : Nat} (hl : (xl X).stackTraces = false) (C : Ok SS MM X RL cL_law 9 30 kc ks) {b L : Nat} {w : Nat → Int32} (Z : Lok X b L w) {h : Nat → Nat} {j : Nat} (hj : 6 * j + 6 ≤ L) (hL : L ≤ 3072) {c : Cg} {o : Nat → Int64} {dd : Nat → UInt64} {q : G} (I : INV (20 + j) c q) {k n : Nat} (hk : k + 6 ≤ kc) (hn : n + 36 ≤ ks) (back : ∀ c2 o2 d2 q2, INV (20 + j + 1) c2 q2 → V X (lS (xK X) h) 3915 [some (.ref b), some (.ref (h 0)), some (.ref (sh 126 h 0)), some (.ref (h 124)), some (.ref (h 125)), some (.int (nI (6 * j))), none, none, none] [] (c2, o2, d2, q2) (k + 6) (n + 36)) : V X (lS (xK X) h) 3358 [some (.ref b), some (.ref (h 0)), some (.ref (sh 126 h 0)), some (.ref (h 124)), some (.ref (h 125)), some (.int (nI (6 * j))), none, none, none] [] (c, o, dd, q) k n := by
  refine v_aload_n C dL_law_3358 rfl ?_
  refine v_aload_n C dL_law_3359 rfl ?_
  refine v_iload C dL_law_3360 rfl ?_
  refine v_iconst C dL_law_3362 (v := nI 1) (by decide) ?_
  refine v_iaddN C dL_law_3363 ?_
  refine v_sld C Z (6 * j + 1) rfl (by omega) hL dL_law_3364 ?_
  refine v_aload_n C dL_law_3365 rfl ?_
  obtain ⟨dM, mc, ms, dq, post, px, pq, ⟨a1, a2, a3, a4⟩, M, Mq, hE, ⟨J1, J2⟩, hP⟩ := s_fetch hl (κ := xK X) (h := h) (by omega) I (w (6 * j + 1))
  refine v_callSH C (hc_fetch hl (κ := xK X) (h := h) (c := c) (o := o) (dd := dd) (q := q) a1 a2 a3 M hE) ysh_L_fetch rfl ml_L_380 emb_id_lS rfl rfl rfl dL_law_3366 (Nat.le_of_ble_eq_true rfl) hk hn (Nat.le_of_ble_eq_true rfl) (fun _ _ hz => hz.elim) (fun r u hu => ?_)
  rcases hu with ⟨v, c2, hp, rfl, rfl⟩ | ⟨e, c2, i, hp, hi, rfl, rfl⟩
  · skip
    refine v_istore C dL_law_3369 rfl (Nat.le_of_ble_eq_true rfl) rfl ?_
    refine v_aload_n C dL_law_3371 rfl ?_
    refine v_aload_n C dL_law_3372 rfl ?_
    refine v_iload C dL_law_3373 rfl ?_
    refine v_iconst C dL_law_3375 (v := nI 1) (by decide) ?_
    refine v_iaddN C dL_law_3376 ?_
    refine v_sld C Z (6 * j + 1) rfl (by omega) hL dL_law_3377 ?_
    refine v_callVi C Mq ym_X6_fetch ml_L_382 emb_l_q rfl rfl rfl rfl rfl dL_law_3378 (by omega) (by omega) (by omega) (Nat.le_of_ble_eq_true rfl) (fun _ _ hz => hz.elim) (fun r2 u2 hq => ?_)
    obtain ⟨t0, rfl, hIV⟩ := J1 _ _ _ _ hp hq
    refine V.stt (g2 := (c2, vp_updL o 0 (cvI v), dd, u2)) rfl ?_
    refine v_istore C dL_law_3381 rfl (Nat.le_of_ble_eq_true rfl) rfl ?_
    refine v_aload_n C dL_law_3383 rfl ?_
    refine v_callVi C (c_X6_thrown hl t0) ym_X6_thrown ml_L_211 emb_l_q rfl rfl rfl rfl rfl dL_law_3384 (Nat.le_of_ble_eq_true rfl) (by omega) (by omega) (Nat.le_of_ble_eq_true rfl) (fun _ _ hz => hz.elim) (fun r3 u3 hr => ?_)
    obtain ⟨hr, rfl⟩ := hr
    subst hr
    refine V.stt (g2 := (c2, vp_updL o 0 (cvI v), dd, u3)) rfl ?_
    refine v_iload C dL_law_3387 rfl ?_
    refine v_icmp_eq C 3394 dL_law_3389 (by decide) (fun _ => ?_) (fun z => absurd rfl z)
    refine v_iload C dL_law_3394 rfl ?_
    refine v_if_ne C 3411 dL_law_3396 (by decide) (fun z => absurd (by decide) z) (fun _ => ?_)
    refine v_aload_n C dL_law_3399 rfl ?_
    refine v_iconst C dL_law_3400 (v := nI 0) (by decide) ?_
    refine v_lald C aj_l (by decide) 0 (by decide) rfl dL_law_3401 ?_
    refine v_iload C dL_law_3402 rfl ?_
    refine v_i2l C dL_law_3404 rfl ?_
    refine v_lcmp C dL_law_3405 ?_
    refine v_if_eq C 3411 dL_law_3406 (by decide) (fun _ => ?_) (fun z => absurd (lg_out (o := o) (x := cvI v) (y := v.toInt64) rfl) z)
    refine v_goto C 3915 dL_law_3411 (by decide) ?_
    refine V.sub (lo2 := [some (.ref b), some (.ref (h 0)), some (.ref (sh 126 h 0)), some (.ref (h 124)), some (.ref (h 125)), some (.int (nI (6 * j))), none, none, none]) ⟨rfl, rfl, rfl, rfl, rfl, rfl, trivial⟩ ?_
    exact back _ _ _ _ hIV
  · skip
    refine v_istore C dL_law_3369 rfl (Nat.le_of_ble_eq_true rfl) rfl ?_
    refine v_aload_n C dL_law_3371 rfl ?_
    refine v_aload_n C dL_law_3372 rfl ?_
    refine v_iload C dL_law_3373 rfl ?_
    refine v_iconst C dL_law_3375 (v := nI 1) (by decide) ?_
    refine v_iaddN C dL_law_3376 ?_
    refine v_sld C Z (6 * j + 1) rfl (by omega) hL dL_law_3377 ?_
    refine v_callVi C Mq ym_X6_fetch ml_L_382 emb_l_q rfl rfl rfl rfl rfl dL_law_3378 (by omega) (by omega) (by omega) (Nat.le_of_ble_eq_true rfl) (fun _ _ hz => hz.elim) (fun r2 u2 hq => ?_)
    obtain ⟨i2, h2, hi3, t0, hIV⟩ := J2 _ _ _ _ hp hq
    obtain rfl := EL_inj nd_SO hi h2
    refine V.stt (g2 := (c2, o, dd, u2)) rfl ?_
    refine v_istore C dL_law_3381 rfl (Nat.le_of_ble_eq_true rfl) rfl ?_
    refine v_aload_n C dL_law_3383 rfl ?_
    refine v_callVi C (c_X6_thrown hl t0) ym_X6_thrown ml_L_211 emb_l_q rfl rfl rfl rfl rfl dL_law_3384 (Nat.le_of_ble_eq_true rfl) (by omega) (by omega) (Nat.le_of_ble_eq_true rfl) (fun _ _ hz => hz.elim) (fun r3 u3 hr => ?_)
    obtain ⟨hr, rfl⟩ := hr
    subst hr
    refine V.stt (g2 := (c2, o, dd, u3)) rfl ?_
    refine v_iload C dL_law_3387 rfl ?_
    refine v_icmp_eq C 3394 dL_law_3389 (by decide) (fun _ => ?_) (fun z => absurd rfl z)
    refine v_iload C dL_law_3394 rfl ?_
    refine v_if_ne C 3411 dL_law_3396 (by decide) (fun _ => ?_) (fun z => absurd z (nI_pos3 hi3))
    refine v_goto C 3915 dL_law_3411 (by decide) ?_
    refine V.sub (lo2 := [some (.ref b), some (.ref (h 0)), some (.ref (sh 126 h 0)), some (.ref (h 124)), some (.ref (h 125)), some (.int (nI (6 * j))), none, none, none]) ⟨rfl, rfl, rfl, rfl, rfl, rfl, trivial⟩ ?_
    exact back _ _ _ _ hIV
set_option maxHeartbeats 1000000 in
theorem k_55 {X : Cx} {kc ks : Nat} (hl : (xl X).stackTraces = false) (C : Ok SS MM X RL cL_law 9 30 kc ks) {b L : Nat} {w : Nat → Int32} (Z : Lok X b L w) {h : Nat → Nat} {j : Nat} (hj : 6 * j + 6 ≤ L) (hL : L ≤ 3072) {c : Cg} {o : Nat → Int64} {dd : Nat → UInt64} {q : G} (I : INV (20 + j) c q) {k n : Nat} (hk : k + 6 ≤ kc) (hn : n + 36 ≤ ks) (back : ∀ c2 o2 d2 q2, INV (20 + j + 1) c2 q2 → V X (lS (xK X) h) 3915 [some (.ref b), some (.ref (h 0)), some (.ref (sh 126 h 0)), some (.ref (h 124)), some (.ref (h 125)), some (.int (nI (6 * j))), none, none, none] [] (c2, o2, d2, q2) (k + 6) (n + 36)) : V X (lS (xK X) h) 3414 [some (.ref b), some (.ref (h 0)), some (.ref (sh 126 h 0)), some (.ref (h 124)), some (.ref (h 125)), some (.int (nI (6 * j))), none, none, none] [] (c, o, dd, q) k n := by
  refine v_aload_n C dL_law_3414 rfl ?_
  refine v_aload_n C dL_law_3415 rfl ?_
  refine v_iload C dL_law_3416 rfl ?_
  refine v_iconst C dL_law_3418 (v := nI 1) (by decide) ?_
  refine v_iaddN C dL_law_3419 ?_
  refine v_sld C Z (6 * j + 1) rfl (by omega) hL dL_law_3420 ?_
  refine v_aload_n C dL_law_3421 rfl ?_
  obtain ⟨dM, mc, ms, dq, post, px, pq, ⟨a1, a2, a3, a4⟩, M, Mq, hE, ⟨J1, J2⟩, hP⟩ := s_tick hl (κ := xK X) (h := h) (by omega) I (w (6 * j + 1))
  refine v_callSH C (hc_tick hl (κ := xK X) (h := h) (c := c) (o := o) (dd := dd) (q := q) a1 a2 a3 M hE) ysh_L_tick rfl ml_L_383 emb_id_lS rfl rfl rfl dL_law_3422 (Nat.le_of_ble_eq_true rfl) hk hn (Nat.le_of_ble_eq_true rfl) (fun _ _ hz => hz.elim) (fun r u hu => ?_)
  rcases hu with ⟨v, c2, hp, rfl, rfl⟩ | ⟨e, c2, i, hp, hi, rfl, rfl⟩
  · skip
    refine v_istore C dL_law_3425 rfl (Nat.le_of_ble_eq_true rfl) rfl ?_
    refine v_aload_n C dL_law_3427 rfl ?_
    refine v_aload_n C dL_law_3428 rfl ?_
    refine v_iload C dL_law_3429 rfl ?_
    refine v_iconst C dL_law_3431 (v := nI 1) (by decide) ?_
    refine v_iaddN C dL_law_3432 ?_
    refine v_sld C Z (6 * j + 1) rfl (by omega) hL dL_law_3433 ?_
    refine v_callVi C Mq ym_X6_tick ml_L_385 emb_l_q rfl rfl rfl rfl rfl dL_law_3434 (by omega) (by omega) (by omega) (Nat.le_of_ble_eq_true rfl) (fun _ _ hz => hz.elim) (fun r2 u2 hq => ?_)
    obtain ⟨t0, rfl, hIV⟩ := J1 _ _ _ _ hp hq
    refine V.stt (g2 := (c2, vp_updL o 0 (cvI v), dd, u2)) rfl ?_
    refine v_istore C dL_law_3437 rfl (Nat.le_of_ble_eq_true rfl) rfl ?_
    refine v_aload_n C dL_law_3439 rfl ?_
    refine v_callVi C (c_X6_thrown hl t0) ym_X6_thrown ml_L_211 emb_l_q rfl rfl rfl rfl rfl dL_law_3440 (Nat.le_of_ble_eq_true rfl) (by omega) (by omega) (Nat.le_of_ble_eq_true rfl) (fun _ _ hz => hz.elim) (fun r3 u3 hr => ?_)
    obtain ⟨hr, rfl⟩ := hr
    subst hr
    refine V.stt (g2 := (c2, vp_updL o 0 (cvI v), dd, u3)) rfl ?_
    refine v_iload C dL_law_3443 rfl ?_
    refine v_icmp_eq C 3450 dL_law_3445 (by decide) (fun _ => ?_) (fun z => absurd rfl z)
    refine v_iload C dL_law_3450 rfl ?_
    refine v_if_ne C 3467 dL_law_3452 (by decide) (fun z => absurd (by decide) z) (fun _ => ?_)
    refine v_aload_n C dL_law_3455 rfl ?_
    refine v_iconst C dL_law_3456 (v := nI 0) (by decide) ?_
    refine v_lald C aj_l (by decide) 0 (by decide) rfl dL_law_3457 ?_
    refine v_iload C dL_law_3458 rfl ?_
    refine v_i2l C dL_law_3460 rfl ?_
    refine v_lcmp C dL_law_3461 ?_
    refine v_if_eq C 3467 dL_law_3462 (by decide) (fun _ => ?_) (fun z => absurd (lg_out (o := o) (x := cvI v) (y := v.toInt64) rfl) z)
    refine v_goto C 3915 dL_law_3467 (by decide) ?_
    refine V.sub (lo2 := [some (.ref b), some (.ref (h 0)), some (.ref (sh 126 h 0)), some (.ref (h 124)), some (.ref (h 125)), some (.int (nI (6 * j))), none, none, none]) ⟨rfl, rfl, rfl, rfl, rfl, rfl, trivial⟩ ?_
    exact back _ _ _ _ hIV
  · skip
    refine v_istore C dL_law_3425 rfl (Nat.le_of_ble_eq_true rfl) rfl ?_
    refine v_aload_n C dL_law_3427 rfl ?_
    refine v_aload_n C dL_law_3428 rfl ?_
    refine v_iload C dL_law_3429 rfl ?_
    refine v_iconst C dL_law_3431 (v := nI 1) (by decide) ?_
    refine v_iaddN C dL_law_3432 ?_
    refine v_sld C Z (6 * j + 1) rfl (by omega) hL dL_law_3433 ?_
    refine v_callVi C Mq ym_X6_tick ml_L_385 emb_l_q rfl rfl rfl rfl rfl dL_law_3434 (by omega) (by omega) (by omega) (Nat.le_of_ble_eq_true rfl) (fun _ _ hz => hz.elim) (fun r2 u2 hq => ?_)
    obtain ⟨i2, h2, hi3, t0, hIV⟩ := J2 _ _ _ _ hp hq
    obtain rfl := EL_inj nd_SA hi h2
    refine V.stt (g2 := (c2, o, dd, u2)) rfl ?_
    refine v_istore C dL_law_3437 rfl (Nat.le_of_ble_eq_true rfl) rfl ?_
    refine v_aload_n C dL_law_3439 rfl ?_
    refine v_callVi C (c_X6_thrown hl t0) ym_X6_thrown ml_L_211 emb_l_q rfl rfl rfl rfl rfl dL_law_3440 (Nat.le_of_ble_eq_true rfl) (by omega) (by omega) (Nat.le_of_ble_eq_true rfl) (fun _ _ hz => hz.elim) (fun r3 u3 hr => ?_)
    obtain ⟨hr, rfl⟩ := hr
    subst hr
    refine V.stt (g2 := (c2, o, dd, u3)) rfl ?_
    refine v_iload C dL_law_3443 rfl ?_
    refine v_icmp_eq C 3450 dL_law_3445 (by decide) (fun _ => ?_) (fun z => absurd rfl z)
    refine v_iload C dL_law_3450 rfl ?_
    refine v_if_ne C 3467 dL_law_3452 (by decide) (fun _ => ?_) (fun z => absurd z (nI_pos3 hi3))
    refine v_goto C 3915 dL_law_3467 (by decide) ?_
    refine V.sub (lo2 := [some (.ref b), some (.ref (h 0)), some (.ref (sh 126 h 0)), some (.ref (h 124)), some (.ref (h 125)), some (.int (nI (6 * j))), none, none, none]) ⟨rfl, rfl, rfl, rfl, rfl, rfl, trivial⟩ ?_
    exact back _ _ _ _ hIV
set_option maxHeartbeats 1000000 in
theorem k_56 {X : Cx} {kc ks : Nat} (hl : (xl X).stackTraces = false) (C : Ok SS MM X RL cL_law 9 30 kc ks) {b L : Nat} {w : Nat → Int32} (Z : Lok X b L w) {h : Nat → Nat} {j : Nat} (hj : 6 * j + 6 ≤ L) (hL : L ≤ 3072) {c : Cg} {o : Nat → Int64} {dd : Nat → UInt64} {q : G} (I : INV (20 + j) c q) {k n : Nat} (hk : k + 6 ≤ kc) (hn : n + 36 ≤ ks) (back : ∀ c2 o2 d2 q2, INV (20 + j + 1) c2 q2 → V X (lS (xK X) h) 3915 [some (.ref b), some (.ref (h 0)), some (.ref (sh 126 h 0)), some (.ref (h 124)), some (.ref (h 125)), some (.int (nI (6 * j))), none, none, none] [] (c2, o2, d2, q2) (k + 6) (n + 36)) : V X (lS (xK X) h) 3470 [some (.ref b), some (.ref (h 0)), some (.ref (sh 126 h 0)), some (.ref (h 124)), some (.ref (h 125)), some (.int (nI (6 * j))), none, none, none] [] (c, o, dd, q) k n := by
  refine v_aload_n C dL_law_3470 rfl ?_
  refine v_aload_n C dL_law_3471 rfl ?_
  refine v_iload C dL_law_3472 rfl ?_
  refine v_iconst C dL_law_3474 (v := nI 1) (by decide) ?_
  refine v_iaddN C dL_law_3475 ?_
  refine v_sld C Z (6 * j + 1) rfl (by omega) hL dL_law_3476 ?_
  refine v_aload_n C dL_law_3477 rfl ?_
  refine v_iload C dL_law_3478 rfl ?_
  refine v_iconst C dL_law_3480 (v := nI 2) (by decide) ?_
  refine v_iaddN C dL_law_3481 ?_
  refine v_sld C Z (6 * j + 2) rfl (by omega) hL dL_law_3482 ?_
  refine v_aload_n C dL_law_3483 rfl ?_
  obtain ⟨dM, mc, ms, dq, post, px, pq, ⟨a1, a2, a3, a4⟩, M, Mq, hE, ⟨J1, J2⟩, hP⟩ := s_payRange hl (κ := xK X) (h := h) (by omega) I (w (6 * j + 1)) (w (6 * j + 2))
  refine v_callSH C (hc_payRange hl (κ := xK X) (h := h) (c := c) (o := o) (dd := dd) (q := q) a1 a2 a3 M hE) ysh_L_payRange rfl ml_L_386 emb_id_lS rfl rfl rfl dL_law_3484 (Nat.le_of_ble_eq_true rfl) hk hn (Nat.le_of_ble_eq_true rfl) (fun _ _ hz => hz.elim) (fun r u hu => ?_)
  rcases hu with ⟨v, c2, hp, rfl, rfl⟩ | ⟨e, c2, i, hp, hi, rfl, rfl⟩
  · skip
    refine v_istore C dL_law_3487 rfl (Nat.le_of_ble_eq_true rfl) rfl ?_
    refine v_aload_n C dL_law_3489 rfl ?_
    refine v_aload_n C dL_law_3490 rfl ?_
    refine v_iload C dL_law_3491 rfl ?_
    refine v_iconst C dL_law_3493 (v := nI 1) (by decide) ?_
    refine v_iaddN C dL_law_3494 ?_
    refine v_sld C Z (6 * j + 1) rfl (by omega) hL dL_law_3495 ?_
    refine v_aload_n C dL_law_3496 rfl ?_
    refine v_iload C dL_law_3497 rfl ?_
    refine v_iconst C dL_law_3499 (v := nI 2) (by decide) ?_
    refine v_iaddN C dL_law_3500 ?_
    refine v_sld C Z (6 * j + 2) rfl (by omega) hL dL_law_3501 ?_
    refine v_callVi C Mq ym_X6_payRange ml_L_388 emb_l_q rfl rfl rfl rfl rfl dL_law_3502 (by omega) (by omega) (by omega) (Nat.le_of_ble_eq_true rfl) (fun _ _ hz => hz.elim) (fun r2 u2 hq => ?_)
    obtain ⟨t0, rfl, hIV⟩ := J1 _ _ _ _ hp hq
    refine V.stt (g2 := (c2, vp_updL o 0 (cvI v), dd, u2)) rfl ?_
    refine v_istore C dL_law_3505 rfl (Nat.le_of_ble_eq_true rfl) rfl ?_
    refine v_aload_n C dL_law_3507 rfl ?_
    refine v_callVi C (c_X6_thrown hl t0) ym_X6_thrown ml_L_211 emb_l_q rfl rfl rfl rfl rfl dL_law_3508 (Nat.le_of_ble_eq_true rfl) (by omega) (by omega) (Nat.le_of_ble_eq_true rfl) (fun _ _ hz => hz.elim) (fun r3 u3 hr => ?_)
    obtain ⟨hr, rfl⟩ := hr
    subst hr
    refine V.stt (g2 := (c2, vp_updL o 0 (cvI v), dd, u3)) rfl ?_
    refine v_iload C dL_law_3511 rfl ?_
    refine v_icmp_eq C 3518 dL_law_3513 (by decide) (fun _ => ?_) (fun z => absurd rfl z)
    refine v_iload C dL_law_3518 rfl ?_
    refine v_if_ne C 3535 dL_law_3520 (by decide) (fun z => absurd (by decide) z) (fun _ => ?_)
    refine v_aload_n C dL_law_3523 rfl ?_
    refine v_iconst C dL_law_3524 (v := nI 0) (by decide) ?_
    refine v_lald C aj_l (by decide) 0 (by decide) rfl dL_law_3525 ?_
    refine v_iload C dL_law_3526 rfl ?_
    refine v_i2l C dL_law_3528 rfl ?_
    refine v_lcmp C dL_law_3529 ?_
    refine v_if_eq C 3535 dL_law_3530 (by decide) (fun _ => ?_) (fun z => absurd (lg_out (o := o) (x := cvI v) (y := v.toInt64) rfl) z)
    refine v_goto C 3915 dL_law_3535 (by decide) ?_
    refine V.sub (lo2 := [some (.ref b), some (.ref (h 0)), some (.ref (sh 126 h 0)), some (.ref (h 124)), some (.ref (h 125)), some (.int (nI (6 * j))), none, none, none]) ⟨rfl, rfl, rfl, rfl, rfl, rfl, trivial⟩ ?_
    exact back _ _ _ _ hIV
  · skip
    refine v_istore C dL_law_3487 rfl (Nat.le_of_ble_eq_true rfl) rfl ?_
    refine v_aload_n C dL_law_3489 rfl ?_
    refine v_aload_n C dL_law_3490 rfl ?_
    refine v_iload C dL_law_3491 rfl ?_
    refine v_iconst C dL_law_3493 (v := nI 1) (by decide) ?_
    refine v_iaddN C dL_law_3494 ?_
    refine v_sld C Z (6 * j + 1) rfl (by omega) hL dL_law_3495 ?_
    refine v_aload_n C dL_law_3496 rfl ?_
    refine v_iload C dL_law_3497 rfl ?_
    refine v_iconst C dL_law_3499 (v := nI 2) (by decide) ?_
    refine v_iaddN C dL_law_3500 ?_
    refine v_sld C Z (6 * j + 2) rfl (by omega) hL dL_law_3501 ?_
    refine v_callVi C Mq ym_X6_payRange ml_L_388 emb_l_q rfl rfl rfl rfl rfl dL_law_3502 (by omega) (by omega) (by omega) (Nat.le_of_ble_eq_true rfl) (fun _ _ hz => hz.elim) (fun r2 u2 hq => ?_)
    obtain ⟨i2, h2, hi3, t0, hIV⟩ := J2 _ _ _ _ hp hq
    obtain rfl := EL_inj nd_SOA hi h2
    refine V.stt (g2 := (c2, o, dd, u2)) rfl ?_
    refine v_istore C dL_law_3505 rfl (Nat.le_of_ble_eq_true rfl) rfl ?_
    refine v_aload_n C dL_law_3507 rfl ?_
    refine v_callVi C (c_X6_thrown hl t0) ym_X6_thrown ml_L_211 emb_l_q rfl rfl rfl rfl rfl dL_law_3508 (Nat.le_of_ble_eq_true rfl) (by omega) (by omega) (Nat.le_of_ble_eq_true rfl) (fun _ _ hz => hz.elim) (fun r3 u3 hr => ?_)
    obtain ⟨hr, rfl⟩ := hr
    subst hr
    refine V.stt (g2 := (c2, o, dd, u3)) rfl ?_
    refine v_iload C dL_law_3511 rfl ?_
    refine v_icmp_eq C 3518 dL_law_3513 (by decide) (fun _ => ?_) (fun z => absurd rfl z)
    refine v_iload C dL_law_3518 rfl ?_
    refine v_if_ne C 3535 dL_law_3520 (by decide) (fun _ => ?_) (fun z => absurd z (nI_pos3 hi3))
    refine v_goto C 3915 dL_law_3535 (by decide) ?_
    refine V.sub (lo2 := [some (.ref b), some (.ref (h 0)), some (.ref (sh 126 h 0)), some (.ref (h 124)), some (.ref (h 125)), some (.int (nI (6 * j))), none, none, none]) ⟨rfl, rfl, rfl, rfl, rfl, rfl, trivial⟩ ?_
    exact back _ _ _ _ hIV
set_option maxHeartbeats 1000000 in
theorem k_57 {X : Cx} {kc ks : Nat} (hl : (xl X).stackTraces = false) (C : Ok SS MM X RL cL_law 9 30 kc ks) {b L : Nat} {w : Nat → Int32} (Z : Lok X b L w) {h : Nat → Nat} {j : Nat} (hj : 6 * j + 6 ≤ L) (hL : L ≤ 3072) {c : Cg} {o : Nat → Int64} {dd : Nat → UInt64} {q : G} (I : INV (20 + j) c q) {k n : Nat} (hk : k + 6 ≤ kc) (hn : n + 36 ≤ ks) (back : ∀ c2 o2 d2 q2, INV (20 + j + 1) c2 q2 → V X (lS (xK X) h) 3915 [some (.ref b), some (.ref (h 0)), some (.ref (sh 126 h 0)), some (.ref (h 124)), some (.ref (h 125)), some (.int (nI (6 * j))), none, none, none] [] (c2, o2, d2, q2) (k + 6) (n + 36)) : V X (lS (xK X) h) 3538 [some (.ref b), some (.ref (h 0)), some (.ref (sh 126 h 0)), some (.ref (h 124)), some (.ref (h 125)), some (.int (nI (6 * j))), none, none, none] [] (c, o, dd, q) k n := by
  refine v_aload_n C dL_law_3538 rfl ?_
  refine v_aload_n C dL_law_3539 rfl ?_
  refine v_iload C dL_law_3540 rfl ?_
  refine v_iconst C dL_law_3542 (v := nI 1) (by decide) ?_
  refine v_iaddN C dL_law_3543 ?_
  refine v_sld C Z (6 * j + 1) rfl (by omega) hL dL_law_3544 ?_
  refine v_aload_n C dL_law_3545 rfl ?_
  obtain ⟨dM, mc, ms, dq, post, px, pq, ⟨a1, a2, a3, a4⟩, M, Mq, hE, ⟨J1, J2⟩, hP⟩ := s_shorten hl (κ := xK X) (h := h) (by omega) I (w (6 * j + 1))
  refine v_callSH C (hc_shorten hl (κ := xK X) (h := h) (c := c) (o := o) (dd := dd) (q := q) a1 a2 a3 M hE) ysh_L_shorten rfl ml_L_389 emb_id_lS rfl rfl rfl dL_law_3546 (Nat.le_of_ble_eq_true rfl) hk hn (Nat.le_of_ble_eq_true rfl) (fun _ _ hz => hz.elim) (fun r u hu => ?_)
  rcases hu with ⟨v, c2, hp, rfl, rfl⟩ | ⟨e, c2, i, hp, hi, rfl, rfl⟩
  · skip
    refine v_istore C dL_law_3549 rfl (Nat.le_of_ble_eq_true rfl) rfl ?_
    refine v_aload_n C dL_law_3551 rfl ?_
    refine v_aload_n C dL_law_3552 rfl ?_
    refine v_iload C dL_law_3553 rfl ?_
    refine v_iconst C dL_law_3555 (v := nI 1) (by decide) ?_
    refine v_iaddN C dL_law_3556 ?_
    refine v_sld C Z (6 * j + 1) rfl (by omega) hL dL_law_3557 ?_
    refine v_callVi C Mq ym_X6_shorten ml_L_391 emb_l_q rfl rfl rfl rfl rfl dL_law_3558 (by omega) (by omega) (by omega) (Nat.le_of_ble_eq_true rfl) (fun _ _ hz => hz.elim) (fun r2 u2 hq => ?_)
    obtain ⟨t0, rfl, hIV⟩ := J1 _ _ _ _ hp hq
    refine V.stt (g2 := (c2, vp_updL o 0 (cvI v), dd, u2)) rfl ?_
    refine v_istore C dL_law_3561 rfl (Nat.le_of_ble_eq_true rfl) rfl ?_
    refine v_aload_n C dL_law_3563 rfl ?_
    refine v_callVi C (c_X6_thrown hl t0) ym_X6_thrown ml_L_211 emb_l_q rfl rfl rfl rfl rfl dL_law_3564 (Nat.le_of_ble_eq_true rfl) (by omega) (by omega) (Nat.le_of_ble_eq_true rfl) (fun _ _ hz => hz.elim) (fun r3 u3 hr => ?_)
    obtain ⟨hr, rfl⟩ := hr
    subst hr
    refine V.stt (g2 := (c2, vp_updL o 0 (cvI v), dd, u3)) rfl ?_
    refine v_iload C dL_law_3567 rfl ?_
    refine v_icmp_eq C 3574 dL_law_3569 (by decide) (fun _ => ?_) (fun z => absurd rfl z)
    refine v_iload C dL_law_3574 rfl ?_
    refine v_if_ne C 3591 dL_law_3576 (by decide) (fun z => absurd (by decide) z) (fun _ => ?_)
    refine v_aload_n C dL_law_3579 rfl ?_
    refine v_iconst C dL_law_3580 (v := nI 0) (by decide) ?_
    refine v_lald C aj_l (by decide) 0 (by decide) rfl dL_law_3581 ?_
    refine v_iload C dL_law_3582 rfl ?_
    refine v_i2l C dL_law_3584 rfl ?_
    refine v_lcmp C dL_law_3585 ?_
    refine v_if_eq C 3591 dL_law_3586 (by decide) (fun _ => ?_) (fun z => absurd (lg_out (o := o) (x := cvI v) (y := v.toInt64) rfl) z)
    refine v_goto C 3915 dL_law_3591 (by decide) ?_
    refine V.sub (lo2 := [some (.ref b), some (.ref (h 0)), some (.ref (sh 126 h 0)), some (.ref (h 124)), some (.ref (h 125)), some (.int (nI (6 * j))), none, none, none]) ⟨rfl, rfl, rfl, rfl, rfl, rfl, trivial⟩ ?_
    exact back _ _ _ _ hIV
  · skip
    refine v_istore C dL_law_3549 rfl (Nat.le_of_ble_eq_true rfl) rfl ?_
    refine v_aload_n C dL_law_3551 rfl ?_
    refine v_aload_n C dL_law_3552 rfl ?_
    refine v_iload C dL_law_3553 rfl ?_
    refine v_iconst C dL_law_3555 (v := nI 1) (by decide) ?_
    refine v_iaddN C dL_law_3556 ?_
    refine v_sld C Z (6 * j + 1) rfl (by omega) hL dL_law_3557 ?_
    refine v_callVi C Mq ym_X6_shorten ml_L_391 emb_l_q rfl rfl rfl rfl rfl dL_law_3558 (by omega) (by omega) (by omega) (Nat.le_of_ble_eq_true rfl) (fun _ _ hz => hz.elim) (fun r2 u2 hq => ?_)
    obtain ⟨i2, h2, hi3, t0, hIV⟩ := J2 _ _ _ _ hp hq
    obtain rfl := EL_inj nd_SOA hi h2
    refine V.stt (g2 := (c2, o, dd, u2)) rfl ?_
    refine v_istore C dL_law_3561 rfl (Nat.le_of_ble_eq_true rfl) rfl ?_
    refine v_aload_n C dL_law_3563 rfl ?_
    refine v_callVi C (c_X6_thrown hl t0) ym_X6_thrown ml_L_211 emb_l_q rfl rfl rfl rfl rfl dL_law_3564 (Nat.le_of_ble_eq_true rfl) (by omega) (by omega) (Nat.le_of_ble_eq_true rfl) (fun _ _ hz => hz.elim) (fun r3 u3 hr => ?_)
    obtain ⟨hr, rfl⟩ := hr
    subst hr
    refine V.stt (g2 := (c2, o, dd, u3)) rfl ?_
    refine v_iload C dL_law_3567 rfl ?_
    refine v_icmp_eq C 3574 dL_law_3569 (by decide) (fun _ => ?_) (fun z => absurd rfl z)
    refine v_iload C dL_law_3574 rfl ?_
    refine v_if_ne C 3591 dL_law_3576 (by decide) (fun _ => ?_) (fun z => absurd z (nI_pos3 hi3))
    refine v_goto C 3915 dL_law_3591 (by decide) ?_
    refine V.sub (lo2 := [some (.ref b), some (.ref (h 0)), some (.ref (sh 126 h 0)), some (.ref (h 124)), some (.ref (h 125)), some (.int (nI (6 * j))), none, none, none]) ⟨rfl, rfl, rfl, rfl, rfl, rfl, trivial⟩ ?_
    exact back _ _ _ _ hIV
set_option maxHeartbeats 1000000 in
theorem k_58 {X : Cx} {kc ks : Nat} (hl : (xl X).stackTraces = false) (C : Ok SS MM X RL cL_law 9 30 kc ks) {b L : Nat} {w : Nat → Int32} (Z : Lok X b L w) {h : Nat → Nat} {j : Nat} (hj : 6 * j + 6 ≤ L) (hL : L ≤ 3072) {c : Cg} {o : Nat → Int64} {dd : Nat → UInt64} {q : G} (I : INV (20 + j) c q) {k n : Nat} (hk : k + 6 ≤ kc) (hn : n + 36 ≤ ks) (back : ∀ c2 o2 d2 q2, INV (20 + j + 1) c2 q2 → V X (lS (xK X) h) 3915 [some (.ref b), some (.ref (h 0)), some (.ref (sh 126 h 0)), some (.ref (h 124)), some (.ref (h 125)), some (.int (nI (6 * j))), none, none, none] [] (c2, o2, d2, q2) (k + 6) (n + 36)) : V X (lS (xK X) h) 3594 [some (.ref b), some (.ref (h 0)), some (.ref (sh 126 h 0)), some (.ref (h 124)), some (.ref (h 125)), some (.int (nI (6 * j))), none, none, none] [] (c, o, dd, q) k n := by
  by_cases hw : w (6 * j + 2) = 0
  · skip
    refine v_aload_n C dL_law_3594 rfl ?_
    refine v_aload_n C dL_law_3595 rfl ?_
    refine v_iload C dL_law_3596 rfl ?_
    refine v_iconst C dL_law_3598 (v := nI 1) (by decide) ?_
    refine v_iaddN C dL_law_3599 ?_
    refine v_sld C Z (6 * j + 1) rfl (by omega) hL dL_law_3600 ?_
    refine v_aload_n C dL_law_3601 rfl ?_
    refine v_iload C dL_law_3602 rfl ?_
    refine v_iconst C dL_law_3604 (v := nI 2) (by decide) ?_
    refine v_iaddN C dL_law_3605 ?_
    refine v_sld C Z (6 * j + 2) rfl (by omega) hL dL_law_3606 ?_
    refine v_if_eq C 3614 dL_law_3607 (by decide) (fun _ => ?_) (fun z => absurd hw z)
    refine v_iconst C dL_law_3614 (v := nI 0) (by decide) ?_
    refine v_aload_n C dL_law_3615 rfl ?_
    obtain ⟨dM, mc, ms, dq, post, px, pq, ⟨a1, a2, a3, a4⟩, M, Mq, hE, ⟨J1, J2⟩, hP⟩ := s_setLock hl (κ := xK X) (h := h) (by omega) I (w (6 * j + 1)) false
    refine v_callSH C (hc_setLock hl (κ := xK X) (h := h) (c := c) (o := o) (dd := dd) (q := q) a1 a2 a3 M hE) ysh_L_setLock rfl ml_L_392 emb_id_lS rfl rfl rfl dL_law_3616 (Nat.le_of_ble_eq_true rfl) hk hn (Nat.le_of_ble_eq_true rfl) (fun _ _ hz => hz.elim) (fun r u hu => ?_)
    rcases hu with ⟨v, c2, hp, rfl, rfl⟩ | ⟨e, c2, i, hp, hi, rfl, rfl⟩
    · skip
      refine v_istore C dL_law_3619 rfl (Nat.le_of_ble_eq_true rfl) rfl ?_
      refine v_aload_n C dL_law_3621 rfl ?_
      refine v_aload_n C dL_law_3622 rfl ?_
      refine v_iload C dL_law_3623 rfl ?_
      refine v_iconst C dL_law_3625 (v := nI 1) (by decide) ?_
      refine v_iaddN C dL_law_3626 ?_
      refine v_sld C Z (6 * j + 1) rfl (by omega) hL dL_law_3627 ?_
      refine v_aload_n C dL_law_3628 rfl ?_
      refine v_iload C dL_law_3629 rfl ?_
      refine v_iconst C dL_law_3631 (v := nI 2) (by decide) ?_
      refine v_iaddN C dL_law_3632 ?_
      refine v_sld C Z (6 * j + 2) rfl (by omega) hL dL_law_3633 ?_
      refine v_if_eq C 3641 dL_law_3634 (by decide) (fun _ => ?_) (fun z => absurd hw z)
      refine v_iconst C dL_law_3641 (v := nI 0) (by decide) ?_
      refine v_callVi C Mq ym_X6_setLock ml_L_394 emb_l_q rfl rfl rfl rfl rfl dL_law_3642 (by omega) (by omega) (by omega) (Nat.le_of_ble_eq_true rfl) (fun _ _ hz => hz.elim) (fun r2 u2 hq => ?_)
      obtain ⟨t0, rfl, hIV⟩ := J1 _ _ _ _ hp hq
      refine V.stt (g2 := (c2, vp_updL o 0 (cvI v), dd, u2)) rfl ?_
      refine v_istore C dL_law_3645 rfl (Nat.le_of_ble_eq_true rfl) rfl ?_
      refine v_aload_n C dL_law_3647 rfl ?_
      refine v_callVi C (c_X6_thrown hl t0) ym_X6_thrown ml_L_211 emb_l_q rfl rfl rfl rfl rfl dL_law_3648 (Nat.le_of_ble_eq_true rfl) (by omega) (by omega) (Nat.le_of_ble_eq_true rfl) (fun _ _ hz => hz.elim) (fun r3 u3 hr => ?_)
      obtain ⟨hr, rfl⟩ := hr
      subst hr
      refine V.stt (g2 := (c2, vp_updL o 0 (cvI v), dd, u3)) rfl ?_
      refine v_iload C dL_law_3651 rfl ?_
      refine v_icmp_eq C 3658 dL_law_3653 (by decide) (fun _ => ?_) (fun z => absurd rfl z)
      refine v_iload C dL_law_3658 rfl ?_
      refine v_if_ne C 3675 dL_law_3660 (by decide) (fun z => absurd (by decide) z) (fun _ => ?_)
      refine v_aload_n C dL_law_3663 rfl ?_
      refine v_iconst C dL_law_3664 (v := nI 0) (by decide) ?_
      refine v_lald C aj_l (by decide) 0 (by decide) rfl dL_law_3665 ?_
      refine v_iload C dL_law_3666 rfl ?_
      refine v_i2l C dL_law_3668 rfl ?_
      refine v_lcmp C dL_law_3669 ?_
      refine v_if_eq C 3675 dL_law_3670 (by decide) (fun _ => ?_) (fun z => absurd (lg_out (o := o) (x := cvI v) (y := v.toInt64) rfl) z)
      refine v_goto C 3915 dL_law_3675 (by decide) ?_
      refine V.sub (lo2 := [some (.ref b), some (.ref (h 0)), some (.ref (sh 126 h 0)), some (.ref (h 124)), some (.ref (h 125)), some (.int (nI (6 * j))), none, none, none]) ⟨rfl, rfl, rfl, rfl, rfl, rfl, trivial⟩ ?_
      exact back _ _ _ _ hIV
    · skip
      refine v_istore C dL_law_3619 rfl (Nat.le_of_ble_eq_true rfl) rfl ?_
      refine v_aload_n C dL_law_3621 rfl ?_
      refine v_aload_n C dL_law_3622 rfl ?_
      refine v_iload C dL_law_3623 rfl ?_
      refine v_iconst C dL_law_3625 (v := nI 1) (by decide) ?_
      refine v_iaddN C dL_law_3626 ?_
      refine v_sld C Z (6 * j + 1) rfl (by omega) hL dL_law_3627 ?_
      refine v_aload_n C dL_law_3628 rfl ?_
      refine v_iload C dL_law_3629 rfl ?_
      refine v_iconst C dL_law_3631 (v := nI 2) (by decide) ?_
      refine v_iaddN C dL_law_3632 ?_
      refine v_sld C Z (6 * j + 2) rfl (by omega) hL dL_law_3633 ?_
      refine v_if_eq C 3641 dL_law_3634 (by decide) (fun _ => ?_) (fun z => absurd hw z)
      refine v_iconst C dL_law_3641 (v := nI 0) (by decide) ?_
      refine v_callVi C Mq ym_X6_setLock ml_L_394 emb_l_q rfl rfl rfl rfl rfl dL_law_3642 (by omega) (by omega) (by omega) (Nat.le_of_ble_eq_true rfl) (fun _ _ hz => hz.elim) (fun r2 u2 hq => ?_)
      obtain ⟨i2, h2, hi3, t0, hIV⟩ := J2 _ _ _ _ hp hq
      obtain rfl := EL_inj nd_SO hi h2
      refine V.stt (g2 := (c2, o, dd, u2)) rfl ?_
      refine v_istore C dL_law_3645 rfl (Nat.le_of_ble_eq_true rfl) rfl ?_
      refine v_aload_n C dL_law_3647 rfl ?_
      refine v_callVi C (c_X6_thrown hl t0) ym_X6_thrown ml_L_211 emb_l_q rfl rfl rfl rfl rfl dL_law_3648 (Nat.le_of_ble_eq_true rfl) (by omega) (by omega) (Nat.le_of_ble_eq_true rfl) (fun _ _ hz => hz.elim) (fun r3 u3 hr => ?_)
      obtain ⟨hr, rfl⟩ := hr
      subst hr
      refine V.stt (g2 := (c2, o, dd, u3)) rfl ?_
      refine v_iload C dL_law_3651 rfl ?_
      refine v_icmp_eq C 3658 dL_law_3653 (by decide) (fun _ => ?_) (fun z => absurd rfl z)
      refine v_iload C dL_law_3658 rfl ?_
      refine v_if_ne C 3675 dL_law_3660 (by decide) (fun _ => ?_) (fun z => absurd z (nI_pos3 hi3))
      refine v_goto C 3915 dL_law_3675 (by decide) ?_
      refine V.sub (lo2 := [some (.ref b), some (.ref (h 0)), some (.ref (sh 126 h 0)), some (.ref (h 124)), some (.ref (h 125)), some (.int (nI (6 * j))), none, none, none]) ⟨rfl, rfl, rfl, rfl, rfl, rfl, trivial⟩ ?_
      exact back _ _ _ _ hIV
  · skip
    refine v_aload_n C dL_law_3594 rfl ?_
    refine v_aload_n C dL_law_3595 rfl ?_
    refine v_iload C dL_law_3596 rfl ?_
    refine v_iconst C dL_law_3598 (v := nI 1) (by decide) ?_
    refine v_iaddN C dL_law_3599 ?_
    refine v_sld C Z (6 * j + 1) rfl (by omega) hL dL_law_3600 ?_
    refine v_aload_n C dL_law_3601 rfl ?_
    refine v_iload C dL_law_3602 rfl ?_
    refine v_iconst C dL_law_3604 (v := nI 2) (by decide) ?_
    refine v_iaddN C dL_law_3605 ?_
    refine v_sld C Z (6 * j + 2) rfl (by omega) hL dL_law_3606 ?_
    refine v_if_eq C 3614 dL_law_3607 (by decide) (fun z => absurd z hw) (fun _ => ?_)
    refine v_iconst C dL_law_3610 (v := nI 1) (by decide) ?_
    refine v_goto C 3615 dL_law_3611 (by decide) ?_
    refine v_aload_n C dL_law_3615 rfl ?_
    obtain ⟨dM, mc, ms, dq, post, px, pq, ⟨a1, a2, a3, a4⟩, M, Mq, hE, ⟨J1, J2⟩, hP⟩ := s_setLock hl (κ := xK X) (h := h) (by omega) I (w (6 * j + 1)) true
    refine v_callSH C (hc_setLock hl (κ := xK X) (h := h) (c := c) (o := o) (dd := dd) (q := q) a1 a2 a3 M hE) ysh_L_setLock rfl ml_L_392 emb_id_lS rfl rfl rfl dL_law_3616 (Nat.le_of_ble_eq_true rfl) hk hn (Nat.le_of_ble_eq_true rfl) (fun _ _ hz => hz.elim) (fun r u hu => ?_)
    rcases hu with ⟨v, c2, hp, rfl, rfl⟩ | ⟨e, c2, i, hp, hi, rfl, rfl⟩
    · skip
      refine v_istore C dL_law_3619 rfl (Nat.le_of_ble_eq_true rfl) rfl ?_
      refine v_aload_n C dL_law_3621 rfl ?_
      refine v_aload_n C dL_law_3622 rfl ?_
      refine v_iload C dL_law_3623 rfl ?_
      refine v_iconst C dL_law_3625 (v := nI 1) (by decide) ?_
      refine v_iaddN C dL_law_3626 ?_
      refine v_sld C Z (6 * j + 1) rfl (by omega) hL dL_law_3627 ?_
      refine v_aload_n C dL_law_3628 rfl ?_
      refine v_iload C dL_law_3629 rfl ?_
      refine v_iconst C dL_law_3631 (v := nI 2) (by decide) ?_
      refine v_iaddN C dL_law_3632 ?_
      refine v_sld C Z (6 * j + 2) rfl (by omega) hL dL_law_3633 ?_
      refine v_if_eq C 3641 dL_law_3634 (by decide) (fun z => absurd z hw) (fun _ => ?_)
      refine v_iconst C dL_law_3637 (v := nI 1) (by decide) ?_
      refine v_goto C 3642 dL_law_3638 (by decide) ?_
      refine v_callVi C Mq ym_X6_setLock ml_L_394 emb_l_q rfl rfl rfl rfl rfl dL_law_3642 (by omega) (by omega) (by omega) (Nat.le_of_ble_eq_true rfl) (fun _ _ hz => hz.elim) (fun r2 u2 hq => ?_)
      obtain ⟨t0, rfl, hIV⟩ := J1 _ _ _ _ hp hq
      refine V.stt (g2 := (c2, vp_updL o 0 (cvI v), dd, u2)) rfl ?_
      refine v_istore C dL_law_3645 rfl (Nat.le_of_ble_eq_true rfl) rfl ?_
      refine v_aload_n C dL_law_3647 rfl ?_
      refine v_callVi C (c_X6_thrown hl t0) ym_X6_thrown ml_L_211 emb_l_q rfl rfl rfl rfl rfl dL_law_3648 (Nat.le_of_ble_eq_true rfl) (by omega) (by omega) (Nat.le_of_ble_eq_true rfl) (fun _ _ hz => hz.elim) (fun r3 u3 hr => ?_)
      obtain ⟨hr, rfl⟩ := hr
      subst hr
      refine V.stt (g2 := (c2, vp_updL o 0 (cvI v), dd, u3)) rfl ?_
      refine v_iload C dL_law_3651 rfl ?_
      refine v_icmp_eq C 3658 dL_law_3653 (by decide) (fun _ => ?_) (fun z => absurd rfl z)
      refine v_iload C dL_law_3658 rfl ?_
      refine v_if_ne C 3675 dL_law_3660 (by decide) (fun z => absurd (by decide) z) (fun _ => ?_)
      refine v_aload_n C dL_law_3663 rfl ?_
      refine v_iconst C dL_law_3664 (v := nI 0) (by decide) ?_
      refine v_lald C aj_l (by decide) 0 (by decide) rfl dL_law_3665 ?_
      refine v_iload C dL_law_3666 rfl ?_
      refine v_i2l C dL_law_3668 rfl ?_
      refine v_lcmp C dL_law_3669 ?_
      refine v_if_eq C 3675 dL_law_3670 (by decide) (fun _ => ?_) (fun z => absurd (lg_out (o := o) (x := cvI v) (y := v.toInt64) rfl) z)
      refine v_goto C 3915 dL_law_3675 (by decide) ?_
      refine V.sub (lo2 := [some (.ref b), some (.ref (h 0)), some (.ref (sh 126 h 0)), some (.ref (h 124)), some (.ref (h 125)), some (.int (nI (6 * j))), none, none, none]) ⟨rfl, rfl, rfl, rfl, rfl, rfl, trivial⟩ ?_
      exact back _ _ _ _ hIV
    · skip
      refine v_istore C dL_law_3619 rfl (Nat.le_of_ble_eq_true rfl) rfl ?_
      refine v_aload_n C dL_law_3621 rfl ?_
      refine v_aload_n C dL_law_3622 rfl ?_
      refine v_iload C dL_law_3623 rfl ?_
      refine v_iconst C dL_law_3625 (v := nI 1) (by decide) ?_
      refine v_iaddN C dL_law_3626 ?_
      refine v_sld C Z (6 * j + 1) rfl (by omega) hL dL_law_3627 ?_
      refine v_aload_n C dL_law_3628 rfl ?_
      refine v_iload C dL_law_3629 rfl ?_
      refine v_iconst C dL_law_3631 (v := nI 2) (by decide) ?_
      refine v_iaddN C dL_law_3632 ?_
      refine v_sld C Z (6 * j + 2) rfl (by omega) hL dL_law_3633 ?_
      refine v_if_eq C 3641 dL_law_3634 (by decide) (fun z => absurd z hw) (fun _ => ?_)
      refine v_iconst C dL_law_3637 (v := nI 1) (by decide) ?_
      refine v_goto C 3642 dL_law_3638 (by decide) ?_
      refine v_callVi C Mq ym_X6_setLock ml_L_394 emb_l_q rfl rfl rfl rfl rfl dL_law_3642 (by omega) (by omega) (by omega) (Nat.le_of_ble_eq_true rfl) (fun _ _ hz => hz.elim) (fun r2 u2 hq => ?_)
      obtain ⟨i2, h2, hi3, t0, hIV⟩ := J2 _ _ _ _ hp hq
      obtain rfl := EL_inj nd_SO hi h2
      refine V.stt (g2 := (c2, o, dd, u2)) rfl ?_
      refine v_istore C dL_law_3645 rfl (Nat.le_of_ble_eq_true rfl) rfl ?_
      refine v_aload_n C dL_law_3647 rfl ?_
      refine v_callVi C (c_X6_thrown hl t0) ym_X6_thrown ml_L_211 emb_l_q rfl rfl rfl rfl rfl dL_law_3648 (Nat.le_of_ble_eq_true rfl) (by omega) (by omega) (Nat.le_of_ble_eq_true rfl) (fun _ _ hz => hz.elim) (fun r3 u3 hr => ?_)
      obtain ⟨hr, rfl⟩ := hr
      subst hr
      refine V.stt (g2 := (c2, o, dd, u3)) rfl ?_
      refine v_iload C dL_law_3651 rfl ?_
      refine v_icmp_eq C 3658 dL_law_3653 (by decide) (fun _ => ?_) (fun z => absurd rfl z)
      refine v_iload C dL_law_3658 rfl ?_
      refine v_if_ne C 3675 dL_law_3660 (by decide) (fun _ => ?_) (fun z => absurd z (nI_pos3 hi3))
      refine v_goto C 3915 dL_law_3675 (by decide) ?_
      refine V.sub (lo2 := [some (.ref b), some (.ref (h 0)), some (.ref (sh 126 h 0)), some (.ref (h 124)), some (.ref (h 125)), some (.int (nI (6 * j))), none, none, none]) ⟨rfl, rfl, rfl, rfl, rfl, rfl, trivial⟩ ?_
      exact back _ _ _ _ hIV
set_option maxHeartbeats 1000000 in
theorem k_59 {X : Cx} {kc ks : Nat} (hl : (xl X).stackTraces = false) (C : Ok SS MM X RL cL_law 9 30 kc ks) {b L : Nat} {w : Nat → Int32} (Z : Lok X b L w) {h : Nat → Nat} {j : Nat} (hj : 6 * j + 6 ≤ L) (hL : L ≤ 3072) {c : Cg} {o : Nat → Int64} {dd : Nat → UInt64} {q : G} (I : INV (20 + j) c q) {k n : Nat} (hk : k + 6 ≤ kc) (hn : n + 36 ≤ ks) (back : ∀ c2 o2 d2 q2, INV (20 + j + 1) c2 q2 → V X (lS (xK X) h) 3915 [some (.ref b), some (.ref (h 0)), some (.ref (sh 126 h 0)), some (.ref (h 124)), some (.ref (h 125)), some (.int (nI (6 * j))), none, none, none] [] (c2, o2, d2, q2) (k + 6) (n + 36)) : V X (lS (xK X) h) 3678 [some (.ref b), some (.ref (h 0)), some (.ref (sh 126 h 0)), some (.ref (h 124)), some (.ref (h 125)), some (.int (nI (6 * j))), none, none, none] [] (c, o, dd, q) k n := by
  refine v_aload_n C dL_law_3678 rfl ?_
  refine v_aload_n C dL_law_3679 rfl ?_
  refine v_iload C dL_law_3680 rfl ?_
  refine v_iconst C dL_law_3682 (v := nI 1) (by decide) ?_
  refine v_iaddN C dL_law_3683 ?_
  refine v_sld C Z (6 * j + 1) rfl (by omega) hL dL_law_3684 ?_
  refine v_aload_n C dL_law_3685 rfl ?_
  refine v_iload C dL_law_3686 rfl ?_
  refine v_iconst C dL_law_3688 (v := nI 2) (by decide) ?_
  refine v_iaddN C dL_law_3689 ?_
  refine v_sld C Z (6 * j + 2) rfl (by omega) hL dL_law_3690 ?_
  refine v_aload_n C dL_law_3691 rfl ?_
  obtain ⟨dM, mc, ms, dq, post, px, pq, ⟨a1, a2, a3, a4⟩, M, Mq, hE, ⟨J1, J2⟩, hP⟩ := s_setSetting hl (κ := xK X) (h := h) (by omega) I (w (6 * j + 1)) (w (6 * j + 2))
  refine v_callSH C (hc_setSetting hl (κ := xK X) (h := h) (c := c) (o := o) (dd := dd) (q := q) a1 a2 a3 M hE) ysh_L_setSetting rfl ml_L_395 emb_id_lS rfl rfl rfl dL_law_3692 (Nat.le_of_ble_eq_true rfl) hk hn (Nat.le_of_ble_eq_true rfl) (fun _ _ hz => hz.elim) (fun r u hu => ?_)
  rcases hu with ⟨v, c2, hp, rfl, rfl⟩ | ⟨e, c2, i, hp, hi, rfl, rfl⟩
  · skip
    refine v_istore C dL_law_3695 rfl (Nat.le_of_ble_eq_true rfl) rfl ?_
    refine v_aload_n C dL_law_3697 rfl ?_
    refine v_aload_n C dL_law_3698 rfl ?_
    refine v_iload C dL_law_3699 rfl ?_
    refine v_iconst C dL_law_3701 (v := nI 1) (by decide) ?_
    refine v_iaddN C dL_law_3702 ?_
    refine v_sld C Z (6 * j + 1) rfl (by omega) hL dL_law_3703 ?_
    refine v_aload_n C dL_law_3704 rfl ?_
    refine v_iload C dL_law_3705 rfl ?_
    refine v_iconst C dL_law_3707 (v := nI 2) (by decide) ?_
    refine v_iaddN C dL_law_3708 ?_
    refine v_sld C Z (6 * j + 2) rfl (by omega) hL dL_law_3709 ?_
    refine v_callVi C Mq ym_X6_setSetting ml_L_397 emb_l_q rfl rfl rfl rfl rfl dL_law_3710 (by omega) (by omega) (by omega) (Nat.le_of_ble_eq_true rfl) (fun _ _ hz => hz.elim) (fun r2 u2 hq => ?_)
    obtain ⟨t0, rfl, hIV⟩ := J1 _ _ _ _ hp hq
    refine V.stt (g2 := (c2, vp_updL o 0 (cvI v), dd, u2)) rfl ?_
    refine v_istore C dL_law_3713 rfl (Nat.le_of_ble_eq_true rfl) rfl ?_
    refine v_aload_n C dL_law_3715 rfl ?_
    refine v_callVi C (c_X6_thrown hl t0) ym_X6_thrown ml_L_211 emb_l_q rfl rfl rfl rfl rfl dL_law_3716 (Nat.le_of_ble_eq_true rfl) (by omega) (by omega) (Nat.le_of_ble_eq_true rfl) (fun _ _ hz => hz.elim) (fun r3 u3 hr => ?_)
    obtain ⟨hr, rfl⟩ := hr
    subst hr
    refine V.stt (g2 := (c2, vp_updL o 0 (cvI v), dd, u3)) rfl ?_
    refine v_iload C dL_law_3719 rfl ?_
    refine v_icmp_eq C 3726 dL_law_3721 (by decide) (fun _ => ?_) (fun z => absurd rfl z)
    refine v_iload C dL_law_3726 rfl ?_
    refine v_if_ne C 3743 dL_law_3728 (by decide) (fun z => absurd (by decide) z) (fun _ => ?_)
    refine v_aload_n C dL_law_3731 rfl ?_
    refine v_iconst C dL_law_3732 (v := nI 0) (by decide) ?_
    refine v_lald C aj_l (by decide) 0 (by decide) rfl dL_law_3733 ?_
    refine v_iload C dL_law_3734 rfl ?_
    refine v_i2l C dL_law_3736 rfl ?_
    refine v_lcmp C dL_law_3737 ?_
    refine v_if_eq C 3743 dL_law_3738 (by decide) (fun _ => ?_) (fun z => absurd (lg_out (o := o) (x := cvI v) (y := v.toInt64) rfl) z)
    refine v_goto C 3915 dL_law_3743 (by decide) ?_
    refine V.sub (lo2 := [some (.ref b), some (.ref (h 0)), some (.ref (sh 126 h 0)), some (.ref (h 124)), some (.ref (h 125)), some (.int (nI (6 * j))), none, none, none]) ⟨rfl, rfl, rfl, rfl, rfl, rfl, trivial⟩ ?_
    exact back _ _ _ _ hIV
  · skip
    refine v_istore C dL_law_3695 rfl (Nat.le_of_ble_eq_true rfl) rfl ?_
    refine v_aload_n C dL_law_3697 rfl ?_
    refine v_aload_n C dL_law_3698 rfl ?_
    refine v_iload C dL_law_3699 rfl ?_
    refine v_iconst C dL_law_3701 (v := nI 1) (by decide) ?_
    refine v_iaddN C dL_law_3702 ?_
    refine v_sld C Z (6 * j + 1) rfl (by omega) hL dL_law_3703 ?_
    refine v_aload_n C dL_law_3704 rfl ?_
    refine v_iload C dL_law_3705 rfl ?_
    refine v_iconst C dL_law_3707 (v := nI 2) (by decide) ?_
    refine v_iaddN C dL_law_3708 ?_
    refine v_sld C Z (6 * j + 2) rfl (by omega) hL dL_law_3709 ?_
    refine v_callVi C Mq ym_X6_setSetting ml_L_397 emb_l_q rfl rfl rfl rfl rfl dL_law_3710 (by omega) (by omega) (by omega) (Nat.le_of_ble_eq_true rfl) (fun _ _ hz => hz.elim) (fun r2 u2 hq => ?_)
    obtain ⟨i2, h2, hi3, t0, hIV⟩ := J2 _ _ _ _ hp hq
    obtain rfl := EL_inj nd_SA hi h2
    refine V.stt (g2 := (c2, o, dd, u2)) rfl ?_
    refine v_istore C dL_law_3713 rfl (Nat.le_of_ble_eq_true rfl) rfl ?_
    refine v_aload_n C dL_law_3715 rfl ?_
    refine v_callVi C (c_X6_thrown hl t0) ym_X6_thrown ml_L_211 emb_l_q rfl rfl rfl rfl rfl dL_law_3716 (Nat.le_of_ble_eq_true rfl) (by omega) (by omega) (Nat.le_of_ble_eq_true rfl) (fun _ _ hz => hz.elim) (fun r3 u3 hr => ?_)
    obtain ⟨hr, rfl⟩ := hr
    subst hr
    refine V.stt (g2 := (c2, o, dd, u3)) rfl ?_
    refine v_iload C dL_law_3719 rfl ?_
    refine v_icmp_eq C 3726 dL_law_3721 (by decide) (fun _ => ?_) (fun z => absurd rfl z)
    refine v_iload C dL_law_3726 rfl ?_
    refine v_if_ne C 3743 dL_law_3728 (by decide) (fun _ => ?_) (fun z => absurd z (nI_pos3 hi3))
    refine v_goto C 3915 dL_law_3743 (by decide) ?_
    refine V.sub (lo2 := [some (.ref b), some (.ref (h 0)), some (.ref (sh 126 h 0)), some (.ref (h 124)), some (.ref (h 125)), some (.int (nI (6 * j))), none, none, none]) ⟨rfl, rfl, rfl, rfl, rfl, rfl, trivial⟩ ?_
    exact back _ _ _ _ hIV
set_option maxHeartbeats 1000000 in
theorem k_60 {X : Cx} {kc ks : Nat} (hl : (xl X).stackTraces = false) (C : Ok SS MM X RL cL_law 9 30 kc ks) {b L : Nat} {w : Nat → Int32} (Z : Lok X b L w) {h : Nat → Nat} {j : Nat} (hj : 6 * j + 6 ≤ L) (hL : L ≤ 3072) {c : Cg} {o : Nat → Int64} {dd : Nat → UInt64} {q : G} (I : INV (20 + j) c q) {k n : Nat} (hk : k + 6 ≤ kc) (hn : n + 36 ≤ ks) (back : ∀ c2 o2 d2 q2, INV (20 + j + 1) c2 q2 → V X (lS (xK X) h) 3915 [some (.ref b), some (.ref (h 0)), some (.ref (sh 126 h 0)), some (.ref (h 124)), some (.ref (h 125)), some (.int (nI (6 * j))), none, none, none] [] (c2, o2, d2, q2) (k + 6) (n + 36)) : V X (lS (xK X) h) 3746 [some (.ref b), some (.ref (h 0)), some (.ref (sh 126 h 0)), some (.ref (h 124)), some (.ref (h 125)), some (.int (nI (6 * j))), none, none, none] [] (c, o, dd, q) k n := by
  refine v_aload_n C dL_law_3746 rfl ?_
  refine v_aload_n C dL_law_3747 rfl ?_
  obtain ⟨dM, mc, ms, dq, post, px, pq, ⟨a1, a2, a3, a4⟩, M, Mq, hE, ⟨J1, J2⟩, hP⟩ := s_undo hl (κ := xK X) (h := h) (by omega) I
  refine v_callSH C (hc_undo hl (κ := xK X) (h := h) (c := c) (o := o) (dd := dd) (q := q) a1 a2 a3 M hE) ysh_L_undo rfl ml_L_398 emb_id_lS rfl rfl rfl dL_law_3748 (Nat.le_of_ble_eq_true rfl) hk hn (Nat.le_of_ble_eq_true rfl) (fun _ _ hz => hz.elim) (fun r u hu => ?_)
  rcases hu with ⟨v, c2, hp, rfl, rfl⟩ | ⟨e, c2, i, hp, hi, rfl, rfl⟩
  · skip
    refine v_istore C dL_law_3751 rfl (Nat.le_of_ble_eq_true rfl) rfl ?_
    refine v_aload_n C dL_law_3753 rfl ?_
    refine v_callVi C Mq ym_X6_undo ml_L_400 emb_l_q rfl rfl rfl rfl rfl dL_law_3754 (by omega) (by omega) (by omega) (Nat.le_of_ble_eq_true rfl) (fun _ _ hz => hz.elim) (fun r2 u2 hq => ?_)
    obtain ⟨t0, rfl, hIV⟩ := J1 _ _ _ _ hp hq
    refine V.stt (g2 := (c2, vp_updL o 0 (cvI v), dd, u2)) rfl ?_
    refine v_istore C dL_law_3757 rfl (Nat.le_of_ble_eq_true rfl) rfl ?_
    refine v_aload_n C dL_law_3759 rfl ?_
    refine v_callVi C (c_X6_thrown hl t0) ym_X6_thrown ml_L_211 emb_l_q rfl rfl rfl rfl rfl dL_law_3760 (Nat.le_of_ble_eq_true rfl) (by omega) (by omega) (Nat.le_of_ble_eq_true rfl) (fun _ _ hz => hz.elim) (fun r3 u3 hr => ?_)
    obtain ⟨hr, rfl⟩ := hr
    subst hr
    refine V.stt (g2 := (c2, vp_updL o 0 (cvI v), dd, u3)) rfl ?_
    refine v_iload C dL_law_3763 rfl ?_
    refine v_icmp_eq C 3770 dL_law_3765 (by decide) (fun _ => ?_) (fun z => absurd rfl z)
    refine v_iload C dL_law_3770 rfl ?_
    refine v_if_ne C 3787 dL_law_3772 (by decide) (fun z => absurd (by decide) z) (fun _ => ?_)
    refine v_aload_n C dL_law_3775 rfl ?_
    refine v_iconst C dL_law_3776 (v := nI 0) (by decide) ?_
    refine v_lald C aj_l (by decide) 0 (by decide) rfl dL_law_3777 ?_
    refine v_iload C dL_law_3778 rfl ?_
    refine v_i2l C dL_law_3780 rfl ?_
    refine v_lcmp C dL_law_3781 ?_
    refine v_if_eq C 3787 dL_law_3782 (by decide) (fun _ => ?_) (fun z => absurd (lg_out (o := o) (x := cvI v) (y := v.toInt64) rfl) z)
    refine v_goto C 3915 dL_law_3787 (by decide) ?_
    refine V.sub (lo2 := [some (.ref b), some (.ref (h 0)), some (.ref (sh 126 h 0)), some (.ref (h 124)), some (.ref (h 125)), some (.int (nI (6 * j))), none, none, none]) ⟨rfl, rfl, rfl, rfl, rfl, rfl, trivial⟩ ?_
    exact back _ _ _ _ hIV
  · skip
    refine v_istore C dL_law_3751 rfl (Nat.le_of_ble_eq_true rfl) rfl ?_
    refine v_aload_n C dL_law_3753 rfl ?_
    refine v_callVi C Mq ym_X6_undo ml_L_400 emb_l_q rfl rfl rfl rfl rfl dL_law_3754 (by omega) (by omega) (by omega) (Nat.le_of_ble_eq_true rfl) (fun _ _ hz => hz.elim) (fun r2 u2 hq => ?_)
    obtain ⟨i2, h2, hi3, t0, hIV⟩ := J2 _ _ _ _ hp hq
    obtain rfl := EL_inj nd_S hi h2
    refine V.stt (g2 := (c2, o, dd, u2)) rfl ?_
    refine v_istore C dL_law_3757 rfl (Nat.le_of_ble_eq_true rfl) rfl ?_
    refine v_aload_n C dL_law_3759 rfl ?_
    refine v_callVi C (c_X6_thrown hl t0) ym_X6_thrown ml_L_211 emb_l_q rfl rfl rfl rfl rfl dL_law_3760 (Nat.le_of_ble_eq_true rfl) (by omega) (by omega) (Nat.le_of_ble_eq_true rfl) (fun _ _ hz => hz.elim) (fun r3 u3 hr => ?_)
    obtain ⟨hr, rfl⟩ := hr
    subst hr
    refine V.stt (g2 := (c2, o, dd, u3)) rfl ?_
    refine v_iload C dL_law_3763 rfl ?_
    refine v_icmp_eq C 3770 dL_law_3765 (by decide) (fun _ => ?_) (fun z => absurd rfl z)
    refine v_iload C dL_law_3770 rfl ?_
    refine v_if_ne C 3787 dL_law_3772 (by decide) (fun _ => ?_) (fun z => absurd z (nI_pos3 hi3))
    refine v_goto C 3915 dL_law_3787 (by decide) ?_
    refine V.sub (lo2 := [some (.ref b), some (.ref (h 0)), some (.ref (sh 126 h 0)), some (.ref (h 124)), some (.ref (h 125)), some (.int (nI (6 * j))), none, none, none]) ⟨rfl, rfl, rfl, rfl, rfl, rfl, trivial⟩ ?_
    exact back _ _ _ _ hIV
set_option maxHeartbeats 1000000 in
theorem k_61 {X : Cx} {kc ks : Nat} (hl : (xl X).stackTraces = false) (C : Ok SS MM X RL cL_law 9 30 kc ks) {b L : Nat} {w : Nat → Int32} (Z : Lok X b L w) {h : Nat → Nat} {j : Nat} (hj : 6 * j + 6 ≤ L) (hL : L ≤ 3072) {c : Cg} {o : Nat → Int64} {dd : Nat → UInt64} {q : G} (I : INV (20 + j) c q) {k n : Nat} (hk : k + 6 ≤ kc) (hn : n + 36 ≤ ks) (back : ∀ c2 o2 d2 q2, INV (20 + j + 1) c2 q2 → V X (lS (xK X) h) 3915 [some (.ref b), some (.ref (h 0)), some (.ref (sh 126 h 0)), some (.ref (h 124)), some (.ref (h 125)), some (.int (nI (6 * j))), none, none, none] [] (c2, o2, d2, q2) (k + 6) (n + 36)) : V X (lS (xK X) h) 3790 [some (.ref b), some (.ref (h 0)), some (.ref (sh 126 h 0)), some (.ref (h 124)), some (.ref (h 125)), some (.int (nI (6 * j))), none, none, none] [] (c, o, dd, q) k n := by
  refine v_aload_n C dL_law_3790 rfl ?_
  obtain ⟨dM, dq, post, pq, ⟨a1, a4⟩, M, Mq, J⟩ := z_undoable hl (κ := xK X) (h := h) I
  refine v_callVi C M ym_X5_undoable ml_L_401 emb_l_c rfl rfl rfl rfl rfl dL_law_3791 (by omega) (by omega) (by omega) (Nat.le_of_ble_eq_true rfl) (fun _ _ hz => hz.elim) (fun v c2 hp => ?_)
  refine v_aload_n C dL_law_3794 rfl ?_
  refine v_callVi C Mq ym_X6_undoable ml_L_404 emb_l_q rfl rfl rfl rfl rfl dL_law_3795 (by omega) (by omega) (by omega) (Nat.le_of_ble_eq_true rfl) (fun _ _ hz => hz.elim) (fun r2 u2 hq => ?_)
  obtain ⟨rfl, hIV⟩ := J _ _ _ _ hp hq
  refine V.stt (g2 := (c2, o, dd, u2)) rfl ?_
  refine v_icmp_eq C 3915 dL_law_3798 (by decide) (fun _ => ?_) (fun z => absurd rfl z)
  refine V.sub (lo2 := [some (.ref b), some (.ref (h 0)), some (.ref (sh 126 h 0)), some (.ref (h 124)), some (.ref (h 125)), some (.int (nI (6 * j))), none, none, none]) ⟨rfl, rfl, rfl, rfl, rfl, rfl, trivial⟩ ?_
  exact V.widen (by omega) (by omega) (back _ _ _ _ hIV)
set_option maxHeartbeats 1000000 in
theorem k_62 {X : Cx} {kc ks : Nat} (hl : (xl X).stackTraces = false) (C : Ok SS MM X RL cL_law 9 30 kc ks) {b L : Nat} {w : Nat → Int32} (Z : Lok X b L w) {h : Nat → Nat} {j : Nat} (hj : 6 * j + 6 ≤ L) (hL : L ≤ 3072) {c : Cg} {o : Nat → Int64} {dd : Nat → UInt64} {q : G} (I : INV (20 + j) c q) {k n : Nat} (hk : k + 6 ≤ kc) (hn : n + 36 ≤ ks) (back : ∀ c2 o2 d2 q2, INV (20 + j + 1) c2 q2 → V X (lS (xK X) h) 3915 [some (.ref b), some (.ref (h 0)), some (.ref (sh 126 h 0)), some (.ref (h 124)), some (.ref (h 125)), some (.int (nI (6 * j))), none, none, none] [] (c2, o2, d2, q2) (k + 6) (n + 36)) : V X (lS (xK X) h) 3803 [some (.ref b), some (.ref (h 0)), some (.ref (sh 126 h 0)), some (.ref (h 124)), some (.ref (h 125)), some (.int (nI (6 * j))), none, none, none] [] (c, o, dd, q) k n := by
  refine v_aload_n C dL_law_3803 rfl ?_
  refine v_aload_n C dL_law_3804 rfl ?_
  refine v_iload C dL_law_3805 rfl ?_
  refine v_iconst C dL_law_3807 (v := nI 1) (by decide) ?_
  refine v_iaddN C dL_law_3808 ?_
  refine v_sld C Z (6 * j + 1) rfl (by omega) hL dL_law_3809 ?_
  refine v_aload_n C dL_law_3810 rfl ?_
  obtain ⟨dM, mc, ms, dq, post, px, pq, ⟨a1, a2, a3, a4⟩, M, Mq, hE, ⟨J1, J2⟩, hP⟩ := s_save hl (κ := xK X) (h := h) (by omega) I (w (6 * j + 1))
  refine v_callSH C (hc_save hl (κ := xK X) (h := h) (c := c) (o := o) (dd := dd) (q := q) a1 a2 a3 M hE) ysh_L_save rfl ml_L_405 emb_id_lS rfl rfl rfl dL_law_3811 (Nat.le_of_ble_eq_true rfl) hk hn (Nat.le_of_ble_eq_true rfl) (fun _ _ hz => hz.elim) (fun r u hu => ?_)
  rcases hu with ⟨v, c2, hp, rfl, rfl⟩ | ⟨e, c2, i, hp, hi, rfl, rfl⟩
  · skip
    refine v_istore C dL_law_3814 rfl (Nat.le_of_ble_eq_true rfl) rfl ?_
    refine v_aload_n C dL_law_3816 rfl ?_
    refine v_aload_n C dL_law_3817 rfl ?_
    refine v_iload C dL_law_3818 rfl ?_
    refine v_iconst C dL_law_3820 (v := nI 1) (by decide) ?_
    refine v_iaddN C dL_law_3821 ?_
    refine v_sld C Z (6 * j + 1) rfl (by omega) hL dL_law_3822 ?_
    refine v_callVi C Mq ym_X6_save ml_L_407 emb_l_q rfl rfl rfl rfl rfl dL_law_3823 (by omega) (by omega) (by omega) (Nat.le_of_ble_eq_true rfl) (fun _ _ hz => hz.elim) (fun r2 u2 hq => ?_)
    obtain ⟨t0, rfl, hIV⟩ := J1 _ _ _ _ hp hq
    refine V.stt (g2 := (c2, vp_updL o 0 (cvI v), dd, u2)) rfl ?_
    refine v_istore C dL_law_3826 rfl (Nat.le_of_ble_eq_true rfl) rfl ?_
    refine v_aload_n C dL_law_3828 rfl ?_
    refine v_callVi C (c_X6_thrown hl t0) ym_X6_thrown ml_L_211 emb_l_q rfl rfl rfl rfl rfl dL_law_3829 (Nat.le_of_ble_eq_true rfl) (by omega) (by omega) (Nat.le_of_ble_eq_true rfl) (fun _ _ hz => hz.elim) (fun r3 u3 hr => ?_)
    obtain ⟨hr, rfl⟩ := hr
    subst hr
    refine V.stt (g2 := (c2, vp_updL o 0 (cvI v), dd, u3)) rfl ?_
    refine v_iload C dL_law_3832 rfl ?_
    refine v_icmp_eq C 3839 dL_law_3834 (by decide) (fun _ => ?_) (fun z => absurd rfl z)
    refine v_iload C dL_law_3839 rfl ?_
    refine v_if_ne C 3856 dL_law_3841 (by decide) (fun z => absurd (by decide) z) (fun _ => ?_)
    refine v_aload_n C dL_law_3844 rfl ?_
    refine v_iconst C dL_law_3845 (v := nI 0) (by decide) ?_
    refine v_lald C aj_l (by decide) 0 (by decide) rfl dL_law_3846 ?_
    refine v_iload C dL_law_3847 rfl ?_
    refine v_i2l C dL_law_3849 rfl ?_
    refine v_lcmp C dL_law_3850 ?_
    refine v_if_eq C 3856 dL_law_3851 (by decide) (fun _ => ?_) (fun z => absurd (lg_out (o := o) (x := cvI v) (y := v.toInt64) rfl) z)
    refine v_goto C 3915 dL_law_3856 (by decide) ?_
    refine V.sub (lo2 := [some (.ref b), some (.ref (h 0)), some (.ref (sh 126 h 0)), some (.ref (h 124)), some (.ref (h 125)), some (.int (nI (6 * j))), none, none, none]) ⟨rfl, rfl, rfl, rfl, rfl, rfl, trivial⟩ ?_
    exact back _ _ _ _ hIV
  · skip
    refine v_istore C dL_law_3814 rfl (Nat.le_of_ble_eq_true rfl) rfl ?_
    refine v_aload_n C dL_law_3816 rfl ?_
    refine v_aload_n C dL_law_3817 rfl ?_
    refine v_iload C dL_law_3818 rfl ?_
    refine v_iconst C dL_law_3820 (v := nI 1) (by decide) ?_
    refine v_iaddN C dL_law_3821 ?_
    refine v_sld C Z (6 * j + 1) rfl (by omega) hL dL_law_3822 ?_
    refine v_callVi C Mq ym_X6_save ml_L_407 emb_l_q rfl rfl rfl rfl rfl dL_law_3823 (by omega) (by omega) (by omega) (Nat.le_of_ble_eq_true rfl) (fun _ _ hz => hz.elim) (fun r2 u2 hq => ?_)
    obtain ⟨i2, h2, hi3, t0, hIV⟩ := J2 _ _ _ _ hp hq
    obtain rfl := EL_inj nd_SO hi h2
    refine V.stt (g2 := (c2, o, dd, u2)) rfl ?_
    refine v_istore C dL_law_3826 rfl (Nat.le_of_ble_eq_true rfl) rfl ?_
    refine v_aload_n C dL_law_3828 rfl ?_
    refine v_callVi C (c_X6_thrown hl t0) ym_X6_thrown ml_L_211 emb_l_q rfl rfl rfl rfl rfl dL_law_3829 (Nat.le_of_ble_eq_true rfl) (by omega) (by omega) (Nat.le_of_ble_eq_true rfl) (fun _ _ hz => hz.elim) (fun r3 u3 hr => ?_)
    obtain ⟨hr, rfl⟩ := hr
    subst hr
    refine V.stt (g2 := (c2, o, dd, u3)) rfl ?_
    refine v_iload C dL_law_3832 rfl ?_
    refine v_icmp_eq C 3839 dL_law_3834 (by decide) (fun _ => ?_) (fun z => absurd rfl z)
    refine v_iload C dL_law_3839 rfl ?_
    refine v_if_ne C 3856 dL_law_3841 (by decide) (fun _ => ?_) (fun z => absurd z (nI_pos3 hi3))
    refine v_goto C 3915 dL_law_3856 (by decide) ?_
    refine V.sub (lo2 := [some (.ref b), some (.ref (h 0)), some (.ref (sh 126 h 0)), some (.ref (h 124)), some (.ref (h 125)), some (.int (nI (6 * j))), none, none, none]) ⟨rfl, rfl, rfl, rfl, rfl, rfl, trivial⟩ ?_
    exact back _ _ _ _ hIV
set_option maxHeartbeats 1000000 in
theorem k_63 {X : Cx} {kc ks : Nat} (hl : (xl X).stackTraces = false) (C : Ok SS MM X RL cL_law 9 30 kc ks) {b L : Nat} {w : Nat → Int32} (Z : Lok X b L w) {h : Nat → Nat} {j : Nat} (hj : 6 * j + 6 ≤ L) (hL : L ≤ 3072) {c : Cg} {o : Nat → Int64} {dd : Nat → UInt64} {q : G} (I : INV (20 + j) c q) {k n : Nat} (hk : k + 6 ≤ kc) (hn : n + 36 ≤ ks) (back : ∀ c2 o2 d2 q2, INV (20 + j + 1) c2 q2 → V X (lS (xK X) h) 3915 [some (.ref b), some (.ref (h 0)), some (.ref (sh 126 h 0)), some (.ref (h 124)), some (.ref (h 125)), some (.int (nI (6 * j))), none, none, none] [] (c2, o2, d2, q2) (k + 6) (n + 36)) : V X (lS (xK X) h) 3859 [some (.ref b), some (.ref (h 0)), some (.ref (sh 126 h 0)), some (.ref (h 124)), some (.ref (h 125)), some (.int (nI (6 * j))), none, none, none] [] (c, o, dd, q) k n := by
  refine v_aload_n C dL_law_3859 rfl ?_
  refine v_aload_n C dL_law_3860 rfl ?_
  refine v_iload C dL_law_3861 rfl ?_
  refine v_iconst C dL_law_3863 (v := nI 1) (by decide) ?_
  refine v_iaddN C dL_law_3864 ?_
  refine v_sld C Z (6 * j + 1) rfl (by omega) hL dL_law_3865 ?_
  refine v_aload_n C dL_law_3866 rfl ?_
  obtain ⟨dM, mc, ms, dq, post, px, pq, ⟨a1, a2, a3, a4⟩, M, Mq, hE, ⟨J1, J2⟩, hP⟩ := s_restore hl (κ := xK X) (h := h) (by omega) I (w (6 * j + 1))
  refine v_callSH C (hc_restore hl (κ := xK X) (h := h) (c := c) (o := o) (dd := dd) (q := q) a1 a2 a3 M hE) ysh_L_restore rfl ml_L_408 emb_id_lS rfl rfl rfl dL_law_3867 (Nat.le_of_ble_eq_true rfl) hk hn (Nat.le_of_ble_eq_true rfl) (fun _ _ hz => hz.elim) (fun r u hu => ?_)
  rcases hu with ⟨v, c2, hp, rfl, rfl⟩ | ⟨e, c2, i, hp, hi, rfl, rfl⟩
  · skip
    refine v_istore C dL_law_3870 rfl (Nat.le_of_ble_eq_true rfl) rfl ?_
    refine v_aload_n C dL_law_3872 rfl ?_
    refine v_aload_n C dL_law_3873 rfl ?_
    refine v_iload C dL_law_3874 rfl ?_
    refine v_iconst C dL_law_3876 (v := nI 1) (by decide) ?_
    refine v_iaddN C dL_law_3877 ?_
    refine v_sld C Z (6 * j + 1) rfl (by omega) hL dL_law_3878 ?_
    refine v_callVi C Mq ym_X6_restore ml_L_410 emb_l_q rfl rfl rfl rfl rfl dL_law_3879 (by omega) (by omega) (by omega) (Nat.le_of_ble_eq_true rfl) (fun _ _ hz => hz.elim) (fun r2 u2 hq => ?_)
    obtain ⟨t0, rfl, hIV⟩ := J1 _ _ _ _ hp hq
    refine V.stt (g2 := (c2, vp_updL o 0 (cvI v), dd, u2)) rfl ?_
    refine v_istore C dL_law_3882 rfl (Nat.le_of_ble_eq_true rfl) rfl ?_
    refine v_aload_n C dL_law_3884 rfl ?_
    refine v_callVi C (c_X6_thrown hl t0) ym_X6_thrown ml_L_211 emb_l_q rfl rfl rfl rfl rfl dL_law_3885 (Nat.le_of_ble_eq_true rfl) (by omega) (by omega) (Nat.le_of_ble_eq_true rfl) (fun _ _ hz => hz.elim) (fun r3 u3 hr => ?_)
    obtain ⟨hr, rfl⟩ := hr
    subst hr
    refine V.stt (g2 := (c2, vp_updL o 0 (cvI v), dd, u3)) rfl ?_
    refine v_iload C dL_law_3888 rfl ?_
    refine v_icmp_eq C 3895 dL_law_3890 (by decide) (fun _ => ?_) (fun z => absurd rfl z)
    refine v_iload C dL_law_3895 rfl ?_
    refine v_if_ne C 3912 dL_law_3897 (by decide) (fun z => absurd (by decide) z) (fun _ => ?_)
    refine v_aload_n C dL_law_3900 rfl ?_
    refine v_iconst C dL_law_3901 (v := nI 0) (by decide) ?_
    refine v_lald C aj_l (by decide) 0 (by decide) rfl dL_law_3902 ?_
    refine v_iload C dL_law_3903 rfl ?_
    refine v_i2l C dL_law_3905 rfl ?_
    refine v_lcmp C dL_law_3906 ?_
    refine v_if_eq C 3912 dL_law_3907 (by decide) (fun _ => ?_) (fun z => absurd (lg_out (o := o) (x := cvI v) (y := v.toInt64) rfl) z)
    refine v_goto C 3915 dL_law_3912 (by decide) ?_
    refine V.sub (lo2 := [some (.ref b), some (.ref (h 0)), some (.ref (sh 126 h 0)), some (.ref (h 124)), some (.ref (h 125)), some (.int (nI (6 * j))), none, none, none]) ⟨rfl, rfl, rfl, rfl, rfl, rfl, trivial⟩ ?_
    exact back _ _ _ _ hIV
  · skip
    refine v_istore C dL_law_3870 rfl (Nat.le_of_ble_eq_true rfl) rfl ?_
    refine v_aload_n C dL_law_3872 rfl ?_
    refine v_aload_n C dL_law_3873 rfl ?_
    refine v_iload C dL_law_3874 rfl ?_
    refine v_iconst C dL_law_3876 (v := nI 1) (by decide) ?_
    refine v_iaddN C dL_law_3877 ?_
    refine v_sld C Z (6 * j + 1) rfl (by omega) hL dL_law_3878 ?_
    refine v_callVi C Mq ym_X6_restore ml_L_410 emb_l_q rfl rfl rfl rfl rfl dL_law_3879 (by omega) (by omega) (by omega) (Nat.le_of_ble_eq_true rfl) (fun _ _ hz => hz.elim) (fun r2 u2 hq => ?_)
    obtain ⟨i2, h2, hi3, t0, hIV⟩ := J2 _ _ _ _ hp hq
    obtain rfl := EL_inj nd_OS hi h2
    refine V.stt (g2 := (c2, o, dd, u2)) rfl ?_
    refine v_istore C dL_law_3882 rfl (Nat.le_of_ble_eq_true rfl) rfl ?_
    refine v_aload_n C dL_law_3884 rfl ?_
    refine v_callVi C (c_X6_thrown hl t0) ym_X6_thrown ml_L_211 emb_l_q rfl rfl rfl rfl rfl dL_law_3885 (Nat.le_of_ble_eq_true rfl) (by omega) (by omega) (Nat.le_of_ble_eq_true rfl) (fun _ _ hz => hz.elim) (fun r3 u3 hr => ?_)
    obtain ⟨hr, rfl⟩ := hr
    subst hr
    refine V.stt (g2 := (c2, o, dd, u3)) rfl ?_
    refine v_iload C dL_law_3888 rfl ?_
    refine v_icmp_eq C 3895 dL_law_3890 (by decide) (fun _ => ?_) (fun z => absurd rfl z)
    refine v_iload C dL_law_3895 rfl ?_
    refine v_if_ne C 3912 dL_law_3897 (by decide) (fun _ => ?_) (fun z => absurd z (nI_pos3 hi3))
    refine v_goto C 3915 dL_law_3912 (by decide) ?_
    refine V.sub (lo2 := [some (.ref b), some (.ref (h 0)), some (.ref (sh 126 h 0)), some (.ref (h 124)), some (.ref (h 125)), some (.int (nI (6 * j))), none, none, none]) ⟨rfl, rfl, rfl, rfl, rfl, rfl, trivial⟩ ?_
    exact back _ _ _ _ hIV

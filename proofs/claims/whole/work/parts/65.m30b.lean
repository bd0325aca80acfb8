set_option maxHeartbeats 1000000 in
theorem k_16 {X : Cx} {kc ks : Nat} (hl : (xl X).stackTraces = false) (C : Ok SS MM X RL cL_law 9 30 kc ks) {b L : Nat} {w : Nat → Int32} (Z : Lok X b L w) {h : Nat → Nat} {j : Nat} (hj : 6 * j + 6 ≤ L) (hL : L ≤ 3072) {c : Cg} {o : Nat → Int64} {dd : Nat → UInt64} {q : G} (I : INV (20 + j) c q) {k n : Nat} (hk : k + 6 ≤ kc) (hn : n + 36 ≤ ks) (back : ∀ c2 o2 d2 q2, INV (20 + j + 1) c2 q2 → V X (lS (xK X) h) 3915 [some (.ref b), some (.ref (h 0)), some (.ref (sh 126 h 0)), some (.ref (h 124)), some (.ref (h 125)), some (.int (nI (6 * j))), none, none, none] [] (c2, o2, d2, q2) (k + 6) (n + 36)) : V X (lS (xK X) h) 1080 [some (.ref b), some (.ref (h 0)), some (.ref (sh 126 h 0)), some (.ref (h 124)), some (.ref (h 125)), some (.int (nI (6 * j))), none, none, none] [] (c, o, dd, q) k n := by
  refine v_aload_n C dL_law_1080 rfl ?_
  refine v_aload_n C dL_law_1081 rfl ?_
  refine v_iload C dL_law_1082 rfl ?_
  refine v_iconst C dL_law_1084 (v := nI 1) (by decide) ?_
  refine v_iaddN C dL_law_1085 ?_
  refine v_sld C Z (6 * j + 1) rfl (by omega) hL dL_law_1086 ?_
  refine v_aload_n C dL_law_1087 rfl ?_
  refine v_iload C dL_law_1088 rfl ?_
  refine v_iconst C dL_law_1090 (v := nI 2) (by decide) ?_
  refine v_iaddN C dL_law_1091 ?_
  refine v_sld C Z (6 * j + 2) rfl (by omega) hL dL_law_1092 ?_
  refine v_aload_n C dL_law_1093 rfl ?_
  obtain ⟨dM, mc, ms, dq, post, px, pq, ⟨a1, a2, a3, a4⟩, M, Mq, hE, ⟨J1, J2⟩, hP⟩ := s_owedIn hl (κ := xK X) (h := h) (by omega) I (w (6 * j + 1)) (w (6 * j + 2))
  refine v_callSH C (hc_owedIn hl (κ := xK X) (h := h) (c := c) (o := o) (dd := dd) (q := q) a1 a2 a3 M hE) ysh_L_owedIn rfl ml_L_262 emb_id_lS rfl rfl rfl dL_law_1094 (Nat.le_of_ble_eq_true rfl) hk hn (Nat.le_of_ble_eq_true rfl) (fun _ _ hz => hz.elim) (fun r u hu => ?_)
  rcases hu with ⟨v, c2, hp, rfl, rfl⟩ | ⟨e, c2, i, hp, hi, rfl, rfl⟩
  · skip
    refine v_istore C dL_law_1097 rfl (Nat.le_of_ble_eq_true rfl) rfl ?_
    refine v_aload_n C dL_law_1099 rfl ?_
    refine v_aload_n C dL_law_1100 rfl ?_
    refine v_iload C dL_law_1101 rfl ?_
    refine v_iconst C dL_law_1103 (v := nI 1) (by decide) ?_
    refine v_iaddN C dL_law_1104 ?_
    refine v_sld C Z (6 * j + 1) rfl (by omega) hL dL_law_1105 ?_
    refine v_aload_n C dL_law_1106 rfl ?_
    refine v_iload C dL_law_1107 rfl ?_
    refine v_iconst C dL_law_1109 (v := nI 2) (by decide) ?_
    refine v_iaddN C dL_law_1110 ?_
    refine v_sld C Z (6 * j + 2) rfl (by omega) hL dL_law_1111 ?_
    refine v_callVi C Mq ym_X6_owedIn ml_L_265 emb_l_q rfl rfl rfl rfl rfl dL_law_1112 (by omega) (by omega) (by omega) (Nat.le_of_ble_eq_true rfl) (fun _ _ hz => hz.elim) (fun r2 u2 hq => ?_)
    obtain ⟨t0, rfl, hIV⟩ := J1 _ _ _ _ hp hq
    refine V.stt (g2 := (c2, vp_updL o 0 (cvI v), dd, u2)) rfl ?_
    refine v_istore C dL_law_1115 rfl (Nat.le_of_ble_eq_true rfl) rfl ?_
    refine v_aload_n C dL_law_1117 rfl ?_
    refine v_callVi C (c_X6_thrown hl t0) ym_X6_thrown ml_L_211 emb_l_q rfl rfl rfl rfl rfl dL_law_1118 (Nat.le_of_ble_eq_true rfl) (by omega) (by omega) (Nat.le_of_ble_eq_true rfl) (fun _ _ hz => hz.elim) (fun r3 u3 hr => ?_)
    obtain ⟨hr, rfl⟩ := hr
    subst hr
    refine V.stt (g2 := (c2, vp_updL o 0 (cvI v), dd, u3)) rfl ?_
    refine v_iload C dL_law_1121 rfl ?_
    refine v_icmp_eq C 1128 dL_law_1123 (by decide) (fun _ => ?_) (fun z => absurd rfl z)
    refine v_iload C dL_law_1128 rfl ?_
    refine v_if_ne C 1145 dL_law_1130 (by decide) (fun z => absurd (by decide) z) (fun _ => ?_)
    refine v_aload_n C dL_law_1133 rfl ?_
    refine v_iconst C dL_law_1134 (v := nI 0) (by decide) ?_
    refine v_lald C aj_l (by decide) 0 (by decide) rfl dL_law_1135 ?_
    refine v_iload C dL_law_1136 rfl ?_
    refine v_i2l C dL_law_1138 rfl ?_
    refine v_lcmp C dL_law_1139 ?_
    refine v_if_eq C 1145 dL_law_1140 (by decide) (fun _ => ?_) (fun z => absurd (lg_out (o := o) (x := cvI v) (y := v.toInt64) rfl) z)
    refine v_goto C 3915 dL_law_1145 (by decide) ?_
    refine V.sub (lo2 := [some (.ref b), some (.ref (h 0)), some (.ref (sh 126 h 0)), some (.ref (h 124)), some (.ref (h 125)), some (.int (nI (6 * j))), none, none, none]) ⟨rfl, rfl, rfl, rfl, rfl, rfl, trivial⟩ ?_
    exact back _ _ _ _ hIV
  · skip
    refine v_istore C dL_law_1097 rfl (Nat.le_of_ble_eq_true rfl) rfl ?_
    refine v_aload_n C dL_law_1099 rfl ?_
    refine v_aload_n C dL_law_1100 rfl ?_
    refine v_iload C dL_law_1101 rfl ?_
    refine v_iconst C dL_law_1103 (v := nI 1) (by decide) ?_
    refine v_iaddN C dL_law_1104 ?_
    refine v_sld C Z (6 * j + 1) rfl (by omega) hL dL_law_1105 ?_
    refine v_aload_n C dL_law_1106 rfl ?_
    refine v_iload C dL_law_1107 rfl ?_
    refine v_iconst C dL_law_1109 (v := nI 2) (by decide) ?_
    refine v_iaddN C dL_law_1110 ?_
    refine v_sld C Z (6 * j + 2) rfl (by omega) hL dL_law_1111 ?_
    refine v_callVi C Mq ym_X6_owedIn ml_L_265 emb_l_q rfl rfl rfl rfl rfl dL_law_1112 (by omega) (by omega) (by omega) (Nat.le_of_ble_eq_true rfl) (fun _ _ hz => hz.elim) (fun r2 u2 hq => ?_)
    obtain ⟨i2, h2, hi3, t0, hIV⟩ := J2 _ _ _ _ hp hq
    obtain rfl := EL_inj nd_SOA hi h2
    refine V.stt (g2 := (c2, o, dd, u2)) rfl ?_
    refine v_istore C dL_law_1115 rfl (Nat.le_of_ble_eq_true rfl) rfl ?_
    refine v_aload_n C dL_law_1117 rfl ?_
    refine v_callVi C (c_X6_thrown hl t0) ym_X6_thrown ml_L_211 emb_l_q rfl rfl rfl rfl rfl dL_law_1118 (Nat.le_of_ble_eq_true rfl) (by omega) (by omega) (Nat.le_of_ble_eq_true rfl) (fun _ _ hz => hz.elim) (fun r3 u3 hr => ?_)
    obtain ⟨hr, rfl⟩ := hr
    subst hr
    refine V.stt (g2 := (c2, o, dd, u3)) rfl ?_
    refine v_iload C dL_law_1121 rfl ?_
    refine v_icmp_eq C 1128 dL_law_1123 (by decide) (fun _ => ?_) (fun z => absurd rfl z)
    refine v_iload C dL_law_1128 rfl ?_
    refine v_if_ne C 1145 dL_law_1130 (by decide) (fun _ => ?_) (fun z => absurd z (nI_pos3 hi3))
    refine v_goto C 3915 dL_law_1145 (by decide) ?_
    refine V.sub (lo2 := [some (.ref b), some (.ref (h 0)), some (.ref (sh 126 h 0)), some (.ref (h 124)), some (.ref (h 125)), some (.int (nI (6 * j))), none, none, none]) ⟨rfl, rfl, rfl, rfl, rfl, rfl, trivial⟩ ?_
    exact back _ _ _ _ hIV
set_option maxHeartbeats 1000000 in
theorem k_17 {X : Cx} {kc ks : Nat} (hl : (xl X).stackTraces = false) (C : Ok SS MM X RL cL_law 9 30 kc ks) {b L : Nat} {w : Nat → Int32} (Z : Lok X b L w) {h : Nat → Nat} {j : Nat} (hj : 6 * j + 6 ≤ L) (hL : L ≤ 3072) {c : Cg} {o : Nat → Int64} {dd : Nat → UInt64} {q : G} (I : INV (20 + j) c q) {k n : Nat} (hk : k + 6 ≤ kc) (hn : n + 36 ≤ ks) (back : ∀ c2 o2 d2 q2, INV (20 + j + 1) c2 q2 → V X (lS (xK X) h) 3915 [some (.ref b), some (.ref (h 0)), some (.ref (sh 126 h 0)), some (.ref (h 124)), some (.ref (h 125)), some (.int (nI (6 * j))), none, none, none] [] (c2, o2, d2, q2) (k + 6) (n + 36)) : V X (lS (xK X) h) 1148 [some (.ref b), some (.ref (h 0)), some (.ref (sh 126 h 0)), some (.ref (h 124)), some (.ref (h 125)), some (.int (nI (6 * j))), none, none, none] [] (c, o, dd, q) k n := by
  refine v_aload_n C dL_law_1148 rfl ?_
  refine v_aload_n C dL_law_1149 rfl ?_
  refine v_iload C dL_law_1150 rfl ?_
  refine v_iconst C dL_law_1152 (v := nI 1) (by decide) ?_
  refine v_iaddN C dL_law_1153 ?_
  refine v_sld C Z (6 * j + 1) rfl (by omega) hL dL_law_1154 ?_
  refine v_aload_n C dL_law_1155 rfl ?_
  obtain ⟨dM, mc, ms, dq, post, px, pq, ⟨a1, a2, a3, a4⟩, M, Mq, hE, ⟨J1, J2⟩, hP⟩ := s_firstOwed hl (κ := xK X) (h := h) (by omega) I (w (6 * j + 1))
  refine v_callSH C (hc_firstOwed hl (κ := xK X) (h := h) (c := c) (o := o) (dd := dd) (q := q) a1 a2 a3 M hE) ysh_L_firstOwed rfl ml_L_266 emb_id_lS rfl rfl rfl dL_law_1156 (Nat.le_of_ble_eq_true rfl) hk hn (Nat.le_of_ble_eq_true rfl) (fun _ _ hz => hz.elim) (fun r u hu => ?_)
  rcases hu with ⟨v, c2, hp, rfl, rfl⟩ | ⟨e, c2, i, hp, hi, rfl, rfl⟩
  · skip
    refine v_istore C dL_law_1159 rfl (Nat.le_of_ble_eq_true rfl) rfl ?_
    refine v_aload_n C dL_law_1161 rfl ?_
    refine v_aload_n C dL_law_1162 rfl ?_
    refine v_iload C dL_law_1163 rfl ?_
    refine v_iconst C dL_law_1165 (v := nI 1) (by decide) ?_
    refine v_iaddN C dL_law_1166 ?_
    refine v_sld C Z (6 * j + 1) rfl (by omega) hL dL_law_1167 ?_
    refine v_callVi C Mq ym_X6_firstOwed ml_L_268 emb_l_q rfl rfl rfl rfl rfl dL_law_1168 (by omega) (by omega) (by omega) (Nat.le_of_ble_eq_true rfl) (fun _ _ hz => hz.elim) (fun r2 u2 hq => ?_)
    obtain ⟨t0, rfl, hIV⟩ := J1 _ _ _ _ hp hq
    refine V.stt (g2 := (c2, vp_updL o 0 (cvI v), dd, u2)) rfl ?_
    refine v_istore C dL_law_1171 rfl (Nat.le_of_ble_eq_true rfl) rfl ?_
    refine v_aload_n C dL_law_1173 rfl ?_
    refine v_callVi C (c_X6_thrown hl t0) ym_X6_thrown ml_L_211 emb_l_q rfl rfl rfl rfl rfl dL_law_1174 (Nat.le_of_ble_eq_true rfl) (by omega) (by omega) (Nat.le_of_ble_eq_true rfl) (fun _ _ hz => hz.elim) (fun r3 u3 hr => ?_)
    obtain ⟨hr, rfl⟩ := hr
    subst hr
    refine V.stt (g2 := (c2, vp_updL o 0 (cvI v), dd, u3)) rfl ?_
    refine v_iload C dL_law_1177 rfl ?_
    refine v_icmp_eq C 1184 dL_law_1179 (by decide) (fun _ => ?_) (fun z => absurd rfl z)
    refine v_iload C dL_law_1184 rfl ?_
    refine v_if_ne C 1201 dL_law_1186 (by decide) (fun z => absurd (by decide) z) (fun _ => ?_)
    refine v_aload_n C dL_law_1189 rfl ?_
    refine v_iconst C dL_law_1190 (v := nI 0) (by decide) ?_
    refine v_lald C aj_l (by decide) 0 (by decide) rfl dL_law_1191 ?_
    refine v_iload C dL_law_1192 rfl ?_
    refine v_i2l C dL_law_1194 rfl ?_
    refine v_lcmp C dL_law_1195 ?_
    refine v_if_eq C 1201 dL_law_1196 (by decide) (fun _ => ?_) (fun z => absurd (lg_out (o := o) (x := cvI v) (y := v.toInt64) rfl) z)
    refine v_goto C 3915 dL_law_1201 (by decide) ?_
    refine V.sub (lo2 := [some (.ref b), some (.ref (h 0)), some (.ref (sh 126 h 0)), some (.ref (h 124)), some (.ref (h 125)), some (.int (nI (6 * j))), none, none, none]) ⟨rfl, rfl, rfl, rfl, rfl, rfl, trivial⟩ ?_
    exact back _ _ _ _ hIV
  · skip
    refine v_istore C dL_law_1159 rfl (Nat.le_of_ble_eq_true rfl) rfl ?_
    refine v_aload_n C dL_law_1161 rfl ?_
    refine v_aload_n C dL_law_1162 rfl ?_
    refine v_iload C dL_law_1163 rfl ?_
    refine v_iconst C dL_law_1165 (v := nI 1) (by decide) ?_
    refine v_iaddN C dL_law_1166 ?_
    refine v_sld C Z (6 * j + 1) rfl (by omega) hL dL_law_1167 ?_
    refine v_callVi C Mq ym_X6_firstOwed ml_L_268 emb_l_q rfl rfl rfl rfl rfl dL_law_1168 (by omega) (by omega) (by omega) (Nat.le_of_ble_eq_true rfl) (fun _ _ hz => hz.elim) (fun r2 u2 hq => ?_)
    obtain ⟨i2, h2, hi3, t0, hIV⟩ := J2 _ _ _ _ hp hq
    obtain rfl := EL_inj nd_SO hi h2
    refine V.stt (g2 := (c2, o, dd, u2)) rfl ?_
    refine v_istore C dL_law_1171 rfl (Nat.le_of_ble_eq_true rfl) rfl ?_
    refine v_aload_n C dL_law_1173 rfl ?_
    refine v_callVi C (c_X6_thrown hl t0) ym_X6_thrown ml_L_211 emb_l_q rfl rfl rfl rfl rfl dL_law_1174 (Nat.le_of_ble_eq_true rfl) (by omega) (by omega) (Nat.le_of_ble_eq_true rfl) (fun _ _ hz => hz.elim) (fun r3 u3 hr => ?_)
    obtain ⟨hr, rfl⟩ := hr
    subst hr
    refine V.stt (g2 := (c2, o, dd, u3)) rfl ?_
    refine v_iload C dL_law_1177 rfl ?_
    refine v_icmp_eq C 1184 dL_law_1179 (by decide) (fun _ => ?_) (fun z => absurd rfl z)
    refine v_iload C dL_law_1184 rfl ?_
    refine v_if_ne C 1201 dL_law_1186 (by decide) (fun _ => ?_) (fun z => absurd z (nI_pos3 hi3))
    refine v_goto C 3915 dL_law_1201 (by decide) ?_
    refine V.sub (lo2 := [some (.ref b), some (.ref (h 0)), some (.ref (sh 126 h 0)), some (.ref (h 124)), some (.ref (h 125)), some (.int (nI (6 * j))), none, none, none]) ⟨rfl, rfl, rfl, rfl, rfl, rfl, trivial⟩ ?_
    exact back _ _ _ _ hIV
set_option maxHeartbeats 1000000 in
theorem k_18 {X : Cx} {kc ks : Nat} (hl : (xl X).stackTraces = false) (C : Ok SS MM X RL cL_law 9 30 kc ks) {b L : Nat} {w : Nat → Int32} (Z : Lok X b L w) {h : Nat → Nat} {j : Nat} (hj : 6 * j + 6 ≤ L) (hL : L ≤ 3072) {c : Cg} {o : Nat → Int64} {dd : Nat → UInt64} {q : G} (I : INV (20 + j) c q) {k n : Nat} (hk : k + 6 ≤ kc) (hn : n + 36 ≤ ks) (back : ∀ c2 o2 d2 q2, INV (20 + j + 1) c2 q2 → V X (lS (xK X) h) 3915 [some (.ref b), some (.ref (h 0)), some (.ref (sh 126 h 0)), some (.ref (h 124)), some (.ref (h 125)), some (.int (nI (6 * j))), none, none, none] [] (c2, o2, d2, q2) (k + 6) (n + 36)) : V X (lS (xK X) h) 1204 [some (.ref b), some (.ref (h 0)), some (.ref (sh 126 h 0)), some (.ref (h 124)), some (.ref (h 125)), some (.int (nI (6 * j))), none, none, none] [] (c, o, dd, q) k n := by
  refine v_aload_n C dL_law_1204 rfl ?_
  refine v_aload_n C dL_law_1205 rfl ?_
  obtain ⟨dM, mc, ms, dq, post, px, pq, ⟨a1, a2, a3, a4⟩, M, Mq, hE, ⟨J1, J2⟩, hP⟩ := s_debts hl (κ := xK X) (h := h) (by omega) I
  refine v_callSH C (hc_debts hl (κ := xK X) (h := h) (c := c) (o := o) (dd := dd) (q := q) a1 a2 a3 M hE) ysh_L_debts rfl ml_L_269 emb_id_lS rfl rfl rfl dL_law_1206 (Nat.le_of_ble_eq_true rfl) hk hn (Nat.le_of_ble_eq_true rfl) (fun _ _ hz => hz.elim) (fun r u hu => ?_)
  rcases hu with ⟨v, c2, hp, rfl, rfl⟩ | ⟨e, c2, i, hp, hi, rfl, rfl⟩
  · skip
    refine v_istore C dL_law_1209 rfl (Nat.le_of_ble_eq_true rfl) rfl ?_
    refine v_aload_n C dL_law_1211 rfl ?_
    refine v_callVi C Mq ym_X6_debts ml_L_271 emb_l_q rfl rfl rfl rfl rfl dL_law_1212 (by omega) (by omega) (by omega) (Nat.le_of_ble_eq_true rfl) (fun _ _ hz => hz.elim) (fun r2 u2 hq => ?_)
    obtain ⟨t0, rfl, hIV⟩ := J1 _ _ _ _ hp hq
    refine V.stt (g2 := (c2, vp_updL o 0 (cvI v), dd, u2)) rfl ?_
    refine v_istore C dL_law_1215 rfl (Nat.le_of_ble_eq_true rfl) rfl ?_
    refine v_aload_n C dL_law_1217 rfl ?_
    refine v_callVi C (c_X6_thrown hl t0) ym_X6_thrown ml_L_211 emb_l_q rfl rfl rfl rfl rfl dL_law_1218 (Nat.le_of_ble_eq_true rfl) (by omega) (by omega) (Nat.le_of_ble_eq_true rfl) (fun _ _ hz => hz.elim) (fun r3 u3 hr => ?_)
    obtain ⟨hr, rfl⟩ := hr
    subst hr
    refine V.stt (g2 := (c2, vp_updL o 0 (cvI v), dd, u3)) rfl ?_
    refine v_iload C dL_law_1221 rfl ?_
    refine v_icmp_eq C 1228 dL_law_1223 (by decide) (fun _ => ?_) (fun z => absurd rfl z)
    refine v_iload C dL_law_1228 rfl ?_
    refine v_if_ne C 1245 dL_law_1230 (by decide) (fun z => absurd (by decide) z) (fun _ => ?_)
    refine v_aload_n C dL_law_1233 rfl ?_
    refine v_iconst C dL_law_1234 (v := nI 0) (by decide) ?_
    refine v_lald C aj_l (by decide) 0 (by decide) rfl dL_law_1235 ?_
    refine v_iload C dL_law_1236 rfl ?_
    refine v_i2l C dL_law_1238 rfl ?_
    refine v_lcmp C dL_law_1239 ?_
    refine v_if_eq C 1245 dL_law_1240 (by decide) (fun _ => ?_) (fun z => absurd (lg_out (o := o) (x := cvI v) (y := v.toInt64) rfl) z)
    refine v_goto C 3915 dL_law_1245 (by decide) ?_
    refine V.sub (lo2 := [some (.ref b), some (.ref (h 0)), some (.ref (sh 126 h 0)), some (.ref (h 124)), some (.ref (h 125)), some (.int (nI (6 * j))), none, none, none]) ⟨rfl, rfl, rfl, rfl, rfl, rfl, trivial⟩ ?_
    exact back _ _ _ _ hIV
  · skip
    refine v_istore C dL_law_1209 rfl (Nat.le_of_ble_eq_true rfl) rfl ?_
    refine v_aload_n C dL_law_1211 rfl ?_
    refine v_callVi C Mq ym_X6_debts ml_L_271 emb_l_q rfl rfl rfl rfl rfl dL_law_1212 (by omega) (by omega) (by omega) (Nat.le_of_ble_eq_true rfl) (fun _ _ hz => hz.elim) (fun r2 u2 hq => ?_)
    obtain ⟨i2, h2, hi3, t0, hIV⟩ := J2 _ _ _ _ hp hq
    obtain rfl := EL_inj nd_S hi h2
    refine V.stt (g2 := (c2, o, dd, u2)) rfl ?_
    refine v_istore C dL_law_1215 rfl (Nat.le_of_ble_eq_true rfl) rfl ?_
    refine v_aload_n C dL_law_1217 rfl ?_
    refine v_callVi C (c_X6_thrown hl t0) ym_X6_thrown ml_L_211 emb_l_q rfl rfl rfl rfl rfl dL_law_1218 (Nat.le_of_ble_eq_true rfl) (by omega) (by omega) (Nat.le_of_ble_eq_true rfl) (fun _ _ hz => hz.elim) (fun r3 u3 hr => ?_)
    obtain ⟨hr, rfl⟩ := hr
    subst hr
    refine V.stt (g2 := (c2, o, dd, u3)) rfl ?_
    refine v_iload C dL_law_1221 rfl ?_
    refine v_icmp_eq C 1228 dL_law_1223 (by decide) (fun _ => ?_) (fun z => absurd rfl z)
    refine v_iload C dL_law_1228 rfl ?_
    refine v_if_ne C 1245 dL_law_1230 (by decide) (fun _ => ?_) (fun z => absurd z (nI_pos3 hi3))
    refine v_goto C 3915 dL_law_1245 (by decide) ?_
    refine V.sub (lo2 := [some (.ref b), some (.ref (h 0)), some (.ref (sh 126 h 0)), some (.ref (h 124)), some (.ref (h 125)), some (.int (nI (6 * j))), none, none, none]) ⟨rfl, rfl, rfl, rfl, rfl, rfl, trivial⟩ ?_
    exact back _ _ _ _ hIV
set_option maxHeartbeats 1000000 in
theorem k_19 {X : Cx} {kc ks : Nat} (hl : (xl X).stackTraces = false) (C : Ok SS MM X RL cL_law 9 30 kc ks) {b L : Nat} {w : Nat → Int32} (Z : Lok X b L w) {h : Nat → Nat} {j : Nat} (hj : 6 * j + 6 ≤ L) (hL : L ≤ 3072) {c : Cg} {o : Nat → Int64} {dd : Nat → UInt64} {q : G} (I : INV (20 + j) c q) {k n : Nat} (hk : k + 6 ≤ kc) (hn : n + 36 ≤ ks) (back : ∀ c2 o2 d2 q2, INV (20 + j + 1) c2 q2 → V X (lS (xK X) h) 3915 [some (.ref b), some (.ref (h 0)), some (.ref (sh 126 h 0)), some (.ref (h 124)), some (.ref (h 125)), some (.int (nI (6 * j))), none, none, none] [] (c2, o2, d2, q2) (k + 6) (n + 36)) : V X (lS (xK X) h) 1248 [some (.ref b), some (.ref (h 0)), some (.ref (sh 126 h 0)), some (.ref (h 124)), some (.ref (h 125)), some (.int (nI (6 * j))), none, none, none] [] (c, o, dd, q) k n := by
  refine v_aload_n C dL_law_1248 rfl ?_
  refine v_aload_n C dL_law_1249 rfl ?_
  refine v_iload C dL_law_1250 rfl ?_
  refine v_iconst C dL_law_1252 (v := nI 1) (by decide) ?_
  refine v_iaddN C dL_law_1253 ?_
  refine v_sld C Z (6 * j + 1) rfl (by omega) hL dL_law_1254 ?_
  refine v_aload_n C dL_law_1255 rfl ?_
  refine v_iload C dL_law_1256 rfl ?_
  refine v_iconst C dL_law_1258 (v := nI 2) (by decide) ?_
  refine v_iaddN C dL_law_1259 ?_
  refine v_sld C Z (6 * j + 2) rfl (by omega) hL dL_law_1260 ?_
  refine v_aload_n C dL_law_1261 rfl ?_
  obtain ⟨dM, mc, ms, dq, post, px, pq, ⟨a1, a2, a3, a4⟩, M, Mq, hE, ⟨J1, J2⟩, hP⟩ := s_debt hl (κ := xK X) (h := h) (by omega) I (w (6 * j + 1)) (w (6 * j + 2))
  refine v_callSH C (hc_debt hl (κ := xK X) (h := h) (c := c) (o := o) (dd := dd) (q := q) a1 a2 a3 M hE) ysh_L_debt rfl ml_L_272 emb_id_lS rfl rfl rfl dL_law_1262 (Nat.le_of_ble_eq_true rfl) hk hn (Nat.le_of_ble_eq_true rfl) (fun _ _ hz => hz.elim) (fun r u hu => ?_)
  rcases hu with ⟨v, c2, hp, rfl, rfl⟩ | ⟨e, c2, i, hp, hi, rfl, rfl⟩
  · skip
    refine v_istore C dL_law_1265 rfl (Nat.le_of_ble_eq_true rfl) rfl ?_
    refine v_aload_n C dL_law_1267 rfl ?_
    refine v_aload_n C dL_law_1268 rfl ?_
    refine v_iload C dL_law_1269 rfl ?_
    refine v_iconst C dL_law_1271 (v := nI 1) (by decide) ?_
    refine v_iaddN C dL_law_1272 ?_
    refine v_sld C Z (6 * j + 1) rfl (by omega) hL dL_law_1273 ?_
    refine v_aload_n C dL_law_1274 rfl ?_
    refine v_iload C dL_law_1275 rfl ?_
    refine v_iconst C dL_law_1277 (v := nI 2) (by decide) ?_
    refine v_iaddN C dL_law_1278 ?_
    refine v_sld C Z (6 * j + 2) rfl (by omega) hL dL_law_1279 ?_
    refine v_callVi C Mq ym_X6_debt ml_L_274 emb_l_q rfl rfl rfl rfl rfl dL_law_1280 (by omega) (by omega) (by omega) (Nat.le_of_ble_eq_true rfl) (fun _ _ hz => hz.elim) (fun r2 u2 hq => ?_)
    obtain ⟨t0, rfl, hIV⟩ := J1 _ _ _ _ hp hq
    refine V.stt (g2 := (c2, vp_updL o 0 (cvI v), dd, u2)) rfl ?_
    refine v_istore C dL_law_1283 rfl (Nat.le_of_ble_eq_true rfl) rfl ?_
    refine v_aload_n C dL_law_1285 rfl ?_
    refine v_callVi C (c_X6_thrown hl t0) ym_X6_thrown ml_L_211 emb_l_q rfl rfl rfl rfl rfl dL_law_1286 (Nat.le_of_ble_eq_true rfl) (by omega) (by omega) (Nat.le_of_ble_eq_true rfl) (fun _ _ hz => hz.elim) (fun r3 u3 hr => ?_)
    obtain ⟨hr, rfl⟩ := hr
    subst hr
    refine V.stt (g2 := (c2, vp_updL o 0 (cvI v), dd, u3)) rfl ?_
    refine v_iload C dL_law_1289 rfl ?_
    refine v_icmp_eq C 1296 dL_law_1291 (by decide) (fun _ => ?_) (fun z => absurd rfl z)
    refine v_iload C dL_law_1296 rfl ?_
    refine v_if_ne C 1313 dL_law_1298 (by decide) (fun z => absurd (by decide) z) (fun _ => ?_)
    refine v_aload_n C dL_law_1301 rfl ?_
    refine v_iconst C dL_law_1302 (v := nI 0) (by decide) ?_
    refine v_lald C aj_l (by decide) 0 (by decide) rfl dL_law_1303 ?_
    refine v_iload C dL_law_1304 rfl ?_
    refine v_i2l C dL_law_1306 rfl ?_
    refine v_lcmp C dL_law_1307 ?_
    refine v_if_eq C 1313 dL_law_1308 (by decide) (fun _ => ?_) (fun z => absurd (lg_out (o := o) (x := cvI v) (y := v.toInt64) rfl) z)
    refine v_goto C 3915 dL_law_1313 (by decide) ?_
    refine V.sub (lo2 := [some (.ref b), some (.ref (h 0)), some (.ref (sh 126 h 0)), some (.ref (h 124)), some (.ref (h 125)), some (.int (nI (6 * j))), none, none, none]) ⟨rfl, rfl, rfl, rfl, rfl, rfl, trivial⟩ ?_
    exact back _ _ _ _ hIV
  · skip
    refine v_istore C dL_law_1265 rfl (Nat.le_of_ble_eq_true rfl) rfl ?_
    refine v_aload_n C dL_law_1267 rfl ?_
    refine v_aload_n C dL_law_1268 rfl ?_
    refine v_iload C dL_law_1269 rfl ?_
    refine v_iconst C dL_law_1271 (v := nI 1) (by decide) ?_
    refine v_iaddN C dL_law_1272 ?_
    refine v_sld C Z (6 * j + 1) rfl (by omega) hL dL_law_1273 ?_
    refine v_aload_n C dL_law_1274 rfl ?_
    refine v_iload C dL_law_1275 rfl ?_
    refine v_iconst C dL_law_1277 (v := nI 2) (by decide) ?_
    refine v_iaddN C dL_law_1278 ?_
    refine v_sld C Z (6 * j + 2) rfl (by omega) hL dL_law_1279 ?_
    refine v_callVi C Mq ym_X6_debt ml_L_274 emb_l_q rfl rfl rfl rfl rfl dL_law_1280 (by omega) (by omega) (by omega) (Nat.le_of_ble_eq_true rfl) (fun _ _ hz => hz.elim) (fun r2 u2 hq => ?_)
    obtain ⟨i2, h2, hi3, t0, hIV⟩ := J2 _ _ _ _ hp hq
    obtain rfl := EL_inj nd_SOA hi h2
    refine V.stt (g2 := (c2, o, dd, u2)) rfl ?_
    refine v_istore C dL_law_1283 rfl (Nat.le_of_ble_eq_true rfl) rfl ?_
    refine v_aload_n C dL_law_1285 rfl ?_
    refine v_callVi C (c_X6_thrown hl t0) ym_X6_thrown ml_L_211 emb_l_q rfl rfl rfl rfl rfl dL_law_1286 (Nat.le_of_ble_eq_true rfl) (by omega) (by omega) (Nat.le_of_ble_eq_true rfl) (fun _ _ hz => hz.elim) (fun r3 u3 hr => ?_)
    obtain ⟨hr, rfl⟩ := hr
    subst hr
    refine V.stt (g2 := (c2, o, dd, u3)) rfl ?_
    refine v_iload C dL_law_1289 rfl ?_
    refine v_icmp_eq C 1296 dL_law_1291 (by decide) (fun _ => ?_) (fun z => absurd rfl z)
    refine v_iload C dL_law_1296 rfl ?_
    refine v_if_ne C 1313 dL_law_1298 (by decide) (fun _ => ?_) (fun z => absurd z (nI_pos3 hi3))
    refine v_goto C 3915 dL_law_1313 (by decide) ?_
    refine V.sub (lo2 := [some (.ref b), some (.ref (h 0)), some (.ref (sh 126 h 0)), some (.ref (h 124)), some (.ref (h 125)), some (.int (nI (6 * j))), none, none, none]) ⟨rfl, rfl, rfl, rfl, rfl, rfl, trivial⟩ ?_
    exact back _ _ _ _ hIV
set_option maxHeartbeats 1000000 in
theorem k_20 {X : Cx} {kc ks : Nat} (hl : (xl X).stackTraces = false) (C : Ok SS MM X RL cL_law 9 30 kc ks) {b L : Nat} {w : Nat → Int32} (Z : Lok X b L w) {h : Nat → Nat} {j : Nat} (hj : 6 * j + 6 ≤ L) (hL : L ≤ 3072) {c : Cg} {o : Nat → Int64} {dd : Nat → UInt64} {q : G} (I : INV (20 + j) c q) {k n : Nat} (hk : k + 6 ≤ kc) (hn : n + 36 ≤ ks) (back : ∀ c2 o2 d2 q2, INV (20 + j + 1) c2 q2 → V X (lS (xK X) h) 3915 [some (.ref b), some (.ref (h 0)), some (.ref (sh 126 h 0)), some (.ref (h 124)), some (.ref (h 125)), some (.int (nI (6 * j))), none, none, none] [] (c2, o2, d2, q2) (k + 6) (n + 36)) : V X (lS (xK X) h) 1316 [some (.ref b), some (.ref (h 0)), some (.ref (sh 126 h 0)), some (.ref (h 124)), some (.ref (h 125)), some (.int (nI (6 * j))), none, none, none] [] (c, o, dd, q) k n := by
  refine v_aload_n C dL_law_1316 rfl ?_
  refine v_aload_n C dL_law_1317 rfl ?_
  obtain ⟨dM, mc, ms, dq, post, px, pq, ⟨a1, a2, a3, a4⟩, M, Mq, hE, ⟨J1, J2⟩, hP⟩ := s_most hl (κ := xK X) (h := h) (by omega) I
  refine v_callSH C (hc_most hl (κ := xK X) (h := h) (c := c) (o := o) (dd := dd) (q := q) a1 a2 a3 M hE) ysh_L_most rfl ml_L_275 emb_id_lS rfl rfl rfl dL_law_1318 (Nat.le_of_ble_eq_true rfl) hk hn (Nat.le_of_ble_eq_true rfl) (fun _ _ hz => hz.elim) (fun r u hu => ?_)
  rcases hu with ⟨v, c2, hp, rfl, rfl⟩ | ⟨e, c2, i, hp, hi, rfl, rfl⟩
  · skip
    refine v_istore C dL_law_1321 rfl (Nat.le_of_ble_eq_true rfl) rfl ?_
    refine v_aload_n C dL_law_1323 rfl ?_
    refine v_callVi C Mq ym_X6_most ml_L_277 emb_l_q rfl rfl rfl rfl rfl dL_law_1324 (by omega) (by omega) (by omega) (Nat.le_of_ble_eq_true rfl) (fun _ _ hz => hz.elim) (fun r2 u2 hq => ?_)
    obtain ⟨t0, rfl, hIV⟩ := J1 _ _ _ _ hp hq
    refine V.stt (g2 := (c2, vp_updL o 0 (cvI v), dd, u2)) rfl ?_
    refine v_istore C dL_law_1327 rfl (Nat.le_of_ble_eq_true rfl) rfl ?_
    refine v_aload_n C dL_law_1329 rfl ?_
    refine v_callVi C (c_X6_thrown hl t0) ym_X6_thrown ml_L_211 emb_l_q rfl rfl rfl rfl rfl dL_law_1330 (Nat.le_of_ble_eq_true rfl) (by omega) (by omega) (Nat.le_of_ble_eq_true rfl) (fun _ _ hz => hz.elim) (fun r3 u3 hr => ?_)
    obtain ⟨hr, rfl⟩ := hr
    subst hr
    refine V.stt (g2 := (c2, vp_updL o 0 (cvI v), dd, u3)) rfl ?_
    refine v_iload C dL_law_1333 rfl ?_
    refine v_icmp_eq C 1340 dL_law_1335 (by decide) (fun _ => ?_) (fun z => absurd rfl z)
    refine v_iload C dL_law_1340 rfl ?_
    refine v_if_ne C 1357 dL_law_1342 (by decide) (fun z => absurd (by decide) z) (fun _ => ?_)
    refine v_aload_n C dL_law_1345 rfl ?_
    refine v_iconst C dL_law_1346 (v := nI 0) (by decide) ?_
    refine v_lald C aj_l (by decide) 0 (by decide) rfl dL_law_1347 ?_
    refine v_iload C dL_law_1348 rfl ?_
    refine v_i2l C dL_law_1350 rfl ?_
    refine v_lcmp C dL_law_1351 ?_
    refine v_if_eq C 1357 dL_law_1352 (by decide) (fun _ => ?_) (fun z => absurd (lg_out (o := o) (x := cvI v) (y := v.toInt64) rfl) z)
    refine v_goto C 3915 dL_law_1357 (by decide) ?_
    refine V.sub (lo2 := [some (.ref b), some (.ref (h 0)), some (.ref (sh 126 h 0)), some (.ref (h 124)), some (.ref (h 125)), some (.int (nI (6 * j))), none, none, none]) ⟨rfl, rfl, rfl, rfl, rfl, rfl, trivial⟩ ?_
    exact back _ _ _ _ hIV
  · skip
    refine v_istore C dL_law_1321 rfl (Nat.le_of_ble_eq_true rfl) rfl ?_
    refine v_aload_n C dL_law_1323 rfl ?_
    refine v_callVi C Mq ym_X6_most ml_L_277 emb_l_q rfl rfl rfl rfl rfl dL_law_1324 (by omega) (by omega) (by omega) (Nat.le_of_ble_eq_true rfl) (fun _ _ hz => hz.elim) (fun r2 u2 hq => ?_)
    obtain ⟨i2, h2, hi3, t0, hIV⟩ := J2 _ _ _ _ hp hq
    obtain rfl := EL_inj nd_S hi h2
    refine V.stt (g2 := (c2, o, dd, u2)) rfl ?_
    refine v_istore C dL_law_1327 rfl (Nat.le_of_ble_eq_true rfl) rfl ?_
    refine v_aload_n C dL_law_1329 rfl ?_
    refine v_callVi C (c_X6_thrown hl t0) ym_X6_thrown ml_L_211 emb_l_q rfl rfl rfl rfl rfl dL_law_1330 (Nat.le_of_ble_eq_true rfl) (by omega) (by omega) (Nat.le_of_ble_eq_true rfl) (fun _ _ hz => hz.elim) (fun r3 u3 hr => ?_)
    obtain ⟨hr, rfl⟩ := hr
    subst hr
    refine V.stt (g2 := (c2, o, dd, u3)) rfl ?_
    refine v_iload C dL_law_1333 rfl ?_
    refine v_icmp_eq C 1340 dL_law_1335 (by decide) (fun _ => ?_) (fun z => absurd rfl z)
    refine v_iload C dL_law_1340 rfl ?_
    refine v_if_ne C 1357 dL_law_1342 (by decide) (fun _ => ?_) (fun z => absurd z (nI_pos3 hi3))
    refine v_goto C 3915 dL_law_1357 (by decide) ?_
    refine V.sub (lo2 := [some (.ref b), some (.ref (h 0)), some (.ref (sh 126 h 0)), some (.ref (h 124)), some (.ref (h 125)), some (.int (nI (6 * j))), none, none, none]) ⟨rfl, rfl, rfl, rfl, rfl, rfl, trivial⟩ ?_
    exact back _ _ _ _ hIV
set_option maxHeartbeats 1000000 in
theorem k_21 {X : Cx} {kc ks : Nat} (hl : (xl X).stackTraces = false) (C : Ok SS MM X RL cL_law 9 30 kc ks) {b L : Nat} {w : Nat → Int32} (Z : Lok X b L w) {h : Nat → Nat} {j : Nat} (hj : 6 * j + 6 ≤ L) (hL : L ≤ 3072) {c : Cg} {o : Nat → Int64} {dd : Nat → UInt64} {q : G} (I : INV (20 + j) c q) {k n : Nat} (hk : k + 6 ≤ kc) (hn : n + 36 ≤ ks) (back : ∀ c2 o2 d2 q2, INV (20 + j + 1) c2 q2 → V X (lS (xK X) h) 3915 [some (.ref b), some (.ref (h 0)), some (.ref (sh 126 h 0)), some (.ref (h 124)), some (.ref (h 125)), some (.int (nI (6 * j))), none, none, none] [] (c2, o2, d2, q2) (k + 6) (n + 36)) : V X (lS (xK X) h) 1360 [some (.ref b), some (.ref (h 0)), some (.ref (sh 126 h 0)), some (.ref (h 124)), some (.ref (h 125)), some (.int (nI (6 * j))), none, none, none] [] (c, o, dd, q) k n := by
  refine v_aload_n C dL_law_1360 rfl ?_
  refine v_aload_n C dL_law_1361 rfl ?_
  obtain ⟨dM, mc, ms, dq, post, px, pq, ⟨a1, a2, a3, a4⟩, M, Mq, hE, ⟨J1, J2⟩, hP⟩ := s_deepest hl (κ := xK X) (h := h) (by omega) I
  refine v_callSH C (hc_deepest hl (κ := xK X) (h := h) (c := c) (o := o) (dd := dd) (q := q) a1 a2 a3 M hE) ysh_L_deepest rfl ml_L_278 emb_id_lS rfl rfl rfl dL_law_1362 (Nat.le_of_ble_eq_true rfl) hk hn (Nat.le_of_ble_eq_true rfl) (fun _ _ hz => hz.elim) (fun r u hu => ?_)
  rcases hu with ⟨v, c2, hp, rfl, rfl⟩ | ⟨e, c2, i, hp, hi, rfl, rfl⟩
  · skip
    refine v_istore C dL_law_1365 rfl (Nat.le_of_ble_eq_true rfl) rfl ?_
    refine v_aload_n C dL_law_1367 rfl ?_
    refine v_callVi C Mq ym_X6_deepest ml_L_280 emb_l_q rfl rfl rfl rfl rfl dL_law_1368 (by omega) (by omega) (by omega) (Nat.le_of_ble_eq_true rfl) (fun _ _ hz => hz.elim) (fun r2 u2 hq => ?_)
    obtain ⟨t0, rfl, hIV⟩ := J1 _ _ _ _ hp hq
    refine V.stt (g2 := (c2, vp_updL o 0 (cvI v), dd, u2)) rfl ?_
    refine v_istore C dL_law_1371 rfl (Nat.le_of_ble_eq_true rfl) rfl ?_
    refine v_aload_n C dL_law_1373 rfl ?_
    refine v_callVi C (c_X6_thrown hl t0) ym_X6_thrown ml_L_211 emb_l_q rfl rfl rfl rfl rfl dL_law_1374 (Nat.le_of_ble_eq_true rfl) (by omega) (by omega) (Nat.le_of_ble_eq_true rfl) (fun _ _ hz => hz.elim) (fun r3 u3 hr => ?_)
    obtain ⟨hr, rfl⟩ := hr
    subst hr
    refine V.stt (g2 := (c2, vp_updL o 0 (cvI v), dd, u3)) rfl ?_
    refine v_iload C dL_law_1377 rfl ?_
    refine v_icmp_eq C 1384 dL_law_1379 (by decide) (fun _ => ?_) (fun z => absurd rfl z)
    refine v_iload C dL_law_1384 rfl ?_
    refine v_if_ne C 1401 dL_law_1386 (by decide) (fun z => absurd (by decide) z) (fun _ => ?_)
    refine v_aload_n C dL_law_1389 rfl ?_
    refine v_iconst C dL_law_1390 (v := nI 0) (by decide) ?_
    refine v_lald C aj_l (by decide) 0 (by decide) rfl dL_law_1391 ?_
    refine v_iload C dL_law_1392 rfl ?_
    refine v_i2l C dL_law_1394 rfl ?_
    refine v_lcmp C dL_law_1395 ?_
    refine v_if_eq C 1401 dL_law_1396 (by decide) (fun _ => ?_) (fun z => absurd (lg_out (o := o) (x := cvI v) (y := v.toInt64) rfl) z)
    refine v_goto C 3915 dL_law_1401 (by decide) ?_
    refine V.sub (lo2 := [some (.ref b), some (.ref (h 0)), some (.ref (sh 126 h 0)), some (.ref (h 124)), some (.ref (h 125)), some (.int (nI (6 * j))), none, none, none]) ⟨rfl, rfl, rfl, rfl, rfl, rfl, trivial⟩ ?_
    exact back _ _ _ _ hIV
  · skip
    refine v_istore C dL_law_1365 rfl (Nat.le_of_ble_eq_true rfl) rfl ?_
    refine v_aload_n C dL_law_1367 rfl ?_
    refine v_callVi C Mq ym_X6_deepest ml_L_280 emb_l_q rfl rfl rfl rfl rfl dL_law_1368 (by omega) (by omega) (by omega) (Nat.le_of_ble_eq_true rfl) (fun _ _ hz => hz.elim) (fun r2 u2 hq => ?_)
    obtain ⟨i2, h2, hi3, t0, hIV⟩ := J2 _ _ _ _ hp hq
    obtain rfl := EL_inj nd_S hi h2
    refine V.stt (g2 := (c2, o, dd, u2)) rfl ?_
    refine v_istore C dL_law_1371 rfl (Nat.le_of_ble_eq_true rfl) rfl ?_
    refine v_aload_n C dL_law_1373 rfl ?_
    refine v_callVi C (c_X6_thrown hl t0) ym_X6_thrown ml_L_211 emb_l_q rfl rfl rfl rfl rfl dL_law_1374 (Nat.le_of_ble_eq_true rfl) (by omega) (by omega) (Nat.le_of_ble_eq_true rfl) (fun _ _ hz => hz.elim) (fun r3 u3 hr => ?_)
    obtain ⟨hr, rfl⟩ := hr
    subst hr
    refine V.stt (g2 := (c2, o, dd, u3)) rfl ?_
    refine v_iload C dL_law_1377 rfl ?_
    refine v_icmp_eq C 1384 dL_law_1379 (by decide) (fun _ => ?_) (fun z => absurd rfl z)
    refine v_iload C dL_law_1384 rfl ?_
    refine v_if_ne C 1401 dL_law_1386 (by decide) (fun _ => ?_) (fun z => absurd z (nI_pos3 hi3))
    refine v_goto C 3915 dL_law_1401 (by decide) ?_
    refine V.sub (lo2 := [some (.ref b), some (.ref (h 0)), some (.ref (sh 126 h 0)), some (.ref (h 124)), some (.ref (h 125)), some (.int (nI (6 * j))), none, none, none]) ⟨rfl, rfl, rfl, rfl, rfl, rfl, trivial⟩ ?_
    exact back _ _ _ _ hIV
set_option maxHeartbeats 1000000 in
theorem k_22 {X : Cx} {kc ks : Nat} (hl : (xl X).stackTraces = false) (C : Ok SS MM X RL cL_law 9 30 kc ks) {b L : Nat} {w : Nat → Int32} (Z : Lok X b L w) {h : Nat → Nat} {j : Nat} (hj : 6 * j + 6 ≤ L) (hL : L ≤ 3072) {c : Cg} {o : Nat → Int64} {dd : Nat → UInt64} {q : G} (I : INV (20 + j) c q) {k n : Nat} (hk : k + 6 ≤ kc) (hn : n + 36 ≤ ks) (back : ∀ c2 o2 d2 q2, INV (20 + j + 1) c2 q2 → V X (lS (xK X) h) 3915 [some (.ref b), some (.ref (h 0)), some (.ref (sh 126 h 0)), some (.ref (h 124)), some (.ref (h 125)), some (.int (nI (6 * j))), none, none, none] [] (c2, o2, d2, q2) (k + 6) (n + 36)) : V X (lS (xK X) h) 1404 [some (.ref b), some (.ref (h 0)), some (.ref (sh 126 h 0)), some (.ref (h 124)), some (.ref (h 125)), some (.int (nI (6 * j))), none, none, none] [] (c, o, dd, q) k n := by
  refine v_aload_n C dL_law_1404 rfl ?_
  refine v_aload_n C dL_law_1405 rfl ?_
  refine v_iload C dL_law_1406 rfl ?_
  refine v_iconst C dL_law_1408 (v := nI 1) (by decide) ?_
  refine v_iaddN C dL_law_1409 ?_
  refine v_sld C Z (6 * j + 1) rfl (by omega) hL dL_law_1410 ?_
  refine v_aload_n C dL_law_1411 rfl ?_
  refine v_iload C dL_law_1412 rfl ?_
  refine v_iconst C dL_law_1414 (v := nI 2) (by decide) ?_
  refine v_iaddN C dL_law_1415 ?_
  refine v_sld C Z (6 * j + 2) rfl (by omega) hL dL_law_1416 ?_
  refine v_aload_n C dL_law_1417 rfl ?_
  obtain ⟨dM, mc, ms, dq, post, px, pq, ⟨a1, a2, a3, a4⟩, M, Mq, hE, ⟨J1, J2⟩, hP⟩ := s_distance hl (κ := xK X) (h := h) (by omega) I (w (6 * j + 1)) (w (6 * j + 2))
  refine v_callSH C (hc_distance hl (κ := xK X) (h := h) (c := c) (o := o) (dd := dd) (q := q) a1 a2 a3 M hE) ysh_L_distance rfl ml_L_281 emb_id_lS rfl rfl rfl dL_law_1418 (Nat.le_of_ble_eq_true rfl) hk hn (Nat.le_of_ble_eq_true rfl) (fun _ _ hz => hz.elim) (fun r u hu => ?_)
  rcases hu with ⟨v, c2, hp, rfl, rfl⟩ | ⟨e, c2, i, hp, hi, rfl, rfl⟩
  · skip
    refine v_istore C dL_law_1421 rfl (Nat.le_of_ble_eq_true rfl) rfl ?_
    refine v_aload_n C dL_law_1423 rfl ?_
    refine v_aload_n C dL_law_1424 rfl ?_
    refine v_iload C dL_law_1425 rfl ?_
    refine v_iconst C dL_law_1427 (v := nI 1) (by decide) ?_
    refine v_iaddN C dL_law_1428 ?_
    refine v_sld C Z (6 * j + 1) rfl (by omega) hL dL_law_1429 ?_
    refine v_aload_n C dL_law_1430 rfl ?_
    refine v_iload C dL_law_1431 rfl ?_
    refine v_iconst C dL_law_1433 (v := nI 2) (by decide) ?_
    refine v_iaddN C dL_law_1434 ?_
    refine v_sld C Z (6 * j + 2) rfl (by omega) hL dL_law_1435 ?_
    refine v_callVi C Mq ym_X6_distance ml_L_283 emb_l_q rfl rfl rfl rfl rfl dL_law_1436 (by omega) (by omega) (by omega) (Nat.le_of_ble_eq_true rfl) (fun _ _ hz => hz.elim) (fun r2 u2 hq => ?_)
    obtain ⟨t0, rfl, hIV⟩ := J1 _ _ _ _ hp hq
    refine V.stt (g2 := (c2, vp_updL o 0 (cvI v), dd, u2)) rfl ?_
    refine v_istore C dL_law_1439 rfl (Nat.le_of_ble_eq_true rfl) rfl ?_
    refine v_aload_n C dL_law_1441 rfl ?_
    refine v_callVi C (c_X6_thrown hl t0) ym_X6_thrown ml_L_211 emb_l_q rfl rfl rfl rfl rfl dL_law_1442 (Nat.le_of_ble_eq_true rfl) (by omega) (by omega) (Nat.le_of_ble_eq_true rfl) (fun _ _ hz => hz.elim) (fun r3 u3 hr => ?_)
    obtain ⟨hr, rfl⟩ := hr
    subst hr
    refine V.stt (g2 := (c2, vp_updL o 0 (cvI v), dd, u3)) rfl ?_
    refine v_iload C dL_law_1445 rfl ?_
    refine v_icmp_eq C 1452 dL_law_1447 (by decide) (fun _ => ?_) (fun z => absurd rfl z)
    refine v_iload C dL_law_1452 rfl ?_
    refine v_if_ne C 1469 dL_law_1454 (by decide) (fun z => absurd (by decide) z) (fun _ => ?_)
    refine v_aload_n C dL_law_1457 rfl ?_
    refine v_iconst C dL_law_1458 (v := nI 0) (by decide) ?_
    refine v_lald C aj_l (by decide) 0 (by decide) rfl dL_law_1459 ?_
    refine v_iload C dL_law_1460 rfl ?_
    refine v_i2l C dL_law_1462 rfl ?_
    refine v_lcmp C dL_law_1463 ?_
    refine v_if_eq C 1469 dL_law_1464 (by decide) (fun _ => ?_) (fun z => absurd (lg_out (o := o) (x := cvI v) (y := v.toInt64) rfl) z)
    refine v_goto C 3915 dL_law_1469 (by decide) ?_
    refine V.sub (lo2 := [some (.ref b), some (.ref (h 0)), some (.ref (sh 126 h 0)), some (.ref (h 124)), some (.ref (h 125)), some (.int (nI (6 * j))), none, none, none]) ⟨rfl, rfl, rfl, rfl, rfl, rfl, trivial⟩ ?_
    exact back _ _ _ _ hIV
  · skip
    refine v_istore C dL_law_1421 rfl (Nat.le_of_ble_eq_true rfl) rfl ?_
    refine v_aload_n C dL_law_1423 rfl ?_
    refine v_aload_n C dL_law_1424 rfl ?_
    refine v_iload C dL_law_1425 rfl ?_
    refine v_iconst C dL_law_1427 (v := nI 1) (by decide) ?_
    refine v_iaddN C dL_law_1428 ?_
    refine v_sld C Z (6 * j + 1) rfl (by omega) hL dL_law_1429 ?_
    refine v_aload_n C dL_law_1430 rfl ?_
    refine v_iload C dL_law_1431 rfl ?_
    refine v_iconst C dL_law_1433 (v := nI 2) (by decide) ?_
    refine v_iaddN C dL_law_1434 ?_
    refine v_sld C Z (6 * j + 2) rfl (by omega) hL dL_law_1435 ?_
    refine v_callVi C Mq ym_X6_distance ml_L_283 emb_l_q rfl rfl rfl rfl rfl dL_law_1436 (by omega) (by omega) (by omega) (Nat.le_of_ble_eq_true rfl) (fun _ _ hz => hz.elim) (fun r2 u2 hq => ?_)
    obtain ⟨i2, h2, hi3, t0, hIV⟩ := J2 _ _ _ _ hp hq
    obtain rfl := EL_inj nd_SO hi h2
    refine V.stt (g2 := (c2, o, dd, u2)) rfl ?_
    refine v_istore C dL_law_1439 rfl (Nat.le_of_ble_eq_true rfl) rfl ?_
    refine v_aload_n C dL_law_1441 rfl ?_
    refine v_callVi C (c_X6_thrown hl t0) ym_X6_thrown ml_L_211 emb_l_q rfl rfl rfl rfl rfl dL_law_1442 (Nat.le_of_ble_eq_true rfl) (by omega) (by omega) (Nat.le_of_ble_eq_true rfl) (fun _ _ hz => hz.elim) (fun r3 u3 hr => ?_)
    obtain ⟨hr, rfl⟩ := hr
    subst hr
    refine V.stt (g2 := (c2, o, dd, u3)) rfl ?_
    refine v_iload C dL_law_1445 rfl ?_
    refine v_icmp_eq C 1452 dL_law_1447 (by decide) (fun _ => ?_) (fun z => absurd rfl z)
    refine v_iload C dL_law_1452 rfl ?_
    refine v_if_ne C 1469 dL_law_1454 (by decide) (fun _ => ?_) (fun z => absurd z (nI_pos3 hi3))
    refine v_goto C 3915 dL_law_1469 (by decide) ?_
    refine V.sub (lo2 := [some (.ref b), some (.ref (h 0)), some (.ref (sh 126 h 0)), some (.ref (h 124)), some (.ref (h 125)), some (.int (nI (6 * j))), none, none, none]) ⟨rfl, rfl, rfl, rfl, rfl, rfl, trivial⟩ ?_
    exact back _ _ _ _ hIV
set_option maxHeartbeats 1000000 in
theorem k_23 {X : Cx} {kc ks : Nat} (hl : (xl X).stackTraces = false) (C : Ok SS MM X RL cL_law 9 30 kc ks) {b L : Nat} {w : Nat → Int32} (Z : Lok X b L w) {h : Nat → Nat} {j : Nat} (hj : 6 * j + 6 ≤ L) (hL : L ≤ 3072) {c : Cg} {o : Nat → Int64} {dd : Nat → UInt64} {q : G} (I : INV (20 + j) c q) {k n : Nat} (hk : k + 6 ≤ kc) (hn : n + 36 ≤ ks) (back : ∀ c2 o2 d2 q2, INV (20 + j + 1) c2 q2 → V X (lS (xK X) h) 3915 [some (.ref b), some (.ref (h 0)), some (.ref (sh 126 h 0)), some (.ref (h 124)), some (.ref (h 125)), some (.int (nI (6 * j))), none, none, none] [] (c2, o2, d2, q2) (k + 6) (n + 36)) : V X (lS (xK X) h) 1472 [some (.ref b), some (.ref (h 0)), some (.ref (sh 126 h 0)), some (.ref (h 124)), some (.ref (h 125)), some (.int (nI (6 * j))), none, none, none] [] (c, o, dd, q) k n := by
  refine v_aload_n C dL_law_1472 rfl ?_
  refine v_aload_n C dL_law_1473 rfl ?_
  obtain ⟨dM, mc, ms, dq, post, px, pq, ⟨a1, a2, a3, a4⟩, M, Mq, hE, ⟨J1, J2⟩, hP⟩ := s_oldest hl (κ := xK X) (h := h) (by omega) I
  refine v_callSH C (hc_oldest hl (κ := xK X) (h := h) (c := c) (o := o) (dd := dd) (q := q) a1 a2 a3 M hE) ysh_L_oldest rfl ml_L_284 emb_id_lS rfl rfl rfl dL_law_1474 (Nat.le_of_ble_eq_true rfl) hk hn (Nat.le_of_ble_eq_true rfl) (fun _ _ hz => hz.elim) (fun r u hu => ?_)
  rcases hu with ⟨v, c2, hp, rfl, rfl⟩ | ⟨e, c2, i, hp, hi, rfl, rfl⟩
  · skip
    refine v_istore C dL_law_1477 rfl (Nat.le_of_ble_eq_true rfl) rfl ?_
    refine v_aload_n C dL_law_1479 rfl ?_
    refine v_callVi C Mq ym_X6_oldest ml_L_286 emb_l_q rfl rfl rfl rfl rfl dL_law_1480 (by omega) (by omega) (by omega) (Nat.le_of_ble_eq_true rfl) (fun _ _ hz => hz.elim) (fun r2 u2 hq => ?_)
    obtain ⟨t0, rfl, hIV⟩ := J1 _ _ _ _ hp hq
    refine V.stt (g2 := (c2, vp_updL o 0 (cvI v), dd, u2)) rfl ?_
    refine v_istore C dL_law_1483 rfl (Nat.le_of_ble_eq_true rfl) rfl ?_
    refine v_aload_n C dL_law_1485 rfl ?_
    refine v_callVi C (c_X6_thrown hl t0) ym_X6_thrown ml_L_211 emb_l_q rfl rfl rfl rfl rfl dL_law_1486 (Nat.le_of_ble_eq_true rfl) (by omega) (by omega) (Nat.le_of_ble_eq_true rfl) (fun _ _ hz => hz.elim) (fun r3 u3 hr => ?_)
    obtain ⟨hr, rfl⟩ := hr
    subst hr
    refine V.stt (g2 := (c2, vp_updL o 0 (cvI v), dd, u3)) rfl ?_
    refine v_iload C dL_law_1489 rfl ?_
    refine v_icmp_eq C 1496 dL_law_1491 (by decide) (fun _ => ?_) (fun z => absurd rfl z)
    refine v_iload C dL_law_1496 rfl ?_
    refine v_if_ne C 1513 dL_law_1498 (by decide) (fun z => absurd (by decide) z) (fun _ => ?_)
    refine v_aload_n C dL_law_1501 rfl ?_
    refine v_iconst C dL_law_1502 (v := nI 0) (by decide) ?_
    refine v_lald C aj_l (by decide) 0 (by decide) rfl dL_law_1503 ?_
    refine v_iload C dL_law_1504 rfl ?_
    refine v_i2l C dL_law_1506 rfl ?_
    refine v_lcmp C dL_law_1507 ?_
    refine v_if_eq C 1513 dL_law_1508 (by decide) (fun _ => ?_) (fun z => absurd (lg_out (o := o) (x := cvI v) (y := v.toInt64) rfl) z)
    refine v_goto C 3915 dL_law_1513 (by decide) ?_
    refine V.sub (lo2 := [some (.ref b), some (.ref (h 0)), some (.ref (sh 126 h 0)), some (.ref (h 124)), some (.ref (h 125)), some (.int (nI (6 * j))), none, none, none]) ⟨rfl, rfl, rfl, rfl, rfl, rfl, trivial⟩ ?_
    exact back _ _ _ _ hIV
  · skip
    refine v_istore C dL_law_1477 rfl (Nat.le_of_ble_eq_true rfl) rfl ?_
    refine v_aload_n C dL_law_1479 rfl ?_
    refine v_callVi C Mq ym_X6_oldest ml_L_286 emb_l_q rfl rfl rfl rfl rfl dL_law_1480 (by omega) (by omega) (by omega) (Nat.le_of_ble_eq_true rfl) (fun _ _ hz => hz.elim) (fun r2 u2 hq => ?_)
    obtain ⟨i2, h2, hi3, t0, hIV⟩ := J2 _ _ _ _ hp hq
    obtain rfl := EL_inj nd_S hi h2
    refine V.stt (g2 := (c2, o, dd, u2)) rfl ?_
    refine v_istore C dL_law_1483 rfl (Nat.le_of_ble_eq_true rfl) rfl ?_
    refine v_aload_n C dL_law_1485 rfl ?_
    refine v_callVi C (c_X6_thrown hl t0) ym_X6_thrown ml_L_211 emb_l_q rfl rfl rfl rfl rfl dL_law_1486 (Nat.le_of_ble_eq_true rfl) (by omega) (by omega) (Nat.le_of_ble_eq_true rfl) (fun _ _ hz => hz.elim) (fun r3 u3 hr => ?_)
    obtain ⟨hr, rfl⟩ := hr
    subst hr
    refine V.stt (g2 := (c2, o, dd, u3)) rfl ?_
    refine v_iload C dL_law_1489 rfl ?_
    refine v_icmp_eq C 1496 dL_law_1491 (by decide) (fun _ => ?_) (fun z => absurd rfl z)
    refine v_iload C dL_law_1496 rfl ?_
    refine v_if_ne C 1513 dL_law_1498 (by decide) (fun _ => ?_) (fun z => absurd z (nI_pos3 hi3))
    refine v_goto C 3915 dL_law_1513 (by decide) ?_
    refine V.sub (lo2 := [some (.ref b), some (.ref (h 0)), some (.ref (sh 126 h 0)), some (.ref (h 124)), some (.ref (h 125)), some (.int (nI (6 * j))), none, none, none]) ⟨rfl, rfl, rfl, rfl, rfl, rfl, trivial⟩ ?_
    exact back _ _ _ _ hIV
set_option maxHeartbeats 1000000 in
theorem k_24 {X : Cx} {kc ks : Nat} (hl : (xl X).stackTraces = false) (C : Ok SS MM X RL cL_law 9 30 kc ks) {b L : Nat} {w : Nat → Int32} (Z : Lok X b L w) {h : Nat → Nat} {j : Nat} (hj : 6 * j + 6 ≤ L) (hL : L ≤ 3072) {c : Cg} {o : Nat → Int64} {dd : Nat → UInt64} {q : G} (I : INV (20 + j) c q) {k n : Nat} (hk : k + 6 ≤ kc) (hn : n + 36 ≤ ks) (back : ∀ c2 o2 d2 q2, INV (20 + j + 1) c2 q2 → V X (lS (xK X) h) 3915 [some (.ref b), some (.ref (h 0)), some (.ref (sh 126 h 0)), some (.ref (h 124)), some (.ref (h 125)), some (.int (nI (6 * j))), none, none, none] [] (c2, o2, d2, q2) (k + 6) (n + 36)) : V X (lS (xK X) h) 1516 [some (.ref b), some (.ref (h 0)), some (.ref (sh 126 h 0)), some (.ref (h 124)), some (.ref (h 125)), some (.int (nI (6 * j))), none, none, none] [] (c, o, dd, q) k n := by
  refine v_aload_n C dL_law_1516 rfl ?_
  refine v_aload_n C dL_law_1517 rfl ?_
  obtain ⟨dM, mc, ms, dq, post, px, pq, ⟨a1, a2, a3, a4⟩, M, Mq, hE, ⟨J1, J2⟩, hP⟩ := s_creditors hl (κ := xK X) (h := h) (by omega) I
  refine v_callSH C (hc_creditors hl (κ := xK X) (h := h) (c := c) (o := o) (dd := dd) (q := q) a1 a2 a3 M hE) ysh_L_creditors rfl ml_L_287 emb_id_lS rfl rfl rfl dL_law_1518 (Nat.le_of_ble_eq_true rfl) hk hn (Nat.le_of_ble_eq_true rfl) (fun _ _ hz => hz.elim) (fun r u hu => ?_)
  rcases hu with ⟨v, c2, hp, rfl, rfl⟩ | ⟨e, c2, i, hp, hi, rfl, rfl⟩
  · skip
    refine v_istore C dL_law_1521 rfl (Nat.le_of_ble_eq_true rfl) rfl ?_
    refine v_aload_n C dL_law_1523 rfl ?_
    refine v_callVi C Mq ym_X6_creditors ml_L_289 emb_l_q rfl rfl rfl rfl rfl dL_law_1524 (by omega) (by omega) (by omega) (Nat.le_of_ble_eq_true rfl) (fun _ _ hz => hz.elim) (fun r2 u2 hq => ?_)
    obtain ⟨t0, rfl, hIV⟩ := J1 _ _ _ _ hp hq
    refine V.stt (g2 := (c2, vp_updL o 0 (cvI v), dd, u2)) rfl ?_
    refine v_istore C dL_law_1527 rfl (Nat.le_of_ble_eq_true rfl) rfl ?_
    refine v_aload_n C dL_law_1529 rfl ?_
    refine v_callVi C (c_X6_thrown hl t0) ym_X6_thrown ml_L_211 emb_l_q rfl rfl rfl rfl rfl dL_law_1530 (Nat.le_of_ble_eq_true rfl) (by omega) (by omega) (Nat.le_of_ble_eq_true rfl) (fun _ _ hz => hz.elim) (fun r3 u3 hr => ?_)
    obtain ⟨hr, rfl⟩ := hr
    subst hr
    refine V.stt (g2 := (c2, vp_updL o 0 (cvI v), dd, u3)) rfl ?_
    refine v_iload C dL_law_1533 rfl ?_
    refine v_icmp_eq C 1540 dL_law_1535 (by decide) (fun _ => ?_) (fun z => absurd rfl z)
    refine v_iload C dL_law_1540 rfl ?_
    refine v_if_ne C 1557 dL_law_1542 (by decide) (fun z => absurd (by decide) z) (fun _ => ?_)
    refine v_aload_n C dL_law_1545 rfl ?_
    refine v_iconst C dL_law_1546 (v := nI 0) (by decide) ?_
    refine v_lald C aj_l (by decide) 0 (by decide) rfl dL_law_1547 ?_
    refine v_iload C dL_law_1548 rfl ?_
    refine v_i2l C dL_law_1550 rfl ?_
    refine v_lcmp C dL_law_1551 ?_
    refine v_if_eq C 1557 dL_law_1552 (by decide) (fun _ => ?_) (fun z => absurd (lg_out (o := o) (x := cvI v) (y := v.toInt64) rfl) z)
    refine v_goto C 3915 dL_law_1557 (by decide) ?_
    refine V.sub (lo2 := [some (.ref b), some (.ref (h 0)), some (.ref (sh 126 h 0)), some (.ref (h 124)), some (.ref (h 125)), some (.int (nI (6 * j))), none, none, none]) ⟨rfl, rfl, rfl, rfl, rfl, rfl, trivial⟩ ?_
    exact back _ _ _ _ hIV
  · skip
    refine v_istore C dL_law_1521 rfl (Nat.le_of_ble_eq_true rfl) rfl ?_
    refine v_aload_n C dL_law_1523 rfl ?_
    refine v_callVi C Mq ym_X6_creditors ml_L_289 emb_l_q rfl rfl rfl rfl rfl dL_law_1524 (by omega) (by omega) (by omega) (Nat.le_of_ble_eq_true rfl) (fun _ _ hz => hz.elim) (fun r2 u2 hq => ?_)
    obtain ⟨i2, h2, hi3, t0, hIV⟩ := J2 _ _ _ _ hp hq
    obtain rfl := EL_inj nd_S hi h2
    refine V.stt (g2 := (c2, o, dd, u2)) rfl ?_
    refine v_istore C dL_law_1527 rfl (Nat.le_of_ble_eq_true rfl) rfl ?_
    refine v_aload_n C dL_law_1529 rfl ?_
    refine v_callVi C (c_X6_thrown hl t0) ym_X6_thrown ml_L_211 emb_l_q rfl rfl rfl rfl rfl dL_law_1530 (Nat.le_of_ble_eq_true rfl) (by omega) (by omega) (Nat.le_of_ble_eq_true rfl) (fun _ _ hz => hz.elim) (fun r3 u3 hr => ?_)
    obtain ⟨hr, rfl⟩ := hr
    subst hr
    refine V.stt (g2 := (c2, o, dd, u3)) rfl ?_
    refine v_iload C dL_law_1533 rfl ?_
    refine v_icmp_eq C 1540 dL_law_1535 (by decide) (fun _ => ?_) (fun z => absurd rfl z)
    refine v_iload C dL_law_1540 rfl ?_
    refine v_if_ne C 1557 dL_law_1542 (by decide) (fun _ => ?_) (fun z => absurd z (nI_pos3 hi3))
    refine v_goto C 3915 dL_law_1557 (by decide) ?_
    refine V.sub (lo2 := [some (.ref b), some (.ref (h 0)), some (.ref (sh 126 h 0)), some (.ref (h 124)), some (.ref (h 125)), some (.int (nI (6 * j))), none, none, none]) ⟨rfl, rfl, rfl, rfl, rfl, rfl, trivial⟩ ?_
    exact back _ _ _ _ hIV
set_option maxHeartbeats 1000000 in
theorem k_25 {X : Cx} {kc ks : Nat} (hl : (xl X).stackTraces = false) (C : Ok SS MM X RL cL_law 9 30 kc ks) {b L : Nat} {w : Nat → Int32} (Z : Lok X b L w) {h : Nat → Nat} {j : Nat} (hj : 6 * j + 6 ≤ L) (hL : L ≤ 3072) {c : Cg} {o : Nat → Int64} {dd : Nat → UInt64} {q : G} (I : INV (20 + j) c q) {k n : Nat} (hk : k + 6 ≤ kc) (hn : n + 36 ≤ ks) (back : ∀ c2 o2 d2 q2, INV (20 + j + 1) c2 q2 → V X (lS (xK X) h) 3915 [some (.ref b), some (.ref (h 0)), some (.ref (sh 126 h 0)), some (.ref (h 124)), some (.ref (h 125)), some (.int (nI (6 * j))), none, none, none] [] (c2, o2, d2, q2) (k + 6) (n + 36)) : V X (lS (xK X) h) 1560 [some (.ref b), some (.ref (h 0)), some (.ref (sh 126 h 0)), some (.ref (h 124)), some (.ref (h 125)), some (.int (nI (6 * j))), none, none, none] [] (c, o, dd, q) k n := by
  refine v_aload_n C dL_law_1560 rfl ?_
  refine v_aload_n C dL_law_1561 rfl ?_
  obtain ⟨dM, mc, ms, dq, post, px, pq, ⟨a1, a2, a3, a4⟩, M, Mq, hE, ⟨J1, J2⟩, hP⟩ := s_next hl (κ := xK X) (h := h) (by omega) I
  refine v_callSH C (hc_next hl (κ := xK X) (h := h) (c := c) (o := o) (dd := dd) (q := q) a1 a2 a3 M hE) ysh_L_next rfl ml_L_290 emb_id_lS rfl rfl rfl dL_law_1562 (Nat.le_of_ble_eq_true rfl) hk hn (Nat.le_of_ble_eq_true rfl) (fun _ _ hz => hz.elim) (fun r u hu => ?_)
  rcases hu with ⟨v, c2, hp, rfl, rfl⟩ | ⟨e, c2, i, hp, hi, rfl, rfl⟩
  · skip
    refine v_istore C dL_law_1565 rfl (Nat.le_of_ble_eq_true rfl) rfl ?_
    refine v_aload_n C dL_law_1567 rfl ?_
    refine v_callVi C Mq ym_X6_next ml_L_292 emb_l_q rfl rfl rfl rfl rfl dL_law_1568 (by omega) (by omega) (by omega) (Nat.le_of_ble_eq_true rfl) (fun _ _ hz => hz.elim) (fun r2 u2 hq => ?_)
    obtain ⟨t0, rfl, hIV⟩ := J1 _ _ _ _ hp hq
    refine V.stt (g2 := (c2, vp_updL o 0 (cvI v), dd, u2)) rfl ?_
    refine v_istore C dL_law_1571 rfl (Nat.le_of_ble_eq_true rfl) rfl ?_
    refine v_aload_n C dL_law_1573 rfl ?_
    refine v_callVi C (c_X6_thrown hl t0) ym_X6_thrown ml_L_211 emb_l_q rfl rfl rfl rfl rfl dL_law_1574 (Nat.le_of_ble_eq_true rfl) (by omega) (by omega) (Nat.le_of_ble_eq_true rfl) (fun _ _ hz => hz.elim) (fun r3 u3 hr => ?_)
    obtain ⟨hr, rfl⟩ := hr
    subst hr
    refine V.stt (g2 := (c2, vp_updL o 0 (cvI v), dd, u3)) rfl ?_
    refine v_iload C dL_law_1577 rfl ?_
    refine v_icmp_eq C 1584 dL_law_1579 (by decide) (fun _ => ?_) (fun z => absurd rfl z)
    refine v_iload C dL_law_1584 rfl ?_
    refine v_if_ne C 1601 dL_law_1586 (by decide) (fun z => absurd (by decide) z) (fun _ => ?_)
    refine v_aload_n C dL_law_1589 rfl ?_
    refine v_iconst C dL_law_1590 (v := nI 0) (by decide) ?_
    refine v_lald C aj_l (by decide) 0 (by decide) rfl dL_law_1591 ?_
    refine v_iload C dL_law_1592 rfl ?_
    refine v_i2l C dL_law_1594 rfl ?_
    refine v_lcmp C dL_law_1595 ?_
    refine v_if_eq C 1601 dL_law_1596 (by decide) (fun _ => ?_) (fun z => absurd (lg_out (o := o) (x := cvI v) (y := v.toInt64) rfl) z)
    refine v_goto C 3915 dL_law_1601 (by decide) ?_
    refine V.sub (lo2 := [some (.ref b), some (.ref (h 0)), some (.ref (sh 126 h 0)), some (.ref (h 124)), some (.ref (h 125)), some (.int (nI (6 * j))), none, none, none]) ⟨rfl, rfl, rfl, rfl, rfl, rfl, trivial⟩ ?_
    exact back _ _ _ _ hIV
  · skip
    refine v_istore C dL_law_1565 rfl (Nat.le_of_ble_eq_true rfl) rfl ?_
    refine v_aload_n C dL_law_1567 rfl ?_
    refine v_callVi C Mq ym_X6_next ml_L_292 emb_l_q rfl rfl rfl rfl rfl dL_law_1568 (by omega) (by omega) (by omega) (Nat.le_of_ble_eq_true rfl) (fun _ _ hz => hz.elim) (fun r2 u2 hq => ?_)
    obtain ⟨i2, h2, hi3, t0, hIV⟩ := J2 _ _ _ _ hp hq
    obtain rfl := EL_inj nd_S hi h2
    refine V.stt (g2 := (c2, o, dd, u2)) rfl ?_
    refine v_istore C dL_law_1571 rfl (Nat.le_of_ble_eq_true rfl) rfl ?_
    refine v_aload_n C dL_law_1573 rfl ?_
    refine v_callVi C (c_X6_thrown hl t0) ym_X6_thrown ml_L_211 emb_l_q rfl rfl rfl rfl rfl dL_law_1574 (Nat.le_of_ble_eq_true rfl) (by omega) (by omega) (Nat.le_of_ble_eq_true rfl) (fun _ _ hz => hz.elim) (fun r3 u3 hr => ?_)
    obtain ⟨hr, rfl⟩ := hr
    subst hr
    refine V.stt (g2 := (c2, o, dd, u3)) rfl ?_
    refine v_iload C dL_law_1577 rfl ?_
    refine v_icmp_eq C 1584 dL_law_1579 (by decide) (fun _ => ?_) (fun z => absurd rfl z)
    refine v_iload C dL_law_1584 rfl ?_
    refine v_if_ne C 1601 dL_law_1586 (by decide) (fun _ => ?_) (fun z => absurd z (nI_pos3 hi3))
    refine v_goto C 3915 dL_law_1601 (by decide) ?_
    refine V.sub (lo2 := [some (.ref b), some (.ref (h 0)), some (.ref (sh 126 h 0)), some (.ref (h 124)), some (.ref (h 125)), some (.int (nI (6 * j))), none, none, none]) ⟨rfl, rfl, rfl, rfl, rfl, rfl, trivial⟩ ?_
    exact back _ _ _ _ hIV
set_option maxHeartbeats 1000000 in
theorem k_26 {X : Cx} {kc ks : Nat} (hl : (xl X).stackTraces = false) (C : Ok SS MM X RL cL_law 9 30 kc ks) {b L : Nat} {w : Nat → Int32} (Z : Lok X b L w) {h : Nat → Nat} {j : Nat} (hj : 6 * j + 6 ≤ L) (hL : L ≤ 3072) {c : Cg} {o : Nat → Int64} {dd : Nat → UInt64} {q : G} (I : INV (20 + j) c q) {k n : Nat} (hk : k + 6 ≤ kc) (hn : n + 36 ≤ ks) (back : ∀ c2 o2 d2 q2, INV (20 + j + 1) c2 q2 → V X (lS (xK X) h) 3915 [some (.ref b), some (.ref (h 0)), some (.ref (sh 126 h 0)), some (.ref (h 124)), some (.ref (h 125)), some (.int (nI (6 * j))), none, none, none] [] (c2, o2, d2, q2) (k + 6) (n + 36)) : V X (lS (xK X) h) 1604 [some (.ref b), some (.ref (h 0)), some (.ref (sh 126 h 0)), some (.ref (h 124)), some (.ref (h 125)), some (.int (nI (6 * j))), none, none, none] [] (c, o, dd, q) k n := by
  refine v_aload_n C dL_law_1604 rfl ?_
  refine v_aload_n C dL_law_1605 rfl ?_
  obtain ⟨dM, mc, ms, dq, post, px, pq, ⟨a1, a2, a3, a4⟩, M, Mq, hE, ⟨J1, J2⟩, hP⟩ := s_stale hl (κ := xK X) (h := h) (by omega) I
  refine v_callSH C (hc_stale hl (κ := xK X) (h := h) (c := c) (o := o) (dd := dd) (q := q) a1 a2 a3 M hE) ysh_L_stale rfl ml_L_293 emb_id_lS rfl rfl rfl dL_law_1606 (Nat.le_of_ble_eq_true rfl) hk hn (Nat.le_of_ble_eq_true rfl) (fun _ _ hz => hz.elim) (fun r u hu => ?_)
  rcases hu with ⟨v, c2, hp, rfl, rfl⟩ | ⟨e, c2, i, hp, hi, rfl, rfl⟩
  · skip
    refine v_istore C dL_law_1609 rfl (Nat.le_of_ble_eq_true rfl) rfl ?_
    refine v_aload_n C dL_law_1611 rfl ?_
    refine v_callVi C Mq ym_X6_stale ml_L_295 emb_l_q rfl rfl rfl rfl rfl dL_law_1612 (by omega) (by omega) (by omega) (Nat.le_of_ble_eq_true rfl) (fun _ _ hz => hz.elim) (fun r2 u2 hq => ?_)
    obtain ⟨t0, rfl, hIV⟩ := J1 _ _ _ _ hp hq
    refine V.stt (g2 := (c2, vp_updL o 0 (cvI v), dd, u2)) rfl ?_
    refine v_istore C dL_law_1615 rfl (Nat.le_of_ble_eq_true rfl) rfl ?_
    refine v_aload_n C dL_law_1617 rfl ?_
    refine v_callVi C (c_X6_thrown hl t0) ym_X6_thrown ml_L_211 emb_l_q rfl rfl rfl rfl rfl dL_law_1618 (Nat.le_of_ble_eq_true rfl) (by omega) (by omega) (Nat.le_of_ble_eq_true rfl) (fun _ _ hz => hz.elim) (fun r3 u3 hr => ?_)
    obtain ⟨hr, rfl⟩ := hr
    subst hr
    refine V.stt (g2 := (c2, vp_updL o 0 (cvI v), dd, u3)) rfl ?_
    refine v_iload C dL_law_1621 rfl ?_
    refine v_icmp_eq C 1628 dL_law_1623 (by decide) (fun _ => ?_) (fun z => absurd rfl z)
    refine v_iload C dL_law_1628 rfl ?_
    refine v_if_ne C 1645 dL_law_1630 (by decide) (fun z => absurd (by decide) z) (fun _ => ?_)
    refine v_aload_n C dL_law_1633 rfl ?_
    refine v_iconst C dL_law_1634 (v := nI 0) (by decide) ?_
    refine v_lald C aj_l (by decide) 0 (by decide) rfl dL_law_1635 ?_
    refine v_iload C dL_law_1636 rfl ?_
    refine v_i2l C dL_law_1638 rfl ?_
    refine v_lcmp C dL_law_1639 ?_
    refine v_if_eq C 1645 dL_law_1640 (by decide) (fun _ => ?_) (fun z => absurd (lg_out (o := o) (x := cvI v) (y := v.toInt64) rfl) z)
    refine v_goto C 3915 dL_law_1645 (by decide) ?_
    refine V.sub (lo2 := [some (.ref b), some (.ref (h 0)), some (.ref (sh 126 h 0)), some (.ref (h 124)), some (.ref (h 125)), some (.int (nI (6 * j))), none, none, none]) ⟨rfl, rfl, rfl, rfl, rfl, rfl, trivial⟩ ?_
    exact back _ _ _ _ hIV
  · skip
    refine v_istore C dL_law_1609 rfl (Nat.le_of_ble_eq_true rfl) rfl ?_
    refine v_aload_n C dL_law_1611 rfl ?_
    refine v_callVi C Mq ym_X6_stale ml_L_295 emb_l_q rfl rfl rfl rfl rfl dL_law_1612 (by omega) (by omega) (by omega) (Nat.le_of_ble_eq_true rfl) (fun _ _ hz => hz.elim) (fun r2 u2 hq => ?_)
    obtain ⟨i2, h2, hi3, t0, hIV⟩ := J2 _ _ _ _ hp hq
    obtain rfl := EL_inj nd_S hi h2
    refine V.stt (g2 := (c2, o, dd, u2)) rfl ?_
    refine v_istore C dL_law_1615 rfl (Nat.le_of_ble_eq_true rfl) rfl ?_
    refine v_aload_n C dL_law_1617 rfl ?_
    refine v_callVi C (c_X6_thrown hl t0) ym_X6_thrown ml_L_211 emb_l_q rfl rfl rfl rfl rfl dL_law_1618 (Nat.le_of_ble_eq_true rfl) (by omega) (by omega) (Nat.le_of_ble_eq_true rfl) (fun _ _ hz => hz.elim) (fun r3 u3 hr => ?_)
    obtain ⟨hr, rfl⟩ := hr
    subst hr
    refine V.stt (g2 := (c2, o, dd, u3)) rfl ?_
    refine v_iload C dL_law_1621 rfl ?_
    refine v_icmp_eq C 1628 dL_law_1623 (by decide) (fun _ => ?_) (fun z => absurd rfl z)
    refine v_iload C dL_law_1628 rfl ?_
    refine v_if_ne C 1645 dL_law_1630 (by decide) (fun _ => ?_) (fun z => absurd z (nI_pos3 hi3))
    refine v_goto C 3915 dL_law_1645 (by decide) ?_
    refine V.sub (lo2 := [some (.ref b), some (.ref (h 0)), some (.ref (sh 126 h 0)), some (.ref (h 124)), some (.ref (h 125)), some (.int (nI (6 * j))), none, none, none]) ⟨rfl, rfl, rfl, rfl, rfl, rfl, trivial⟩ ?_
    exact back _ _ _ _ hIV
set_option maxHeartbeats 1000000 in
theorem k_27 {X : Cx} {kc ks : Nat} (hl : (xl X).stackTraces = false) (C : Ok SS MM X RL cL_law 9 30 kc ks) {b L : Nat} {w : Nat → Int32} (Z : Lok X b L w) {h : Nat → Nat} {j : Nat} (hj : 6 * j + 6 ≤ L) (hL : L ≤ 3072) {c : Cg} {o : Nat → Int64} {dd : Nat → UInt64} {q : G} (I : INV (20 + j) c q) {k n : Nat} (hk : k + 6 ≤ kc) (hn : n + 36 ≤ ks) (back : ∀ c2 o2 d2 q2, INV (20 + j + 1) c2 q2 → V X (lS (xK X) h) 3915 [some (.ref b), some (.ref (h 0)), some (.ref (sh 126 h 0)), some (.ref (h 124)), some (.ref (h 125)), some (.int (nI (6 * j))), none, none, none] [] (c2, o2, d2, q2) (k + 6) (n + 36)) : V X (lS (xK X) h) 1648 [some (.ref b), some (.ref (h 0)), some (.ref (sh 126 h 0)), some (.ref (h 124)), some (.ref (h 125)), some (.int (nI (6 * j))), none, none, none] [] (c, o, dd, q) k n := by
  refine v_aload_n C dL_law_1648 rfl ?_
  refine v_aload_n C dL_law_1649 rfl ?_
  refine v_iload C dL_law_1650 rfl ?_
  refine v_iconst C dL_law_1652 (v := nI 1) (by decide) ?_
  refine v_iaddN C dL_law_1653 ?_
  refine v_sld C Z (6 * j + 1) rfl (by omega) hL dL_law_1654 ?_
  refine v_aload_n C dL_law_1655 rfl ?_
  refine v_iload C dL_law_1656 rfl ?_
  refine v_iconst C dL_law_1658 (v := nI 2) (by decide) ?_
  refine v_iaddN C dL_law_1659 ?_
  refine v_sld C Z (6 * j + 2) rfl (by omega) hL dL_law_1660 ?_
  refine v_aload_n C dL_law_1661 rfl ?_
  obtain ⟨dM, mc, ms, dq, post, px, pq, ⟨a1, a2, a3, a4⟩, M, Mq, hE, ⟨J1, J2⟩, hP⟩ := s_sum hl (κ := xK X) (h := h) (by omega) I (w (6 * j + 1)) (w (6 * j + 2))
  refine v_callSH C (hc_sum hl (κ := xK X) (h := h) (c := c) (o := o) (dd := dd) (q := q) a1 a2 a3 M hE) ysh_L_sum rfl ml_L_296 emb_id_lS rfl rfl rfl dL_law_1662 (Nat.le_of_ble_eq_true rfl) hk hn (Nat.le_of_ble_eq_true rfl) (fun _ _ hz => hz.elim) (fun r u hu => ?_)
  rcases hu with ⟨v, c2, hp, rfl, rfl⟩ | ⟨e, c2, i, hp, hi, rfl, rfl⟩
  · skip
    refine v_istore C dL_law_1665 rfl (Nat.le_of_ble_eq_true rfl) rfl ?_
    refine v_aload_n C dL_law_1667 rfl ?_
    refine v_aload_n C dL_law_1668 rfl ?_
    refine v_iload C dL_law_1669 rfl ?_
    refine v_iconst C dL_law_1671 (v := nI 1) (by decide) ?_
    refine v_iaddN C dL_law_1672 ?_
    refine v_sld C Z (6 * j + 1) rfl (by omega) hL dL_law_1673 ?_
    refine v_aload_n C dL_law_1674 rfl ?_
    refine v_iload C dL_law_1675 rfl ?_
    refine v_iconst C dL_law_1677 (v := nI 2) (by decide) ?_
    refine v_iaddN C dL_law_1678 ?_
    refine v_sld C Z (6 * j + 2) rfl (by omega) hL dL_law_1679 ?_
    refine v_callVi C Mq ym_X6_sum ml_L_298 emb_l_q rfl rfl rfl rfl rfl dL_law_1680 (by omega) (by omega) (by omega) (Nat.le_of_ble_eq_true rfl) (fun _ _ hz => hz.elim) (fun r2 u2 hq => ?_)
    obtain ⟨t0, rfl, hIV⟩ := J1 _ _ _ _ hp hq
    refine V.stt (g2 := (c2, vp_updL o 0 (cvI v), dd, u2)) rfl ?_
    refine v_istore C dL_law_1683 rfl (Nat.le_of_ble_eq_true rfl) rfl ?_
    refine v_aload_n C dL_law_1685 rfl ?_
    refine v_callVi C (c_X6_thrown hl t0) ym_X6_thrown ml_L_211 emb_l_q rfl rfl rfl rfl rfl dL_law_1686 (Nat.le_of_ble_eq_true rfl) (by omega) (by omega) (Nat.le_of_ble_eq_true rfl) (fun _ _ hz => hz.elim) (fun r3 u3 hr => ?_)
    obtain ⟨hr, rfl⟩ := hr
    subst hr
    refine V.stt (g2 := (c2, vp_updL o 0 (cvI v), dd, u3)) rfl ?_
    refine v_iload C dL_law_1689 rfl ?_
    refine v_icmp_eq C 1696 dL_law_1691 (by decide) (fun _ => ?_) (fun z => absurd rfl z)
    refine v_iload C dL_law_1696 rfl ?_
    refine v_if_ne C 1713 dL_law_1698 (by decide) (fun z => absurd (by decide) z) (fun _ => ?_)
    refine v_aload_n C dL_law_1701 rfl ?_
    refine v_iconst C dL_law_1702 (v := nI 0) (by decide) ?_
    refine v_lald C aj_l (by decide) 0 (by decide) rfl dL_law_1703 ?_
    refine v_iload C dL_law_1704 rfl ?_
    refine v_i2l C dL_law_1706 rfl ?_
    refine v_lcmp C dL_law_1707 ?_
    refine v_if_eq C 1713 dL_law_1708 (by decide) (fun _ => ?_) (fun z => absurd (lg_out (o := o) (x := cvI v) (y := v.toInt64) rfl) z)
    refine v_goto C 3915 dL_law_1713 (by decide) ?_
    refine V.sub (lo2 := [some (.ref b), some (.ref (h 0)), some (.ref (sh 126 h 0)), some (.ref (h 124)), some (.ref (h 125)), some (.int (nI (6 * j))), none, none, none]) ⟨rfl, rfl, rfl, rfl, rfl, rfl, trivial⟩ ?_
    exact back _ _ _ _ hIV
  · skip
    refine v_istore C dL_law_1665 rfl (Nat.le_of_ble_eq_true rfl) rfl ?_
    refine v_aload_n C dL_law_1667 rfl ?_
    refine v_aload_n C dL_law_1668 rfl ?_
    refine v_iload C dL_law_1669 rfl ?_
    refine v_iconst C dL_law_1671 (v := nI 1) (by decide) ?_
    refine v_iaddN C dL_law_1672 ?_
    refine v_sld C Z (6 * j + 1) rfl (by omega) hL dL_law_1673 ?_
    refine v_aload_n C dL_law_1674 rfl ?_
    refine v_iload C dL_law_1675 rfl ?_
    refine v_iconst C dL_law_1677 (v := nI 2) (by decide) ?_
    refine v_iaddN C dL_law_1678 ?_
    refine v_sld C Z (6 * j + 2) rfl (by omega) hL dL_law_1679 ?_
    refine v_callVi C Mq ym_X6_sum ml_L_298 emb_l_q rfl rfl rfl rfl rfl dL_law_1680 (by omega) (by omega) (by omega) (Nat.le_of_ble_eq_true rfl) (fun _ _ hz => hz.elim) (fun r2 u2 hq => ?_)
    obtain ⟨i2, h2, hi3, t0, hIV⟩ := J2 _ _ _ _ hp hq
    obtain rfl := EL_inj nd_SOA hi h2
    refine V.stt (g2 := (c2, o, dd, u2)) rfl ?_
    refine v_istore C dL_law_1683 rfl (Nat.le_of_ble_eq_true rfl) rfl ?_
    refine v_aload_n C dL_law_1685 rfl ?_
    refine v_callVi C (c_X6_thrown hl t0) ym_X6_thrown ml_L_211 emb_l_q rfl rfl rfl rfl rfl dL_law_1686 (Nat.le_of_ble_eq_true rfl) (by omega) (by omega) (Nat.le_of_ble_eq_true rfl) (fun _ _ hz => hz.elim) (fun r3 u3 hr => ?_)
    obtain ⟨hr, rfl⟩ := hr
    subst hr
    refine V.stt (g2 := (c2, o, dd, u3)) rfl ?_
    refine v_iload C dL_law_1689 rfl ?_
    refine v_icmp_eq C 1696 dL_law_1691 (by decide) (fun _ => ?_) (fun z => absurd rfl z)
    refine v_iload C dL_law_1696 rfl ?_
    refine v_if_ne C 1713 dL_law_1698 (by decide) (fun _ => ?_) (fun z => absurd z (nI_pos3 hi3))
    refine v_goto C 3915 dL_law_1713 (by decide) ?_
    refine V.sub (lo2 := [some (.ref b), some (.ref (h 0)), some (.ref (sh 126 h 0)), some (.ref (h 124)), some (.ref (h 125)), some (.int (nI (6 * j))), none, none, none]) ⟨rfl, rfl, rfl, rfl, rfl, rfl, trivial⟩ ?_
    exact back _ _ _ _ hIV
set_option maxHeartbeats 1000000 in
theorem k_28 {X : Cx} {kc ks : Nat} (hl : (xl X).stackTraces = false) (C : Ok SS MM X RL cL_law 9 30 kc ks) {b L : Nat} {w : Nat → Int32} (Z : Lok X b L w) {h : Nat → Nat} {j : Nat} (hj : 6 * j + 6 ≤ L) (hL : L ≤ 3072) {c : Cg} {o : Nat → Int64} {dd : Nat → UInt64} {q : G} (I : INV (20 + j) c q) {k n : Nat} (hk : k + 6 ≤ kc) (hn : n + 36 ≤ ks) (back : ∀ c2 o2 d2 q2, INV (20 + j + 1) c2 q2 → V X (lS (xK X) h) 3915 [some (.ref b), some (.ref (h 0)), some (.ref (sh 126 h 0)), some (.ref (h 124)), some (.ref (h 125)), some (.int (nI (6 * j))), none, none, none] [] (c2, o2, d2, q2) (k + 6) (n + 36)) : V X (lS (xK X) h) 1716 [some (.ref b), some (.ref (h 0)), some (.ref (sh 126 h 0)), some (.ref (h 124)), some (.ref (h 125)), some (.int (nI (6 * j))), none, none, none] [] (c, o, dd, q) k n := by
  refine v_aload_n C dL_law_1716 rfl ?_
  refine v_aload_n C dL_law_1717 rfl ?_
  refine v_iload C dL_law_1718 rfl ?_
  refine v_iconst C dL_law_1720 (v := nI 1) (by decide) ?_
  refine v_iaddN C dL_law_1721 ?_
  refine v_sld C Z (6 * j + 1) rfl (by omega) hL dL_law_1722 ?_
  refine v_aload_n C dL_law_1723 rfl ?_
  refine v_iload C dL_law_1724 rfl ?_
  refine v_iconst C dL_law_1726 (v := nI 2) (by decide) ?_
  refine v_iaddN C dL_law_1727 ?_
  refine v_sld C Z (6 * j + 2) rfl (by omega) hL dL_law_1728 ?_
  refine v_aload_n C dL_law_1729 rfl ?_
  obtain ⟨dM, mc, ms, dq, post, px, pq, ⟨a1, a2, a3, a4⟩, M, Mq, hE, ⟨J1, J2⟩, hP⟩ := s_find hl (κ := xK X) (h := h) (by omega) I (w (6 * j + 1)) (w (6 * j + 2))
  refine v_callSH C (hc_find hl (κ := xK X) (h := h) (c := c) (o := o) (dd := dd) (q := q) a1 a2 a3 M hE) ysh_L_find rfl ml_L_299 emb_id_lS rfl rfl rfl dL_law_1730 (Nat.le_of_ble_eq_true rfl) hk hn (Nat.le_of_ble_eq_true rfl) (fun _ _ hz => hz.elim) (fun r u hu => ?_)
  rcases hu with ⟨v, c2, hp, rfl, rfl⟩ | ⟨e, c2, i, hp, hi, rfl, rfl⟩
  · skip
    refine v_istore C dL_law_1733 rfl (Nat.le_of_ble_eq_true rfl) rfl ?_
    refine v_aload_n C dL_law_1735 rfl ?_
    refine v_aload_n C dL_law_1736 rfl ?_
    refine v_iload C dL_law_1737 rfl ?_
    refine v_iconst C dL_law_1739 (v := nI 1) (by decide) ?_
    refine v_iaddN C dL_law_1740 ?_
    refine v_sld C Z (6 * j + 1) rfl (by omega) hL dL_law_1741 ?_
    refine v_aload_n C dL_law_1742 rfl ?_
    refine v_iload C dL_law_1743 rfl ?_
    refine v_iconst C dL_law_1745 (v := nI 2) (by decide) ?_
    refine v_iaddN C dL_law_1746 ?_
    refine v_sld C Z (6 * j + 2) rfl (by omega) hL dL_law_1747 ?_
    refine v_callVi C Mq ym_X6_find ml_L_301 emb_l_q rfl rfl rfl rfl rfl dL_law_1748 (by omega) (by omega) (by omega) (Nat.le_of_ble_eq_true rfl) (fun _ _ hz => hz.elim) (fun r2 u2 hq => ?_)
    obtain ⟨t0, rfl, hIV⟩ := J1 _ _ _ _ hp hq
    refine V.stt (g2 := (c2, vp_updL o 0 (cvI v), dd, u2)) rfl ?_
    refine v_istore C dL_law_1751 rfl (Nat.le_of_ble_eq_true rfl) rfl ?_
    refine v_aload_n C dL_law_1753 rfl ?_
    refine v_callVi C (c_X6_thrown hl t0) ym_X6_thrown ml_L_211 emb_l_q rfl rfl rfl rfl rfl dL_law_1754 (Nat.le_of_ble_eq_true rfl) (by omega) (by omega) (Nat.le_of_ble_eq_true rfl) (fun _ _ hz => hz.elim) (fun r3 u3 hr => ?_)
    obtain ⟨hr, rfl⟩ := hr
    subst hr
    refine V.stt (g2 := (c2, vp_updL o 0 (cvI v), dd, u3)) rfl ?_
    refine v_iload C dL_law_1757 rfl ?_
    refine v_icmp_eq C 1764 dL_law_1759 (by decide) (fun _ => ?_) (fun z => absurd rfl z)
    refine v_iload C dL_law_1764 rfl ?_
    refine v_if_ne C 1781 dL_law_1766 (by decide) (fun z => absurd (by decide) z) (fun _ => ?_)
    refine v_aload_n C dL_law_1769 rfl ?_
    refine v_iconst C dL_law_1770 (v := nI 0) (by decide) ?_
    refine v_lald C aj_l (by decide) 0 (by decide) rfl dL_law_1771 ?_
    refine v_iload C dL_law_1772 rfl ?_
    refine v_i2l C dL_law_1774 rfl ?_
    refine v_lcmp C dL_law_1775 ?_
    refine v_if_eq C 1781 dL_law_1776 (by decide) (fun _ => ?_) (fun z => absurd (lg_out (o := o) (x := cvI v) (y := v.toInt64) rfl) z)
    refine v_goto C 3915 dL_law_1781 (by decide) ?_
    refine V.sub (lo2 := [some (.ref b), some (.ref (h 0)), some (.ref (sh 126 h 0)), some (.ref (h 124)), some (.ref (h 125)), some (.int (nI (6 * j))), none, none, none]) ⟨rfl, rfl, rfl, rfl, rfl, rfl, trivial⟩ ?_
    exact back _ _ _ _ hIV
  · skip
    refine v_istore C dL_law_1733 rfl (Nat.le_of_ble_eq_true rfl) rfl ?_
    refine v_aload_n C dL_law_1735 rfl ?_
    refine v_aload_n C dL_law_1736 rfl ?_
    refine v_iload C dL_law_1737 rfl ?_
    refine v_iconst C dL_law_1739 (v := nI 1) (by decide) ?_
    refine v_iaddN C dL_law_1740 ?_
    refine v_sld C Z (6 * j + 1) rfl (by omega) hL dL_law_1741 ?_
    refine v_aload_n C dL_law_1742 rfl ?_
    refine v_iload C dL_law_1743 rfl ?_
    refine v_iconst C dL_law_1745 (v := nI 2) (by decide) ?_
    refine v_iaddN C dL_law_1746 ?_
    refine v_sld C Z (6 * j + 2) rfl (by omega) hL dL_law_1747 ?_
    refine v_callVi C Mq ym_X6_find ml_L_301 emb_l_q rfl rfl rfl rfl rfl dL_law_1748 (by omega) (by omega) (by omega) (Nat.le_of_ble_eq_true rfl) (fun _ _ hz => hz.elim) (fun r2 u2 hq => ?_)
    obtain ⟨i2, h2, hi3, t0, hIV⟩ := J2 _ _ _ _ hp hq
    obtain rfl := EL_inj nd_SOA hi h2
    refine V.stt (g2 := (c2, o, dd, u2)) rfl ?_
    refine v_istore C dL_law_1751 rfl (Nat.le_of_ble_eq_true rfl) rfl ?_
    refine v_aload_n C dL_law_1753 rfl ?_
    refine v_callVi C (c_X6_thrown hl t0) ym_X6_thrown ml_L_211 emb_l_q rfl rfl rfl rfl rfl dL_law_1754 (Nat.le_of_ble_eq_true rfl) (by omega) (by omega) (Nat.le_of_ble_eq_true rfl) (fun _ _ hz => hz.elim) (fun r3 u3 hr => ?_)
    obtain ⟨hr, rfl⟩ := hr
    subst hr
    refine V.stt (g2 := (c2, o, dd, u3)) rfl ?_
    refine v_iload C dL_law_1757 rfl ?_
    refine v_icmp_eq C 1764 dL_law_1759 (by decide) (fun _ => ?_) (fun z => absurd rfl z)
    refine v_iload C dL_law_1764 rfl ?_
    refine v_if_ne C 1781 dL_law_1766 (by decide) (fun _ => ?_) (fun z => absurd z (nI_pos3 hi3))
    refine v_goto C 3915 dL_law_1781 (by decide) ?_
    refine V.sub (lo2 := [some (.ref b), some (.ref (h 0)), some (.ref (sh 126 h 0)), some (.ref (h 124)), some (.ref (h 125)), some (.int (nI (6 * j))), none, none, none]) ⟨rfl, rfl, rfl, rfl, rfl, rfl, trivial⟩ ?_
    exact back _ _ _ _ hIV
set_option maxHeartbeats 1000000 in
theorem k_29 {X : Cx} {kc ks : Nat} (hl : (xl X).stackTraces = false) (C : Ok SS MM X RL cL_law 9 30 kc ks) {b L : Nat} {w : Nat → Int32} (Z : Lok X b L w) {h : Nat → Nat} {j : Nat} (hj : 6 * j + 6 ≤ L) (hL : L ≤ 3072) {c : Cg} {o : Nat → Int64} {dd : Nat → UInt64} {q : G} (I : INV (20 + j) c q) {k n : Nat} (hk : k + 6 ≤ kc) (hn : n + 36 ≤ ks) (back : ∀ c2 o2 d2 q2, INV (20 + j + 1) c2 q2 → V X (lS (xK X) h) 3915 [some (.ref b), some (.ref (h 0)), some (.ref (sh 126 h 0)), some (.ref (h 124)), some (.ref (h 125)), some (.int (nI (6 * j))), none, none, none] [] (c2, o2, d2, q2) (k + 6) (n + 36)) : V X (lS (xK X) h) 1784 [some (.ref b), some (.ref (h 0)), some (.ref (sh 126 h 0)), some (.ref (h 124)), some (.ref (h 125)), some (.int (nI (6 * j))), none, none, none] [] (c, o, dd, q) k n := by
  refine v_aload_n C dL_law_1784 rfl ?_
  refine v_aload_n C dL_law_1785 rfl ?_
  refine v_iload C dL_law_1786 rfl ?_
  refine v_iconst C dL_law_1788 (v := nI 1) (by decide) ?_
  refine v_iaddN C dL_law_1789 ?_
  refine v_sld C Z (6 * j + 1) rfl (by omega) hL dL_law_1790 ?_
  refine v_aload_n C dL_law_1791 rfl ?_
  refine v_iload C dL_law_1792 rfl ?_
  refine v_iconst C dL_law_1794 (v := nI 2) (by decide) ?_
  refine v_iaddN C dL_law_1795 ?_
  refine v_sld C Z (6 * j + 2) rfl (by omega) hL dL_law_1796 ?_
  refine v_aload_n C dL_law_1797 rfl ?_
  refine v_iload C dL_law_1798 rfl ?_
  refine v_iconst C dL_law_1800 (v := nI 3) (by decide) ?_
  refine v_iaddN C dL_law_1801 ?_
  refine v_sld C Z (6 * j + 3) rfl (by omega) hL dL_law_1802 ?_
  refine v_aload_n C dL_law_1803 rfl ?_
  obtain ⟨dM, mc, ms, dq, post, px, pq, ⟨a1, a2, a3, a4⟩, M, Mq, hE, ⟨J1, J2⟩, hP⟩ := s_same hl (κ := xK X) (h := h) (by omega) I (w (6 * j + 1)) (w (6 * j + 2)) (w (6 * j + 3))
  refine v_callSH C (hc_same hl (κ := xK X) (h := h) (c := c) (o := o) (dd := dd) (q := q) a1 a2 a3 M hE) ysh_L_same rfl ml_L_302 emb_id_lS rfl rfl rfl dL_law_1804 (Nat.le_of_ble_eq_true rfl) hk hn (Nat.le_of_ble_eq_true rfl) (fun _ _ hz => hz.elim) (fun r u hu => ?_)
  rcases hu with ⟨v, c2, hp, rfl, rfl⟩ | ⟨e, c2, i, hp, hi, rfl, rfl⟩
  · skip
    refine v_istore C dL_law_1807 rfl (Nat.le_of_ble_eq_true rfl) rfl ?_
    refine v_aload_n C dL_law_1809 rfl ?_
    refine v_aload_n C dL_law_1810 rfl ?_
    refine v_iload C dL_law_1811 rfl ?_
    refine v_iconst C dL_law_1813 (v := nI 1) (by decide) ?_
    refine v_iaddN C dL_law_1814 ?_
    refine v_sld C Z (6 * j + 1) rfl (by omega) hL dL_law_1815 ?_
    refine v_aload_n C dL_law_1816 rfl ?_
    refine v_iload C dL_law_1817 rfl ?_
    refine v_iconst C dL_law_1819 (v := nI 2) (by decide) ?_
    refine v_iaddN C dL_law_1820 ?_
    refine v_sld C Z (6 * j + 2) rfl (by omega) hL dL_law_1821 ?_
    refine v_aload_n C dL_law_1822 rfl ?_
    refine v_iload C dL_law_1823 rfl ?_
    refine v_iconst C dL_law_1825 (v := nI 3) (by decide) ?_
    refine v_iaddN C dL_law_1826 ?_
    refine v_sld C Z (6 * j + 3) rfl (by omega) hL dL_law_1827 ?_
    refine v_callVi C Mq ym_X6_same ml_L_305 emb_l_q rfl rfl rfl rfl rfl dL_law_1828 (by omega) (by omega) (by omega) (Nat.le_of_ble_eq_true rfl) (fun _ _ hz => hz.elim) (fun r2 u2 hq => ?_)
    obtain ⟨t0, rfl, hIV⟩ := J1 _ _ _ _ hp hq
    refine V.stt (g2 := (c2, vp_updL o 0 (cvZ v), dd, u2)) rfl ?_
    refine v_istore C dL_law_1831 rfl (Nat.le_of_ble_eq_true rfl) rfl ?_
    refine v_aload_n C dL_law_1833 rfl ?_
    refine v_callVi C (c_X6_thrown hl t0) ym_X6_thrown ml_L_211 emb_l_q rfl rfl rfl rfl rfl dL_law_1834 (Nat.le_of_ble_eq_true rfl) (by omega) (by omega) (Nat.le_of_ble_eq_true rfl) (fun _ _ hz => hz.elim) (fun r3 u3 hr => ?_)
    obtain ⟨hr, rfl⟩ := hr
    subst hr
    refine V.stt (g2 := (c2, vp_updL o 0 (cvZ v), dd, u3)) rfl ?_
    refine v_iload C dL_law_1837 rfl ?_
    refine v_icmp_eq C 1844 dL_law_1839 (by decide) (fun _ => ?_) (fun z => absurd rfl z)
    refine v_iload C dL_law_1844 rfl ?_
    refine v_if_ne C 1868 dL_law_1846 (by decide) (fun z => absurd (by decide) z) (fun _ => ?_)
    refine v_aload_n C dL_law_1849 rfl ?_
    refine v_iconst C dL_law_1850 (v := nI 0) (by decide) ?_
    refine v_lald C aj_l (by decide) 0 (by decide) rfl dL_law_1851 ?_
    refine v_iload C dL_law_1852 rfl ?_
    refine v_if_eq C 1861 dL_law_1854 (by decide) (fun hz => ?_) (fun hz => ?_)
    · skip
      refine v_lconst C dL_law_1861 (v := 0) (by decide) ?_
      refine v_lcmp C dL_law_1862 ?_
      refine v_if_eq C 1868 dL_law_1863 (by decide) (fun _ => ?_) (fun z => absurd (lg_out (o := o) (x := cvZ v) (y := 0) (if_pos hz)) z)
      refine v_goto C 3915 dL_law_1868 (by decide) ?_
      refine V.sub (lo2 := [some (.ref b), some (.ref (h 0)), some (.ref (sh 126 h 0)), some (.ref (h 124)), some (.ref (h 125)), some (.int (nI (6 * j))), none, none, none]) ⟨rfl, rfl, rfl, rfl, rfl, rfl, trivial⟩ ?_
      exact back _ _ _ _ hIV
    · skip
      refine v_lconst C dL_law_1857 (v := 1) (by decide) ?_
      refine v_goto C 1862 dL_law_1858 (by decide) ?_
      refine v_lcmp C dL_law_1862 ?_
      refine v_if_eq C 1868 dL_law_1863 (by decide) (fun _ => ?_) (fun z => absurd (lg_out (o := o) (x := cvZ v) (y := 1) (if_neg hz)) z)
      refine v_goto C 3915 dL_law_1868 (by decide) ?_
      refine V.sub (lo2 := [some (.ref b), some (.ref (h 0)), some (.ref (sh 126 h 0)), some (.ref (h 124)), some (.ref (h 125)), some (.int (nI (6 * j))), none, none, none]) ⟨rfl, rfl, rfl, rfl, rfl, rfl, trivial⟩ ?_
      exact back _ _ _ _ hIV
  · skip
    refine v_istore C dL_law_1807 rfl (Nat.le_of_ble_eq_true rfl) rfl ?_
    refine v_aload_n C dL_law_1809 rfl ?_
    refine v_aload_n C dL_law_1810 rfl ?_
    refine v_iload C dL_law_1811 rfl ?_
    refine v_iconst C dL_law_1813 (v := nI 1) (by decide) ?_
    refine v_iaddN C dL_law_1814 ?_
    refine v_sld C Z (6 * j + 1) rfl (by omega) hL dL_law_1815 ?_
    refine v_aload_n C dL_law_1816 rfl ?_
    refine v_iload C dL_law_1817 rfl ?_
    refine v_iconst C dL_law_1819 (v := nI 2) (by decide) ?_
    refine v_iaddN C dL_law_1820 ?_
    refine v_sld C Z (6 * j + 2) rfl (by omega) hL dL_law_1821 ?_
    refine v_aload_n C dL_law_1822 rfl ?_
    refine v_iload C dL_law_1823 rfl ?_
    refine v_iconst C dL_law_1825 (v := nI 3) (by decide) ?_
    refine v_iaddN C dL_law_1826 ?_
    refine v_sld C Z (6 * j + 3) rfl (by omega) hL dL_law_1827 ?_
    refine v_callVi C Mq ym_X6_same ml_L_305 emb_l_q rfl rfl rfl rfl rfl dL_law_1828 (by omega) (by omega) (by omega) (Nat.le_of_ble_eq_true rfl) (fun _ _ hz => hz.elim) (fun r2 u2 hq => ?_)
    obtain ⟨i2, h2, hi3, t0, hIV⟩ := J2 _ _ _ _ hp hq
    obtain rfl := EL_inj nd_SOA hi h2
    refine V.stt (g2 := (c2, o, dd, u2)) rfl ?_
    refine v_istore C dL_law_1831 rfl (Nat.le_of_ble_eq_true rfl) rfl ?_
    refine v_aload_n C dL_law_1833 rfl ?_
    refine v_callVi C (c_X6_thrown hl t0) ym_X6_thrown ml_L_211 emb_l_q rfl rfl rfl rfl rfl dL_law_1834 (Nat.le_of_ble_eq_true rfl) (by omega) (by omega) (Nat.le_of_ble_eq_true rfl) (fun _ _ hz => hz.elim) (fun r3 u3 hr => ?_)
    obtain ⟨hr, rfl⟩ := hr
    subst hr
    refine V.stt (g2 := (c2, o, dd, u3)) rfl ?_
    refine v_iload C dL_law_1837 rfl ?_
    refine v_icmp_eq C 1844 dL_law_1839 (by decide) (fun _ => ?_) (fun z => absurd rfl z)
    refine v_iload C dL_law_1844 rfl ?_
    refine v_if_ne C 1868 dL_law_1846 (by decide) (fun _ => ?_) (fun z => absurd z (nI_pos3 hi3))
    refine v_goto C 3915 dL_law_1868 (by decide) ?_
    refine V.sub (lo2 := [some (.ref b), some (.ref (h 0)), some (.ref (sh 126 h 0)), some (.ref (h 124)), some (.ref (h 125)), some (.int (nI (6 * j))), none, none, none]) ⟨rfl, rfl, rfl, rfl, rfl, rfl, trivial⟩ ?_
    exact back _ _ _ _ hIV
set_option maxHeartbeats 1000000 in
theorem k_30 {X : Cx} {kc ks : Nat} (hl : (xl X).stackTraces = false) (C : Ok SS MM X RL cL_law 9 30 kc ks) {b L : Nat} {w : Nat → Int32} (Z : Lok X b L w) {h : Nat → Nat} {j : Nat} (hj : 6 * j + 6 ≤ L) (hL : L ≤ 3072) {c : Cg} {o : Nat → Int64} {dd : Nat → UInt64} {q : G} (I : INV (20 + j) c q) {k n : Nat} (hk : k + 6 ≤ kc) (hn : n + 36 ≤ ks) (back : ∀ c2 o2 d2 q2, INV (20 + j + 1) c2 q2 → V X (lS (xK X) h) 3915 [some (.ref b), some (.ref (h 0)), some (.ref (sh 126 h 0)), some (.ref (h 124)), some (.ref (h 125)), some (.int (nI (6 * j))), none, none, none] [] (c2, o2, d2, q2) (k + 6) (n + 36)) : V X (lS (xK X) h) 1871 [some (.ref b), some (.ref (h 0)), some (.ref (sh 126 h 0)), some (.ref (h 124)), some (.ref (h 125)), some (.int (nI (6 * j))), none, none, none] [] (c, o, dd, q) k n := by
  refine v_aload_n C dL_law_1871 rfl ?_
  refine v_aload_n C dL_law_1872 rfl ?_
  obtain ⟨dM, mc, ms, dq, post, px, pq, ⟨a1, a2, a3, a4⟩, M, Mq, hE, ⟨J1, J2⟩, hP⟩ := s_checksum hl (κ := xK X) (h := h) (by omega) I
  refine v_callSH C (hc_checksum hl (κ := xK X) (h := h) (c := c) (o := o) (dd := dd) (q := q) a1 a2 a3 M hE) ysh_L_checksum rfl ml_L_306 emb_id_lS rfl rfl rfl dL_law_1873 (Nat.le_of_ble_eq_true rfl) hk hn (Nat.le_of_ble_eq_true rfl) (fun _ _ hz => hz.elim) (fun r u hu => ?_)
  rcases hu with ⟨v, c2, hp, rfl, rfl⟩ | ⟨e, c2, i, hp, hi, rfl, rfl⟩
  · skip
    refine v_istore C dL_law_1876 rfl (Nat.le_of_ble_eq_true rfl) rfl ?_
    refine v_aload_n C dL_law_1878 rfl ?_
    refine v_callVl C Mq ym_X6_checksum ml_L_308 emb_l_q rfl rfl rfl rfl rfl dL_law_1879 (by omega) (by omega) (by omega) (Nat.le_of_ble_eq_true rfl) (fun _ _ hz => hz.elim) (fun r2 u2 hq => ?_)
    obtain ⟨t0, rfl, hIV⟩ := J1 _ _ _ _ hp hq
    refine V.stt (g2 := (c2, vp_updL o 0 (v), dd, u2)) rfl ?_
    refine v_lstore C dL_law_1882 rfl (Nat.le_of_ble_eq_true rfl) rfl ?_
    refine v_aload_n C dL_law_1884 rfl ?_
    refine v_callVi C (c_X6_thrown hl t0) ym_X6_thrown ml_L_211 emb_l_q rfl rfl rfl rfl rfl dL_law_1885 (Nat.le_of_ble_eq_true rfl) (by omega) (by omega) (Nat.le_of_ble_eq_true rfl) (fun _ _ hz => hz.elim) (fun r3 u3 hr => ?_)
    obtain ⟨hr, rfl⟩ := hr
    subst hr
    refine V.stt (g2 := (c2, vp_updL o 0 (v), dd, u3)) rfl ?_
    refine v_iload C dL_law_1888 rfl ?_
    refine v_icmp_eq C 1895 dL_law_1890 (by decide) (fun _ => ?_) (fun z => absurd rfl z)
    refine v_iload C dL_law_1895 rfl ?_
    refine v_if_ne C 1911 dL_law_1897 (by decide) (fun z => absurd (by decide) z) (fun _ => ?_)
    refine v_aload_n C dL_law_1900 rfl ?_
    refine v_iconst C dL_law_1901 (v := nI 0) (by decide) ?_
    refine v_lald C aj_l (by decide) 0 (by decide) rfl dL_law_1902 ?_
    refine v_lload C dL_law_1903 rfl ?_
    refine v_lcmp C dL_law_1905 ?_
    refine v_if_eq C 1911 dL_law_1906 (by decide) (fun _ => ?_) (fun z => absurd (lg_out (o := o) (x := v) (y := v) rfl) z)
    refine v_goto C 3915 dL_law_1911 (by decide) ?_
    refine V.sub (lo2 := [some (.ref b), some (.ref (h 0)), some (.ref (sh 126 h 0)), some (.ref (h 124)), some (.ref (h 125)), some (.int (nI (6 * j))), none, none, none]) ⟨rfl, rfl, rfl, rfl, rfl, rfl, trivial⟩ ?_
    exact back _ _ _ _ hIV
  · skip
    refine v_istore C dL_law_1876 rfl (Nat.le_of_ble_eq_true rfl) rfl ?_
    refine v_aload_n C dL_law_1878 rfl ?_
    refine v_callVl C Mq ym_X6_checksum ml_L_308 emb_l_q rfl rfl rfl rfl rfl dL_law_1879 (by omega) (by omega) (by omega) (Nat.le_of_ble_eq_true rfl) (fun _ _ hz => hz.elim) (fun r2 u2 hq => ?_)
    obtain ⟨i2, h2, hi3, t0, hIV⟩ := J2 _ _ _ _ hp hq
    obtain rfl := EL_inj nd_S hi h2
    refine V.stt (g2 := (c2, o, dd, u2)) rfl ?_
    refine v_lstore C dL_law_1882 rfl (Nat.le_of_ble_eq_true rfl) rfl ?_
    refine v_aload_n C dL_law_1884 rfl ?_
    refine v_callVi C (c_X6_thrown hl t0) ym_X6_thrown ml_L_211 emb_l_q rfl rfl rfl rfl rfl dL_law_1885 (Nat.le_of_ble_eq_true rfl) (by omega) (by omega) (Nat.le_of_ble_eq_true rfl) (fun _ _ hz => hz.elim) (fun r3 u3 hr => ?_)
    obtain ⟨hr, rfl⟩ := hr
    subst hr
    refine V.stt (g2 := (c2, o, dd, u3)) rfl ?_
    refine v_iload C dL_law_1888 rfl ?_
    refine v_icmp_eq C 1895 dL_law_1890 (by decide) (fun _ => ?_) (fun z => absurd rfl z)
    refine v_iload C dL_law_1895 rfl ?_
    refine v_if_ne C 1911 dL_law_1897 (by decide) (fun _ => ?_) (fun z => absurd z (nI_pos3 hi3))
    refine v_goto C 3915 dL_law_1911 (by decide) ?_
    refine V.sub (lo2 := [some (.ref b), some (.ref (h 0)), some (.ref (sh 126 h 0)), some (.ref (h 124)), some (.ref (h 125)), some (.int (nI (6 * j))), none, none, none]) ⟨rfl, rfl, rfl, rfl, rfl, rfl, trivial⟩ ?_
    exact back _ _ _ _ hIV
set_option maxHeartbeats 1000000 in
theorem k_31 {X : Cx} {kc ks : Nat} (hl : (xl X).stackTraces = false) (C : Ok SS MM X RL cL_law 9 30 kc ks) {b L : Nat} {w : Nat → Int32} (Z : Lok X b L w) {h : Nat → Nat} {j : Nat} (hj : 6 * j + 6 ≤ L) (hL : L ≤ 3072) {c : Cg} {o : Nat → Int64} {dd : Nat → UInt64} {q : G} (I : INV (20 + j) c q) {k n : Nat} (hk : k + 6 ≤ kc) (hn : n + 36 ≤ ks) (back : ∀ c2 o2 d2 q2, INV (20 + j + 1) c2 q2 → V X (lS (xK X) h) 3915 [some (.ref b), some (.ref (h 0)), some (.ref (sh 126 h 0)), some (.ref (h 124)), some (.ref (h 125)), some (.int (nI (6 * j))), none, none, none] [] (c2, o2, d2, q2) (k + 6) (n + 36)) : V X (lS (xK X) h) 1914 [some (.ref b), some (.ref (h 0)), some (.ref (sh 126 h 0)), some (.ref (h 124)), some (.ref (h 125)), some (.int (nI (6 * j))), none, none, none] [] (c, o, dd, q) k n := by
  refine v_aload_n C dL_law_1914 rfl ?_
  refine v_aload_n C dL_law_1915 rfl ?_
  refine v_iload C dL_law_1916 rfl ?_
  refine v_iconst C dL_law_1918 (v := nI 1) (by decide) ?_
  refine v_iaddN C dL_law_1919 ?_
  refine v_sld C Z (6 * j + 1) rfl (by omega) hL dL_law_1920 ?_
  refine v_aload_n C dL_law_1921 rfl ?_
  refine v_iload C dL_law_1922 rfl ?_
  refine v_iconst C dL_law_1924 (v := nI 2) (by decide) ?_
  refine v_iaddN C dL_law_1925 ?_
  refine v_sld C Z (6 * j + 2) rfl (by omega) hL dL_law_1926 ?_
  refine v_aload_n C dL_law_1927 rfl ?_
  refine v_iload C dL_law_1928 rfl ?_
  refine v_iconst C dL_law_1930 (v := nI 3) (by decide) ?_
  refine v_iaddN C dL_law_1931 ?_
  refine v_sld C Z (6 * j + 3) rfl (by omega) hL dL_law_1932 ?_
  refine v_aload_n C dL_law_1933 rfl ?_
  obtain ⟨dM, mc, ms, dq, post, px, pq, ⟨a1, a2, a3, a4⟩, M, Mq, hE, ⟨J1, J2⟩, hP⟩ := s_whyCopy hl (κ := xK X) (h := h) (by omega) I (w (6 * j + 1)) (w (6 * j + 2)) (w (6 * j + 3))
  refine v_callSH C (hc_whyCopy hl (κ := xK X) (h := h) (c := c) (o := o) (dd := dd) (q := q) a1 a2 a3 M hE) ysh_L_whyCopy rfl ml_L_309 emb_id_lS rfl rfl rfl dL_law_1934 (Nat.le_of_ble_eq_true rfl) hk hn (Nat.le_of_ble_eq_true rfl) (fun _ _ hz => hz.elim) (fun r u hu => ?_)
  rcases hu with ⟨v, c2, hp, rfl, rfl⟩ | ⟨e, c2, i, hp, hi, rfl, rfl⟩
  · skip
    refine v_istore C dL_law_1937 rfl (Nat.le_of_ble_eq_true rfl) rfl ?_
    refine v_aload_n C dL_law_1939 rfl ?_
    refine v_aload_n C dL_law_1940 rfl ?_
    refine v_iload C dL_law_1941 rfl ?_
    refine v_iconst C dL_law_1943 (v := nI 1) (by decide) ?_
    refine v_iaddN C dL_law_1944 ?_
    refine v_sld C Z (6 * j + 1) rfl (by omega) hL dL_law_1945 ?_
    refine v_aload_n C dL_law_1946 rfl ?_
    refine v_iload C dL_law_1947 rfl ?_
    refine v_iconst C dL_law_1949 (v := nI 2) (by decide) ?_
    refine v_iaddN C dL_law_1950 ?_
    refine v_sld C Z (6 * j + 2) rfl (by omega) hL dL_law_1951 ?_
    refine v_aload_n C dL_law_1952 rfl ?_
    refine v_iload C dL_law_1953 rfl ?_
    refine v_iconst C dL_law_1955 (v := nI 3) (by decide) ?_
    refine v_iaddN C dL_law_1956 ?_
    refine v_sld C Z (6 * j + 3) rfl (by omega) hL dL_law_1957 ?_
    refine v_callVi C Mq ym_X6_whyCopy ml_L_311 emb_l_q rfl rfl rfl rfl rfl dL_law_1958 (by omega) (by omega) (by omega) (Nat.le_of_ble_eq_true rfl) (fun _ _ hz => hz.elim) (fun r2 u2 hq => ?_)
    obtain ⟨t0, rfl, hIV⟩ := J1 _ _ _ _ hp hq
    refine V.stt (g2 := (c2, vp_updL o 0 (cvI v), dd, u2)) rfl ?_
    refine v_istore C dL_law_1961 rfl (Nat.le_of_ble_eq_true rfl) rfl ?_
    refine v_aload_n C dL_law_1963 rfl ?_
    refine v_callVi C (c_X6_thrown hl t0) ym_X6_thrown ml_L_211 emb_l_q rfl rfl rfl rfl rfl dL_law_1964 (Nat.le_of_ble_eq_true rfl) (by omega) (by omega) (Nat.le_of_ble_eq_true rfl) (fun _ _ hz => hz.elim) (fun r3 u3 hr => ?_)
    obtain ⟨hr, rfl⟩ := hr
    subst hr
    refine V.stt (g2 := (c2, vp_updL o 0 (cvI v), dd, u3)) rfl ?_
    refine v_iload C dL_law_1967 rfl ?_
    refine v_icmp_eq C 1974 dL_law_1969 (by decide) (fun _ => ?_) (fun z => absurd rfl z)
    refine v_iload C dL_law_1974 rfl ?_
    refine v_if_ne C 1991 dL_law_1976 (by decide) (fun z => absurd (by decide) z) (fun _ => ?_)
    refine v_aload_n C dL_law_1979 rfl ?_
    refine v_iconst C dL_law_1980 (v := nI 0) (by decide) ?_
    refine v_lald C aj_l (by decide) 0 (by decide) rfl dL_law_1981 ?_
    refine v_iload C dL_law_1982 rfl ?_
    refine v_i2l C dL_law_1984 rfl ?_
    refine v_lcmp C dL_law_1985 ?_
    refine v_if_eq C 1991 dL_law_1986 (by decide) (fun _ => ?_) (fun z => absurd (lg_out (o := o) (x := cvI v) (y := v.toInt64) rfl) z)
    refine v_goto C 3915 dL_law_1991 (by decide) ?_
    refine V.sub (lo2 := [some (.ref b), some (.ref (h 0)), some (.ref (sh 126 h 0)), some (.ref (h 124)), some (.ref (h 125)), some (.int (nI (6 * j))), none, none, none]) ⟨rfl, rfl, rfl, rfl, rfl, rfl, trivial⟩ ?_
    exact back _ _ _ _ hIV
  · skip
    refine v_istore C dL_law_1937 rfl (Nat.le_of_ble_eq_true rfl) rfl ?_
    refine v_aload_n C dL_law_1939 rfl ?_
    refine v_aload_n C dL_law_1940 rfl ?_
    refine v_iload C dL_law_1941 rfl ?_
    refine v_iconst C dL_law_1943 (v := nI 1) (by decide) ?_
    refine v_iaddN C dL_law_1944 ?_
    refine v_sld C Z (6 * j + 1) rfl (by omega) hL dL_law_1945 ?_
    refine v_aload_n C dL_law_1946 rfl ?_
    refine v_iload C dL_law_1947 rfl ?_
    refine v_iconst C dL_law_1949 (v := nI 2) (by decide) ?_
    refine v_iaddN C dL_law_1950 ?_
    refine v_sld C Z (6 * j + 2) rfl (by omega) hL dL_law_1951 ?_
    refine v_aload_n C dL_law_1952 rfl ?_
    refine v_iload C dL_law_1953 rfl ?_
    refine v_iconst C dL_law_1955 (v := nI 3) (by decide) ?_
    refine v_iaddN C dL_law_1956 ?_
    refine v_sld C Z (6 * j + 3) rfl (by omega) hL dL_law_1957 ?_
    refine v_callVi C Mq ym_X6_whyCopy ml_L_311 emb_l_q rfl rfl rfl rfl rfl dL_law_1958 (by omega) (by omega) (by omega) (Nat.le_of_ble_eq_true rfl) (fun _ _ hz => hz.elim) (fun r2 u2 hq => ?_)
    obtain ⟨i2, h2, hi3, t0, hIV⟩ := J2 _ _ _ _ hp hq
    obtain rfl := EL_inj nd_S hi h2
    refine V.stt (g2 := (c2, o, dd, u2)) rfl ?_
    refine v_istore C dL_law_1961 rfl (Nat.le_of_ble_eq_true rfl) rfl ?_
    refine v_aload_n C dL_law_1963 rfl ?_
    refine v_callVi C (c_X6_thrown hl t0) ym_X6_thrown ml_L_211 emb_l_q rfl rfl rfl rfl rfl dL_law_1964 (Nat.le_of_ble_eq_true rfl) (by omega) (by omega) (Nat.le_of_ble_eq_true rfl) (fun _ _ hz => hz.elim) (fun r3 u3 hr => ?_)
    obtain ⟨hr, rfl⟩ := hr
    subst hr
    refine V.stt (g2 := (c2, o, dd, u3)) rfl ?_
    refine v_iload C dL_law_1967 rfl ?_
    refine v_icmp_eq C 1974 dL_law_1969 (by decide) (fun _ => ?_) (fun z => absurd rfl z)
    refine v_iload C dL_law_1974 rfl ?_
    refine v_if_ne C 1991 dL_law_1976 (by decide) (fun _ => ?_) (fun z => absurd z (nI_pos3 hi3))
    refine v_goto C 3915 dL_law_1991 (by decide) ?_
    refine V.sub (lo2 := [some (.ref b), some (.ref (h 0)), some (.ref (sh 126 h 0)), some (.ref (h 124)), some (.ref (h 125)), some (.int (nI (6 * j))), none, none, none]) ⟨rfl, rfl, rfl, rfl, rfl, rfl, trivial⟩ ?_
    exact back _ _ _ _ hIV

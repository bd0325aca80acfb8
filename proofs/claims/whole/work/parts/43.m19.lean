theorem QTx_add {T : List Int32} {g u : G} {c : Int32} (h : QTx T g) (h1 : u 6 = upd (g 6) T.length c) (h2 : u 0 24 = nI (T.length + 1)) : QTx (T ++ [c]) u := by
  refine ⟨by rw [h2, List.length_append]; rfl, fun i hi => ?_⟩
  rw [List.length_append] at hi
  have hi : i < T.length + 1 := hi
  rw [h1]
  by_cases z : i = T.length
  · subst z
    rw [upd_s, List.getD_eq_getElem?_getD, List.getElem?_append_right (Nat.le_refl _)]
    simp
  · rw [upd_o z, h.2 i (by omega), List.getD_eq_getElem?_getD, List.getD_eq_getElem?_getD, List.getElem?_append_left (by omega)]
/-- the text alone was changed -/
def txF (g u : G) : Prop := ∃ a t, u = sG (sG g 0 (upd (g 0) 24 a)) 6 t
theorem txF.rf {g : G} : txF g g := ⟨g 0 24, g 6, by rw [show upd (g 0) 24 (g 0 24) = g 0 from funext fun i => by unfold upd; split <;> simp_all, sG_id (g := g) (c := 0) rfl, sG_id rfl]⟩
theorem txF.tr {a b c : G} (h : txF a b) (h2 : txF b c) : txF a c := by
  obtain ⟨x, t, rfl⟩ := h
  obtain ⟨y, s, rfl⟩ := h2
  refine ⟨y, s, ?_⟩
  rw [show sG (sG a 0 (upd (a 0) 24 x)) 6 t 0 = upd (a 0) 24 x from rfl, upd_upd, sG_comm (a := 6) (b := 0) (by decide), sG_sG, sG_sG]
theorem txF.row {g u : G} (h : txF g u) : u 1 = g 1 ∧ u 2 = g 2 ∧ u 3 = g 3 ∧ u 4 = g 4 ∧ u 5 = g 5 ∧ ∀ k, ¬ k = 24 → u 0 k = g 0 k := by
  obtain ⟨x, t, rfl⟩ := h
  exact ⟨rfl, rfl, rfl, rfl, rfl, fun k hk => (show upd (g 0) 24 x k = g 0 k from upd_o hk)⟩
set_option maxHeartbeats 16000000 in
theorem c_X6_says {l : Launch} (hl : l.stackTraces = false) {κ : Kp} {h : Nat → Nat} {g : G} {T : List Int32} {c : Int32} (hT : QTx T g) (hl5 : T.length < 1000) : Ct SS MM l κ yX6_says cX6_says 2 none 0 0 0 [.ref (h 0), .int c] (qS κ h) g rv (fun _ u => QTx (T ++ [c]) u ∧ txF g u) (fun _ _ => False) := by
  refine Ct.of (own := RX6) (by decide) rfl hl (by intro v hv; simp only [List.mem_cons, List.not_mem_nil, or_false] at hv; first | (rcases hv with rfl | rfl | rfl | rfl | rfl | rfl <;> rfl) | (rcases hv with rfl | rfl | rfl | rfl | rfl <;> rfl) | (rcases hv with rfl | rfl | rfl | rfl <;> rfl) | (rcases hv with rfl | rfl | rfl <;> rfl) | (rcases hv with rfl | rfl <;> rfl) | (subst hv; rfl) | exact hv.elim) (Nat.le_of_ble_eq_true rfl) (fun X hxl hxk C F N => ?_)
  subst hxl hxk
  show V X (qS (xK X) h) 0 [some (.ref (h 0)), some (.int c)] [] g 0 0
  refine v_aload_n C dX6_says_0 rfl ?_
  refine v_getr C fl_X6_30 or_qS_0_23 dX6_says_1 ?_
  refine v_aload_n C dX6_says_4 rfl ?_
  refine v_getiQ (x := nI T.length) C fl_X6_307 oi_qS_0_24 (hT.1) dX6_says_5 ?_
  refine v_iload_n C dX6_says_8 rfl ?_
  refine v_iast C ar_qS_6 (by decide) _ ?_ rfl dX6_says_9 ?_
  · omega
  refine v_aload_n C dX6_says_10 rfl ?_
  refine v_dup C dX6_says_11 rfl ?_
  refine v_getiQ (x := nI T.length) C fl_X6_307 oi_qS_0_24 (hT.1) dX6_says_12 ?_
  refine v_iconst (v := nI 1) C dX6_says_15 (by decide) ?_
  first | refine v_iaddN C dX6_says_16 ?_ | refine v_iadd C dX6_says_16 ?_
  refine v_puti C fl_X6_307 fw_X6_24 oi_qS_0_24 ⟨rfl, rfl⟩ dX6_says_17 ?_
  refine v_vret C F dX6_says_20 (Nat.le_of_ble_eq_true rfl) (Nat.le_of_ble_eq_true rfl) ?_
  exact ⟨QTx_add hT rfl rfl, _, _, by rw [sG_comm (a := 6) (b := 0) (by decide)]; rfl⟩
/-- a number's signs ahead of the last one -/
def numH (v : Nat) : List Int32 := if v ≤ 9 then [] else numL (v / 10)
theorem numH_0 {v : Nat} (h : v ≤ 9) : numH v = [] := if_pos h
theorem numH_s {v : Nat} (h : ¬ v ≤ 9) : numH v = numL (v / 10) := if_neg h
theorem numH_len (v : Nat) (h : v < 1000) : (numH v).length ≤ 2 := by
  unfold numH
  split
  · exact Nat.zero_le _
  · exact numL_len (by omega)
theorem numH_e {v : Nat} (h : v < 1000) : numH v ++ [nI (48 + v % 10)] = numL v := by
  unfold numH numL
  by_cases c : v ≤ 9
  · rw [if_pos c, if_neg (show ¬ 100 ≤ v by omega), if_neg (show ¬ 10 ≤ v by omega)]; rfl
  · rw [if_neg c, if_neg (show ¬ 100 ≤ v / 10 by omega), if_pos (show 10 ≤ v by omega)]
    by_cases c2 : 100 ≤ v
    · rw [if_pos c2, if_pos (show 10 ≤ v / 10 by omega), show v / 10 / 10 % 10 = v / 100 by omega]
      rfl
    · rw [if_neg c2, if_neg (show ¬ 10 ≤ v / 10 by omega)]
      rfl
set_option maxHeartbeats 16000000 in
theorem c_X6_saysNumber_1 {l : Launch} (hl : l.stackTraces = false) {κ : Kp} {h : Nat → Nat} {g : G} {T : List Int32} {v : Nat} (hT : QTx T g) (hv : v < 10) (hl5 : T.length + 3 ≤ 1000) : Ct SS MM l κ yX6_saysNumber cX6_saysNumber 2 none 1 0 0 [.ref (h 0), .int (nI v)] (qS κ h) g rv (fun _ u => QTx (T ++ numL v) u ∧ txF g u) (fun _ _ => False) := by
  refine Ct.of (own := RX6) (by decide) rfl hl (by intro v hv; simp only [List.mem_cons, List.not_mem_nil, or_false] at hv; first | (rcases hv with rfl | rfl | rfl | rfl | rfl | rfl <;> rfl) | (rcases hv with rfl | rfl | rfl | rfl | rfl <;> rfl) | (rcases hv with rfl | rfl | rfl | rfl <;> rfl) | (rcases hv with rfl | rfl | rfl <;> rfl) | (rcases hv with rfl | rfl <;> rfl) | (subst hv; rfl) | exact hv.elim) (Nat.le_of_ble_eq_true rfl) (fun X hxl hxk C F N => ?_)
  subst hxl hxk
  show V X (qS (xK X) h) 0 [some (.ref (h 0)), some (.int (nI v))] [] g 0 0
  refine v_iload_n C dX6_saysNumber_0 rfl ?_
  refine v_bipush (v := nI 9) C dX6_saysNumber_1 (by decide) ?_
  first | refine v_icmp_leN C 14 dX6_saysNumber_3 (by decide) (by omega) (by omega) (fun c3 => ?_) (fun c3 => ?_) | refine v_icmp_le C 14 dX6_saysNumber_3 (by decide) (fun c3 => ?_) (fun c3 => ?_)
  · have hTb : QTx (T ++ numH v) g := by
      rw [numH_0 (by omega), List.append_nil]
      exact hT
    have hFb : txF g g := txF.rf
    have hlb := numH_len v (by omega)
    have hlc : (T ++ numH v).length < 1000 := by rw [List.length_append]; omega
    refine v_aload_n C dX6_saysNumber_14 rfl ?_
    refine v_bipush (v := nI 48) C dX6_saysNumber_15 (by decide) ?_
    refine v_iload_n C dX6_saysNumber_17 rfl ?_
    refine v_bipush (v := nI 10) C dX6_saysNumber_18 (by decide) ?_
    refine v_iremN C dX6_saysNumber_20 (by omega) (by omega) (by omega) ?_
    first | refine v_iaddN C dX6_saysNumber_21 ?_ | refine v_iadd C dX6_saysNumber_21 ?_
    refine v_callVv C (c_X6_says hl hTb (by omega)) ym_X6_says ml_X6_313 emb_id_qS rfl rfl rfl rfl rfl dX6_saysNumber_22 (Nat.le_of_ble_eq_true rfl) (Nat.le_of_ble_eq_true rfl) (Nat.le_of_ble_eq_true rfl) (Nat.le_of_ble_eq_true rfl) (fun _ _ hu => hu.elim) (fun r u hu => ?_)
    obtain ⟨hTc, hFc⟩ := hu
    obtain ⟨gc, egc⟩ : ∃ x, x = u := ⟨u, rfl⟩
    subst egc
    refine v_vret C F dX6_saysNumber_25 (Nat.le_of_ble_eq_true rfl) (Nat.le_of_ble_eq_true rfl) ?_
    refine ⟨?_, hFb.tr hFc⟩
    rw [List.append_assoc, numH_e (by omega)] at hTc
    exact hTc
  · exfalso
    omega
set_option maxHeartbeats 16000000 in
theorem c_X6_saysNumber_2 {l : Launch} (hl : l.stackTraces = false) {κ : Kp} {h : Nat → Nat} {g : G} {T : List Int32} {v : Nat} (hT : QTx T g) (hv : v < 100) (hl5 : T.length + 3 ≤ 1000) : Ct SS MM l κ yX6_saysNumber cX6_saysNumber 2 none 2 0 0 [.ref (h 0), .int (nI v)] (qS κ h) g rv (fun _ u => QTx (T ++ numL v) u ∧ txF g u) (fun _ _ => False) := by
  refine Ct.of (own := RX6) (by decide) rfl hl (by intro v hv; simp only [List.mem_cons, List.not_mem_nil, or_false] at hv; first | (rcases hv with rfl | rfl | rfl | rfl | rfl | rfl <;> rfl) | (rcases hv with rfl | rfl | rfl | rfl | rfl <;> rfl) | (rcases hv with rfl | rfl | rfl | rfl <;> rfl) | (rcases hv with rfl | rfl | rfl <;> rfl) | (rcases hv with rfl | rfl <;> rfl) | (subst hv; rfl) | exact hv.elim) (Nat.le_of_ble_eq_true rfl) (fun X hxl hxk C F N => ?_)
  subst hxl hxk
  show V X (qS (xK X) h) 0 [some (.ref (h 0)), some (.int (nI v))] [] g 0 0
  refine v_iload_n C dX6_saysNumber_0 rfl ?_
  refine v_bipush (v := nI 9) C dX6_saysNumber_1 (by decide) ?_
  first | refine v_icmp_leN C 14 dX6_saysNumber_3 (by decide) (by omega) (by omega) (fun c3 => ?_) (fun c3 => ?_) | refine v_icmp_le C 14 dX6_saysNumber_3 (by decide) (fun c3 => ?_) (fun c3 => ?_)
  · have hTb : QTx (T ++ numH v) g := by
      rw [numH_0 (by omega), List.append_nil]
      exact hT
    have hFb : txF g g := txF.rf
    have hlb := numH_len v (by omega)
    have hlc : (T ++ numH v).length < 1000 := by rw [List.length_append]; omega
    refine v_aload_n C dX6_saysNumber_14 rfl ?_
    refine v_bipush (v := nI 48) C dX6_saysNumber_15 (by decide) ?_
    refine v_iload_n C dX6_saysNumber_17 rfl ?_
    refine v_bipush (v := nI 10) C dX6_saysNumber_18 (by decide) ?_
    refine v_iremN C dX6_saysNumber_20 (by omega) (by omega) (by omega) ?_
    first | refine v_iaddN C dX6_saysNumber_21 ?_ | refine v_iadd C dX6_saysNumber_21 ?_
    refine v_callVv C (c_X6_says hl hTb (by omega)) ym_X6_says ml_X6_313 emb_id_qS rfl rfl rfl rfl rfl dX6_saysNumber_22 (Nat.le_of_ble_eq_true rfl) (Nat.le_of_ble_eq_true rfl) (Nat.le_of_ble_eq_true rfl) (Nat.le_of_ble_eq_true rfl) (fun _ _ hu => hu.elim) (fun r u hu => ?_)
    obtain ⟨hTc, hFc⟩ := hu
    obtain ⟨gc, egc⟩ : ∃ x, x = u := ⟨u, rfl⟩
    subst egc
    refine v_vret C F dX6_saysNumber_25 (Nat.le_of_ble_eq_true rfl) (Nat.le_of_ble_eq_true rfl) ?_
    refine ⟨?_, hFb.tr hFc⟩
    rw [List.append_assoc, numH_e (by omega)] at hTc
    exact hTc
  · refine v_aload_n C dX6_saysNumber_6 rfl ?_
    refine v_iload_n C dX6_saysNumber_7 rfl ?_
    refine v_bipush (v := nI 10) C dX6_saysNumber_8 (by decide) ?_
    refine v_idivN C dX6_saysNumber_10 (by omega) (by omega) (by omega) ?_
    refine v_callVv C (c_X6_saysNumber_1 hl (g := g) (T := T) (v := v / 10) hT (by omega) (by omega)) ym_X6_saysNumber ml_X6_310 emb_id_qS rfl rfl rfl rfl rfl dX6_saysNumber_11 (Nat.le_of_ble_eq_true rfl) (Nat.le_of_ble_eq_true rfl) (Nat.le_of_ble_eq_true rfl) (Nat.le_of_ble_eq_true rfl) (fun _ _ hu => hu.elim) (fun r u hu => ?_)
    obtain ⟨hTa, hFa⟩ := hu
    obtain ⟨ga, ega⟩ : ∃ x, x = u := ⟨u, rfl⟩
    subst ega
    have hTb : QTx (T ++ numH v) ga := by
      rw [numH_s (by omega)]
      exact hTa
    have hFb := hFa
    have hlb := numH_len v (by omega)
    have hlc : (T ++ numH v).length < 1000 := by rw [List.length_append]; omega
    refine v_aload_n C dX6_saysNumber_14 rfl ?_
    refine v_bipush (v := nI 48) C dX6_saysNumber_15 (by decide) ?_
    refine v_iload_n C dX6_saysNumber_17 rfl ?_
    refine v_bipush (v := nI 10) C dX6_saysNumber_18 (by decide) ?_
    refine v_iremN C dX6_saysNumber_20 (by omega) (by omega) (by omega) ?_
    first | refine v_iaddN C dX6_saysNumber_21 ?_ | refine v_iadd C dX6_saysNumber_21 ?_
    refine v_callVv C (c_X6_says hl hTb (by omega)) ym_X6_says ml_X6_313 emb_id_qS rfl rfl rfl rfl rfl dX6_saysNumber_22 (Nat.le_of_ble_eq_true rfl) (Nat.le_of_ble_eq_true rfl) (Nat.le_of_ble_eq_true rfl) (Nat.le_of_ble_eq_true rfl) (fun _ _ hu => hu.elim) (fun r u hu => ?_)
    obtain ⟨hTc, hFc⟩ := hu
    obtain ⟨gc, egc⟩ : ∃ x, x = u := ⟨u, rfl⟩
    subst egc
    refine v_vret C F dX6_saysNumber_25 (Nat.le_of_ble_eq_true rfl) (Nat.le_of_ble_eq_true rfl) ?_
    refine ⟨?_, hFb.tr hFc⟩
    rw [List.append_assoc, numH_e (by omega)] at hTc
    exact hTc
set_option maxHeartbeats 16000000 in
theorem c_X6_saysNumber_3 {l : Launch} (hl : l.stackTraces = false) {κ : Kp} {h : Nat → Nat} {g : G} {T : List Int32} {v : Nat} (hT : QTx T g) (hv : v < 1000) (hl5 : T.length + 3 ≤ 1000) : Ct SS MM l κ yX6_saysNumber cX6_saysNumber 2 none 3 0 0 [.ref (h 0), .int (nI v)] (qS κ h) g rv (fun _ u => QTx (T ++ numL v) u ∧ txF g u) (fun _ _ => False) := by
  refine Ct.of (own := RX6) (by decide) rfl hl (by intro v hv; simp only [List.mem_cons, List.not_mem_nil, or_false] at hv; first | (rcases hv with rfl | rfl | rfl | rfl | rfl | rfl <;> rfl) | (rcases hv with rfl | rfl | rfl | rfl | rfl <;> rfl) | (rcases hv with rfl | rfl | rfl | rfl <;> rfl) | (rcases hv with rfl | rfl | rfl <;> rfl) | (rcases hv with rfl | rfl <;> rfl) | (subst hv; rfl) | exact hv.elim) (Nat.le_of_ble_eq_true rfl) (fun X hxl hxk C F N => ?_)
  subst hxl hxk
  show V X (qS (xK X) h) 0 [some (.ref (h 0)), some (.int (nI v))] [] g 0 0
  refine v_iload_n C dX6_saysNumber_0 rfl ?_
  refine v_bipush (v := nI 9) C dX6_saysNumber_1 (by decide) ?_
  first | refine v_icmp_leN C 14 dX6_saysNumber_3 (by decide) (by omega) (by omega) (fun c3 => ?_) (fun c3 => ?_) | refine v_icmp_le C 14 dX6_saysNumber_3 (by decide) (fun c3 => ?_) (fun c3 => ?_)
  · have hTb : QTx (T ++ numH v) g := by
      rw [numH_0 (by omega), List.append_nil]
      exact hT
    have hFb : txF g g := txF.rf
    have hlb := numH_len v (by omega)
    have hlc : (T ++ numH v).length < 1000 := by rw [List.length_append]; omega
    refine v_aload_n C dX6_saysNumber_14 rfl ?_
    refine v_bipush (v := nI 48) C dX6_saysNumber_15 (by decide) ?_
    refine v_iload_n C dX6_saysNumber_17 rfl ?_
    refine v_bipush (v := nI 10) C dX6_saysNumber_18 (by decide) ?_
    refine v_iremN C dX6_saysNumber_20 (by omega) (by omega) (by omega) ?_
    first | refine v_iaddN C dX6_saysNumber_21 ?_ | refine v_iadd C dX6_saysNumber_21 ?_
    refine v_callVv C (c_X6_says hl hTb (by omega)) ym_X6_says ml_X6_313 emb_id_qS rfl rfl rfl rfl rfl dX6_saysNumber_22 (Nat.le_of_ble_eq_true rfl) (Nat.le_of_ble_eq_true rfl) (Nat.le_of_ble_eq_true rfl) (Nat.le_of_ble_eq_true rfl) (fun _ _ hu => hu.elim) (fun r u hu => ?_)
    obtain ⟨hTc, hFc⟩ := hu
    obtain ⟨gc, egc⟩ : ∃ x, x = u := ⟨u, rfl⟩
    subst egc
    refine v_vret C F dX6_saysNumber_25 (Nat.le_of_ble_eq_true rfl) (Nat.le_of_ble_eq_true rfl) ?_
    refine ⟨?_, hFb.tr hFc⟩
    rw [List.append_assoc, numH_e (by omega)] at hTc
    exact hTc
  · refine v_aload_n C dX6_saysNumber_6 rfl ?_
    refine v_iload_n C dX6_saysNumber_7 rfl ?_
    refine v_bipush (v := nI 10) C dX6_saysNumber_8 (by decide) ?_
    refine v_idivN C dX6_saysNumber_10 (by omega) (by omega) (by omega) ?_
    refine v_callVv C (c_X6_saysNumber_2 hl (g := g) (T := T) (v := v / 10) hT (by omega) (by omega)) ym_X6_saysNumber ml_X6_310 emb_id_qS rfl rfl rfl rfl rfl dX6_saysNumber_11 (Nat.le_of_ble_eq_true rfl) (Nat.le_of_ble_eq_true rfl) (Nat.le_of_ble_eq_true rfl) (Nat.le_of_ble_eq_true rfl) (fun _ _ hu => hu.elim) (fun r u hu => ?_)
    obtain ⟨hTa, hFa⟩ := hu
    obtain ⟨ga, ega⟩ : ∃ x, x = u := ⟨u, rfl⟩
    subst ega
    have hTb : QTx (T ++ numH v) ga := by
      rw [numH_s (by omega)]
      exact hTa
    have hFb := hFa
    have hlb := numH_len v (by omega)
    have hlc : (T ++ numH v).length < 1000 := by rw [List.length_append]; omega
    refine v_aload_n C dX6_saysNumber_14 rfl ?_
    refine v_bipush (v := nI 48) C dX6_saysNumber_15 (by decide) ?_
    refine v_iload_n C dX6_saysNumber_17 rfl ?_
    refine v_bipush (v := nI 10) C dX6_saysNumber_18 (by decide) ?_
    refine v_iremN C dX6_saysNumber_20 (by omega) (by omega) (by omega) ?_
    first | refine v_iaddN C dX6_saysNumber_21 ?_ | refine v_iadd C dX6_saysNumber_21 ?_
    refine v_callVv C (c_X6_says hl hTb (by omega)) ym_X6_says ml_X6_313 emb_id_qS rfl rfl rfl rfl rfl dX6_saysNumber_22 (Nat.le_of_ble_eq_true rfl) (Nat.le_of_ble_eq_true rfl) (Nat.le_of_ble_eq_true rfl) (Nat.le_of_ble_eq_true rfl) (fun _ _ hu => hu.elim) (fun r u hu => ?_)
    obtain ⟨hTc, hFc⟩ := hu
    obtain ⟨gc, egc⟩ : ∃ x, x = u := ⟨u, rfl⟩
    subst egc
    refine v_vret C F dX6_saysNumber_25 (Nat.le_of_ble_eq_true rfl) (Nat.le_of_ble_eq_true rfl) ?_
    refine ⟨?_, hFb.tr hFc⟩
    rw [List.append_assoc, numH_e (by omega)] at hTc
    exact hTc
set_option maxHeartbeats 16000000 in
theorem c_X6_writeDebts {l : Launch} (hl : l.stackTraces = false) {κ : Kp} {h : Nat → Nat} {g : G} {m : Mg} {n c : Nat} (hQ : QMm n m g) (hW : WM n c m) : Ct SS MM l κ yX6_writeDebts cX6_writeDebts 2 (some FieldType.int) 3 0 0 [.ref (h 0)] (qS κ h) g ri (fun r u => (cdL [(decide (n = 0), 1)] = 0 → r = nI (dbsT m n).length ∧ QTx (dbsT m n) u ∧ txF (tg g 0) u) ∧ (¬ cdL [(decide (n = 0), 1)] = 0 → u = tg g (cdL [(decide (n = 0), 1)]))) (fun _ _ => False) := by
  refine Ct.of (own := RX6) (by decide) rfl hl (by intro v hv; simp only [List.mem_cons, List.not_mem_nil, or_false] at hv; first | (rcases hv with rfl | rfl | rfl | rfl | rfl | rfl <;> rfl) | (rcases hv with rfl | rfl | rfl | rfl | rfl <;> rfl) | (rcases hv with rfl | rfl | rfl | rfl <;> rfl) | (rcases hv with rfl | rfl | rfl <;> rfl) | (rcases hv with rfl | rfl <;> rfl) | (subst hv; rfl) | exact hv.elim) (Nat.le_of_ble_eq_true rfl) (fun X hxl hxk C F N => ?_)
  subst hxl hxk
  show V X (qS (xK X) h) 0 [some (.ref (h 0)), none] [] g 0 0
  obtain ⟨hm, hs, h96, hRR⟩ := id hQ
  obtain ⟨-, hn7, hMf⟩ := id hW
  refine v_aload_n C dX6_writeDebts_0 rfl ?_
  refine v_callVi C (c_X6_noMemory hl (n := n) hm) ym_X6_noMemory ml_X6_207 emb_id_qS rfl rfl rfl rfl rfl dX6_writeDebts_1 (Nat.le_of_ble_eq_true rfl) (Nat.le_of_ble_eq_true rfl) (Nat.le_of_ble_eq_true rfl) (Nat.le_of_ble_eq_true rfl) (fun _ _ hu => hu.elim) (fun r u hu => ?_)
  obtain ⟨rfl, hu⟩ := hu
  subst u
  refine v_if_eqB C 9 dX6_writeDebts_4 (by decide) (fun c4 => ?_) (fun c4 => ?_)
  · have hn0 : ¬ n = 0 := of_decide_eq_false c4
    have hR := hRR hn0
    have hMI := hMf hn0
    obtain ⟨hI, hE, hLK, hn1, hSB, hBY, hPR⟩ := id hMI
    have hbd := band_ok hSB
    have hn := hI.1
    refine V.stt (g2 := tg g 0) (by rw [c4]; rfl) ?_
    refine v_aload_n C dX6_writeDebts_9 rfl ?_
    refine v_iconst (v := nI 0) C dX6_writeDebts_10 (by decide) ?_
    refine v_puti C fl_X6_307 fw_X6_24 oi_qS_0_24 ⟨rfl, rfl⟩ dX6_writeDebts_11 ?_
    refine v_iconst (v := nI 0) C dX6_writeDebts_14 (by decide) ?_
    refine v_istore_n C (lo2 := [some _, some _]) dX6_writeDebts_15 rfl (Nat.le_of_ble_eq_true rfl) rfl ?_
    have L16 : ∀ (t : Nat × List Int32 × G), (fun t => t.1 ≤ n ∧ t.2.1.length ≤ 9 * t.1 ∧ QTx t.2.1 t.2.2 ∧ txF (tg g 0) t.2.2 ∧ forG (dbsS m n) t.1 (n - t.1) t.2.1 = forG (dbsS m n) 0 n []) t → (fun t : Nat × List Int32 × G => V X (qS (xK X) h) 16 [some (.ref (h 0)), some (.int (nI t.1))] [] t.2.2 0 0) t := by
      refine v_ind (fun t : Nat × List Int32 × G => n - t.1) ?_
      rintro ⟨i, T, gx⟩ ih16 hI16
      try dsimp only at hI16 ⊢
      obtain ⟨i1, i2, hTx, hFx, i3⟩ := hI16
      have i2 : T.length ≤ 9 * i := i2
      have hTx : QTx T gx := hTx
      have hFx : txF (tg g 0) gx := hFx
      have hrx := hFx.row
      have hRx : RowR m (gx 1) := by rw [hrx.1]; exact hR
      have hsx : gx 0 2 = nI n := (hrx.2.2.2.2.2 2 (by decide)).trans hs
      refine v_iload_n C dX6_writeDebts_16 rfl ?_
      refine v_aload_n C dX6_writeDebts_17 rfl ?_
      refine v_getiQ (x := nI n) C fl_X6_126 oi_qS_0_2 (hsx) dX6_writeDebts_18 ?_
      first | refine v_icmp_geN C 93 dX6_writeDebts_21 (by decide) (by omega) (by omega) (fun c21 => ?_) (fun c21 => ?_) | refine v_icmp_ge C 93 dX6_writeDebts_21 (by decide) (fun c21 => ?_) (fun c21 => ?_)
      · refine v_aload_n C dX6_writeDebts_93 rfl ?_
        refine v_getiQ (x := nI T.length) C fl_X6_307 oi_qS_0_24 (hTx.1) dX6_writeDebts_94 ?_
        refine v_if_ne C 106 dX6_writeDebts_97 (by decide) (fun c97 => ?_) (fun c97 => ?_)
        · rw [forG_0 (by omega)] at i3
          have hT0 : ¬ T.length = 0 := fun z => c97 (by rw [z]; rfl)
          have hfT : dbsT m n = T := by unfold dbsT; rw [← i3, if_neg hT0]
          have hfin : gx 0 24 = nI (dbsT m n).length := by rw [hfT]; exact hTx.1
          have hTF : QTx (dbsT m n) gx := by rw [hfT]; exact hTx
          have hFF := hFx
          refine v_aload_n C dX6_writeDebts_106 rfl ?_
          refine v_getiQ (x := nI (dbsT m n).length) C fl_X6_307 oi_qS_0_24 (hfin) dX6_writeDebts_107 ?_
          refine v_iret C F (by first | rfl | exact bI_nar _) dX6_writeDebts_110 (Nat.le_of_ble_eq_true rfl) (Nat.le_of_ble_eq_true rfl) ?_
          first
          | (exact ⟨fun _ => ⟨rfl, hTF, hFF⟩, fun z => absurd (by simp [cdL, hn0]) z⟩)
          | (exact ⟨fun z => absurd z (by simp [cdL, hz0]), fun _ => by simp [cdL, hz0]⟩)
        · rw [forG_0 (by omega)] at i3
          have hT0 : T.length = 0 := nI_inj (b := 0) (by omega) (by omega) c97
          refine v_aload_n C dX6_writeDebts_100 rfl ?_
          refine v_bipush (v := nI 45) C dX6_writeDebts_101 (by decide) ?_
          refine v_callVv C (c_X6_says hl hTx (by omega)) ym_X6_says ml_X6_313 emb_id_qS rfl rfl rfl rfl rfl dX6_writeDebts_103 (Nat.le_of_ble_eq_true rfl) (Nat.le_of_ble_eq_true rfl) (Nat.le_of_ble_eq_true rfl) (Nat.le_of_ble_eq_true rfl) (fun _ _ hu => hu.elim) (fun r u hu => ?_)
          obtain ⟨hTu, hFu⟩ := hu
          obtain ⟨gu, egu⟩ : ∃ x, x = u := ⟨u, rfl⟩
          subst egu
          have hTe : T = [] := List.eq_nil_of_length_eq_zero hT0
          have hfT : dbsT m n = [nI 45] := by unfold dbsT; rw [← i3, if_pos hT0]
          have hTF : QTx (dbsT m n) gu := by rw [hfT]; rw [hTe] at hTu; exact hTu
          have hfin : gu 0 24 = nI (dbsT m n).length := hTF.1
          have hFF := hFx.tr hFu
          refine v_aload_n C dX6_writeDebts_106 rfl ?_
          refine v_getiQ (x := nI (dbsT m n).length) C fl_X6_307 oi_qS_0_24 (hfin) dX6_writeDebts_107 ?_
          refine v_iret C F (by first | rfl | exact bI_nar _) dX6_writeDebts_110 (Nat.le_of_ble_eq_true rfl) (Nat.le_of_ble_eq_true rfl) ?_
          first
          | (exact ⟨fun _ => ⟨rfl, hTF, hFF⟩, fun z => absurd (by simp [cdL, hn0]) z⟩)
          | (exact ⟨fun z => absurd z (by simp [cdL, hz0]), fun _ => by simp [cdL, hz0]⟩)
      · refine v_aload_n C dX6_writeDebts_24 rfl ?_
        refine v_iload_n C dX6_writeDebts_25 rfl ?_
        refine v_callVi C (c_X6_begins hl (g := gx) (m := m) (p := i) hRx (by omega)) ym_X6_begins ml_X6_242 emb_id_qS rfl rfl rfl rfl rfl dX6_writeDebts_26 (Nat.le_of_ble_eq_true rfl) (Nat.le_of_ble_eq_true rfl) (Nat.le_of_ble_eq_true rfl) (Nat.le_of_ble_eq_true rfl) (fun _ _ hu => hu.elim) (fun r u hu => ?_)
        obtain ⟨rfl, hu⟩ := hu
        subst u
        refine v_if_neB C 35 dX6_writeDebts_29 (by decide) (fun c29 => ?_) (fun c29 => ?_)
        · have hsrc := start_src hI (show i < n by omega) c29
          have hlm := lenM_le (m := m) (show i < n by omega)
          have l1 := numL_len (v := i) (by omega)
          have l2 := numL_len (v := lenM m n i) (by omega)
          have l3 := numL_len (v := src m i) (by omega)
          have hstep : dbsS m n i T = dbT m n i T := if_pos c29
          refine v_aload_n C dX6_writeDebts_35 rfl ?_
          refine v_getiQ (x := nI T.length) C fl_X6_307 oi_qS_0_24 (hTx.1) dX6_writeDebts_36 ?_
          have J48 : ∀ gv : G, QTx (if 0 < T.length then T ++ [nI 44] else T) gv → txF gx gv → V X (qS (xK X) h) 48 [some (.ref (h 0)), some (.int (nI i))] [] gv 0 0 := by
            intro gv hTv hFv
            have hrw := hFv.row
            have l0 : (if 0 < T.length then T ++ [nI 44] else T).length ≤ T.length + 1 := by split <;> simp
            refine v_aload_n C dX6_writeDebts_48 rfl ?_
            refine v_iload_n C dX6_writeDebts_49 rfl ?_
            refine v_callVv C (c_X6_saysNumber_2 hl (v := i) hTv (by omega) ?_) ym_X6_saysNumber ml_X6_310 emb_id_qS rfl rfl rfl rfl rfl dX6_writeDebts_50 (Nat.le_of_ble_eq_true rfl) (Nat.le_of_ble_eq_true rfl) (Nat.le_of_ble_eq_true rfl) (Nat.le_of_ble_eq_true rfl) (fun _ _ hu => hu.elim) (fun r u hu => ?_)
            · first | omega | (simp only [List.length_append, List.length_cons, List.length_nil]; omega)
            obtain ⟨hT2, hF2⟩ := hu
            obtain ⟨g2, eg2⟩ : ∃ x, x = u := ⟨u, rfl⟩
            subst eg2
            refine v_aload_n C dX6_writeDebts_53 rfl ?_
            refine v_bipush (v := nI 120) C dX6_writeDebts_54 (by decide) ?_
            refine v_callVv C (c_X6_says hl hT2 ?_) ym_X6_says ml_X6_313 emb_id_qS rfl rfl rfl rfl rfl dX6_writeDebts_56 (Nat.le_of_ble_eq_true rfl) (Nat.le_of_ble_eq_true rfl) (Nat.le_of_ble_eq_true rfl) (Nat.le_of_ble_eq_true rfl) (fun _ _ hu => hu.elim) (fun r u hu => ?_)
            · first | omega | (simp only [List.length_append, List.length_cons, List.length_nil]; omega)
            obtain ⟨hT3, hF3⟩ := hu
            obtain ⟨g3, eg3⟩ : ∃ x, x = u := ⟨u, rfl⟩
            subst eg3
            have hr3 := (hFv.tr (hF2.tr hF3)).row
            have hR3 : RowR m (g3 1) := by rw [hr3.1]; exact hRx
            have hs3 : g3 0 2 = nI n := (hr3.2.2.2.2.2 2 (by decide)).trans hsx
            skip
            refine v_aload_n C dX6_writeDebts_59 rfl ?_
            refine v_aload_n C dX6_writeDebts_60 rfl ?_
            refine v_iload_n C dX6_writeDebts_61 rfl ?_
            refine v_callVi C (c_X6_debtLong hl (g := g3) (m := m) (n := n) (p := i) hR3 hs3 h96 (by omega)) ym_X6_debtLong ml_X6_248 emb_id_qS rfl rfl rfl rfl rfl dX6_writeDebts_62 (Nat.le_of_ble_eq_true rfl) (Nat.le_of_ble_eq_true rfl) (Nat.le_of_ble_eq_true rfl) (Nat.le_of_ble_eq_true rfl) (fun _ _ hu => hu.elim) (fun r u hu => ?_)
            obtain ⟨rfl, hu⟩ := hu
            subst u
            skip
            refine v_callVv C (c_X6_saysNumber_2 hl (v := lenM m n i) hT3 (by omega) ?_) ym_X6_saysNumber ml_X6_310 emb_id_qS rfl rfl rfl rfl rfl dX6_writeDebts_65 (Nat.le_of_ble_eq_true rfl) (Nat.le_of_ble_eq_true rfl) (Nat.le_of_ble_eq_true rfl) (Nat.le_of_ble_eq_true rfl) (fun _ _ hu => hu.elim) (fun r u hu => ?_)
            · first | omega | (simp only [List.length_append, List.length_cons, List.length_nil]; omega)
            obtain ⟨hT4, hF4⟩ := hu
            obtain ⟨g4, eg4⟩ : ∃ x, x = u := ⟨u, rfl⟩
            subst eg4
            refine v_aload_n C dX6_writeDebts_68 rfl ?_
            refine v_bipush (v := nI 60) C dX6_writeDebts_69 (by decide) ?_
            refine v_callVv C (c_X6_says hl hT4 ?_) ym_X6_says ml_X6_313 emb_id_qS rfl rfl rfl rfl rfl dX6_writeDebts_71 (Nat.le_of_ble_eq_true rfl) (Nat.le_of_ble_eq_true rfl) (Nat.le_of_ble_eq_true rfl) (Nat.le_of_ble_eq_true rfl) (fun _ _ hu => hu.elim) (fun r u hu => ?_)
            · first | omega | (simp only [List.length_append, List.length_cons, List.length_nil]; omega)
            obtain ⟨hT5, hF5⟩ := hu
            obtain ⟨g5, eg5⟩ : ∃ x, x = u := ⟨u, rfl⟩
            subst eg5
            have hF5r : g5 1 = g 1 := ((hFv.tr (hF2.tr (hF3.tr (hF4.tr hF5)))).row.1).trans hrx.1
            refine v_aload_n C dX6_writeDebts_74 rfl ?_
            refine v_aload_n C dX6_writeDebts_75 rfl ?_
            refine v_getr C fl_X6_7 or_qS_0_3 dX6_writeDebts_76 ?_
            refine v_bipush (v := nI 96) C dX6_writeDebts_79 (by decide) ?_
            refine v_iload_n C dX6_writeDebts_81 rfl ?_
            first | refine v_iaddN C dX6_writeDebts_82 ?_ | refine v_iadd C dX6_writeDebts_82 ?_
            refine v_ialdQ (x := nI (src m i)) C ar_qS_1 (by decide) _ (((congrFun hF5r _).trans (hR.s (by omega))).trans hsrc.2) ?_ rfl dX6_writeDebts_83 ?_
            · omega
            refine v_callVv C (c_X6_saysNumber_2 hl (v := src m i) hT5 (by omega) ?_) ym_X6_saysNumber ml_X6_310 emb_id_qS rfl rfl rfl rfl rfl dX6_writeDebts_84 (Nat.le_of_ble_eq_true rfl) (Nat.le_of_ble_eq_true rfl) (Nat.le_of_ble_eq_true rfl) (Nat.le_of_ble_eq_true rfl) (fun _ _ hu => hu.elim) (fun r u hu => ?_)
            · first | omega | (simp only [List.length_append, List.length_cons, List.length_nil]; omega)
            obtain ⟨hT6, hF6⟩ := hu
            obtain ⟨g6, eg6⟩ : ∃ x, x = u := ⟨u, rfl⟩
            subst eg6
            first | refine v_iinc1 C (lo2 := [some _, some _]) dX6_writeDebts_87 rfl rfl rfl ?_ | refine v_iinc C (lo2 := [some _, some _]) dX6_writeDebts_87 rfl rfl rfl rfl ?_
            refine v_goto C 16 dX6_writeDebts_90 (by decide) ?_
            have hib : i < n := by omega
            rw [forG_s hib, hstep] at i3
            first
            | exact ih16 (i + 1, dbT m n i T, g6) (by show n - (i + 1) < n - i; omega) ⟨by show i + 1 ≤ n; omega, by have := dbT_len (m := m) (T := T) h96 hib hsrc.1; show (dbT m n i T).length ≤ 9 * (i + 1); omega, hT6, hFx.tr (hFv.tr (hF2.tr (hF3.tr (hF4.tr (hF5.tr hF6))))), i3⟩
            | exact ih16 (i + 1, T, gx) (by show n - (i + 1) < n - i; omega) ⟨by show i + 1 ≤ n; omega, by show T.length ≤ 9 * (i + 1); omega, hTx, hFx, i3⟩
          refine v_if_le C 48 dX6_writeDebts_39 (by decide) (fun c39 => ?_) (fun c39 => ?_)
          · rw [nI_toInt (by omega)] at c39
            have hTv : QTx (if 0 < T.length then T ++ [nI 44] else T) gx := by
              rw [if_neg (by omega)]
              exact hTx
            have hFv : txF gx gx := txF.rf
            exact J48 _ hTv hFv
          · rw [nI_toInt (by omega)] at c39
            refine v_aload_n C dX6_writeDebts_42 rfl ?_
            refine v_bipush (v := nI 44) C dX6_writeDebts_43 (by decide) ?_
            refine v_callVv C (c_X6_says hl hTx (by omega)) ym_X6_says ml_X6_313 emb_id_qS rfl rfl rfl rfl rfl dX6_writeDebts_45 (Nat.le_of_ble_eq_true rfl) (Nat.le_of_ble_eq_true rfl) (Nat.le_of_ble_eq_true rfl) (Nat.le_of_ble_eq_true rfl) (fun _ _ hu => hu.elim) (fun r u hu => ?_)
            obtain ⟨hTu, hFu⟩ := hu
            obtain ⟨gu, egu⟩ : ∃ x, x = u := ⟨u, rfl⟩
            subst egu
            have hTv : QTx (if 0 < T.length then T ++ [nI 44] else T) gu := by
              rw [if_pos (by omega)]
              exact hTu
            have hFv : txF gx gu := hFu
            exact J48 _ hTv hFv
        · have hstep : dbsS m n i T = T := if_neg (by rw [c29]; exact Bool.false_ne_true)
          refine v_goto C 87 dX6_writeDebts_32 (by decide) ?_
          first | refine v_iinc1 C (lo2 := [some _, some _]) dX6_writeDebts_87 rfl rfl rfl ?_ | refine v_iinc C (lo2 := [some _, some _]) dX6_writeDebts_87 rfl rfl rfl rfl ?_
          refine v_goto C 16 dX6_writeDebts_90 (by decide) ?_
          have hib : i < n := by omega
          rw [forG_s hib, hstep] at i3
          first
          | exact ih16 (i + 1, dbT m n i T, g6) (by show n - (i + 1) < n - i; omega) ⟨by show i + 1 ≤ n; omega, by have := dbT_len (m := m) (T := T) h96 hib hsrc.1; show (dbT m n i T).length ≤ 9 * (i + 1); omega, hT6, hFx.tr (hFv.tr (hF2.tr (hF3.tr (hF4.tr (hF5.tr hF6))))), i3⟩
          | exact ih16 (i + 1, T, gx) (by show n - (i + 1) < n - i; omega) ⟨by show i + 1 ≤ n; omega, by show T.length ≤ 9 * (i + 1); omega, hTx, hFx, i3⟩
    exact L16 (0, [], _) ⟨Nat.zero_le _, Nat.zero_le _, ⟨rfl, fun i hi => absurd hi (Nat.not_lt_zero i)⟩, ⟨nI 0, g 6, (sG_id (g := sG (tg g 0) 0 (upd (tg g 0 0) 24 (nI 0))) (c := 6) rfl).symm⟩, rfl⟩
  · have hz0 : n = 0 := of_decide_eq_true c4
    refine V.stt (g2 := tg g 1) (by rw [c4]; rfl) ?_
    refine v_iconst (v := nI 0) C dX6_writeDebts_7 (by decide) ?_
    refine v_iret C F (by first | rfl | exact bI_nar _) dX6_writeDebts_8 (Nat.le_of_ble_eq_true rfl) (Nat.le_of_ble_eq_true rfl) ?_
    first
    | (exact ⟨fun _ => ⟨rfl, hTF, hFF⟩, fun z => absurd (by simp [cdL, hn0]) z⟩)
    | (exact ⟨fun z => absurd z (by simp [cdL, hz0]), fun _ => by simp [cdL, hz0]⟩)
theorem chn_s {m : Mg} {n a : Nat} {rk : Nat → Nat} (hI : IM m n) (hr : Rk m n rk) : ∀ (f : Nat), rk a ≤ f → a < n → ∀ T, chnF f m a T = if m 2 a = -1 then T else chnF (f - 1) m (src m a) (T ++ [nI 60] ++ numL (src m a))
  | 0, h, ha, T => by
    have e : m 2 a = -1 := Classical.byContradiction fun z => by have := hr.2 a ha z; omega
    rw [if_pos e]
    rfl
  | f + 1, h, ha, T => rfl
set_option maxHeartbeats 16000000 in
theorem c_X6_writeChain {l : Launch} (hl : l.stackTraces = false) {κ : Kp} {h : Nat → Nat} {g : G} {m : Mg} {n c : Nat} {p : Int32} (hQ : QMm n m g) (hW : WM n c m) : Ct SS MM l κ yX6_writeChain cX6_writeChain 3 (some FieldType.int) 4 0 0 [.ref (h 0), .int p] (qS κ h) g ri (fun r u => (cdL [(decide (n = 0), 1), (!plB n p, 2)] = 0 → r = nI (chnT m (tN p)).length ∧ QTx (chnT m (tN p)) u ∧ txF (tg g 0) u) ∧ (¬ cdL [(decide (n = 0), 1), (!plB n p, 2)] = 0 → u = tg g (cdL [(decide (n = 0), 1), (!plB n p, 2)]))) (fun _ _ => False) := by
  refine Ct.of (own := RX6) (by decide) rfl hl (by intro v hv; simp only [List.mem_cons, List.not_mem_nil, or_false] at hv; first | (rcases hv with rfl | rfl | rfl | rfl | rfl | rfl <;> rfl) | (rcases hv with rfl | rfl | rfl | rfl | rfl <;> rfl) | (rcases hv with rfl | rfl | rfl | rfl <;> rfl) | (rcases hv with rfl | rfl | rfl <;> rfl) | (rcases hv with rfl | rfl <;> rfl) | (subst hv; rfl) | exact hv.elim) (Nat.le_of_ble_eq_true rfl) (fun X hxl hxk C F N => ?_)
  subst hxl hxk
  show V X (qS (xK X) h) 0 [some (.ref (h 0)), some (.int p), none] [] g 0 0
  obtain ⟨hm, hs, h96, hRR⟩ := id hQ
  obtain ⟨-, hn7, hMf⟩ := id hW
  refine v_aload_n C dX6_writeChain_0 rfl ?_
  refine v_iload_n C dX6_writeChain_1 rfl ?_
  refine v_callVi C (c_X6_noPlace hl (g := g) (m := m) (n := n) hQ) ym_X6_noPlace ml_X6_223 emb_id_qS rfl rfl rfl rfl rfl dX6_writeChain_2 (Nat.le_of_ble_eq_true rfl) (Nat.le_of_ble_eq_true rfl) (Nat.le_of_ble_eq_true rfl) (Nat.le_of_ble_eq_true rfl) (fun _ _ hu => hu.elim) (fun r u hu => ?_)
  obtain ⟨rfl, hu⟩ := hu
  subst u
  refine v_if_eqB C 10 dX6_writeChain_5 (by decide) (fun c5 => ?_) (fun c5 => ?_)
  · have hcd := nz_f c5
    obtain ⟨hd1, hd2⟩ := cd_0 (by decide) hcd
    obtain ⟨hd2, -⟩ := cd_0 (by decide) hd2
    have hn0 : ¬ n = 0 := of_decide_eq_false hd1
    have hp_p : plB n p = true := by simpa using hd2
    have hR := hRR hn0
    have hMI := hMf hn0
    obtain ⟨hI, hE, hLK, hn1, hSB, hBY, hPR⟩ := id hMI
    have hbd := band_ok hSB
    have hn := hI.1
    refine V.stt (g2 := tg g 0) (by rw [hcd]) ?_
    clear hcd hd2 hd1 c5
    obtain ⟨j, hj_j, e_j⟩ := pl_at hp_p
    subst e_j
    have t_j : tN (nI j) = j := tN_nI (by omega)
    refine v_aload_n C dX6_writeChain_10 rfl ?_
    refine v_iconst (v := nI 0) C dX6_writeChain_11 (by decide) ?_
    refine v_puti C fl_X6_307 fw_X6_24 oi_qS_0_24 ⟨rfl, rfl⟩ dX6_writeChain_12 ?_
    refine v_aload_n C dX6_writeChain_15 rfl ?_
    refine v_iload_n C dX6_writeChain_16 rfl ?_
    refine v_callVv C (c_X6_saysNumber_2 hl (g := sG (tg g 0) 0 (upd (tg g 0 0) 24 (nI 0))) (T := []) (v := j) ⟨rfl, fun i hi => absurd hi (Nat.not_lt_zero i)⟩ (by omega) (by decide)) ym_X6_saysNumber ml_X6_310 emb_id_qS rfl rfl rfl rfl rfl dX6_writeChain_17 (Nat.le_of_ble_eq_true rfl) (Nat.le_of_ble_eq_true rfl) (Nat.le_of_ble_eq_true rfl) (Nat.le_of_ble_eq_true rfl) (fun _ _ hu => hu.elim) (fun r u hu => ?_)
    obtain ⟨hT1, hF1⟩ := hu
    obtain ⟨g1, eg1⟩ : ∃ x, x = u := ⟨u, rfl⟩
    subst eg1
    refine v_iload_n C dX6_writeChain_20 rfl ?_
    refine v_istore_n C (lo2 := [some _, some _, some _]) dX6_writeChain_21 rfl (Nat.le_of_ble_eq_true rfl) rfl ?_
    obtain ⟨rk, hrk⟩ := IM_rk hI
    have hrj := hrk.1 j hj_j
    have l0 := numL_len (v := j) (by omega)
    have L22 : ∀ (t : Nat × Nat × List Int32 × G), (fun t => t.2.1 < n ∧ rk t.2.1 + t.1 ≤ rk j ∧ t.2.2.1.length ≤ 2 + 3 * t.1 ∧ QTx t.2.2.1 t.2.2.2 ∧ txF (tg g 0) t.2.2.2 ∧ chnF (96 - t.1) m t.2.1 t.2.2.1 = chnF 96 m j (numL j)) t → (fun t : Nat × Nat × List Int32 × G => V X (qS (xK X) h) 22 [some (.ref (h 0)), some (.int (nI j)), some (.int (nI t.2.1))] [] t.2.2.2 0 0) t := by
      refine v_ind (fun t : Nat × Nat × List Int32 × G => rk t.2.1) ?_
      rintro ⟨k, a, T, gx⟩ ih22 hI22
      try dsimp only at hI22 ⊢
      obtain ⟨ha, i1, i2, hTx, hFx, i4⟩ := hI22
      have ha : a < n := ha
      have i1 : rk a + k ≤ rk j := i1
      have i2 : T.length ≤ 2 + 3 * k := i2
      have hTx : QTx T gx := hTx
      have hFx : txF (tg g 0) gx := hFx
      have hrx := hFx.row
      have hRx : RowR m (gx 1) := by rw [hrx.1]; exact hR
      refine v_aload_n C dX6_writeChain_22 rfl ?_
      refine v_iload_n C dX6_writeChain_23 rfl ?_
      refine v_callVi C (c_X6_owes hl (g := gx) (m := m) (p := a) hRx (by omega)) ym_X6_owes ml_X6_217 emb_id_qS rfl rfl rfl rfl rfl dX6_writeChain_24 (Nat.le_of_ble_eq_true rfl) (Nat.le_of_ble_eq_true rfl) (Nat.le_of_ble_eq_true rfl) (Nat.le_of_ble_eq_true rfl) (fun _ _ hu => hu.elim) (fun r u hu => ?_)
      obtain ⟨rfl, hu⟩ := hu
      subst u
      refine v_if_eqB C 62 dX6_writeChain_27 (by decide) (fun c27 => ?_) (fun c27 => ?_)
      · have hTe : T = chnF 96 m j (numL j) := by rw [← i4, chn_s hI hrk (96 - k) (by omega) ha, if_pos (owb_f.mp c27)]
        obtain ⟨v, hv, ev⟩ := val_by hI hBY hj_j
        refine v_aload_n C dX6_writeChain_62 rfl ?_
        refine v_bipush (v := nI 61) C dX6_writeChain_63 (by decide) ?_
        refine v_callVv C (c_X6_says hl hTx (by omega)) ym_X6_says ml_X6_313 emb_id_qS rfl rfl rfl rfl rfl dX6_writeChain_65 (Nat.le_of_ble_eq_true rfl) (Nat.le_of_ble_eq_true rfl) (Nat.le_of_ble_eq_true rfl) (Nat.le_of_ble_eq_true rfl) (fun _ _ hu => hu.elim) (fun r u hu => ?_)
        obtain ⟨hT4, hF4⟩ := hu
        obtain ⟨g4, eg4⟩ : ∃ x, x = u := ⟨u, rfl⟩
        subst eg4
        have hR4 : RowR m (g4 1) := by rw [hF4.row.1]; exact hRx
        refine v_aload_n C dX6_writeChain_68 rfl ?_
        refine v_aload_n C dX6_writeChain_69 rfl ?_
        refine v_iload_n C dX6_writeChain_70 rfl ?_
        refine v_callVi C (c_X6_valueOf hl (g := g4) (m := m) (n := n) hR4 hI hj_j) ym_X6_valueOf ml_X6_226 emb_id_qS rfl rfl rfl rfl rfl dX6_writeChain_71 (Nat.le_of_ble_eq_true rfl) (Nat.le_of_ble_eq_true rfl) (Nat.le_of_ble_eq_true rfl) (Nat.le_of_ble_eq_true rfl) (fun _ _ hu => hu.elim) (fun r u hu => ?_)
        obtain ⟨rfl, hu⟩ := hu
        subst u
        rw [ev]
        refine v_callVv C (c_X6_saysNumber_3 hl (v := v) hT4 (by omega) (by simp only [List.length_append, List.length_cons, List.length_nil]; omega)) ym_X6_saysNumber ml_X6_310 emb_id_qS rfl rfl rfl rfl rfl dX6_writeChain_74 (Nat.le_of_ble_eq_true rfl) (Nat.le_of_ble_eq_true rfl) (Nat.le_of_ble_eq_true rfl) (Nat.le_of_ble_eq_true rfl) (fun _ _ hu => hu.elim) (fun r u hu => ?_)
        obtain ⟨hT5, hF5⟩ := hu
        obtain ⟨g5, eg5⟩ : ∃ x, x = u := ⟨u, rfl⟩
        subst eg5
        have hTF : QTx (chnT m j) g5 := by
          unfold chnT
          rw [← hTe, ev, tN_nI (by omega)]
          exact hT5
        have hfin : g5 0 24 = nI (chnT m j).length := hTF.1
        refine v_aload_n C dX6_writeChain_77 rfl ?_
        refine v_getiQ (x := nI (chnT m j).length) C fl_X6_307 oi_qS_0_24 (hfin) dX6_writeChain_78 ?_
        refine v_iret C F (by first | rfl | exact bI_nar _) dX6_writeChain_81 (Nat.le_of_ble_eq_true rfl) (Nat.le_of_ble_eq_true rfl) ?_
        first
        | (exact ⟨fun _ => ⟨by rw [t_j], by rw [t_j]; exact hTF, hFx.tr (hF4.tr hF5)⟩, fun z => absurd (by simp [cdL, hn0, hp_p]) z⟩)
        | (exact ⟨fun z => absurd z (nz_t c5), fun _ => rfl⟩)
      · have hsr := IM_src hI ha (owb_t.mp c27)
        have hrk2 := hrk.2 a ha (owb_t.mp c27)
        have l1 := numL_len (v := src m a) (by omega)
        refine v_aload_n C dX6_writeChain_30 rfl ?_
        refine v_bipush (v := nI 60) C dX6_writeChain_31 (by decide) ?_
        refine v_callVv C (c_X6_says hl hTx (by omega)) ym_X6_says ml_X6_313 emb_id_qS rfl rfl rfl rfl rfl dX6_writeChain_33 (Nat.le_of_ble_eq_true rfl) (Nat.le_of_ble_eq_true rfl) (Nat.le_of_ble_eq_true rfl) (Nat.le_of_ble_eq_true rfl) (fun _ _ hu => hu.elim) (fun r u hu => ?_)
        obtain ⟨hT2, hF2⟩ := hu
        obtain ⟨g2, eg2⟩ : ∃ x, x = u := ⟨u, rfl⟩
        subst eg2
        have hr2 := hF2.row
        refine v_aload_n C dX6_writeChain_36 rfl ?_
        refine v_aload_n C dX6_writeChain_37 rfl ?_
        refine v_getr C fl_X6_7 or_qS_0_3 dX6_writeChain_38 ?_
        refine v_bipush (v := nI 96) C dX6_writeChain_41 (by decide) ?_
        refine v_iload_n C dX6_writeChain_43 rfl ?_
        first | refine v_iaddN C dX6_writeChain_44 ?_ | refine v_iadd C dX6_writeChain_44 ?_
        refine v_ialdQ (x := nI (src m a)) C ar_qS_1 (by decide) _ (((congrFun hr2.1 _).trans (hRx.s (by omega))).trans hsr.2) ?_ rfl dX6_writeChain_45 ?_
        · omega
        refine v_callVv C (c_X6_saysNumber_2 hl (v := src m a) hT2 (by omega) (by simp only [List.length_append, List.length_cons, List.length_nil]; omega)) ym_X6_saysNumber ml_X6_310 emb_id_qS rfl rfl rfl rfl rfl dX6_writeChain_46 (Nat.le_of_ble_eq_true rfl) (Nat.le_of_ble_eq_true rfl) (Nat.le_of_ble_eq_true rfl) (Nat.le_of_ble_eq_true rfl) (fun _ _ hu => hu.elim) (fun r u hu => ?_)
        obtain ⟨hT3, hF3⟩ := hu
        obtain ⟨g3, eg3⟩ : ∃ x, x = u := ⟨u, rfl⟩
        subst eg3
        have hr3 := (hF2.tr hF3).row
        refine v_aload_n C dX6_writeChain_49 rfl ?_
        refine v_getr C fl_X6_7 or_qS_0_3 dX6_writeChain_50 ?_
        refine v_bipush (v := nI 96) C dX6_writeChain_53 (by decide) ?_
        refine v_iload_n C dX6_writeChain_55 rfl ?_
        first | refine v_iaddN C dX6_writeChain_56 ?_ | refine v_iadd C dX6_writeChain_56 ?_
        refine v_ialdQ (x := nI (src m a)) C ar_qS_1 (by decide) _ (((congrFun hr3.1 _).trans (hRx.s (by omega))).trans hsr.2) ?_ rfl dX6_writeChain_57 ?_
        · omega
        refine v_istore_n C (lo2 := [some _, some _, some _]) dX6_writeChain_58 rfl (Nat.le_of_ble_eq_true rfl) rfl ?_
        refine v_goto C 22 dX6_writeChain_59 (by decide) ?_
        exact ih22 (k + 1, src m a, T ++ [nI 60] ++ numL (src m a), g3) (by show rk (src m a) < rk a; omega) ⟨hsr.1, by show rk (src m a) + (k + 1) ≤ rk j; omega, by show (T ++ [nI 60] ++ numL (src m a)).length ≤ 2 + 3 * (k + 1); simp only [List.length_append, List.length_cons, List.length_nil]; omega, hT3, hFx.tr (hF2.tr hF3), by rw [← i4, chn_s hI hrk (96 - k) (by omega) ha, if_neg (owb_t.mp c27), show 96 - k - 1 = 96 - (k + 1) by omega]⟩
    exact L22 (0, j, numL j, g1) ⟨hj_j, Nat.le_refl _, by show (numL j).length ≤ 2 + 3 * 0; omega, (by rw [List.nil_append] at hT1; exact hT1), (show txF (tg g 0) g1 from txF.tr ⟨nI 0, g 6, (sG_id (g := sG (tg g 0) 0 (upd (tg g 0 0) 24 (nI 0))) (c := 6) rfl).symm⟩ hF1), rfl⟩
  · skip
    refine v_iconst (v := nI 0) C dX6_writeChain_8 (by decide) ?_
    refine v_iret C F (by first | rfl | exact bI_nar _) dX6_writeChain_9 (Nat.le_of_ble_eq_true rfl) (Nat.le_of_ble_eq_true rfl) ?_
    first
    | (exact ⟨fun _ => ⟨by rw [t_j], by rw [t_j]; exact hTF, hFx.tr (hF4.tr hF5)⟩, fun z => absurd (by simp [cdL, hn0, hp_p]) z⟩)
    | (exact ⟨fun z => absurd z (nz_t c5), fun _ => rfl⟩)

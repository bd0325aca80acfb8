set_option maxHeartbeats 16000000 in
theorem c_X5_parseError {l : Launch} (hl : l.stackTraces = false) {κ : Kp} {h : Nat → Nat} {s sT rb sr : G} {m mT mr : Mg} {hh : Hg} {sl : Nat → Mg} {tx : G}  : Ct SS MM l κ yX5_parseError cX5_parseError 1 (some FieldType.int) 0 0 0 [.ref (h 0)] (cS κ h) ((s, m), (sT, mT), (rb, sr, mr), hh, sl, tx) ri (fun v u => v = rb 0 3 ∧ u = ((s, m), (sT, mT), (rb, sr, mr), hh, sl, tx)) (fun _ _ => False) := by
  refine Ct.of (own := RX5) (by decide) rfl hl (by intro v hv; simp only [List.mem_cons, List.not_mem_nil, or_false] at hv; first | (rcases hv with rfl | rfl | rfl | rfl | rfl | rfl <;> rfl) | (rcases hv with rfl | rfl | rfl | rfl | rfl <;> rfl) | (rcases hv with rfl | rfl | rfl | rfl <;> rfl) | (rcases hv with rfl | rfl | rfl <;> rfl) | (rcases hv with rfl | rfl <;> rfl) | (subst hv; rfl) | exact hv.elim) (Nat.le_of_ble_eq_true rfl) (fun X hxl hxk C F N => ?_)
  subst hxl hxk
  show V X (cS (xK X) h) 0 [some (.ref (h 0))] [] ((s, m), (sT, mT), (rb, sr, mr), hh, sl, tx) 0 0
  refine v_aload_n C dX5_parseError_0 rfl ?_
  refine v_getr C fl_X5_22 or_cS_0_2 dX5_parseError_1 ?_
  refine v_geti C fl_X5_94 oi_cS_25_3 dX5_parseError_4 ?_
  refine v_iret C F (by first | rfl | exact bI_nar _) dX5_parseError_7 (Nat.le_of_ble_eq_true rfl) (Nat.le_of_ble_eq_true rfl) ?_
  first | exact rfl | exact ⟨rfl, rfl⟩
set_option maxHeartbeats 16000000 in
theorem c_X5_errorPosition {l : Launch} (hl : l.stackTraces = false) {κ : Kp} {h : Nat → Nat} {s sT rb sr : G} {m mT mr : Mg} {hh : Hg} {sl : Nat → Mg} {tx : G}  : Ct SS MM l κ yX5_errorPosition cX5_errorPosition 1 (some FieldType.int) 0 0 0 [.ref (h 0)] (cS κ h) ((s, m), (sT, mT), (rb, sr, mr), hh, sl, tx) ri (fun v u => v = rb 0 4 ∧ u = ((s, m), (sT, mT), (rb, sr, mr), hh, sl, tx)) (fun _ _ => False) := by
  refine Ct.of (own := RX5) (by decide) rfl hl (by intro v hv; simp only [List.mem_cons, List.not_mem_nil, or_false] at hv; first | (rcases hv with rfl | rfl | rfl | rfl | rfl | rfl <;> rfl) | (rcases hv with rfl | rfl | rfl | rfl | rfl <;> rfl) | (rcases hv with rfl | rfl | rfl | rfl <;> rfl) | (rcases hv with rfl | rfl | rfl <;> rfl) | (rcases hv with rfl | rfl <;> rfl) | (subst hv; rfl) | exact hv.elim) (Nat.le_of_ble_eq_true rfl) (fun X hxl hxk C F N => ?_)
  subst hxl hxk
  show V X (cS (xK X) h) 0 [some (.ref (h 0))] [] ((s, m), (sT, mT), (rb, sr, mr), hh, sl, tx) 0 0
  refine v_aload_n C dX5_errorPosition_0 rfl ?_
  refine v_getr C fl_X5_22 or_cS_0_2 dX5_errorPosition_1 ?_
  refine v_geti C fl_X5_97 oi_cS_25_4 dX5_errorPosition_4 ?_
  refine v_iret C F (by first | rfl | exact bI_nar _) dX5_errorPosition_7 (Nat.le_of_ble_eq_true rfl) (Nat.le_of_ble_eq_true rfl) ?_
  first | exact rfl | exact ⟨rfl, rfl⟩
set_option maxHeartbeats 16000000 in
theorem c_X5_size {l : Launch} (hl : l.stackTraces = false) {κ : Kp} {h : Nat → Nat} {s sT : G} {m mT : Mg} {rr : Rg} {hh : Hg} {sl : Nat → Mg} {tx : G}  : Ct SS MM l κ yX5_size cX5_size 1 (some FieldType.int) 0 0 0 [.ref (h 0)] (cS κ h) ((s, m), (sT, mT), rr, hh, sl, tx) ri (fun v u => v = m 0 7 ∧ u = ((s, m), (sT, mT), rr, hh, sl, tx)) (fun _ _ => False) := by
  refine Ct.of (own := RX5) (by decide) rfl hl (by intro v hv; simp only [List.mem_cons, List.not_mem_nil, or_false] at hv; first | (rcases hv with rfl | rfl | rfl | rfl | rfl | rfl <;> rfl) | (rcases hv with rfl | rfl | rfl | rfl | rfl <;> rfl) | (rcases hv with rfl | rfl | rfl | rfl <;> rfl) | (rcases hv with rfl | rfl | rfl <;> rfl) | (rcases hv with rfl | rfl <;> rfl) | (subst hv; rfl) | exact hv.elim) (Nat.le_of_ble_eq_true rfl) (fun X hxl hxk C F N => ?_)
  subst hxl hxk
  show V X (cS (xK X) h) 0 [some (.ref (h 0))] [] ((s, m), (sT, mT), rr, hh, sl, tx) 0 0
  refine v_aload_n C dX5_size_0 rfl ?_
  refine v_getr C fl_X5_10 or_cS_0_0 dX5_size_1 ?_
  refine v_getr C fl_X5_74 or_cS_1_0 dX5_size_4 ?_
  refine v_geti C fl_X5_91 oi_cS_5_7 dX5_size_7 ?_
  refine v_iret C F (by first | rfl | exact bI_nar _) dX5_size_10 (Nat.le_of_ble_eq_true rfl) (Nat.le_of_ble_eq_true rfl) ?_
  first | exact rfl | exact ⟨rfl, rfl⟩
set_option maxHeartbeats 16000000 in
theorem c_X5_events {l : Launch} (hl : l.stackTraces = false) {κ : Kp} {h : Nat → Nat} {s sT : G} {m mT : Mg} {rr : Rg} {hh : Hg} {sl : Nat → Mg} {tx : G}  : Ct SS MM l κ yX5_events cX5_events 1 (some FieldType.int) 0 0 0 [.ref (h 0)] (cS κ h) ((s, m), (sT, mT), rr, hh, sl, tx) ri (fun v u => v = m 0 8 ∧ u = ((s, m), (sT, mT), rr, hh, sl, tx)) (fun _ _ => False) := by
  refine Ct.of (own := RX5) (by decide) rfl hl (by intro v hv; simp only [List.mem_cons, List.not_mem_nil, or_false] at hv; first | (rcases hv with rfl | rfl | rfl | rfl | rfl | rfl <;> rfl) | (rcases hv with rfl | rfl | rfl | rfl | rfl <;> rfl) | (rcases hv with rfl | rfl | rfl | rfl <;> rfl) | (rcases hv with rfl | rfl | rfl <;> rfl) | (rcases hv with rfl | rfl <;> rfl) | (subst hv; rfl) | exact hv.elim) (Nat.le_of_ble_eq_true rfl) (fun X hxl hxk C F N => ?_)
  subst hxl hxk
  show V X (cS (xK X) h) 0 [some (.ref (h 0))] [] ((s, m), (sT, mT), rr, hh, sl, tx) 0 0
  refine v_aload_n C dX5_events_0 rfl ?_
  refine v_getr C fl_X5_10 or_cS_0_0 dX5_events_1 ?_
  refine v_getr C fl_X5_74 or_cS_1_0 dX5_events_4 ?_
  refine v_geti C fl_X5_229 oi_cS_5_8 dX5_events_7 ?_
  refine v_iret C F (by first | rfl | exact bI_nar _) dX5_events_10 (Nat.le_of_ble_eq_true rfl) (Nat.le_of_ble_eq_true rfl) ?_
  first | exact rfl | exact ⟨rfl, rfl⟩
/-- five words are taken -/
def ap5 (r : G) (f : Nat) (a b c d e : Int32) : G := tkN (tkN (tkN (tkN (tkN r f a 4) (f + 4) b 4) (f + 8) c 4) (f + 12) d 4) (f + 16) e 4
theorem tkN_f4 {r : G} {f : Nat} {w : Int32} (h : r 0 2 = nI f) : tkN r f w 4 0 2 = nI (f + 4) := tkN_f h 4
set_option maxHeartbeats 16000000 in
theorem c_X5_append {l : Launch} (hl : l.stackTraces = false) {κ : Kp} {h : Nat → Nat} {s sT rb sr : G} {m mT mr : Mg} {hh : Hg} {sl : Nat → Mg} {tx : G} {f : Nat} {a b c d e : Int32} (hf : rb 0 2 = nI f) (h7 : f ≤ 700) : Ct SS MM l κ yX5_append cX5_append 6 (some FieldType.int) 2 0 0 [.ref (h 0), .int a, .int b, .int c, .int d, .int e] (cS κ h) ((s, m), (sT, mT), (rb, sr, mr), hh, sl, tx) ri (fun v u => (¬ f + 20 ≤ 700 ∧ v = -1 ∧ u = ((s, m), (sT, mT), (rb, sr, mr), hh, sl, tx)) ∨ (f + 20 ≤ 700 ∧ v = nI (f + 20) ∧ u = ((s, m), (sT, mT), (ap5 rb f a b c d e, sr, mr), hh, sl, tx))) (fun _ _ => False) := by
  refine Ct.of (own := RX5) (by decide) rfl hl (by intro v hv; simp only [List.mem_cons, List.not_mem_nil, or_false] at hv; first | (rcases hv with rfl | rfl | rfl | rfl | rfl | rfl <;> rfl) | (rcases hv with rfl | rfl | rfl | rfl | rfl <;> rfl) | (rcases hv with rfl | rfl | rfl | rfl <;> rfl) | (rcases hv with rfl | rfl | rfl <;> rfl) | (rcases hv with rfl | rfl <;> rfl) | (subst hv; rfl) | exact hv.elim) (Nat.le_of_ble_eq_true rfl) (fun X hxl hxk C F N => ?_)
  subst hxl hxk
  show V X (cS (xK X) h) 0 [some (.ref (h 0)), some (.int a), some (.int b), some (.int c), some (.int d), some (.int e)] [] ((s, m), (sT, mT), (rb, sr, mr), hh, sl, tx) 0 0
  have hk1 : (tkN rb f a 4) 0 2 = nI (f + 4) := tkN_f4 hf
  have hk2 : (tkN (tkN rb f a 4) (f + 4) b 4) 0 2 = nI (f + 8) := tkN_f4 hk1
  have hk3 : (tkN (tkN (tkN rb f a 4) (f + 4) b 4) (f + 8) c 4) 0 2 = nI (f + 12) := tkN_f4 hk2
  have hk4 : (tkN (tkN (tkN (tkN rb f a 4) (f + 4) b 4) (f + 8) c 4) (f + 12) d 4) 0 2 = nI (f + 16) := tkN_f4 hk3
  have hk5 : (tkN (tkN (tkN (tkN (tkN rb f a 4) (f + 4) b 4) (f + 8) c 4) (f + 12) d 4) (f + 16) e 4) 0 2 = nI (f + 20) := tkN_f4 hk4
  refine v_aload_n C dX5_append_0 rfl ?_
  refine v_getr C fl_X5_22 or_cS_0_2 dX5_append_1 ?_
  refine v_bipush (v := nI 20) C dX5_append_4 (by decide) ?_
  refine v_callVi C (c_X3_hasRoom hl (k := 20) hf h7 (by omega)) ym_X3_hasRoom ml_X5_47 emb_c_r rfl rfl rfl rfl rfl dX5_append_6 (Nat.le_of_ble_eq_true rfl) (Nat.le_of_ble_eq_true rfl) (Nat.le_of_ble_eq_true rfl) (Nat.le_of_ble_eq_true rfl) (fun _ _ hu => hu.elim) (fun r u hu => ?_)
  obtain ⟨rfl, hu⟩ := hu
  subst u
  refine V.stt (g2 := ((s, m), (sT, mT), (rb, sr, mr), hh, sl, tx)) (rfl) ?_
  refine v_if_neB C 14 dX5_append_9 (by decide) (fun c9 => ?_) (fun c9 => ?_)
  · have h20 := of_decide_eq_true c9
    refine v_aload_n C dX5_append_14 rfl ?_
    refine v_getr C fl_X5_22 or_cS_0_2 dX5_append_15 ?_
    refine v_iload_n C dX5_append_18 rfl ?_
    refine v_callVv C (c_X3_takeWord hl (r := rb) (y := (sr, mr)) (f := f) (w := a) hf (by omega)) ym_X3_takeWord ml_X5_51 emb_c_r rfl rfl rfl rfl rfl dX5_append_19 (Nat.le_of_ble_eq_true rfl) (Nat.le_of_ble_eq_true rfl) (Nat.le_of_ble_eq_true rfl) (Nat.le_of_ble_eq_true rfl) (fun _ _ hu => hu.elim) (fun r u hu => ?_)
    subst u
    refine V.stt (g2 := ((s, m), (sT, mT), ((tkN rb f a 4), sr, mr), hh, sl, tx)) (rfl) ?_
    refine v_aload_n C dX5_append_22 rfl ?_
    refine v_getr C fl_X5_22 or_cS_0_2 dX5_append_23 ?_
    refine v_iload_n C dX5_append_26 rfl ?_
    refine v_callVv C (c_X3_takeWord hl (r := (tkN rb f a 4)) (y := (sr, mr)) (f := (f + 4)) (w := b) hk1 (by omega)) ym_X3_takeWord ml_X5_51 emb_c_r rfl rfl rfl rfl rfl dX5_append_27 (Nat.le_of_ble_eq_true rfl) (Nat.le_of_ble_eq_true rfl) (Nat.le_of_ble_eq_true rfl) (Nat.le_of_ble_eq_true rfl) (fun _ _ hu => hu.elim) (fun r u hu => ?_)
    subst u
    refine V.stt (g2 := ((s, m), (sT, mT), ((tkN (tkN rb f a 4) (f + 4) b 4), sr, mr), hh, sl, tx)) (rfl) ?_
    refine v_aload_n C dX5_append_30 rfl ?_
    refine v_getr C fl_X5_22 or_cS_0_2 dX5_append_31 ?_
    refine v_iload_n C dX5_append_34 rfl ?_
    refine v_callVv C (c_X3_takeWord hl (r := (tkN (tkN rb f a 4) (f + 4) b 4)) (y := (sr, mr)) (f := (f + 8)) (w := c) hk2 (by omega)) ym_X3_takeWord ml_X5_51 emb_c_r rfl rfl rfl rfl rfl dX5_append_35 (Nat.le_of_ble_eq_true rfl) (Nat.le_of_ble_eq_true rfl) (Nat.le_of_ble_eq_true rfl) (Nat.le_of_ble_eq_true rfl) (fun _ _ hu => hu.elim) (fun r u hu => ?_)
    subst u
    refine V.stt (g2 := ((s, m), (sT, mT), ((tkN (tkN (tkN rb f a 4) (f + 4) b 4) (f + 8) c 4), sr, mr), hh, sl, tx)) (rfl) ?_
    refine v_aload_n C dX5_append_38 rfl ?_
    refine v_getr C fl_X5_22 or_cS_0_2 dX5_append_39 ?_
    refine v_iload C dX5_append_42 rfl ?_
    refine v_callVv C (c_X3_takeWord hl (r := (tkN (tkN (tkN rb f a 4) (f + 4) b 4) (f + 8) c 4)) (y := (sr, mr)) (f := (f + 12)) (w := d) hk3 (by omega)) ym_X3_takeWord ml_X5_51 emb_c_r rfl rfl rfl rfl rfl dX5_append_44 (Nat.le_of_ble_eq_true rfl) (Nat.le_of_ble_eq_true rfl) (Nat.le_of_ble_eq_true rfl) (Nat.le_of_ble_eq_true rfl) (fun _ _ hu => hu.elim) (fun r u hu => ?_)
    subst u
    refine V.stt (g2 := ((s, m), (sT, mT), ((tkN (tkN (tkN (tkN rb f a 4) (f + 4) b 4) (f + 8) c 4) (f + 12) d 4), sr, mr), hh, sl, tx)) (rfl) ?_
    refine v_aload_n C dX5_append_47 rfl ?_
    refine v_getr C fl_X5_22 or_cS_0_2 dX5_append_48 ?_
    refine v_iload C dX5_append_51 rfl ?_
    refine v_callVv C (c_X3_takeWord hl (r := (tkN (tkN (tkN (tkN rb f a 4) (f + 4) b 4) (f + 8) c 4) (f + 12) d 4)) (y := (sr, mr)) (f := (f + 16)) (w := e) hk4 (by omega)) ym_X3_takeWord ml_X5_51 emb_c_r rfl rfl rfl rfl rfl dX5_append_53 (Nat.le_of_ble_eq_true rfl) (Nat.le_of_ble_eq_true rfl) (Nat.le_of_ble_eq_true rfl) (Nat.le_of_ble_eq_true rfl) (fun _ _ hu => hu.elim) (fun r u hu => ?_)
    subst u
    refine V.stt (g2 := ((s, m), (sT, mT), ((tkN (tkN (tkN (tkN (tkN rb f a 4) (f + 4) b 4) (f + 8) c 4) (f + 12) d 4) (f + 16) e 4), sr, mr), hh, sl, tx)) (rfl) ?_
    refine v_aload_n C dX5_append_56 rfl ?_
    refine v_getr C fl_X5_22 or_cS_0_2 dX5_append_57 ?_
    refine v_getiQ (x := nI (f + 20)) C fl_X5_55 oi_cS_25_2 (hk5) dX5_append_60 ?_
    refine v_iret C F (by first | rfl | exact bI_nar _) dX5_append_63 (Nat.le_of_ble_eq_true rfl) (Nat.le_of_ble_eq_true rfl) ?_
    exact Or.inr ⟨h20, rfl, rfl⟩
  · have h20 := of_decide_eq_false c9
    refine v_iconst (v := (-1)) C dX5_append_12 (by decide) ?_
    refine v_iret C F (by first | rfl | exact bI_nar _) dX5_append_13 (Nat.le_of_ble_eq_true rfl) (Nat.le_of_ble_eq_true rfl) ?_
    exact Or.inl ⟨h20, rfl, rfl⟩


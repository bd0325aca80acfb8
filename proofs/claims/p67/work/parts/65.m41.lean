set_option maxHeartbeats 16000000 in
theorem c_X7_log {l : Launch} (hl : l.stackTraces = false) {κ : Kp} {h : Nat → Nat} {n : Nat} {m : Mg} {e : Nat → Nat} {p : Int32} {a b c : Int32} (hE : EvOK m) : CtG SS MM l κ yX7_log cX7_log 4 none 0 1 3 [.ref (h 0), .int a, .int b, .int c] (lmW κ h n (m, e, p)) rv (fun _ w => ∃ e', w = lmW κ h n (noteM m a b c, e', p)) (fun _ _ => False) := by
  refine CtG.of (own := RX7) (by decide) rfl hl (by intro v hv; simp only [List.mem_cons, List.not_mem_nil, or_false] at hv; first | (rcases hv with rfl | rfl | rfl | rfl | rfl | rfl <;> rfl) | (rcases hv with rfl | rfl | rfl | rfl | rfl <;> rfl) | (rcases hv with rfl | rfl | rfl | rfl <;> rfl) | (rcases hv with rfl | rfl | rfl <;> rfl) | (rcases hv with rfl | rfl <;> rfl) | (subst hv; rfl) | exact hv.elim) (Nat.le_of_ble_eq_true rfl) (fun X hxl hxk C F NH hnm => ?_)
  subst hxl hxk
  show V X iW 0 [some (.ref (h 0)), some (.int a), some (.int b), some (.int c)] [] (lmW (xK X) h n (m, e, p)) 0 0
  have hL : m 0 8 = nI (evN m) ∧ evN m ≤ 80 := by obtain ⟨L, h1, h2⟩ := hE; rw [evN_eq h2 h1]; exact ⟨h2, h1⟩
  obtain ⟨hL, hL80⟩ := hL
  refine v_aload_n C dX7_log_0 rfl ?_
  refine v_gF (K := fun w => w) C Cxt.id (v := .int (m 0 8)) 0 fl_X7_136 lm_0 rfl dX7_log_1 ?_
  rw [hL]
  refine v_bipush (v := nI 80) C dX7_log_4 (by decide) ?_
  first | refine v_icmp_geN C 33 dX7_log_6 (by decide) (by omega) (by omega) (fun c6 => ?_) (fun c6 => ?_) | refine v_icmp_ge C 33 dX7_log_6 (by decide) (fun c6 => ?_) (fun c6 => ?_)
  · refine v_aload_n C dX7_log_33 rfl ?_
    refine v_bipush (v := nI 80) C dX7_log_34 (by decide) ?_
    refine v_aload_n C dX7_log_36 rfl ?_
    refine v_gF (K := fun w => w) C Cxt.id (v := .int (m 0 8)) 0 fl_X7_136 lm_0 rfl dX7_log_37 ?_
    rw [hL]
    refine v_iconst (v := nI 1) C dX7_log_40 (by decide) ?_
    first | refine v_iaddN C dX7_log_41 ?_ | refine v_iadd C dX7_log_41 ?_
    refine v_mmin (z := nI (min 80 (evN m + 1))) C ml_X7_73 w_minS w_mI w_minC rfl (Nat.le_of_ble_eq_true rfl) dX7_log_42 (by first | exact Nat.le_of_ble_eq_true rfl | omega) (by first | exact Nat.le_of_ble_eq_true rfl | omega) ?_ ?_
    · exact nI_min (by omega) (by omega)
    refine v_pF (K := fun w => w) C Cxt.id 0 fl_X7_136 fw_X7_6 lm_0 rfl rfl (Nat.le_of_ble_eq_true rfl) (by rw [show min 80 (evN m + 1) = evN m by omega, ← hL]) dX7_log_45 ?_
    refine V.stt (g2 := lmW (xK X) h n (m, e, p)) rfl ?_
    refine v_vretG C (r := ()) F dX7_log_48 (by first | exact Nat.le_of_ble_eq_true rfl | omega) (by first | exact Nat.le_of_ble_eq_true rfl | omega) rfl (List.Perm.refl _) ?_
    exact ⟨e, by rw [noteM_f (by omega)]⟩
  · refine v_aload_n C dX7_log_9 rfl ?_
    refine v_gF (K := fun w => w) C Cxt.id (v := .ref (h 4)) 0 fl_X7_28 lm_0 rfl dX7_log_10 ?_
    refine v_aload_n C dX7_log_13 rfl ?_
    refine v_gF (K := fun w => w) C Cxt.id (v := .int (m 0 8)) 0 fl_X7_136 lm_0 rfl dX7_log_14 ?_
    rw [hL]
    refine v_iconst (v := nI 3) C dX7_log_17 (by decide) ?_
    refine v_newI C 3 rfl (by decide) dX7_log_18 (by first | exact Nat.le_of_ble_eq_true rfl | omega) (by first | exact Nat.le_of_ble_eq_true rfl | omega) (fun q => ?_)
    refine v_dup C dX7_log_20 rfl ?_
    refine v_iconst (v := nI 0) C dX7_log_21 (by decide) ?_
    refine v_iload_n C dX7_log_22 rfl ?_
    refine v_sI (K := fun w => w ++ lmW (xK X) h n (m, e, p)) (ws := [cI (xK X) q 3 (fun _ => 0)]) C (Cxt.r _ Cxt.id) 0 rfl (by first | decide | omega) 0 ?_ rfl rfl dX7_log_23 ?_
    · first | decide | omega
    refine v_dup C dX7_log_24 rfl ?_
    refine v_iconst (v := nI 1) C dX7_log_25 (by decide) ?_
    refine v_iload_n C dX7_log_26 rfl ?_
    refine v_sI (K := fun w => w ++ lmW (xK X) h n (m, e, p)) (ws := [cI (xK X) q 3 (upd (fun _ => 0) 0 a)]) C (Cxt.r _ Cxt.id) 0 rfl (by first | decide | omega) 1 ?_ rfl rfl dX7_log_27 ?_
    · first | decide | omega
    refine v_dup C dX7_log_28 rfl ?_
    refine v_iconst (v := nI 2) C dX7_log_29 (by decide) ?_
    refine v_iload_n C dX7_log_30 rfl ?_
    refine v_sI (K := fun w => w ++ lmW (xK X) h n (m, e, p)) (ws := [cI (xK X) q 3 (upd (upd (fun _ => 0) 0 a) 1 b)]) C (Cxt.r _ Cxt.id) 0 rfl (by first | decide | omega) 2 ?_ rfl rfl dX7_log_31 ?_
    · first | decide | omega
    refine v_sE (K := fun w => w) C Cxt.id (ws := [cI (xK X) q 3 (ev3 a b c)] ++ lmW (xK X) h n (m, e, p)) 5 0 rfl rfl (by decide) (evN m) ?_ rfl rfl dX7_log_32 ?_
    · omega
    refine V.stt (g2 := [cI (xK X) q 3 (ev3 a b c)] ++ (lmW (xK X) h n (m, e, p)).set 4 (cE (xK X) (h 4) 80 (va_up (evq e (evN m)) (evN m) (some q)))) rfl ?_
    refine v_aload_n C dX7_log_33 rfl ?_
    refine v_bipush (v := nI 80) C dX7_log_34 (by decide) ?_
    refine v_aload_n C dX7_log_36 rfl ?_
    refine v_gF (K := fun w => w) C Cxt.id (v := .int (m 0 8)) 1 fl_X7_136 rfl rfl dX7_log_37 ?_
    rw [hL]
    refine v_iconst (v := nI 1) C dX7_log_40 (by decide) ?_
    first | refine v_iaddN C dX7_log_41 ?_ | refine v_iadd C dX7_log_41 ?_
    refine v_mmin (z := nI (min 80 (evN m + 1))) C ml_X7_73 w_minS w_mI w_minC rfl (Nat.le_of_ble_eq_true rfl) dX7_log_42 (by first | exact Nat.le_of_ble_eq_true rfl | omega) (by first | exact Nat.le_of_ble_eq_true rfl | omega) ?_ ?_
    · exact nI_min (by omega) (by omega)
    refine v_pF (K := fun w => w) C Cxt.id 1 fl_X7_136 fw_X7_6 rfl rfl rfl (Nat.le_of_ble_eq_true rfl) rfl dX7_log_45 ?_
    refine V.stt (g2 := [cI (xK X) q 3 (ev3 a b c)] ++ ((lmW (xK X) h n (m, e, p)).set 4 (cE (xK X) (h 4) 80 (va_up (evq e (evN m)) (evN m) (some q)))).set 0 (h 0, .inr (7, (lmF h (m, e, p)).set 6 (.int (nI (evN m + 1)))))) (by rw [show min 80 (evN m + 1) = evN m + 1 by omega]; rfl) ?_
    refine v_vretG C (r := ()) F dX7_log_48 (by first | exact Nat.le_of_ble_eq_true rfl | omega) (by first | exact Nat.le_of_ble_eq_true rfl | omega) rfl (log_perm (by omega)) ?_
    exact ⟨_, rfl⟩
set_option maxHeartbeats 16000000 in
theorem c_X7_paid {l : Launch} (hl : l.stackTraces = false) {κ : Kp} {h : Nat → Nat} {n : Nat} {m : Mg} {e : Nat → Nat} {p : Int32} {j k : Nat} (hE : EvOK m) (hk : k = 1 ∨ k = 2 ∨ k = 3) (hj : j < n) : CtG SS MM l κ yX7_paid cX7_paid 3 none 1 1 3 [.ref (h 0), .ref (h (8 + j)), .int (nI k)] (lmW κ h n (m, e, p)) rv (fun _ w => ∃ e', w = lmW κ h n (cpM (noteM m (nI k) (nI j) (m 1 j)) k, e', p)) (fun _ _ => False) := by
  refine CtG.of (own := RX7) (by decide) rfl hl (by intro v hv; simp only [List.mem_cons, List.not_mem_nil, or_false] at hv; first | (rcases hv with rfl | rfl | rfl | rfl | rfl | rfl <;> rfl) | (rcases hv with rfl | rfl | rfl | rfl | rfl <;> rfl) | (rcases hv with rfl | rfl | rfl | rfl <;> rfl) | (rcases hv with rfl | rfl | rfl <;> rfl) | (rcases hv with rfl | rfl <;> rfl) | (subst hv; rfl) | exact hv.elim) (Nat.le_of_ble_eq_true rfl) (fun X hxl hxk C F NH hnm => ?_)
  subst hxl hxk
  show V X iW 0 [some (.ref (h 0)), some (.ref (h (8 + j))), some (.int (nI k))] [] (lmW (xK X) h n (m, e, p)) 0 0
  refine v_aload_n C dX7_paid_0 rfl ?_
  refine v_gF (K := fun w => w) C Cxt.id (v := .ref (h 3)) 0 fl_X7_24 lm_0 rfl dX7_paid_1 ?_
  refine v_iconst (v := nI 1) C dX7_paid_4 (by decide) ?_
  refine v_iload_n C dX7_paid_5 rfl ?_
  first | refine v_iaddN C dX7_paid_6 ?_ | refine v_iadd C dX7_paid_6 ?_
  refine v_dup2 C dX7_paid_7 rfl rfl ?_
  refine v_gI (K := fun w => w) C Cxt.id (x := (m 6 (1 + k))) 3 lm_3 (by first | decide | omega) (1 + k) (rfl) ?_ rfl dX7_paid_8 ?_
  · omega
  refine v_iconst (v := nI 1) C dX7_paid_9 (by decide) ?_
  first | refine v_iaddN C dX7_paid_10 ?_ | refine v_iadd C dX7_paid_10 ?_
  refine v_sI (K := fun w => w) C Cxt.id 3 lm_3 (by first | decide | omega) (1 + k) ?_ rfl set_acc dX7_paid_11 ?_
  · first | decide | omega
  refine v_aload_n C dX7_paid_12 rfl ?_
  refine v_gF (K := fun w => w) C Cxt.id (v := .ref (h 3)) 0 fl_X7_24 lm_0 rfl dX7_paid_13 ?_
  refine v_bipush (v := nI 7) C dX7_paid_16 (by decide) ?_
  refine v_dup2 C dX7_paid_18 rfl rfl ?_
  refine v_gI (K := fun w => w) C Cxt.id (x := ((accM m (1 + k) (nI 1)) 6 7)) 3 lm_3 (by first | decide | omega) 7 (rfl) ?_ rfl dX7_paid_19 ?_
  · omega
  refine v_iload_n C dX7_paid_20 rfl ?_
  refine v_iconst (v := nI 1) C dX7_paid_21 (by decide) ?_
  first | refine v_icmp_neN C 29 dX7_paid_22 (by decide) (by omega) (by omega) (fun c22 => ?_) (fun c22 => ?_) | refine v_icmp_ne C 29 dX7_paid_22 (by decide) (fun c22 => ?_) (fun c22 => ?_)
  · refine v_iconst (v := nI 5) C dX7_paid_29 (by decide) ?_
    refine v_iload_n C dX7_paid_30 rfl ?_
    first | refine v_isubN C dX7_paid_31 (by omega) ?_ | refine v_isub C dX7_paid_31 ?_
    first | refine v_iaddN C dX7_paid_32 ?_ | refine v_iadd C dX7_paid_32 ?_
    refine v_sI (K := fun w => w) C Cxt.id 3 lm_3 (by first | decide | omega) 7 ?_ rfl set_acc dX7_paid_33 ?_
    · first | decide | omega
    refine V.stt (g2 := lmW (xK X) h n (cpM m k, e, p)) ((by rcases hk with rfl | rfl | rfl <;> first | rfl | exact absurd rfl c22 | exact absurd c22 (by decide))) ?_
    refine v_aload_n C dX7_paid_34 rfl ?_
    refine v_iload_n C dX7_paid_35 rfl ?_
    refine v_aload_n C dX7_paid_36 rfl ?_
    refine v_gFN (K := fun w => w) C Cxt.id (v := .int (nI j)) (5 + j) fln_X7_124 (plc_at hj) rfl dX7_paid_37 ?_
    refine v_aload_n C dX7_paid_40 rfl ?_
    refine v_gFN (K := fun w => w) C Cxt.id (v := .int ((cpM m k) 1 j)) (5 + j) fln_X7_65 (plc_at hj) rfl dX7_paid_41 ?_
    refine v_gVv (K := fun w => w) C Cxt.id 0 (c_X7_log hl (hE.of (by rw [cpM_c (by decide)]))) ym_X7_log ml_X7_139 lm_0 rfl rfl rfl dX7_paid_44 (by first | exact Nat.le_of_ble_eq_true rfl | omega) (by first | exact Nat.le_of_ble_eq_true rfl | omega) (by first | exact Nat.le_of_ble_eq_true rfl | omega) (Nat.le_of_ble_eq_true rfl) (fun _ _ hu => hu.elim) (fun r u hu => ?_)
    obtain ⟨e1, rfl⟩ := hu
    refine v_vretG C (r := ()) F dX7_paid_47 (by first | exact Nat.le_of_ble_eq_true rfl | omega) (by first | exact Nat.le_of_ble_eq_true rfl | omega) rfl (List.Perm.refl _) ?_
    exact ⟨e1, by rw [← note_cp, show cpM m k 1 = m 1 from cpM_c (by decide)]⟩
  · refine v_iconst (v := nI 1) C dX7_paid_25 (by decide) ?_
    refine v_goto C 32 dX7_paid_26 (by decide) ?_
    first | refine v_iaddN C dX7_paid_32 ?_ | refine v_iadd C dX7_paid_32 ?_
    refine v_sI (K := fun w => w) C Cxt.id 3 lm_3 (by first | decide | omega) 7 ?_ rfl set_acc dX7_paid_33 ?_
    · first | decide | omega
    refine V.stt (g2 := lmW (xK X) h n (cpM m k, e, p)) ((by rcases hk with rfl | rfl | rfl <;> first | rfl | exact absurd rfl c22 | exact absurd c22 (by decide))) ?_
    refine v_aload_n C dX7_paid_34 rfl ?_
    refine v_iload_n C dX7_paid_35 rfl ?_
    refine v_aload_n C dX7_paid_36 rfl ?_
    refine v_gFN (K := fun w => w) C Cxt.id (v := .int (nI j)) (5 + j) fln_X7_124 (plc_at hj) rfl dX7_paid_37 ?_
    refine v_aload_n C dX7_paid_40 rfl ?_
    refine v_gFN (K := fun w => w) C Cxt.id (v := .int ((cpM m k) 1 j)) (5 + j) fln_X7_65 (plc_at hj) rfl dX7_paid_41 ?_
    refine v_gVv (K := fun w => w) C Cxt.id 0 (c_X7_log hl (hE.of (by rw [cpM_c (by decide)]))) ym_X7_log ml_X7_139 lm_0 rfl rfl rfl dX7_paid_44 (by first | exact Nat.le_of_ble_eq_true rfl | omega) (by first | exact Nat.le_of_ble_eq_true rfl | omega) (by first | exact Nat.le_of_ble_eq_true rfl | omega) (Nat.le_of_ble_eq_true rfl) (fun _ _ hu => hu.elim) (fun r u hu => ?_)
    obtain ⟨e1, rfl⟩ := hu
    refine v_vretG C (r := ()) F dX7_paid_47 (by first | exact Nat.le_of_ble_eq_true rfl | omega) (by first | exact Nat.le_of_ble_eq_true rfl | omega) rfl (List.Perm.refl _) ?_
    exact ⟨e1, by rw [← note_cp, show cpM m k 1 = m 1 from cpM_c (by decide)]⟩
set_option maxHeartbeats 16000000 in
theorem c_X7_pay {l : Launch} (hl : l.stackTraces = false) {κ : Kp} {h : Nat → Nat} {n : Nat} {m : Mg} {e : Nat → Nat} {p : Int32} {j k : Nat} (hI : IM m n) (h14 : n ≤ 14) (hE : EvOK m) (hk : k = 1 ∨ k = 2 ∨ k = 3) (hj : j < n) : CtG SS MM l κ yX7_pay cX7_pay 3 none 16 1 3 [.ref (h 0), .ref (h (8 + j)), .int (nI k)] (lmW κ h n (m, e, p)) rv (fun _ w => ∃ e', w = lmW κ h n (payM k m j, e', p)) (fun _ _ => False) := by
  refine CtG.of (own := RX7) (by decide) rfl hl (by intro v hv; simp only [List.mem_cons, List.not_mem_nil, or_false] at hv; first | (rcases hv with rfl | rfl | rfl | rfl | rfl | rfl <;> rfl) | (rcases hv with rfl | rfl | rfl | rfl | rfl <;> rfl) | (rcases hv with rfl | rfl | rfl | rfl <;> rfl) | (rcases hv with rfl | rfl | rfl <;> rfl) | (rcases hv with rfl | rfl <;> rfl) | (subst hv; rfl) | exact hv.elim) (Nat.le_of_ble_eq_true rfl) (fun X hxl hxk C F NH hnm => ?_)
  subst hxl hxk
  show V X iW 0 [some (.ref (h 0)), some (.ref (h (8 + j))), some (.int (nI k))] [] (lmW (xK X) h n (m, e, p)) 0 0
  refine v_aload_n C dX7_pay_0 rfl ?_
  refine v_aload_n C dX7_pay_1 rfl ?_
  refine v_gVi (K := fun w => w) C Cxt.id (5 + j) (c_X8_value hl hI h14 hj) ym_X8_value ml_X7_105 (plc_at hj) rfl rfl rfl dX7_pay_2 (by first | exact Nat.le_of_ble_eq_true rfl | omega) (by first | exact Nat.le_of_ble_eq_true rfl | omega) (by first | exact Nat.le_of_ble_eq_true rfl | omega) (Nat.le_of_ble_eq_true rfl) (fun _ _ hu => hu.elim) (fun r u hu => ?_)
  obtain ⟨rfl, rfl⟩ := hu
  refine v_pFN (K := fun w => w) C Cxt.id (5 + j) fln_X7_65 fw_X8_1 (plc_at hj) rfl rfl (Nat.le_of_ble_eq_true rfl) (set_stored hj) dX7_pay_5 ?_
  refine v_aload_n C dX7_pay_8 rfl ?_
  refine v_null C dX7_pay_9 ?_
  refine v_pFN (K := fun w => w) C Cxt.id (v := va_rf none) (5 + j) fln_X7_109 fw_X8_3 (plc_at hj) rfl rfl (Nat.le_of_ble_eq_true rfl) (set_nosource hj) dX7_pay_10 ?_
  refine v_aload_n C dX7_pay_13 rfl ?_
  refine v_iconst (v := (-1)) C dX7_pay_14 (by decide) ?_
  refine v_pFN (K := fun w => w) C Cxt.id (5 + j) fln_X7_121 fw_X8_2 (plc_at hj) rfl rfl (Nat.le_of_ble_eq_true rfl) (set_promise hj) dX7_pay_15 ?_
  refine V.stt (g2 := lmW (xK X) h n (endM (byteM m j (valM m j)) j, e, p)) (rfl) ?_
  refine v_aload_n C dX7_pay_18 rfl ?_
  refine v_aload_n C dX7_pay_19 rfl ?_
  refine v_iload_n C dX7_pay_20 rfl ?_
  refine v_gVv (K := fun w => w) C Cxt.id 0 (c_X7_paid (m := endM (byteM m j (valM m j)) j) hl (hE.of rfl) hk hj) ym_X7_paid ml_X7_142 lm_0 rfl rfl rfl dX7_pay_21 (by first | exact Nat.le_of_ble_eq_true rfl | omega) (by first | exact Nat.le_of_ble_eq_true rfl | omega) (by first | exact Nat.le_of_ble_eq_true rfl | omega) (Nat.le_of_ble_eq_true rfl) (fun _ _ hu => hu.elim) (fun r u hu => ?_)
  obtain ⟨e1, rfl⟩ := hu
  refine v_vretG C (r := ()) F dX7_pay_24 (by first | exact Nat.le_of_ble_eq_true rfl | omega) (by first | exact Nat.le_of_ble_eq_true rfl | omega) rfl (List.Perm.refl _) ?_
  have e2 : endM (byteM m j (valM m j)) j 1 j = valM m j := by rw [endM_c (by decide) (by decide)]; exact upd_s
  exact ⟨e1, by rw [e2]; rfl⟩
set_option maxHeartbeats 16000000 in
theorem c_X7_drop {l : Launch} (hl : l.stackTraces = false) {κ : Kp} {h : Nat → Nat} {n : Nat} {m : Mg} {e : Nat → Nat} {p : Int32} {j : Nat} (hE : EvOK m) (hj : j < n) : CtG SS MM l κ yX7_drop cX7_drop 2 none 1 1 3 [.ref (h 0), .ref (h (8 + j))] (lmW κ h n (m, e, p)) rv (fun _ w => ∃ e', w = lmW κ h n (dropO m j, e', p)) (fun _ _ => False) := by
  refine CtG.of (own := RX7) (by decide) rfl hl (by intro v hv; simp only [List.mem_cons, List.not_mem_nil, or_false] at hv; first | (rcases hv with rfl | rfl | rfl | rfl | rfl | rfl <;> rfl) | (rcases hv with rfl | rfl | rfl | rfl | rfl <;> rfl) | (rcases hv with rfl | rfl | rfl | rfl <;> rfl) | (rcases hv with rfl | rfl | rfl <;> rfl) | (rcases hv with rfl | rfl <;> rfl) | (subst hv; rfl) | exact hv.elim) (Nat.le_of_ble_eq_true rfl) (fun X hxl hxk C F NH hnm => ?_)
  subst hxl hxk
  show V X iW 0 [some (.ref (h 0)), some (.ref (h (8 + j)))] [] (lmW (xK X) h n (m, e, p)) 0 0
  refine v_aload_n C dX7_drop_0 rfl ?_
  refine v_gFN (K := fun w => w) C Cxt.id (v := va_rf (srcV h m j)) (5 + j) fln_X7_109 (plc_at hj) rfl dX7_drop_1 ?_
  refine v_ifnonnull C (x := (srcV h m j)) 8 dX7_drop_4 (by decide) (fun a4 c4 => ?_) (fun c4 => ?_)
  · have hz : dropO m j = dropM m j := if_pos (owb_t.mpr (srcV_yes c4).1)
    refine v_aload_n C dX7_drop_8 rfl ?_
    refine v_gF (K := fun w => w) C Cxt.id (v := .ref (h 3)) 0 fl_X7_24 lm_0 rfl dX7_drop_9 ?_
    refine v_iconst (v := nI 5) C dX7_drop_12 (by decide) ?_
    refine v_dup2 C dX7_drop_13 rfl rfl ?_
    refine v_gI (K := fun w => w) C Cxt.id (x := (m 6 5)) 3 lm_3 (by first | decide | omega) 5 (rfl) ?_ rfl dX7_drop_14 ?_
    · omega
    refine v_iconst (v := nI 1) C dX7_drop_15 (by decide) ?_
    first | refine v_iaddN C dX7_drop_16 ?_ | refine v_iadd C dX7_drop_16 ?_
    refine v_sI (K := fun w => w) C Cxt.id 3 lm_3 (by first | decide | omega) 5 ?_ rfl set_acc dX7_drop_17 ?_
    · first | decide | omega
    refine V.stt (g2 := lmW (xK X) h n (accM m 5 (nI 1), e, p)) (rfl) ?_
    refine v_aload_n C dX7_drop_18 rfl ?_
    refine v_iconst (v := nI 4) C dX7_drop_19 (by decide) ?_
    refine v_aload_n C dX7_drop_20 rfl ?_
    refine v_gFN (K := fun w => w) C Cxt.id (v := .int (nI j)) (5 + j) fln_X7_124 (plc_at hj) rfl dX7_drop_21 ?_
    refine v_aload_n C dX7_drop_24 rfl ?_
    refine v_gFN (K := fun w => w) C Cxt.id (v := .int ((accM m 5 (nI 1)) 3 j)) (5 + j) fln_X7_121 (plc_at hj) rfl dX7_drop_25 ?_
    refine v_gVv (K := fun w => w) C Cxt.id 0 (c_X7_log hl (m := accM m 5 (nI 1)) (hE.of rfl)) ym_X7_log ml_X7_139 lm_0 rfl rfl rfl dX7_drop_28 (by first | exact Nat.le_of_ble_eq_true rfl | omega) (by first | exact Nat.le_of_ble_eq_true rfl | omega) (by first | exact Nat.le_of_ble_eq_true rfl | omega) (Nat.le_of_ble_eq_true rfl) (fun _ _ hu => hu.elim) (fun r u hu => ?_)
    obtain ⟨e1, rfl⟩ := hu
    refine v_aload_n C dX7_drop_31 rfl ?_
    refine v_null C dX7_drop_32 ?_
    refine v_pFN (K := fun w => w) C Cxt.id (v := va_rf none) (5 + j) fln_X7_109 fw_X8_3 (plc_at hj) rfl rfl (Nat.le_of_ble_eq_true rfl) (set_nosource hj) dX7_drop_33 ?_
    refine v_aload_n C dX7_drop_36 rfl ?_
    refine v_iconst (v := (-1)) C dX7_drop_37 (by decide) ?_
    refine v_pFN (K := fun w => w) C Cxt.id (5 + j) fln_X7_121 fw_X8_2 (plc_at hj) rfl rfl (Nat.le_of_ble_eq_true rfl) (set_promise hj) dX7_drop_38 ?_
    refine v_vretG C (r := ()) F dX7_drop_41 (by first | exact Nat.le_of_ble_eq_true rfl | omega) (by first | exact Nat.le_of_ble_eq_true rfl | omega) rfl (List.Perm.refl _) ?_
    exact ⟨e1, by rw [hz]; rfl⟩
  · have hz : dropO m j = m := if_neg (by rw [owb_f.mpr (srcV_no.mp c4)]; exact Bool.false_ne_true)
    refine v_vretG C (r := ()) F dX7_drop_7 (by first | exact Nat.le_of_ble_eq_true rfl | omega) (by first | exact Nat.le_of_ble_eq_true rfl | omega) rfl (List.Perm.refl _) ?_
    exact ⟨e, by rw [hz]⟩
set_option maxHeartbeats 16000000 in
theorem c_X7_next {l : Launch} (hl : l.stackTraces = false) {κ : Kp} {h : Nat → Nat} {n : Nat} {m : Mg} {e : Nat → Nat} {p : Int32} (hI : IM m n) (h14 : n ≤ 14) (hp : PolOK m) : CtG SS MM l κ yX7_next cX7_next 5 (some (FieldType.object "CopyDebtsLaw$Place")) 15 0 0 [.ref (h 0)] (lmW κ h n (m, e, p)) rq (fun r w => r = oH h (nextM m n (m 5 2)) ∧ w = lmW κ h n (m, e, p)) (fun _ _ => False) := by
  refine CtG.of (own := RX7) (by decide) rfl hl (by intro v hv; simp only [List.mem_cons, List.not_mem_nil, or_false] at hv; first | (rcases hv with rfl | rfl | rfl | rfl | rfl | rfl <;> rfl) | (rcases hv with rfl | rfl | rfl | rfl | rfl <;> rfl) | (rcases hv with rfl | rfl | rfl | rfl <;> rfl) | (rcases hv with rfl | rfl | rfl <;> rfl) | (rcases hv with rfl | rfl <;> rfl) | (subst hv; rfl) | exact hv.elim) (Nat.le_of_ble_eq_true rfl) (fun X hxl hxk C F NH hnm => ?_)
  subst hxl hxk
  show V X iW 0 [some (.ref (h 0)), none, none, none, none] [] (lmW (xK X) h n (m, e, p)) 0 0
  have hh : ∀ q, q < n → hopsM m q < n := fun q hq => hops_lt hI hq
  have a01 : ¬ nI 0 = nI 1 := by decide
  have a10 : ¬ nI 1 = nI 0 := by decide
  have a23 : ¬ nI 2 = nI 3 := by decide
  have a32 : ¬ nI 3 = nI 2 := by decide
  refine v_null C dX7_next_0 ?_
  refine v_astoreq_n C (x := none) (lo2 := [some _, some _, none, none, none]) dX7_next_1 rfl (Nat.le_of_ble_eq_true rfl) rfl ?_
  refine v_aload_n C dX7_next_2 rfl ?_
  refine v_gF (K := fun w => w) C Cxt.id (v := .ref (h 1)) 0 fl_X7_40 lm_0 rfl dX7_next_3 ?_
  refine v_lenA (K := fun w => w) C Cxt.id (N := n) 3 1 rfl lm_1 rfl dX7_next_6 ?_
  refine v_iconst (v := nI 1) C dX7_next_7 (by decide) ?_
  first | refine v_isubN C dX7_next_8 (by omega) ?_ | refine v_isub C dX7_next_8 ?_
  refine v_istore_n C (lo2 := [some _, some _, some _, none, none]) dX7_next_9 rfl (Nat.le_of_ble_eq_true rfl) rfl ?_
  have L10 : ∀ (t : Nat), (fun t => t ≤ n) t → (fun t : Nat => V X iW 10 [some (.ref (h 0)), some (va_rf (oH h (bakM m (m 5 2) n t))), some (.int (nI (n - t) - nI 1)), none, none] [] (lmW (xK X) h n (m, e, p)) 0 0) t := by
    refine v_ind (fun t : Nat => n - t) ?_
    rintro t ih10 hI10
    try dsimp only at hI10 ⊢
    refine v_iload_n C dX7_next_10 rfl ?_
    refine v_if_lt C 141 dX7_next_11 (by decide) (fun c11 => ?_) (fun c11 => ?_)
    · have ht : t = n := by rw [sub1_toInt (by omega)] at c11; omega
      rw [ht]
      refine v_aloadq_n C (x := (oH h (bakM m (m 5 2) n n))) dX7_next_141 rfl ?_
      refine v_aretG C (x := (oH h (bakM m (m 5 2) n n))) F (Or.inl ⟨_, rfl⟩) dX7_next_142 (by first | exact Nat.le_of_ble_eq_true rfl | omega) (by first | exact Nat.le_of_ble_eq_true rfl | omega) rfl (List.Perm.refl _) ?_
      exact ⟨by rw [bak_next], rfl⟩
    have htn : t < n := by rw [sub1_toInt (by omega)] at c11; omega
    obtain ⟨i, hi⟩ : ∃ i, i = n - (t + 1) := ⟨_, rfl⟩
    have hin : i < n := by omega
    have e1 : nI (n - t) - nI 1 = nI i := by rw [nI_sub (by omega)]; exact congrArg nI (by omega)
    rw [e1]
    have hst := bak_step (m := m) htn
    rw [← hi] at hst
    have J135 : ∀ b3 : Option Nat, b3 = bakM m (m 5 2) n (t + 1) → V X iW 135 [some (.ref (h 0)), some (va_rf (oH h b3)), some (.int (nI i)), some (.ref (h (8 + i))), none] [] (lmW (xK X) h n (m, e, p)) 0 0 := by
      rintro b3 rfl
      refine v_iinc (v := nI i - nI 1) C (lo2 := [some _, some _, some _, some _, none]) dX7_next_135 rfl (sub1_neg) rfl (by cases (oH h (bakM m (m 5 2) n (t + 1))) <;> rfl) ?_
      refine v_goto C 10 dX7_next_138 (by decide) ?_
      refine V.sub (lo2 := [some _, some _, some _, none, none]) ⟨rfl, rfl, rfl, trivial⟩ ?_
      refine V_loc (lo2 := [some (.ref (h 0)), some (va_rf (oH h (bakM m (m 5 2) n (t + 1)))), some (.int (nI (n - (t + 1)) - nI 1)), none, none]) (by rw [hi]) ?_
      exact ih10 (t + 1) (by show n - (t + 1) < n - t; omega) (by show t + 1 ≤ n; omega)
    have hbq : ∀ q, bakM m (m 5 2) n t = some q → q < n := fun q hq => (bak_in (by omega) hq).1
    generalize hb : bakM m (m 5 2) n t = b at hst hbq ⊢
    have J126 : owb m i = true → V X iW 126 [some (.ref (h 0)), some (va_rf (oH h b)), some (.int (nI i)), some (.ref (h (8 + i))), some (.int (bI (bet1 m i b)))] [.int (bI (better m i b))] (lmW (xK X) h n (m, e, p)) 0 0 := by
      intro ho
      refine v_istore C (lo2 := [some _, some _, some _, some _, some _]) dX7_next_126 rfl (Nat.le_of_ble_eq_true rfl) rfl ?_
      refine v_iload C dX7_next_128 rfl ?_
      refine v_if_eqB C 135 dX7_next_130 (by decide) (fun c130 => ?_) (fun c130 => ?_)
      · rw [if_pos ho, if_neg (by rw [c130]; exact Bool.false_ne_true)] at hst
        first
        | (refine V.sub (lo2 := [some _, some _, some _, some _, none]) ⟨rfl, rfl, rfl, rfl, trivial⟩ ?_
           exact J135 b hst.symm)
        | (refine V.sub (lo2 := [some _, some _, some _, some _, none]) ⟨rfl, rfl, rfl, rfl, trivial⟩ ?_
           exact J135 (some i) hst.symm)
      · rw [if_pos ho, if_pos c130] at hst
        refine v_aload_n C dX7_next_133 rfl ?_
        refine v_astore_n C (lo2 := [some _, some _, some _, some _, some _]) dX7_next_134 rfl (Nat.le_of_ble_eq_true rfl) rfl ?_
        first
        | (refine V.sub (lo2 := [some _, some _, some _, some _, none]) ⟨rfl, rfl, rfl, rfl, trivial⟩ ?_
           exact J135 b hst.symm)
        | (refine V.sub (lo2 := [some _, some _, some _, some _, none]) ⟨rfl, rfl, rfl, rfl, trivial⟩ ?_
           exact J135 (some i) hst.symm)
    have J125 : owb m i = true → ∀ b2 : Bool, b2 = bet2 m i b → V X iW 125 [some (.ref (h 0)), some (va_rf (oH h b)), some (.int (nI i)), some (.ref (h (8 + i))), some (.int (bI (bet1 m i b)))] [.int (bI b2), .int (bI (bet1 m i b))] (lmW (xK X) h n (m, e, p)) 0 0 := by
      rintro ho b2 rfl
      refine v_ior C dX7_next_125 ?_
      rw [bI_or, bet_or hp]
      exact J126 ho
    have J70 : owb m i = true → ∀ b1 : Bool, b1 = bet1 m i b → V X iW 70 [some (.ref (h 0)), some (va_rf (oH h b)), some (.int (nI i)), some (.ref (h (8 + i))), none] [.int (bI b1)] (lmW (xK X) h n (m, e, p)) 0 0 := by
      rintro ho b1 rfl
      have K125 := J125 ho
      have z1 := hh i hin
      clear J125 J126 J135 ih10 hst hb
      cases b with
      | none =>
        refine v_istore C (lo2 := [some _, some _, some _, some _, some _]) dX7_next_70 rfl (Nat.le_of_ble_eq_true rfl) rfl ?_
        refine v_iload C dX7_next_72 rfl ?_
        refine v_aloadq_n C (x := none) dX7_next_74 rfl ?_
        refine v_ifnull C (x := none) 124 dX7_next_75 (by decide) (fun _ => ?_) (fun _ c => by cases c)
        refine v_iconst (v := nI 0) C dX7_next_124 (by decide) ?_
        first
        | exact K125 true (by simp_all [bet2])
        | exact K125 false (by simp_all [bet2])
        | exact K125 true (by simp_all [bet2]; omega)
        | exact K125 false (by simp_all [bet2]; omega)
      | some q =>
        have hq := hbq q rfl
        have z2 := hh q hq
        refine v_istore C (lo2 := [some _, some _, some _, some _, some _]) dX7_next_70 rfl (Nat.le_of_ble_eq_true rfl) rfl ?_
        refine v_iload C dX7_next_72 rfl ?_
        refine v_aload_n C dX7_next_74 rfl ?_
        refine v_ifnull C (x := some (h (8 + q))) 124 dX7_next_75 (by decide) (fun c => by cases c) (fun _ _ => ?_)
        refine v_aload_n C dX7_next_78 rfl ?_
        refine v_gF (K := fun w => w) C Cxt.id (v := .ref (h 2)) 0 fl_X7_20 lm_0 rfl dX7_next_79 ?_
        refine v_iconst (v := nI 2) C dX7_next_82 (by decide) ?_
        refine v_gI (K := fun w => w) C Cxt.id (x := (m 5 2)) 2 lm_2 (by first | decide | omega) 2 (rfl) ?_ rfl dX7_next_83 ?_
        · omega
        refine v_iconst (v := nI 2) C dX7_next_84 (by decide) ?_
        refine v_icmp_ne C 99 dX7_next_85 (by decide) (fun c85 => ?_) (fun c85 => ?_)
        · refine v_aload_n C dX7_next_99 rfl ?_
          refine v_gF (K := fun w => w) C Cxt.id (v := .ref (h 2)) 0 fl_X7_20 lm_0 rfl dX7_next_100 ?_
          refine v_iconst (v := nI 2) C dX7_next_103 (by decide) ?_
          refine v_gI (K := fun w => w) C Cxt.id (x := (m 5 2)) 2 lm_2 (by first | decide | omega) 2 (rfl) ?_ rfl dX7_next_104 ?_
          · omega
          refine v_iconst (v := nI 3) C dX7_next_105 (by decide) ?_
          refine v_icmp_ne C 124 dX7_next_106 (by decide) (fun c106 => ?_) (fun c106 => ?_)
          · refine v_iconst (v := nI 0) C dX7_next_124 (by decide) ?_
            first
            | exact K125 true (by simp_all [bet2])
            | exact K125 false (by simp_all [bet2])
            | exact K125 true (by simp_all [bet2]; omega)
            | exact K125 false (by simp_all [bet2]; omega)
          · refine v_aload_n C dX7_next_109 rfl ?_
            refine v_gVi (K := fun w => w) C Cxt.id (5 + i) (c_X8_hops hl hI h14 hin) ym_X8_hops ml_X7_145 (plc_at hin) rfl rfl rfl dX7_next_110 (by first | exact Nat.le_of_ble_eq_true rfl | omega) (by first | exact Nat.le_of_ble_eq_true rfl | omega) (by first | exact Nat.le_of_ble_eq_true rfl | omega) (Nat.le_of_ble_eq_true rfl) (fun _ _ hu => hu.elim) (fun r u hu => ?_)
            obtain ⟨rfl, rfl⟩ := hu
            refine v_aload_n C dX7_next_113 rfl ?_
            refine v_gVi (K := fun w => w) C Cxt.id (5 + q) (c_X8_hops hl hI h14 hq) ym_X8_hops ml_X7_145 (plc_at hq) rfl rfl rfl dX7_next_114 (by first | exact Nat.le_of_ble_eq_true rfl | omega) (by first | exact Nat.le_of_ble_eq_true rfl | omega) (by first | exact Nat.le_of_ble_eq_true rfl | omega) (Nat.le_of_ble_eq_true rfl) (fun _ _ hu => hu.elim) (fun r u hu => ?_)
            obtain ⟨rfl, rfl⟩ := hu
            first | refine v_icmp_gtN C 124 dX7_next_117 (by decide) (by omega) (by omega) (fun c117 => ?_) (fun c117 => ?_) | refine v_icmp_gt C 124 dX7_next_117 (by decide) (fun c117 => ?_) (fun c117 => ?_)
            · refine v_iconst (v := nI 0) C dX7_next_124 (by decide) ?_
              first
              | exact K125 true (by simp_all [bet2])
              | exact K125 false (by simp_all [bet2])
              | exact K125 true (by simp_all [bet2]; omega)
              | exact K125 false (by simp_all [bet2]; omega)
            · refine v_iconst (v := nI 1) C dX7_next_120 (by decide) ?_
              refine v_goto C 125 dX7_next_121 (by decide) ?_
              first
              | exact K125 true (by simp_all [bet2])
              | exact K125 false (by simp_all [bet2])
              | exact K125 true (by simp_all [bet2]; omega)
              | exact K125 false (by simp_all [bet2]; omega)
        · refine v_aload_n C dX7_next_88 rfl ?_
          refine v_gVi (K := fun w => w) C Cxt.id (5 + i) (c_X8_hops hl hI h14 hin) ym_X8_hops ml_X7_145 (plc_at hin) rfl rfl rfl dX7_next_89 (by first | exact Nat.le_of_ble_eq_true rfl | omega) (by first | exact Nat.le_of_ble_eq_true rfl | omega) (by first | exact Nat.le_of_ble_eq_true rfl | omega) (Nat.le_of_ble_eq_true rfl) (fun _ _ hu => hu.elim) (fun r u hu => ?_)
          obtain ⟨rfl, rfl⟩ := hu
          refine v_aload_n C dX7_next_92 rfl ?_
          refine v_gVi (K := fun w => w) C Cxt.id (5 + q) (c_X8_hops hl hI h14 hq) ym_X8_hops ml_X7_145 (plc_at hq) rfl rfl rfl dX7_next_93 (by first | exact Nat.le_of_ble_eq_true rfl | omega) (by first | exact Nat.le_of_ble_eq_true rfl | omega) (by first | exact Nat.le_of_ble_eq_true rfl | omega) (Nat.le_of_ble_eq_true rfl) (fun _ _ hu => hu.elim) (fun r u hu => ?_)
          obtain ⟨rfl, rfl⟩ := hu
          first | refine v_icmp_geN C 120 dX7_next_96 (by decide) (by omega) (by omega) (fun c96 => ?_) (fun c96 => ?_) | refine v_icmp_ge C 120 dX7_next_96 (by decide) (fun c96 => ?_) (fun c96 => ?_)
          · refine v_iconst (v := nI 1) C dX7_next_120 (by decide) ?_
            refine v_goto C 125 dX7_next_121 (by decide) ?_
            first
            | exact K125 true (by simp_all [bet2])
            | exact K125 false (by simp_all [bet2])
            | exact K125 true (by simp_all [bet2]; omega)
            | exact K125 false (by simp_all [bet2]; omega)
          · refine v_aload_n C dX7_next_99 rfl ?_
            refine v_gF (K := fun w => w) C Cxt.id (v := .ref (h 2)) 0 fl_X7_20 lm_0 rfl dX7_next_100 ?_
            refine v_iconst (v := nI 2) C dX7_next_103 (by decide) ?_
            refine v_gI (K := fun w => w) C Cxt.id (x := (m 5 2)) 2 lm_2 (by first | decide | omega) 2 (rfl) ?_ rfl dX7_next_104 ?_
            · omega
            refine v_iconst (v := nI 3) C dX7_next_105 (by decide) ?_
            refine v_icmp_ne C 124 dX7_next_106 (by decide) (fun c106 => ?_) (fun c106 => ?_)
            · refine v_iconst (v := nI 0) C dX7_next_124 (by decide) ?_
              first
              | exact K125 true (by simp_all [bet2])
              | exact K125 false (by simp_all [bet2])
              | exact K125 true (by simp_all [bet2]; omega)
              | exact K125 false (by simp_all [bet2]; omega)
            · refine v_aload_n C dX7_next_109 rfl ?_
              refine v_gVi (K := fun w => w) C Cxt.id (5 + i) (c_X8_hops hl hI h14 hin) ym_X8_hops ml_X7_145 (plc_at hin) rfl rfl rfl dX7_next_110 (by first | exact Nat.le_of_ble_eq_true rfl | omega) (by first | exact Nat.le_of_ble_eq_true rfl | omega) (by first | exact Nat.le_of_ble_eq_true rfl | omega) (Nat.le_of_ble_eq_true rfl) (fun _ _ hu => hu.elim) (fun r u hu => ?_)
              obtain ⟨rfl, rfl⟩ := hu
              refine v_aload_n C dX7_next_113 rfl ?_
              refine v_gVi (K := fun w => w) C Cxt.id (5 + q) (c_X8_hops hl hI h14 hq) ym_X8_hops ml_X7_145 (plc_at hq) rfl rfl rfl dX7_next_114 (by first | exact Nat.le_of_ble_eq_true rfl | omega) (by first | exact Nat.le_of_ble_eq_true rfl | omega) (by first | exact Nat.le_of_ble_eq_true rfl | omega) (Nat.le_of_ble_eq_true rfl) (fun _ _ hu => hu.elim) (fun r u hu => ?_)
              obtain ⟨rfl, rfl⟩ := hu
              first | refine v_icmp_gtN C 124 dX7_next_117 (by decide) (by omega) (by omega) (fun c117 => ?_) (fun c117 => ?_) | refine v_icmp_gt C 124 dX7_next_117 (by decide) (fun c117 => ?_) (fun c117 => ?_)
              · refine v_iconst (v := nI 0) C dX7_next_124 (by decide) ?_
                first
                | exact K125 true (by simp_all [bet2])
                | exact K125 false (by simp_all [bet2])
                | exact K125 true (by simp_all [bet2]; omega)
                | exact K125 false (by simp_all [bet2]; omega)
              · refine v_iconst (v := nI 1) C dX7_next_120 (by decide) ?_
                refine v_goto C 125 dX7_next_121 (by decide) ?_
                first
                | exact K125 true (by simp_all [bet2])
                | exact K125 false (by simp_all [bet2])
                | exact K125 true (by simp_all [bet2]; omega)
                | exact K125 false (by simp_all [bet2]; omega)
    have hzs : ∀ q, q < n → hopsM m q < 2 ^ 31 := fun q hq => by have := hh q hq; omega
    refine v_aload_n C dX7_next_14 rfl ?_
    refine v_gF (K := fun w => w) C Cxt.id (v := .ref (h 1)) 0 fl_X7_40 lm_0 rfl dX7_next_15 ?_
    refine v_iload_n C dX7_next_18 rfl ?_
    refine v_gP (K := fun w => w) C Cxt.id (x := (some (h (8 + i)))) 1 lm_1 (by first | decide | omega) i (if_pos (by omega)) ?_ rfl dX7_next_19 ?_
    · omega
    refine v_astore_n C (lo2 := [some _, some _, some _, some _, none]) dX7_next_20 rfl (Nat.le_of_ble_eq_true rfl) rfl ?_
    refine v_aload_n C dX7_next_21 rfl ?_
    refine v_gFN (K := fun w => w) C Cxt.id (v := va_rf (srcV h m i)) (5 + i) fln_X7_109 (plc_at hin) rfl dX7_next_22 ?_
    refine v_ifnonnull C (x := (srcV h m i)) 31 dX7_next_25 (by decide) (fun a25 c25 => ?_) (fun c25 => ?_)
    · have ho : owb m i = true := owb_t.mpr (srcV_yes c25).1
      have K70 := J70 ho
      clear J70 J125 J126 J135 ih10 hst hb
      cases b with
      | none =>
        refine v_aloadq_n C (x := none) dX7_next_31 rfl ?_
        refine v_ifnull C (x := none) 65 dX7_next_32 (by decide) (fun _ => ?_) (fun _ c => by cases c)
        refine v_iconst (v := nI 1) C dX7_next_65 (by decide) ?_
        refine v_goto C 70 dX7_next_66 (by decide) ?_
        first
        | exact K70 true (by simp_all [bet1])
        | exact K70 false (by simp_all [bet1])
      | some q =>
        have hq := hbq q rfl
        refine v_aload_n C dX7_next_31 rfl ?_
        refine v_ifnull C (x := some (h (8 + q))) 65 dX7_next_32 (by decide) (fun c => by cases c) (fun _ _ => ?_)
        refine v_aload_n C dX7_next_35 rfl ?_
        refine v_gF (K := fun w => w) C Cxt.id (v := .ref (h 2)) 0 fl_X7_20 lm_0 rfl dX7_next_36 ?_
        refine v_iconst (v := nI 2) C dX7_next_39 (by decide) ?_
        refine v_gI (K := fun w => w) C Cxt.id (x := (m 5 2)) 2 lm_2 (by first | decide | omega) 2 (rfl) ?_ rfl dX7_next_40 ?_
        · omega
        refine v_iconst (v := nI 1) C dX7_next_41 (by decide) ?_
        refine v_icmp_eq C 65 dX7_next_42 (by decide) (fun c42 => ?_) (fun c42 => ?_)
        · refine v_iconst (v := nI 1) C dX7_next_65 (by decide) ?_
          refine v_goto C 70 dX7_next_66 (by decide) ?_
          first
          | exact K70 true (by simp_all [bet1])
          | exact K70 false (by simp_all [bet1])
        · refine v_aload_n C dX7_next_45 rfl ?_
          refine v_gF (K := fun w => w) C Cxt.id (v := .ref (h 2)) 0 fl_X7_20 lm_0 rfl dX7_next_46 ?_
          refine v_iconst (v := nI 2) C dX7_next_49 (by decide) ?_
          refine v_gI (K := fun w => w) C Cxt.id (x := (m 5 2)) 2 lm_2 (by first | decide | omega) 2 (rfl) ?_ rfl dX7_next_50 ?_
          · omega
          refine v_if_ne C 69 dX7_next_51 (by decide) (fun c51 => ?_) (fun c51 => ?_)
          · have c51 : ¬ m 5 2 = nI 0 := c51
            refine v_iconst (v := nI 0) C dX7_next_69 (by decide) ?_
            first
            | exact K70 true (by simp_all [bet1])
            | exact K70 false (by simp_all [bet1])
          · have c51 : m 5 2 = nI 0 := c51
            refine v_aload_n C dX7_next_54 rfl ?_
            refine v_gFN (K := fun w => w) C Cxt.id (v := .int (m 3 i)) (5 + i) fln_X7_121 (plc_at hin) rfl dX7_next_55 ?_
            refine v_aload_n C dX7_next_58 rfl ?_
            refine v_gFN (K := fun w => w) C Cxt.id (v := .int (m 3 q)) (5 + q) fln_X7_121 (plc_at hq) rfl dX7_next_59 ?_
            refine v_icmp_gt C 69 dX7_next_62 (by decide) (fun c62 => ?_) (fun c62 => ?_)
            · refine v_iconst (v := nI 0) C dX7_next_69 (by decide) ?_
              first
              | exact K70 true (by simp_all [bet1])
              | exact K70 false (by simp_all [bet1])
            · refine v_iconst (v := nI 1) C dX7_next_65 (by decide) ?_
              refine v_goto C 70 dX7_next_66 (by decide) ?_
              first
              | exact K70 true (by simp_all [bet1])
              | exact K70 false (by simp_all [bet1])
    · rw [if_neg (by rw [owb_f.mpr (srcV_no.mp c25)]; exact Bool.false_ne_true)] at hst
      refine v_goto C 135 dX7_next_28 (by decide) ?_
      refine V.sub (lo2 := [some _, some _, some _, some _, none]) ⟨rfl, rfl, rfl, rfl, trivial⟩ ?_
      exact J135 b hst.symm
  refine V_loc (lo2 := [some (.ref (h 0)), some (va_rf (oH h (bakM m (m 5 2) n 0))), some (.int (nI (n - 0) - nI 1)), none, none]) ?_ ?_
  · first | rfl | (rw [nI_sub (by omega)]; rfl)
  exact L10 0 (Nat.zero_le _)
set_option maxHeartbeats 16000000 in
theorem c_X7_limit {l : Launch} (hl : l.stackTraces = false) {κ : Kp} {h : Nat → Nat} {n : Nat} {m : Mg} {e : Nat → Nat} {p : Int32} (hI : IM m n) (h14 : n ≤ 14) (hE : EvOK m) (hp : PolOK m) (hl1 : m 5 1 = nI (limN m)) (hl2 : limN m ≤ 96) : CtG SS MM l κ yX7_limit cX7_limit 1 none 17 14 42 [.ref (h 0)] (lmW κ h n (m, e, p)) rv (fun _ w => ∃ e', w = lmW κ h n (klM n m, e', p)) (fun _ _ => False) := by
  refine CtG.of (own := RX7) (by decide) rfl hl (by intro v hv; simp only [List.mem_cons, List.not_mem_nil, or_false] at hv; first | (rcases hv with rfl | rfl | rfl | rfl | rfl | rfl <;> rfl) | (rcases hv with rfl | rfl | rfl | rfl | rfl <;> rfl) | (rcases hv with rfl | rfl | rfl | rfl <;> rfl) | (rcases hv with rfl | rfl | rfl <;> rfl) | (rcases hv with rfl | rfl <;> rfl) | (subst hv; rfl) | exact hv.elim) (Nat.le_of_ble_eq_true rfl) (fun X hxl hxk C F NH hnm => ?_)
  subst hxl hxk
  show V X iW 0 [some (.ref (h 0))] [] (lmW (xK X) h n (m, e, p)) 0 0
  have hc14 : cntG (owb m) 0 n ≤ n := cntG_le n 0
  have L0 : ∀ (t : Nat × Mg × (Nat → Nat)), (fun t => t.2.1 = payK 2 n t.1 m ∧ t.1 ≤ cntG (owb m) 0 n - limN m) t → (fun t : Nat × Mg × (Nat → Nat) => V X iW 0 [some (.ref (h 0))] [] (lmW (xK X) h n (t.2.1, t.2.2, p)) t.1 (3 * t.1)) t := by
    refine v_ind (fun t : Nat × Mg × (Nat → Nat) => n - t.1) ?_
    rintro ⟨c, y, e⟩ ih0 hI0
    try dsimp only at hI0 ⊢
    obtain ⟨i1, i2⟩ := hI0
    have hok := payK_ok (kind := 2) (k := c) hI
    rw [← i1] at hok
    obtain ⟨hPd, hcn⟩ := hok
    have hIy := hPd.im hI
    have hEy := hPd.1.2.2.2.2 hE
    have h5 : y 5 = m 5 := hPd.1.2.2.1
    have hpy : PolOK y := by unfold PolOK; rw [h5]; exact hp
    have hcy : cntG (owb y) 0 n ≤ n := cntG_le n 0
    refine v_aload_n C dX7_limit_0 rfl ?_
    refine v_gVi (K := fun w => w) C Cxt.id 0 (c_X7_owed hl h14) ym_X7_owed ml_X7_148 lm_0 rfl rfl rfl dX7_limit_1 (by first | exact Nat.le_of_ble_eq_true rfl | omega) (by first | exact Nat.le_of_ble_eq_true rfl | omega) (by first | exact Nat.le_of_ble_eq_true rfl | omega) (Nat.le_of_ble_eq_true rfl) (fun _ _ hu => hu.elim) (fun r u hu => ?_)
    obtain ⟨rfl, rfl⟩ := hu
    refine v_aload_n C dX7_limit_4 rfl ?_
    refine v_gF (K := fun w => w) C Cxt.id (v := .ref (h 2)) 0 fl_X7_20 lm_0 rfl dX7_limit_5 ?_
    refine v_iconst (v := nI 1) C dX7_limit_8 (by decide) ?_
    refine v_gI (K := fun w => w) C Cxt.id (x := (y 5 1)) 2 lm_2 (by first | decide | omega) 1 (rfl) ?_ rfl dX7_limit_9 ?_
    · omega
    rw [h5, hl1]
    first | refine v_icmp_leN C 25 dX7_limit_10 (by decide) (by omega) (by omega) (fun c10 => ?_) (fun c10 => ?_) | refine v_icmp_le C 25 dX7_limit_10 (by decide) (fun c10 => ?_) (fun c10 => ?_)
    · refine v_vretG C (r := ()) F dX7_limit_25 (by first | exact Nat.le_of_ble_eq_true rfl | omega) (by first | exact Nat.le_of_ble_eq_true rfl | omega) rfl (List.Perm.refl _) ?_
      refine ⟨e, ?_⟩
      have hc : c = cntG (owb m) 0 n - limN m := by omega
      rw [i1, hc]
      rfl
    · refine v_aload_n C dX7_limit_13 rfl ?_
      refine v_aload_n C dX7_limit_14 rfl ?_
      refine v_gVq (K := fun w => w) C Cxt.id 0 (c_X7_next hl hIy h14 hpy) ym_X7_next ml_X7_151 lm_0 rfl rfl rfl dX7_limit_15 (by first | exact Nat.le_of_ble_eq_true rfl | omega) (by first | exact Nat.le_of_ble_eq_true rfl | omega) (by first | exact Nat.le_of_ble_eq_true rfl | omega) (Nat.le_of_ble_eq_true rfl) (fun _ _ hu => hu.elim) (fun r u hu => ?_)
      obtain ⟨rfl, rfl⟩ := hu
      obtain ⟨q, hnx, hqn, hqo⟩ := next_some (m := y) (n := n) (pol := y 5 2) (by omega)
      rw [hnx]
      refine v_iconst (v := nI 2) C dX7_limit_18 (by decide) ?_
      refine v_gVv (K := fun w => w) C Cxt.id 0 (c_X7_pay hl hIy h14 hEy (Or.inr (Or.inl rfl)) hqn) ym_X7_pay ml_X7_113 lm_0 rfl rfl rfl dX7_limit_19 (by first | exact Nat.le_of_ble_eq_true rfl | omega) (by first | exact Nat.le_of_ble_eq_true rfl | omega) (by first | exact Nat.le_of_ble_eq_true rfl | omega) (Nat.le_of_ble_eq_true rfl) (fun _ _ hu => hu.elim) (fun r u hu => ?_)
      obtain ⟨e1, rfl⟩ := hu
      refine v_goto C 0 dX7_limit_22 (by decide) ?_
      obtain ⟨y2, hy2⟩ : ∃ y2, y2 = payM 2 y q := ⟨_, rfl⟩
      refine V.wid (k2 := c + 1) (n2 := 3 * (c + 1)) (by omega) (by omega) ?_
      exact ih0 (c + 1, payM 2 y q, e1) (by show n - (c + 1) < n - c; omega) ⟨by show payM 2 y q = payK 2 n (c + 1) m; unfold payK; rw [forG_last, ← show payK 2 n c m = forG (fun _ m => payN 2 n m) 0 c m from rfl, ← i1]; unfold payN; rw [hnx], by show c + 1 ≤ _; omega⟩
  exact L0 (0, m, e) ⟨rfl, Nat.zero_le _⟩
set_option maxHeartbeats 16000000 in
theorem c_X7_tick {l : Launch} (hl : l.stackTraces = false) {κ : Kp} {h : Nat → Nat} {n : Nat} {m : Mg} {e : Nat → Nat} {p : Int32} {b : Nat} (hI : IM m n) (h14 : n ≤ 14) (hE : EvOK m) (hp : PolOK m) (hb1 : m 5 0 = nI b) (hb2 : b ≤ 96) : CtG SS MM l κ yX7_tick cX7_tick 3 (some FieldType.int) 17 14 42 [.ref (h 0)] (lmW κ h n (m, e, p)) ri (fun r w => r = nI (min b (cntG (owb m) 0 n)) ∧ ∃ e', w = lmW κ h n (payK 1 n b m, e', p)) (fun _ _ => False) := by
  refine CtG.of (own := RX7) (by decide) rfl hl (by intro v hv; simp only [List.mem_cons, List.not_mem_nil, or_false] at hv; first | (rcases hv with rfl | rfl | rfl | rfl | rfl | rfl <;> rfl) | (rcases hv with rfl | rfl | rfl | rfl | rfl <;> rfl) | (rcases hv with rfl | rfl | rfl | rfl <;> rfl) | (rcases hv with rfl | rfl | rfl <;> rfl) | (rcases hv with rfl | rfl <;> rfl) | (subst hv; rfl) | exact hv.elim) (Nat.le_of_ble_eq_true rfl) (fun X hxl hxk C F NH hnm => ?_)
  subst hxl hxk
  show V X iW 0 [some (.ref (h 0)), none, none] [] (lmW (xK X) h n (m, e, p)) 0 0
  have hc14 : cntG (owb m) 0 n ≤ n := cntG_le n 0
  refine v_iconst (v := nI 0) C dX7_tick_0 (by decide) ?_
  refine v_istore_n C (lo2 := [some _, some _, none]) dX7_tick_1 rfl (Nat.le_of_ble_eq_true rfl) rfl ?_
  refine v_aload_n C dX7_tick_2 rfl ?_
  refine v_gVq (K := fun w => w) C Cxt.id 0 (c_X7_next hl hI h14 hp) ym_X7_next ml_X7_151 lm_0 rfl rfl rfl dX7_tick_3 (by first | exact Nat.le_of_ble_eq_true rfl | omega) (by first | exact Nat.le_of_ble_eq_true rfl | omega) (by first | exact Nat.le_of_ble_eq_true rfl | omega) (Nat.le_of_ble_eq_true rfl) (fun _ _ hu => hu.elim) (fun r u hu => ?_)
  obtain ⟨rfl, rfl⟩ := hu
  refine v_astoreq_n C (x := (oH h (nextM m n (m 5 2)))) (lo2 := [some _, some _, some _]) dX7_tick_6 rfl (Nat.le_of_ble_eq_true rfl) rfl ?_
  have L7 : ∀ (t : Nat × Mg × (Nat → Nat)), (fun t => t.2.1 = payK 1 n t.1 m ∧ t.1 ≤ b ∧ t.1 ≤ cntG (owb m) 0 n) t → (fun t : Nat × Mg × (Nat → Nat) => V X iW 7 [some (.ref (h 0)), some (.int (nI t.1)), some (va_rf (oH h (nextM t.2.1 n (t.2.1 5 2))))] [] (lmW (xK X) h n (t.2.1, t.2.2, p)) t.1 (3 * t.1)) t := by
    refine v_ind (fun t : Nat × Mg × (Nat → Nat) => n - t.1) ?_
    rintro ⟨c, y, e⟩ ih7 hI7
    try dsimp only at hI7 ⊢
    obtain ⟨i1, i2, i3⟩ := hI7
    have hok := payK_ok (kind := 1) (k := c) hI
    rw [← i1] at hok
    obtain ⟨hPd, hcn⟩ := hok
    have hIy := hPd.im hI
    have hEy := hPd.1.2.2.2.2 hE
    have h5 : y 5 = m 5 := hPd.1.2.2.1
    have hpy : PolOK y := by unfold PolOK; rw [h5]; exact hp
    have hcy : cntG (owb y) 0 n ≤ n := cntG_le n 0
    refine v_iload_n C dX7_tick_7 rfl ?_
    refine v_aload_n C dX7_tick_8 rfl ?_
    refine v_gF (K := fun w => w) C Cxt.id (v := .ref (h 2)) 0 fl_X7_20 lm_0 rfl dX7_tick_9 ?_
    refine v_iconst (v := nI 0) C dX7_tick_12 (by decide) ?_
    refine v_gI (K := fun w => w) C Cxt.id (x := (y 5 0)) 2 lm_2 (by first | decide | omega) 0 (rfl) ?_ rfl dX7_tick_13 ?_
    · omega
    rw [show y 5 0 = nI b by rw [h5]; exact hb1]
    first | refine v_icmp_geN C 38 dX7_tick_14 (by decide) (by omega) (by omega) (fun c14 => ?_) (fun c14 => ?_) | refine v_icmp_ge C 38 dX7_tick_14 (by decide) (fun c14 => ?_) (fun c14 => ?_)
    · refine v_iload_n C dX7_tick_38 rfl ?_
      refine v_iretG C F (by first | rfl | exact bI_nar _) dX7_tick_39 (by first | exact Nat.le_of_ble_eq_true rfl | omega) (by first | exact Nat.le_of_ble_eq_true rfl | omega) rfl (List.Perm.refl _) ?_
      first
      | exact ⟨congrArg nI (by omega), e, by rw [i1, show c = b by omega]⟩
      | (have hno : cntG (owb y) 0 n = 0 := by
           cases hz : nextM y n (y 5 2) with
           | none => exact cntG_none n 0 (fun j _ hj => (next_inv n).2 hz j (by omega))
           | some q => rw [hz] at c18; cases c18
         exact ⟨congrArg nI (by omega), e, by rw [i1, show b = c + (b - c) by omega, payK_add, payK_0 (m := payK 1 n c m) (by rw [← i1]; exact hno)]⟩)
    · refine v_aloadq_n C (x := (oH h (nextM y n (y 5 2)))) dX7_tick_17 rfl ?_
      refine v_ifnull C (x := (oH h (nextM y n (y 5 2)))) 38 dX7_tick_18 (by decide) (fun c18 => ?_) (fun a18 c18 => ?_)
      · refine v_iload_n C dX7_tick_38 rfl ?_
        refine v_iretG C F (by first | rfl | exact bI_nar _) dX7_tick_39 (by first | exact Nat.le_of_ble_eq_true rfl | omega) (by first | exact Nat.le_of_ble_eq_true rfl | omega) rfl (List.Perm.refl _) ?_
        first
        | exact ⟨congrArg nI (by omega), e, by rw [i1, show c = b by omega]⟩
        | (have hno : cntG (owb y) 0 n = 0 := by
             cases hz : nextM y n (y 5 2) with
             | none => exact cntG_none n 0 (fun j _ hj => (next_inv n).2 hz j (by omega))
             | some q => rw [hz] at c18; cases c18
           exact ⟨congrArg nI (by omega), e, by rw [i1, show b = c + (b - c) by omega, payK_add, payK_0 (m := payK 1 n c m) (by rw [← i1]; exact hno)]⟩)
      · obtain ⟨q, hnx, hqn, hqo⟩ : ∃ q, nextM y n (y 5 2) = some q ∧ q < n ∧ owb y q = true := by
          cases hz : nextM y n (y 5 2) with
          | none => rw [hz] at c18; cases c18
          | some q => exact ⟨q, rfl, (next_inv n).1 q hz⟩
        have hpos : 0 < cntG (owb y) 0 n := cntG_posI hqo n 0 (by omega) (by omega)
        refine V_loc (lo2 := [some (.ref (h 0)), some (.int (nI c)), some (.ref (h (8 + q)))]) (by rw [hnx]; rfl) ?_
        refine v_aload_n C dX7_tick_21 rfl ?_
        refine v_aload_n C dX7_tick_22 rfl ?_
        refine v_iconst (v := nI 1) C dX7_tick_23 (by decide) ?_
        refine v_gVv (K := fun w => w) C Cxt.id 0 (c_X7_pay hl hIy h14 hEy (Or.inl rfl) hqn) ym_X7_pay ml_X7_113 lm_0 rfl rfl rfl dX7_tick_24 (by first | exact Nat.le_of_ble_eq_true rfl | omega) (by first | exact Nat.le_of_ble_eq_true rfl | omega) (by first | exact Nat.le_of_ble_eq_true rfl | omega) (Nat.le_of_ble_eq_true rfl) (fun _ _ hu => hu.elim) (fun r u hu => ?_)
        obtain ⟨e1, rfl⟩ := hu
        have hI2 : IM (payM 1 y q) n := (payM_Pd hqn).im hIy
        have hp2 : PolOK (payM 1 y q) := by unfold PolOK; rw [payM_5]; exact hpy
        first | refine v_iinc1 C (lo2 := [some _, some _, some _]) dX7_tick_27 rfl rfl rfl ?_ | refine v_iinc C (lo2 := [some _, some _, some _]) dX7_tick_27 rfl rfl rfl rfl ?_
        refine v_aload_n C dX7_tick_30 rfl ?_
        refine v_gVq (K := fun w => w) C Cxt.id 0 (c_X7_next hl hI2 h14 hp2) ym_X7_next ml_X7_151 lm_0 rfl rfl rfl dX7_tick_31 (by first | exact Nat.le_of_ble_eq_true rfl | omega) (by first | exact Nat.le_of_ble_eq_true rfl | omega) (by first | exact Nat.le_of_ble_eq_true rfl | omega) (Nat.le_of_ble_eq_true rfl) (fun _ _ hu => hu.elim) (fun r u hu => ?_)
        obtain ⟨rfl, rfl⟩ := hu
        refine v_astoreq_n C (x := (oH h (nextM (payM 1 y q) n (payM 1 y q 5 2)))) (lo2 := [some _, some _, some _]) dX7_tick_34 rfl (Nat.le_of_ble_eq_true rfl) rfl ?_
        refine v_goto C 7 dX7_tick_35 (by decide) ?_
        refine V.wid (k2 := c + 1) (n2 := 3 * (c + 1)) (by omega) (by omega) ?_
        exact ih7 (c + 1, payM 1 y q, e1) (by show n - (c + 1) < n - c; omega) ⟨by show payM 1 y q = payK 1 n (c + 1) m; unfold payK; rw [forG_last, ← show payK 1 n c m = forG (fun _ m => payN 1 n m) 0 c m from rfl, ← i1]; unfold payN; rw [hnx], by show c + 1 ≤ b; omega, by show c + 1 ≤ _; omega⟩
  exact L7 (0, m, e) ⟨rfl, Nat.zero_le _, Nat.zero_le _⟩
set_option maxHeartbeats 16000000 in
theorem c_X7_force {l : Launch} (hl : l.stackTraces = false) {κ : Kp} {h : Nat → Nat} {n : Nat} {m : Mg} {e : Nat → Nat} {p : Int32} {a b : Int32} {T : Nat → Bool} (hI : IM m n) (h14 : n ≤ 14) (hE : EvOK m) (hT : ∀ q, q < n → T q = decide (a.toInt ≤ (q : Int) ∧ (q : Int) ≤ b.toInt)) : CtG SS MM l κ yX7_force cX7_force 8 (some FieldType.int) 17 14 42 [.ref (h 0), .int a, .int b] (lmW κ h n (m, e, p)) ri (fun r w => r = nI (depM T n m).1 ∧ ∃ e', w = lmW κ h n ((depM T n m).2, e', p)) (fun _ _ => False) := by
  refine CtG.of (own := RX7) (by decide) rfl hl (by intro v hv; simp only [List.mem_cons, List.not_mem_nil, or_false] at hv; first | (rcases hv with rfl | rfl | rfl | rfl | rfl | rfl <;> rfl) | (rcases hv with rfl | rfl | rfl | rfl | rfl <;> rfl) | (rcases hv with rfl | rfl | rfl | rfl <;> rfl) | (rcases hv with rfl | rfl | rfl <;> rfl) | (rcases hv with rfl | rfl <;> rfl) | (subst hv; rfl) | exact hv.elim) (Nat.le_of_ble_eq_true rfl) (fun X hxl hxk C F NH hnm => ?_)
  subst hxl hxk
  show V X iW 0 [some (.ref (h 0)), some (.int a), some (.int b), none, none, none, none, none] [] (lmW (xK X) h n (m, e, p)) 0 0
  refine v_iconst (v := nI 0) C dX7_force_0 (by decide) ?_
  refine v_istore_n C (lo2 := [some _, some _, some _, some _, none, none, none, none]) dX7_force_1 rfl (Nat.le_of_ble_eq_true rfl) rfl ?_
  refine v_aload_n C dX7_force_2 rfl ?_
  refine v_gF (K := fun w => w) C Cxt.id (v := .ref (h 1)) 0 fl_X7_40 lm_0 rfl dX7_force_3 ?_
  refine v_astore C (lo2 := [some _, some _, some _, some _, some _, none, none, none]) dX7_force_6 rfl (Nat.le_of_ble_eq_true rfl) rfl ?_
  refine v_aload C dX7_force_8 rfl ?_
  refine v_lenA (K := fun w => w) C Cxt.id (N := n) 3 1 rfl lm_1 rfl dX7_force_10 ?_
  refine v_istore C (lo2 := [some _, some _, some _, some _, some _, some _, none, none]) dX7_force_11 rfl (Nat.le_of_ble_eq_true rfl) rfl ?_
  refine v_iconst (v := nI 0) C dX7_force_13 (by decide) ?_
  refine v_istore C (lo2 := [some _, some _, some _, some _, some _, some _, some _, none]) dX7_force_14 rfl (Nat.le_of_ble_eq_true rfl) rfl ?_
  have L16 : ∀ (t : Nat × Nat × Mg × (Nat → Nat)), (fun t => forG (depS T) t.1 (n - t.1) (t.2.1, t.2.2.1) = depM T n m ∧ Pd n m t.2.2.1 ∧ t.2.1 ≤ t.1 ∧ t.1 ≤ n) t → (fun t : Nat × Nat × Mg × (Nat → Nat) => V X iW 16 [some (.ref (h 0)), some (.int a), some (.int b), some (.int (nI t.2.1)), some (.ref (h 1)), some (.int (nI n)), some (.int (nI t.1)), none] [] (lmW (xK X) h n (t.2.2.1, t.2.2.2, p)) t.2.1 (3 * t.2.1)) t := by
    refine v_ind (fun t : Nat × Nat × Mg × (Nat → Nat) => n - t.1) ?_
    rintro ⟨i, c, y, e⟩ ih16 hI16
    try dsimp only at hI16 ⊢
    obtain ⟨i1, i2, i3, i4⟩ := hI16
    have hIy := i2.im hI
    have hEy := i2.1.2.2.2.2 hE
    refine v_iload C dX7_force_16 rfl ?_
    refine v_iload C dX7_force_18 rfl ?_
    first | refine v_icmp_geN C 99 dX7_force_20 (by decide) (by omega) (by omega) (fun c20 => ?_) (fun c20 => ?_) | refine v_icmp_ge C 99 dX7_force_20 (by decide) (fun c20 => ?_) (fun c20 => ?_)
    · refine v_iload_n C dX7_force_99 rfl ?_
      refine v_iretG C F (by first | rfl | exact bI_nar _) dX7_force_100 (by first | exact Nat.le_of_ble_eq_true rfl | omega) (by first | exact Nat.le_of_ble_eq_true rfl | omega) rfl (List.Perm.refl _) ?_
      rw [forG_0 (by omega)] at i1
      exact ⟨by rw [← i1], e, by rw [← i1]⟩
    · have hin : i < n := c20
      have hTi := hT i hin
      have hi31 := nI_toInt (show i < 2 ^ 31 by omega)
      refine v_aload C dX7_force_23 rfl ?_
      refine v_iload C dX7_force_25 rfl ?_
      refine v_gP (K := fun w => w) C Cxt.id (x := (some (h (8 + i)))) 1 lm_1 (by first | decide | omega) i (if_pos (by omega)) ?_ rfl dX7_force_27 ?_
      · omega
      refine v_astore C (lo2 := [some _, some _, some _, some _, some _, some _, some _, some _]) dX7_force_28 rfl (Nat.le_of_ble_eq_true rfl) rfl ?_
      refine v_aload C dX7_force_30 rfl ?_
      refine v_gFN (K := fun w => w) C Cxt.id (v := .int (nI i)) (5 + i) fln_X7_124 (plc_at hin) rfl dX7_force_32 ?_
      refine v_iload_n C dX7_force_35 rfl ?_
      refine v_icmp_lt C 48 dX7_force_36 (by decide) (fun c36 => ?_) (fun c36 => ?_)
      · refine v_aload C dX7_force_48 rfl ?_
        refine v_gFN (K := fun w => w) C Cxt.id (v := va_rf (srcV h y i)) (5 + i) fln_X7_109 (plc_at hin) rfl dX7_force_50 ?_
        refine v_ifnull C (x := (srcV h y i)) 93 dX7_force_53 (by decide) (fun c53 => ?_) (fun a53 c53 => ?_)
        · have hz : depS T i (c, y) = (c, y) := by
            unfold depS
            dsimp only
            rw [owb_f.mpr (srcV_no.mp c53), Bool.false_and, Bool.and_false]
            rfl
          first | refine v_iinc1 C (lo2 := [some _, some _, some _, some _, some _, some _, some _, some _]) dX7_force_93 rfl rfl rfl ?_ | refine v_iinc C (lo2 := [some _, some _, some _, some _, some _, some _, some _, some _]) dX7_force_93 rfl rfl rfl rfl ?_
          refine v_goto C 16 dX7_force_96 (by decide) ?_
          refine V.sub (lo2 := [some _, some _, some _, some _, some _, some _, some _, none]) ⟨rfl, rfl, rfl, rfl, rfl, rfl, rfl, trivial⟩ ?_
          have hib : i < n := hin
          rw [forG_s hib, hz] at i1
          first
          | exact ih16 (i + 1, c, y, e) (by show n - (i + 1) < n - i; omega) ⟨i1, i2, by show c ≤ i + 1; omega, by show i + 1 ≤ n; omega⟩
          | (refine V.wid (k2 := c + 1) (n2 := 3 * (c + 1)) (by omega) (by omega) ?_
             exact ih16 (i + 1, c + 1, payM 2 y i, e1) (by show n - (i + 1) < n - i; omega) ⟨i1, (show Pd n m (payM 2 y i) from i2.trans hI (payM_Pd hib)), by show c + 1 ≤ i + 1; omega, by show i + 1 ≤ n; omega⟩)
        · have hno := (srcV_yes c53).1
          have hs := IM_src hIy hin hno
          have hTs := hT _ hs.1
          have hs31 := nI_toInt (show src y i < 2 ^ 31 by omega)
          refine v_aload C dX7_force_56 rfl ?_
          refine v_gFN (K := fun w => w) C Cxt.id (v := va_rf (srcV h y i)) (5 + i) fln_X7_109 (plc_at hin) rfl dX7_force_58 ?_
          rw [srcV_t hno]
          refine v_gFN (K := fun w => w) C Cxt.id (v := .int (nI (src y i))) (5 + (src y i)) fln_X7_124 (plc_at hs.1) rfl dX7_force_61 ?_
          refine v_iload_n C dX7_force_64 rfl ?_
          refine v_icmp_lt C 93 dX7_force_65 (by decide) (fun c65 => ?_) (fun c65 => ?_)
          · have hz : depS T i (c, y) = (c, y) := by
              unfold depS
              dsimp only
              rw [hTs, decide_eq_false (show ¬ (a.toInt ≤ (src y i : Int) ∧ (src y i : Int) ≤ b.toInt) by omega), Bool.and_false, Bool.and_false]
              rfl
            first | refine v_iinc1 C (lo2 := [some _, some _, some _, some _, some _, some _, some _, some _]) dX7_force_93 rfl rfl rfl ?_ | refine v_iinc C (lo2 := [some _, some _, some _, some _, some _, some _, some _, some _]) dX7_force_93 rfl rfl rfl rfl ?_
            refine v_goto C 16 dX7_force_96 (by decide) ?_
            refine V.sub (lo2 := [some _, some _, some _, some _, some _, some _, some _, none]) ⟨rfl, rfl, rfl, rfl, rfl, rfl, rfl, trivial⟩ ?_
            have hib : i < n := hin
            rw [forG_s hib, hz] at i1
            first
            | exact ih16 (i + 1, c, y, e) (by show n - (i + 1) < n - i; omega) ⟨i1, i2, by show c ≤ i + 1; omega, by show i + 1 ≤ n; omega⟩
            | (refine V.wid (k2 := c + 1) (n2 := 3 * (c + 1)) (by omega) (by omega) ?_
               exact ih16 (i + 1, c + 1, payM 2 y i, e1) (by show n - (i + 1) < n - i; omega) ⟨i1, (show Pd n m (payM 2 y i) from i2.trans hI (payM_Pd hib)), by show c + 1 ≤ i + 1; omega, by show i + 1 ≤ n; omega⟩)
          · refine v_aload C dX7_force_68 rfl ?_
            refine v_gFN (K := fun w => w) C Cxt.id (v := va_rf (srcV h y i)) (5 + i) fln_X7_109 (plc_at hin) rfl dX7_force_70 ?_
            rw [srcV_t hno]
            refine v_gFN (K := fun w => w) C Cxt.id (v := .int (nI (src y i))) (5 + (src y i)) fln_X7_124 (plc_at hs.1) rfl dX7_force_73 ?_
            refine v_iload_n C dX7_force_76 rfl ?_
            refine v_icmp_le C 83 dX7_force_77 (by decide) (fun c77 => ?_) (fun c77 => ?_)
            · have hz : depS T i (c, y) = (c + 1, payM 2 y i) := by
                unfold depS
                dsimp only
                rw [hTi, hTs, owb_t.mpr hno, Bool.true_and]
                rw [decide_eq_false (show ¬ (a.toInt ≤ (i : Int) ∧ (i : Int) ≤ b.toInt) by omega), decide_eq_true (show a.toInt ≤ (src y i : Int) ∧ (src y i : Int) ≤ b.toInt by omega)]
                rfl
              refine v_aload_n C dX7_force_83 rfl ?_
              refine v_aload C dX7_force_84 rfl ?_
              refine v_iconst (v := nI 2) C dX7_force_86 (by decide) ?_
              refine v_gVv (K := fun w => w) C Cxt.id 0 (c_X7_pay hl hIy h14 hEy (Or.inr (Or.inl rfl)) hin) ym_X7_pay ml_X7_113 lm_0 rfl rfl rfl dX7_force_87 (by first | exact Nat.le_of_ble_eq_true rfl | omega) (by first | exact Nat.le_of_ble_eq_true rfl | omega) (by first | exact Nat.le_of_ble_eq_true rfl | omega) (Nat.le_of_ble_eq_true rfl) (fun _ _ hu => hu.elim) (fun r u hu => ?_)
              obtain ⟨e1, rfl⟩ := hu
              first | refine v_iinc1 C (lo2 := [some _, some _, some _, some _, some _, some _, some _, some _]) dX7_force_90 rfl rfl rfl ?_ | refine v_iinc C (lo2 := [some _, some _, some _, some _, some _, some _, some _, some _]) dX7_force_90 rfl rfl rfl rfl ?_
              first | refine v_iinc1 C (lo2 := [some _, some _, some _, some _, some _, some _, some _, some _]) dX7_force_93 rfl rfl rfl ?_ | refine v_iinc C (lo2 := [some _, some _, some _, some _, some _, some _, some _, some _]) dX7_force_93 rfl rfl rfl rfl ?_
              refine v_goto C 16 dX7_force_96 (by decide) ?_
              refine V.sub (lo2 := [some _, some _, some _, some _, some _, some _, some _, none]) ⟨rfl, rfl, rfl, rfl, rfl, rfl, rfl, trivial⟩ ?_
              have hib : i < n := hin
              rw [forG_s hib, hz] at i1
              first
              | exact ih16 (i + 1, c, y, e) (by show n - (i + 1) < n - i; omega) ⟨i1, i2, by show c ≤ i + 1; omega, by show i + 1 ≤ n; omega⟩
              | (refine V.wid (k2 := c + 1) (n2 := 3 * (c + 1)) (by omega) (by omega) ?_
                 exact ih16 (i + 1, c + 1, payM 2 y i, e1) (by show n - (i + 1) < n - i; omega) ⟨i1, (show Pd n m (payM 2 y i) from i2.trans hI (payM_Pd hib)), by show c + 1 ≤ i + 1; omega, by show i + 1 ≤ n; omega⟩)
            · have hz : depS T i (c, y) = (c, y) := by
                unfold depS
                dsimp only
                rw [hTs, decide_eq_false (show ¬ (a.toInt ≤ (src y i : Int) ∧ (src y i : Int) ≤ b.toInt) by omega), Bool.and_false, Bool.and_false]
                rfl
              refine v_goto C 93 dX7_force_80 (by decide) ?_
              first | refine v_iinc1 C (lo2 := [some _, some _, some _, some _, some _, some _, some _, some _]) dX7_force_93 rfl rfl rfl ?_ | refine v_iinc C (lo2 := [some _, some _, some _, some _, some _, some _, some _, some _]) dX7_force_93 rfl rfl rfl rfl ?_
              refine v_goto C 16 dX7_force_96 (by decide) ?_
              refine V.sub (lo2 := [some _, some _, some _, some _, some _, some _, some _, none]) ⟨rfl, rfl, rfl, rfl, rfl, rfl, rfl, trivial⟩ ?_
              have hib : i < n := hin
              rw [forG_s hib, hz] at i1
              first
              | exact ih16 (i + 1, c, y, e) (by show n - (i + 1) < n - i; omega) ⟨i1, i2, by show c ≤ i + 1; omega, by show i + 1 ≤ n; omega⟩
              | (refine V.wid (k2 := c + 1) (n2 := 3 * (c + 1)) (by omega) (by omega) ?_
                 exact ih16 (i + 1, c + 1, payM 2 y i, e1) (by show n - (i + 1) < n - i; omega) ⟨i1, (show Pd n m (payM 2 y i) from i2.trans hI (payM_Pd hib)), by show c + 1 ≤ i + 1; omega, by show i + 1 ≤ n; omega⟩)
      · refine v_aload C dX7_force_39 rfl ?_
        refine v_gFN (K := fun w => w) C Cxt.id (v := .int (nI i)) (5 + i) fln_X7_124 (plc_at hin) rfl dX7_force_41 ?_
        refine v_iload_n C dX7_force_44 rfl ?_
        refine v_icmp_le C 93 dX7_force_45 (by decide) (fun c45 => ?_) (fun c45 => ?_)
        · have hz : depS T i (c, y) = (c, y) := by
            unfold depS
            rw [hTi, decide_eq_true (show a.toInt ≤ (i : Int) ∧ (i : Int) ≤ b.toInt by omega)]
            rfl
          first | refine v_iinc1 C (lo2 := [some _, some _, some _, some _, some _, some _, some _, some _]) dX7_force_93 rfl rfl rfl ?_ | refine v_iinc C (lo2 := [some _, some _, some _, some _, some _, some _, some _, some _]) dX7_force_93 rfl rfl rfl rfl ?_
          refine v_goto C 16 dX7_force_96 (by decide) ?_
          refine V.sub (lo2 := [some _, some _, some _, some _, some _, some _, some _, none]) ⟨rfl, rfl, rfl, rfl, rfl, rfl, rfl, trivial⟩ ?_
          have hib : i < n := hin
          rw [forG_s hib, hz] at i1
          first
          | exact ih16 (i + 1, c, y, e) (by show n - (i + 1) < n - i; omega) ⟨i1, i2, by show c ≤ i + 1; omega, by show i + 1 ≤ n; omega⟩
          | (refine V.wid (k2 := c + 1) (n2 := 3 * (c + 1)) (by omega) (by omega) ?_
             exact ih16 (i + 1, c + 1, payM 2 y i, e1) (by show n - (i + 1) < n - i; omega) ⟨i1, (show Pd n m (payM 2 y i) from i2.trans hI (payM_Pd hib)), by show c + 1 ≤ i + 1; omega, by show i + 1 ≤ n; omega⟩)
        · refine v_aload C dX7_force_48 rfl ?_
          refine v_gFN (K := fun w => w) C Cxt.id (v := va_rf (srcV h y i)) (5 + i) fln_X7_109 (plc_at hin) rfl dX7_force_50 ?_
          refine v_ifnull C (x := (srcV h y i)) 93 dX7_force_53 (by decide) (fun c53 => ?_) (fun a53 c53 => ?_)
          · have hz : depS T i (c, y) = (c, y) := by
              unfold depS
              dsimp only
              rw [owb_f.mpr (srcV_no.mp c53), Bool.false_and, Bool.and_false]
              rfl
            first | refine v_iinc1 C (lo2 := [some _, some _, some _, some _, some _, some _, some _, some _]) dX7_force_93 rfl rfl rfl ?_ | refine v_iinc C (lo2 := [some _, some _, some _, some _, some _, some _, some _, some _]) dX7_force_93 rfl rfl rfl rfl ?_
            refine v_goto C 16 dX7_force_96 (by decide) ?_
            refine V.sub (lo2 := [some _, some _, some _, some _, some _, some _, some _, none]) ⟨rfl, rfl, rfl, rfl, rfl, rfl, rfl, trivial⟩ ?_
            have hib : i < n := hin
            rw [forG_s hib, hz] at i1
            first
            | exact ih16 (i + 1, c, y, e) (by show n - (i + 1) < n - i; omega) ⟨i1, i2, by show c ≤ i + 1; omega, by show i + 1 ≤ n; omega⟩
            | (refine V.wid (k2 := c + 1) (n2 := 3 * (c + 1)) (by omega) (by omega) ?_
               exact ih16 (i + 1, c + 1, payM 2 y i, e1) (by show n - (i + 1) < n - i; omega) ⟨i1, (show Pd n m (payM 2 y i) from i2.trans hI (payM_Pd hib)), by show c + 1 ≤ i + 1; omega, by show i + 1 ≤ n; omega⟩)
          · have hno := (srcV_yes c53).1
            have hs := IM_src hIy hin hno
            have hTs := hT _ hs.1
            have hs31 := nI_toInt (show src y i < 2 ^ 31 by omega)
            refine v_aload C dX7_force_56 rfl ?_
            refine v_gFN (K := fun w => w) C Cxt.id (v := va_rf (srcV h y i)) (5 + i) fln_X7_109 (plc_at hin) rfl dX7_force_58 ?_
            rw [srcV_t hno]
            refine v_gFN (K := fun w => w) C Cxt.id (v := .int (nI (src y i))) (5 + (src y i)) fln_X7_124 (plc_at hs.1) rfl dX7_force_61 ?_
            refine v_iload_n C dX7_force_64 rfl ?_
            refine v_icmp_lt C 93 dX7_force_65 (by decide) (fun c65 => ?_) (fun c65 => ?_)
            · have hz : depS T i (c, y) = (c, y) := by
                unfold depS
                dsimp only
                rw [hTs, decide_eq_false (show ¬ (a.toInt ≤ (src y i : Int) ∧ (src y i : Int) ≤ b.toInt) by omega), Bool.and_false, Bool.and_false]
                rfl
              first | refine v_iinc1 C (lo2 := [some _, some _, some _, some _, some _, some _, some _, some _]) dX7_force_93 rfl rfl rfl ?_ | refine v_iinc C (lo2 := [some _, some _, some _, some _, some _, some _, some _, some _]) dX7_force_93 rfl rfl rfl rfl ?_
              refine v_goto C 16 dX7_force_96 (by decide) ?_
              refine V.sub (lo2 := [some _, some _, some _, some _, some _, some _, some _, none]) ⟨rfl, rfl, rfl, rfl, rfl, rfl, rfl, trivial⟩ ?_
              have hib : i < n := hin
              rw [forG_s hib, hz] at i1
              first
              | exact ih16 (i + 1, c, y, e) (by show n - (i + 1) < n - i; omega) ⟨i1, i2, by show c ≤ i + 1; omega, by show i + 1 ≤ n; omega⟩
              | (refine V.wid (k2 := c + 1) (n2 := 3 * (c + 1)) (by omega) (by omega) ?_
                 exact ih16 (i + 1, c + 1, payM 2 y i, e1) (by show n - (i + 1) < n - i; omega) ⟨i1, (show Pd n m (payM 2 y i) from i2.trans hI (payM_Pd hib)), by show c + 1 ≤ i + 1; omega, by show i + 1 ≤ n; omega⟩)
            · refine v_aload C dX7_force_68 rfl ?_
              refine v_gFN (K := fun w => w) C Cxt.id (v := va_rf (srcV h y i)) (5 + i) fln_X7_109 (plc_at hin) rfl dX7_force_70 ?_
              rw [srcV_t hno]
              refine v_gFN (K := fun w => w) C Cxt.id (v := .int (nI (src y i))) (5 + (src y i)) fln_X7_124 (plc_at hs.1) rfl dX7_force_73 ?_
              refine v_iload_n C dX7_force_76 rfl ?_
              refine v_icmp_le C 83 dX7_force_77 (by decide) (fun c77 => ?_) (fun c77 => ?_)
              · have hz : depS T i (c, y) = (c + 1, payM 2 y i) := by
                  unfold depS
                  dsimp only
                  rw [hTi, hTs, owb_t.mpr hno, Bool.true_and]
                  rw [decide_eq_false (show ¬ (a.toInt ≤ (i : Int) ∧ (i : Int) ≤ b.toInt) by omega), decide_eq_true (show a.toInt ≤ (src y i : Int) ∧ (src y i : Int) ≤ b.toInt by omega)]
                  rfl
                refine v_aload_n C dX7_force_83 rfl ?_
                refine v_aload C dX7_force_84 rfl ?_
                refine v_iconst (v := nI 2) C dX7_force_86 (by decide) ?_
                refine v_gVv (K := fun w => w) C Cxt.id 0 (c_X7_pay hl hIy h14 hEy (Or.inr (Or.inl rfl)) hin) ym_X7_pay ml_X7_113 lm_0 rfl rfl rfl dX7_force_87 (by first | exact Nat.le_of_ble_eq_true rfl | omega) (by first | exact Nat.le_of_ble_eq_true rfl | omega) (by first | exact Nat.le_of_ble_eq_true rfl | omega) (Nat.le_of_ble_eq_true rfl) (fun _ _ hu => hu.elim) (fun r u hu => ?_)
                obtain ⟨e1, rfl⟩ := hu
                first | refine v_iinc1 C (lo2 := [some _, some _, some _, some _, some _, some _, some _, some _]) dX7_force_90 rfl rfl rfl ?_ | refine v_iinc C (lo2 := [some _, some _, some _, some _, some _, some _, some _, some _]) dX7_force_90 rfl rfl rfl rfl ?_
                first | refine v_iinc1 C (lo2 := [some _, some _, some _, some _, some _, some _, some _, some _]) dX7_force_93 rfl rfl rfl ?_ | refine v_iinc C (lo2 := [some _, some _, some _, some _, some _, some _, some _, some _]) dX7_force_93 rfl rfl rfl rfl ?_
                refine v_goto C 16 dX7_force_96 (by decide) ?_
                refine V.sub (lo2 := [some _, some _, some _, some _, some _, some _, some _, none]) ⟨rfl, rfl, rfl, rfl, rfl, rfl, rfl, trivial⟩ ?_
                have hib : i < n := hin
                rw [forG_s hib, hz] at i1
                first
                | exact ih16 (i + 1, c, y, e) (by show n - (i + 1) < n - i; omega) ⟨i1, i2, by show c ≤ i + 1; omega, by show i + 1 ≤ n; omega⟩
                | (refine V.wid (k2 := c + 1) (n2 := 3 * (c + 1)) (by omega) (by omega) ?_
                   exact ih16 (i + 1, c + 1, payM 2 y i, e1) (by show n - (i + 1) < n - i; omega) ⟨i1, (show Pd n m (payM 2 y i) from i2.trans hI (payM_Pd hib)), by show c + 1 ≤ i + 1; omega, by show i + 1 ≤ n; omega⟩)
              · have hz : depS T i (c, y) = (c, y) := by
                  unfold depS
                  dsimp only
                  rw [hTs, decide_eq_false (show ¬ (a.toInt ≤ (src y i : Int) ∧ (src y i : Int) ≤ b.toInt) by omega), Bool.and_false, Bool.and_false]
                  rfl
                refine v_goto C 93 dX7_force_80 (by decide) ?_
                first | refine v_iinc1 C (lo2 := [some _, some _, some _, some _, some _, some _, some _, some _]) dX7_force_93 rfl rfl rfl ?_ | refine v_iinc C (lo2 := [some _, some _, some _, some _, some _, some _, some _, some _]) dX7_force_93 rfl rfl rfl rfl ?_
                refine v_goto C 16 dX7_force_96 (by decide) ?_
                refine V.sub (lo2 := [some _, some _, some _, some _, some _, some _, some _, none]) ⟨rfl, rfl, rfl, rfl, rfl, rfl, rfl, trivial⟩ ?_
                have hib : i < n := hin
                rw [forG_s hib, hz] at i1
                first
                | exact ih16 (i + 1, c, y, e) (by show n - (i + 1) < n - i; omega) ⟨i1, i2, by show c ≤ i + 1; omega, by show i + 1 ≤ n; omega⟩
                | (refine V.wid (k2 := c + 1) (n2 := 3 * (c + 1)) (by omega) (by omega) ?_
                   exact ih16 (i + 1, c + 1, payM 2 y i, e1) (by show n - (i + 1) < n - i; omega) ⟨i1, (show Pd n m (payM 2 y i) from i2.trans hI (payM_Pd hib)), by show c + 1 ≤ i + 1; omega, by show i + 1 ≤ n; omega⟩)
  exact L16 (0, 0, m, e) ⟨rfl, Pd.rfl, Nat.le_refl _, Nat.zero_le _⟩

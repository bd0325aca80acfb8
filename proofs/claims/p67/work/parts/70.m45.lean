theorem c_sbS {l : Launch} (hl : l.stackTraces = false) {κ : Kp} {a v N : Nat} {T : List Nat} {i : Nat} (hi : i < SS.length) (hS : SbOK N T) (h2 : T.length + 8 ≤ 500) : CtG SS MM l κ yJ4_append_15ec4 cJ4_append_15ec4 2 (some (FieldType.object "java/lang/StringBuilder")) 4 1 1000 [.ref a, .ref (κ.2.2.1 i)] (sbW κ a v N T) rr (fun r w => r = a ∧ ∃ v' N', SbOK N' (T ++ wd i) ∧ w = sbW κ a v' N' (T ++ wd i)) (fun _ _ => False) := by
  have hq : SS[i]? = some (SS[i]'hi) := List.getElem?_eq_getElem hi
  have e := wd_q hq
  have hle := wd_le i
  rw [← e] at hle
  have h := c_J4_append_15ec4 (a := a) (v := v) (T := T) hl (κ := κ) hq hS (by omega)
  rw [e] at h
  exact h
theorem c_sbNew {l : Launch} (hl : l.stackTraces = false) {κ : Kp} {a i : Nat} (hi : i < SS.length) : CtG SS MM l κ yJ4_init_a7421 cJ4_init_a7421 2 none 7 2 1024 [.ref a, .ref (κ.2.2.1 i)] [(a, .inr (10, [.null, .int 0, .int 0, .int 0]))] rv (fun _ w => ∃ v N, SbOK N (wd i) ∧ w = sbW κ a v N (wd i)) (fun _ _ => False) := by
  have hq : SS[i]? = some (SS[i]'hi) := List.getElem?_eq_getElem hi
  have e := wd_q hq
  have h := c_J4_init_a7421 (a := a) hl (κ := κ) hq
  rw [e] at h
  exact h
set_option maxHeartbeats 16000000 in
theorem mi_end {X : Cx} {b d n a0 b0 c0 v N i : Nat} {h e : Nat → Nat} {L : List Q4} {m : Mg} {kk : Cnt} {K0 N0 : Nat} (hl : (xl X).stackTraces = false) (C : Ok SS MM X RX7 cX7_init 7 19 400 70000) (F : FinG X none rv (fun _ w => MemP (xK X) b d w) (fun _ _ => False) 400 70000) (h31 : (xK X).2.2.2 999 < 2 ^ 20)  (hb : h 0 = b) (hZ : Sof (xK X) n a0 b0 c0 L m kk N (300)) (hi : i ≤ 100) (hK0 : K0 ≤ 400) (hN0 : N0 ≤ 70000)  : V X iW 540 [some (.ref (h 0)), some (.ref d), some (.int (nI n)), some (.int (nI 0)), none, none, none] [] (lmW (xK X) h n (m, e, (nI kk.2.2.1)) ++ (sbW (xK X) (h 5) v N (txtL n a0 b0 c0 L) ++ dS (xK X) d (i))) K0 N0 := by
  obtain ⟨⟨n1, h14, ha0, hb0, hc0⟩, hR, hI, ⟨hp6, hk4⟩, hS, hL⟩ := id hZ
  obtain ⟨cM, hM, hcM⟩ := id hI.2.1
  have hIM := hM.1
  have hE := hM.2.1
  refine v_iload_n C dX7_init_540 rfl ?_
  refine v_if_le C 633 dX7_init_541 (by decide) (fun c541 => ?_) (fun c => absurd c (by decide))
  refine v_vretG C (r := ()) F dX7_init_633 (by first | omega | exact Nat.le_of_ble_eq_true rfl) (by first | omega | exact Nat.le_of_ble_eq_true rfl) rfl (List.Perm.refl _) ?_
  exact ⟨h, n, a0, b0, c0, L, m, e, v, N, i, kk, hb, hZ, hi, rfl⟩
set_option maxHeartbeats 16000000 in
theorem mi_fill {X : Cx} {b d n a0 b0 c0 v N i : Nat} {h e : Nat → Nat} {L : List Q4} {m : Mg} {kk : Cnt} {K0 N0 : Nat} (hl : (xl X).stackTraces = false) (C : Ok SS MM X RX7 cX7_init 7 19 400 70000) (F : FinG X none rv (fun _ w => MemP (xK X) b d w) (fun _ _ => False) 400 70000) (h31 : (xK X).2.2.2 999 < 2 ^ 20)  (hb : h 0 = b) (hZ : Sof (xK X) n a0 b0 c0 L m kk N (225)) (hi : i ≤ 33) (hK0 : K0 ≤ 340) (hN0 : N0 ≤ 62000) (hk6 : kk.2.2.2 = 0) : V X iW 540 [some (.ref (h 0)), some (.ref d), some (.int (nI n)), some (.int (nI 1)), none, none, none] [] (lmW (xK X) h n (m, e, (nI kk.2.2.1)) ++ (sbW (xK X) (h 5) v N (txtL n a0 b0 c0 L) ++ dS (xK X) d (i))) K0 N0 := by
  obtain ⟨⟨n1, h14, ha0, hb0, hc0⟩, hR, hI, ⟨hp6, hk4⟩, hS, hL⟩ := id hZ
  obtain ⟨cM, hM, hcM⟩ := id hI.2.1
  have hIM := hM.1
  have hE := hM.2.1
  refine v_iload_n C dX7_init_540 rfl ?_
  refine v_if_le C 633 dX7_init_541 (by decide) (fun c => absurd c (by decide)) (fun c541 => ?_)
  refine v_aload_n C dX7_init_544 rfl ?_
  refine v_iconst (v := nI 0) C dX7_init_545 (by decide) ?_
  refine v_iload_n C dX7_init_546 rfl ?_
  refine v_iconst (v := nI 1) C dX7_init_547 (by decide) ?_
  first | refine v_isubN C dX7_init_548 (by omega) ?_ | refine v_isub C dX7_init_548 ?_
  refine v_gVi (K := fun w => lmW (xK X) h n (m, e, (nI kk.2.2.1)) ++ (sbW (xK X) (h 5) v N (txtL n a0 b0 c0 L) ++ w)) C (Cxt.l _ (Cxt.l _ Cxt.id)) 0 (c_X6_next hl (lo := 0) (hi := (n - 1)) (by omega) (by omega) (by omega) h31) ym_X6_next ml_X7_32 rfl rfl rfl rfl dX7_init_549 (by first | omega | exact Nat.le_of_ble_eq_true rfl) (by first | omega | exact Nat.le_of_ble_eq_true rfl) (by first | omega | exact Nat.le_of_ble_eq_true rfl) (Nat.le_of_ble_eq_true rfl) (fun _ _ hu => hu.elim) (fun r u hu => ?_)
  obtain ⟨rfl, rfl⟩ := hu
  have rP := drw_in (κ := (xK X)) (i := i) (show 0 ≤ (n - 1) by omega)
  generalize drw (xK X) (i) (0) ((n - 1)) = P at rP ⊢
  refine v_istore C (lo2 := [some _, some _, some _, some _, some _, none, none]) dX7_init_552 rfl (Nat.le_of_ble_eq_true rfl) rfl ?_
  refine v_iload_n C dX7_init_554 rfl ?_
  refine v_iconst (v := nI 1) C dX7_init_555 (by decide) ?_
  first | refine v_isubN C dX7_init_556 (by omega) ?_ | refine v_isub C dX7_init_556 ?_
  refine v_iload C dX7_init_557 rfl ?_
  refine v_aload_n C dX7_init_559 rfl ?_
  refine v_iconst (v := nI 0) C dX7_init_560 (by decide) ?_
  refine v_iconst (v := nI 2) C dX7_init_561 (by decide) ?_
  refine v_gVi (K := fun w => lmW (xK X) h n (m, e, (nI kk.2.2.1)) ++ (sbW (xK X) (h 5) v N (txtL n a0 b0 c0 L) ++ w)) C (Cxt.l _ (Cxt.l _ Cxt.id)) 0 (c_X6_next hl (lo := 0) (hi := 2) (by omega) (by omega) (by omega) h31) ym_X6_next ml_X7_32 rfl rfl rfl rfl dX7_init_562 (by first | omega | exact Nat.le_of_ble_eq_true rfl) (by first | omega | exact Nat.le_of_ble_eq_true rfl) (by first | omega | exact Nat.le_of_ble_eq_true rfl) (Nat.le_of_ble_eq_true rfl) (fun _ _ hu => hu.elim) (fun r u hu => ?_)
  obtain ⟨rfl, rfl⟩ := hu
  have rR := drw_in (κ := (xK X)) (i := i + 1) (show 0 ≤ 2 by omega)
  generalize drw (xK X) (i + 1) (0) (2) = R at rR ⊢
  first | refine v_iaddN C dX7_init_565 ?_ | refine v_iadd C dX7_init_565 ?_
  obtain ⟨q, hq⟩ : ∃ q, q = (if P + R < n - 1 then P + R else n - 1) := ⟨_, rfl⟩
  have hq1 : P ≤ q ∧ q ≤ n - 1 := by rw [hq]; split <;> omega
  refine v_mmin (z := nI q) C ml_X7_73 w_minS w_mI w_minC rfl (Nat.le_of_ble_eq_true rfl) dX7_init_566 (by first | omega | exact Nat.le_of_ble_eq_true rfl) (by first | omega | exact Nat.le_of_ble_eq_true rfl) ?_ ?_
  · rw [mn_n (by omega) (by omega), hq]
  refine v_istore C (lo2 := [some _, some _, some _, some _, some _, some _, none]) dX7_init_569 rfl (Nat.le_of_ble_eq_true rfl) rfl ?_
  refine v_aload_n C dX7_init_571 rfl ?_
  refine v_iload C dX7_init_572 rfl ?_
  refine v_iload C dX7_init_574 rfl ?_
  refine v_gVi (K := fun w => w ++ (sbW (xK X) (h 5) v N (txtL n a0 b0 c0 L) ++ dS (xK X) d (i + 1 + 1))) C (Cxt.r _ Cxt.id) 0 (c_X7_isLocked hl (a := P) (c := q + 1) (by omega) (by rw [nI_toInt (by omega)]; omega) (by omega) h14 hI.lk) ym_X7_isLocked ml_X7_94 lm_0 rfl rfl rfl dX7_init_576 (by first | omega | exact Nat.le_of_ble_eq_true rfl) (by first | omega | exact Nat.le_of_ble_eq_true rfl) (by first | omega | exact Nat.le_of_ble_eq_true rfl) (Nat.le_of_ble_eq_true rfl) (fun _ _ hu => hu.elim) (fun r u hu => ?_)
  obtain ⟨rfl, rfl⟩ := hu
  refine v_if_eqB C 585 dX7_init_579 (by decide) (fun c579 => ?_) (fun c579 => ?_)
  · refine v_aload_n C dX7_init_585 rfl ?_
    refine v_gF (K := fun w => w ++ (sbW (xK X) (h 5) v N (txtL n a0 b0 c0 L) ++ dS (xK X) d (i + 1 + 1))) C (Cxt.r _ Cxt.id) (v := .ref (h 5)) 0 fl_X7_14 lm_0 rfl dX7_init_586 ?_
    refine v_ldcS C (i := 19) rfl rfl dX7_init_589 ?_
    refine v_gVr (K := fun w => lmW (xK X) h n (m, e, (nI kk.2.2.1)) ++ (w ++ dS (xK X) d (i + 1 + 1))) C (Cxt.l _ (Cxt.r _ Cxt.id)) 0 (c_sbS hl (i := 19) (by decide) hS (by omega)) ym_J4_append_15ec4 ml_X7_53 rfl rfl rfl rfl dX7_init_591 (by first | omega | exact Nat.le_of_ble_eq_true rfl) (by first | omega | exact Nat.le_of_ble_eq_true rfl) (by first | omega | exact Nat.le_of_ble_eq_true rfl) (Nat.le_of_ble_eq_true rfl) (fun _ _ hu => hu.elim) (fun r u hu => ?_)
    obtain ⟨rfl, v, N, hS, rfl⟩ := hu
    have hL : ((txtL n a0 b0 c0 L) ++ wd 19).length ≤ 233 := by rw [List.length_append]; have := wd_le 19; omega
    refine v_iload C dX7_init_594 rfl ?_
    refine v_gVr (K := fun w => lmW (xK X) h n (m, e, (nI kk.2.2.1)) ++ (w ++ dS (xK X) d (i + 1 + 1))) C (Cxt.l _ (Cxt.r _ Cxt.id)) 0 (c_J4_append_bf812 hl (by omega) hS (by omega)) ym_J4_append_bf812 ml_X7_47 rfl rfl rfl rfl dX7_init_596 (by first | omega | exact Nat.le_of_ble_eq_true rfl) (by first | omega | exact Nat.le_of_ble_eq_true rfl) (by first | omega | exact Nat.le_of_ble_eq_true rfl) (Nat.le_of_ble_eq_true rfl) (fun _ _ hu => hu.elim) (fun r u hu => ?_)
    obtain ⟨rfl, v, N, hS, rfl⟩ := hu
    have hL : (((txtL n a0 b0 c0 L) ++ wd 19) ++ digs P).length ≤ 236 := by rw [List.length_append, digs_len]; have := dig_le (P); omega
    refine v_bipush (v := nI 32) C dX7_init_599 (by decide) ?_
    refine v_gVr (K := fun w => lmW (xK X) h n (m, e, (nI kk.2.2.1)) ++ (w ++ dS (xK X) d (i + 1 + 1))) C (Cxt.l _ (Cxt.r _ Cxt.id)) 0 (c_J4_append_cf468 hl (c := 32) (by decide) hS (by omega)) ym_J4_append_cf468 ml_X7_62 rfl rfl rfl rfl dX7_init_601 (by first | omega | exact Nat.le_of_ble_eq_true rfl) (by first | omega | exact Nat.le_of_ble_eq_true rfl) (by first | omega | exact Nat.le_of_ble_eq_true rfl) (Nat.le_of_ble_eq_true rfl) (fun _ _ hu => hu.elim) (fun r u hu => ?_)
    obtain ⟨rfl, v, N, hS, rfl⟩ := hu
    have hL : ((((txtL n a0 b0 c0 L) ++ wd 19) ++ digs P) ++ [32]).length ≤ 237 := by rw [List.length_append]; show _ + 1 ≤ _; omega
    refine v_iload C dX7_init_604 rfl ?_
    refine v_gVr (K := fun w => lmW (xK X) h n (m, e, (nI kk.2.2.1)) ++ (w ++ dS (xK X) d (i + 1 + 1))) C (Cxt.l _ (Cxt.r _ Cxt.id)) 0 (c_J4_append_bf812 hl (by omega) hS (by omega)) ym_J4_append_bf812 ml_X7_47 rfl rfl rfl rfl dX7_init_606 (by first | omega | exact Nat.le_of_ble_eq_true rfl) (by first | omega | exact Nat.le_of_ble_eq_true rfl) (by first | omega | exact Nat.le_of_ble_eq_true rfl) (Nat.le_of_ble_eq_true rfl) (fun _ _ hu => hu.elim) (fun r u hu => ?_)
    obtain ⟨rfl, v, N, hS, rfl⟩ := hu
    have hL : (((((txtL n a0 b0 c0 L) ++ wd 19) ++ digs P) ++ [32]) ++ digs q).length ≤ 240 := by rw [List.length_append, digs_len]; have := dig_le (q); omega
    refine v_ldcS C (i := 20) rfl rfl dX7_init_609 ?_
    refine v_gVr (K := fun w => lmW (xK X) h n (m, e, (nI kk.2.2.1)) ++ (w ++ dS (xK X) d (i + 1 + 1))) C (Cxt.l _ (Cxt.r _ Cxt.id)) 0 (c_sbS hl (i := 20) (by decide) hS (by omega)) ym_J4_append_15ec4 ml_X7_53 rfl rfl rfl rfl dX7_init_611 (by first | omega | exact Nat.le_of_ble_eq_true rfl) (by first | omega | exact Nat.le_of_ble_eq_true rfl) (by first | omega | exact Nat.le_of_ble_eq_true rfl) (Nat.le_of_ble_eq_true rfl) (fun _ _ hu => hu.elim) (fun r u hu => ?_)
    obtain ⟨rfl, v, N, hS, rfl⟩ := hu
    have hL : ((((((txtL n a0 b0 c0 L) ++ wd 19) ++ digs P) ++ [32]) ++ digs q) ++ wd 20).length ≤ 248 := by rw [List.length_append]; have := wd_le 20; omega
    refine v_pop C dX7_init_614 rfl ?_
    refine v_aload_n C dX7_init_615 rfl ?_
    refine v_iload C dX7_init_616 rfl ?_
    refine v_iload C dX7_init_618 rfl ?_
    refine v_bipush (v := nI 7) C dX7_init_620 (by decide) ?_
    refine v_gVi (K := fun w => w ++ (sbW (xK X) (h 5) v N ((((((txtL n a0 b0 c0 L) ++ wd 19) ++ digs P) ++ [32]) ++ digs q) ++ wd 20) ++ dS (xK X) d (i + 1 + 1))) C (Cxt.r _ Cxt.id) 0 (c_X7_fill hl hIM h14 hE (a := P) (c := q + 1) (by omega) (by omega) (by rw [nI_toInt (by omega)]; omega)) ym_X7_fill ml_X7_102 lm_0 rfl rfl rfl dX7_init_622 (by first | omega | exact Nat.le_of_ble_eq_true rfl) (by first | omega | exact Nat.le_of_ble_eq_true rfl) (by first | omega | exact Nat.le_of_ble_eq_true rfl) (Nat.le_of_ble_eq_true rfl) (fun _ _ hu => hu.elim) (fun r u hu => ?_)
    obtain ⟨rfl, e, rfl⟩ := hu
    rw [fillL_eq (by omega) (by omega)]
    refine v_istore C (lo2 := [some _, some _, some _, some _, some _, some _, some _]) dX7_init_625 rfl (Nat.le_of_ble_eq_true rfl) rfl ?_
    refine v_iinc (v := nI 0) C (lo2 := [some _, some _, some _, some _, some _, some _, some _]) dX7_init_627 rfl (nI_prd 0) rfl rfl ?_
    refine v_goto C 540 dX7_init_630 (by decide) ?_
    refine V.sub (lo2 := [some _, some _, some _, some _, none, none, none]) ⟨rfl, rfl, rfl, rfl, trivial⟩ ?_
    have hT : (((((txtL n a0 b0 c0 L) ++ wd 19) ++ digs P) ++ [32]) ++ digs q) ++ wd 20 = txtL n a0 b0 c0 L ++ clT (6, P, q, 7) := by
      rw [clT_6]
      simp only [List.append_assoc]
    rw [hT] at hS hL
    rw [hT, ← txtL_s]
    exact mi_end (m := clX n (6, P, q, 7) m) (kk := clK (6, P, q, 7) kk) (L := L ++ [(6, P, q, 7)]) hl C F h31 hb (hZ.next (6, P, q, 7) (Or.inr (Or.inr (Or.inr (Or.inr (Or.inr (Or.inr ⟨rfl, hq1.1, (show q < n by omega), c579, hk6⟩)))))) rfl hS (Nat.le_trans hL (by omega))) (by omega) (by omega) (by omega)
  · refine v_goto C 627 dX7_init_582 (by decide) ?_
    refine v_iinc (v := nI 0) C (lo2 := [some _, some _, some _, some _, some _, some _, none]) dX7_init_627 rfl (nI_prd 0) rfl rfl ?_
    refine v_goto C 540 dX7_init_630 (by decide) ?_
    refine V.sub (lo2 := [some _, some _, some _, some _, none, none, none]) ⟨rfl, rfl, rfl, rfl, trivial⟩ ?_
    exact mi_end hl C F h31 hb (hZ.le (by omega)) (by omega) (by omega) (by omega)
set_option maxHeartbeats 16000000 in
theorem mi_fil0 {X : Cx} {b d n a0 b0 c0 v N i : Nat} {h e : Nat → Nat} {L : List Q4} {m : Mg} {kk : Cnt} {K0 N0 : Nat} (hl : (xl X).stackTraces = false) (C : Ok SS MM X RX7 cX7_init 7 19 400 70000) (F : FinG X none rv (fun _ w => MemP (xK X) b d w) (fun _ _ => False) 400 70000) (h31 : (xK X).2.2.2 999 < 2 ^ 20) {lk : Value} (hb : h 0 = b) (hZ : Sof (xK X) n a0 b0 c0 L m kk N (225)) (hi : i ≤ 29) (hK0 : K0 ≤ 340) (hN0 : N0 ≤ 62000) (hk6 : kk.2.2.2 = 0) : V X iW 533 [some (.ref (h 0)), some (.ref d), some (.int (nI n)), some lk, none, none, none] [] (lmW (xK X) h n (m, e, (nI kk.2.2.1)) ++ (sbW (xK X) (h 5) v N (txtL n a0 b0 c0 L) ++ dS (xK X) d (i))) K0 N0 := by
  obtain ⟨⟨n1, h14, ha0, hb0, hc0⟩, hR, hI, ⟨hp6, hk4⟩, hS, hL⟩ := id hZ
  obtain ⟨cM, hM, hcM⟩ := id hI.2.1
  have hIM := hM.1
  have hE := hM.2.1
  refine v_aload_n C dX7_init_533 rfl ?_
  refine v_iconst (v := nI 0) C dX7_init_534 (by decide) ?_
  refine v_iconst (v := nI 1) C dX7_init_535 (by decide) ?_
  refine v_gVi (K := fun w => lmW (xK X) h n (m, e, (nI kk.2.2.1)) ++ (sbW (xK X) (h 5) v N (txtL n a0 b0 c0 L) ++ w)) C (Cxt.l _ (Cxt.l _ Cxt.id)) 0 (c_X6_next hl (lo := 0) (hi := 1) (by omega) (by omega) (by omega) h31) ym_X6_next ml_X7_32 rfl rfl rfl rfl dX7_init_536 (by first | omega | exact Nat.le_of_ble_eq_true rfl) (by first | omega | exact Nat.le_of_ble_eq_true rfl) (by first | omega | exact Nat.le_of_ble_eq_true rfl) (Nat.le_of_ble_eq_true rfl) (fun _ _ hu => hu.elim) (fun r u hu => ?_)
  obtain ⟨rfl, rfl⟩ := hu
  have rZ := drw_in (κ := (xK X)) (i := i) (show 0 ≤ 1 by omega)
  generalize drw (xK X) (i) (0) (1) = Z at rZ ⊢
  refine v_istore_n C (lo2 := [some _, some _, some _, some _, none, none, none]) dX7_init_539 rfl (Nat.le_of_ble_eq_true rfl) rfl ?_
  rcases (by omega : Z = 0 ∨ Z = 1) with rfl | rfl
  · exact mi_end hl C F h31 hb (hZ.le (by omega)) (by omega) (by omega) (by omega)
  · exact mi_fill hl C F h31 hb hZ (by omega) (by omega) (by omega) hk6
set_option maxHeartbeats 16000000 in
theorem mi_copyS {X : Cx} {b d n a0 b0 c0 v N i : Nat} {h e : Nat → Nat} {L : List Q4} {m : Mg} {kk : Cnt} {K0 N0 : Nat} (hl : (xl X).stackTraces = false) (C : Ok SS MM X RX7 cX7_init 7 19 400 70000) (F : FinG X none rv (fun _ w => MemP (xK X) b d w) (fun _ _ => False) 400 70000) (h31 : (xK X).2.2.2 999 < 2 ^ 20) {k : Nat} (hb : h 0 = b) (hZ : Sof (xK X) n a0 b0 c0 L m kk N (225 - 19 * (k + 1))) (hi : i ≤ 29 - 3 * (k + 1)) (hK0 : K0 ≤ 330 - 66 * (k + 1)) (hN0 : N0 ≤ 62000 - 6500 * (k + 1)) (hk5 : kk.2.2.1 ≤ 4 - (k + 1)) (hk6 : kk.2.2.2 = 0) (hk : k + 1 ≤ 4) (ih : ∀ {v N i : Nat} {e : Nat → Nat} {L : List Q4} {m : Mg} {kk : Cnt} {K0 N0 : Nat}, Sof (xK X) n a0 b0 c0 L m kk N (225 - 19 * k) → i ≤ 29 - 3 * k → K0 ≤ 330 - 66 * k → N0 ≤ 62000 - 6500 * k → kk.2.2.1 ≤ 4 - k → kk.2.2.2 = 0 → V X iW 434 [some (.ref (h 0)), some (.ref d), some (.int (nI n)), some (.int (nI k)), none, none, none] [] (lmW (xK X) h n (m, e, (nI kk.2.2.1)) ++ (sbW (xK X) (h 5) v N (txtL n a0 b0 c0 L) ++ dS (xK X) d (i))) K0 N0) : V X iW 434 [some (.ref (h 0)), some (.ref d), some (.int (nI n)), some (.int (nI (k + 1))), none, none, none] [] (lmW (xK X) h n (m, e, (nI kk.2.2.1)) ++ (sbW (xK X) (h 5) v N (txtL n a0 b0 c0 L) ++ dS (xK X) d (i))) K0 N0 := by
  obtain ⟨⟨n1, h14, ha0, hb0, hc0⟩, hR, hI, ⟨hp6, hk4⟩, hS, hL⟩ := id hZ
  obtain ⟨cM, hM, hcM⟩ := id hI.2.1
  have hIM := hM.1
  have hE := hM.2.1
  refine v_iload_n C dX7_init_434 rfl ?_
  refine v_if_le C 533 dX7_init_435 (by decide) (fun c435 => ?_) (fun c435 => ?_)
  · exact absurd c435 (by rw [nI_toInt (by omega)]; omega)
  · refine v_aload_n C dX7_init_438 rfl ?_
    refine v_iconst (v := nI 0) C dX7_init_439 (by decide) ?_
    refine v_iload_n C dX7_init_440 rfl ?_
    refine v_iconst (v := nI 1) C dX7_init_441 (by decide) ?_
    first | refine v_isubN C dX7_init_442 (by omega) ?_ | refine v_isub C dX7_init_442 ?_
    refine v_gVi (K := fun w => lmW (xK X) h n (m, e, (nI kk.2.2.1)) ++ (sbW (xK X) (h 5) v N (txtL n a0 b0 c0 L) ++ w)) C (Cxt.l _ (Cxt.l _ Cxt.id)) 0 (c_X6_next hl (lo := 0) (hi := (n - 1)) (by omega) (by omega) (by omega) h31) ym_X6_next ml_X7_32 rfl rfl rfl rfl dX7_init_443 (by first | omega | exact Nat.le_of_ble_eq_true rfl) (by first | omega | exact Nat.le_of_ble_eq_true rfl) (by first | omega | exact Nat.le_of_ble_eq_true rfl) (Nat.le_of_ble_eq_true rfl) (fun _ _ hu => hu.elim) (fun r u hu => ?_)
    obtain ⟨rfl, rfl⟩ := hu
    have rP := drw_in (κ := (xK X)) (i := i) (show 0 ≤ (n - 1) by omega)
    generalize drw (xK X) (i) (0) ((n - 1)) = P at rP ⊢
    refine v_istore C (lo2 := [some _, some _, some _, some _, some _, none, none]) dX7_init_446 rfl (Nat.le_of_ble_eq_true rfl) rfl ?_
    refine v_aload_n C dX7_init_448 rfl ?_
    refine v_iconst (v := nI 0) C dX7_init_449 (by decide) ?_
    refine v_iload_n C dX7_init_450 rfl ?_
    refine v_iconst (v := nI 1) C dX7_init_451 (by decide) ?_
    first | refine v_isubN C dX7_init_452 (by omega) ?_ | refine v_isub C dX7_init_452 ?_
    refine v_gVi (K := fun w => lmW (xK X) h n (m, e, (nI kk.2.2.1)) ++ (sbW (xK X) (h 5) v N (txtL n a0 b0 c0 L) ++ w)) C (Cxt.l _ (Cxt.l _ Cxt.id)) 0 (c_X6_next hl (lo := 0) (hi := (n - 1)) (by omega) (by omega) (by omega) h31) ym_X6_next ml_X7_32 rfl rfl rfl rfl dX7_init_453 (by first | omega | exact Nat.le_of_ble_eq_true rfl) (by first | omega | exact Nat.le_of_ble_eq_true rfl) (by first | omega | exact Nat.le_of_ble_eq_true rfl) (Nat.le_of_ble_eq_true rfl) (fun _ _ hu => hu.elim) (fun r u hu => ?_)
    obtain ⟨rfl, rfl⟩ := hu
    have rQ := drw_in (κ := (xK X)) (i := i + 1) (show 0 ≤ (n - 1) by omega)
    generalize drw (xK X) (i + 1) (0) ((n - 1)) = Q at rQ ⊢
    refine v_istore C (lo2 := [some _, some _, some _, some _, some _, some _, none]) dX7_init_456 rfl (Nat.le_of_ble_eq_true rfl) rfl ?_
    refine v_aload_n C dX7_init_458 rfl ?_
    refine v_iconst (v := nI 1) C dX7_init_459 (by decide) ?_
    refine v_iload_n C dX7_init_460 rfl ?_
    refine v_gVi (K := fun w => lmW (xK X) h n (m, e, (nI kk.2.2.1)) ++ (sbW (xK X) (h 5) v N (txtL n a0 b0 c0 L) ++ w)) C (Cxt.l _ (Cxt.l _ Cxt.id)) 0 (c_X6_next hl (lo := 1) (hi := n) (by omega) (by omega) (by omega) h31) ym_X6_next ml_X7_32 rfl rfl rfl rfl dX7_init_461 (by first | omega | exact Nat.le_of_ble_eq_true rfl) (by first | omega | exact Nat.le_of_ble_eq_true rfl) (by first | omega | exact Nat.le_of_ble_eq_true rfl) (Nat.le_of_ble_eq_true rfl) (fun _ _ hu => hu.elim) (fun r u hu => ?_)
    obtain ⟨rfl, rfl⟩ := hu
    have rR := drw_in (κ := (xK X)) (i := i + 1 + 1) (show 1 ≤ n by omega)
    generalize drw (xK X) (i + 1 + 1) (1) (n) = R at rR ⊢
    refine v_istore C (lo2 := [some _, some _, some _, some _, some _, some _, some _]) dX7_init_464 rfl (Nat.le_of_ble_eq_true rfl) rfl ?_
    refine v_aload_n C dX7_init_466 rfl ?_
    refine v_iload C dX7_init_467 rfl ?_
    refine v_iload C dX7_init_469 rfl ?_
    refine v_iload C dX7_init_471 rfl ?_
    refine v_gVi (K := fun w => w ++ (sbW (xK X) (h 5) v N (txtL n a0 b0 c0 L) ++ dS (xK X) d (i + 1 + 1 + 1))) C (Cxt.r _ Cxt.id) 0 (c_X7_why hl h14 (by omega) (by omega) ⟨by omega, by omega⟩ hI.lk) ym_X7_why ml_X7_84 lm_0 rfl rfl rfl dX7_init_473 (by first | omega | exact Nat.le_of_ble_eq_true rfl) (by first | omega | exact Nat.le_of_ble_eq_true rfl) (by first | omega | exact Nat.le_of_ble_eq_true rfl) (Nat.le_of_ble_eq_true rfl) (fun _ _ hu => hu.elim) (fun r u hu => ?_)
    obtain ⟨rfl, rfl⟩ := hu
    refine v_if_eq C 482 dX7_init_476 (by decide) (fun c476 => ?_) (fun c476 => ?_)
    · have hw := whyN_0 c476
      refine v_aload_n C dX7_init_482 rfl ?_
      refine v_gF (K := fun w => w ++ (sbW (xK X) (h 5) v N (txtL n a0 b0 c0 L) ++ dS (xK X) d (i + 1 + 1 + 1))) C (Cxt.r _ Cxt.id) (v := .ref (h 5)) 0 fl_X7_14 lm_0 rfl dX7_init_483 ?_
      refine v_ldcS C (i := 18) rfl rfl dX7_init_486 ?_
      refine v_gVr (K := fun w => lmW (xK X) h n (m, e, (nI kk.2.2.1)) ++ (w ++ dS (xK X) d (i + 1 + 1 + 1))) C (Cxt.l _ (Cxt.r _ Cxt.id)) 0 (c_sbS hl (i := 18) (by decide) hS (by omega)) ym_J4_append_15ec4 ml_X7_53 rfl rfl rfl rfl dX7_init_488 (by first | omega | exact Nat.le_of_ble_eq_true rfl) (by first | omega | exact Nat.le_of_ble_eq_true rfl) (by first | omega | exact Nat.le_of_ble_eq_true rfl) (Nat.le_of_ble_eq_true rfl) (fun _ _ hu => hu.elim) (fun r u hu => ?_)
      obtain ⟨rfl, v, N, hS, rfl⟩ := hu
      have hL : ((txtL n a0 b0 c0 L) ++ wd 18).length ≤ 225 - 19 * (k + 1) + 8 := by rw [List.length_append]; have := wd_le 18; omega
      refine v_iload C dX7_init_491 rfl ?_
      refine v_gVr (K := fun w => lmW (xK X) h n (m, e, (nI kk.2.2.1)) ++ (w ++ dS (xK X) d (i + 1 + 1 + 1))) C (Cxt.l _ (Cxt.r _ Cxt.id)) 0 (c_J4_append_bf812 hl (by omega) hS (by omega)) ym_J4_append_bf812 ml_X7_47 rfl rfl rfl rfl dX7_init_493 (by first | omega | exact Nat.le_of_ble_eq_true rfl) (by first | omega | exact Nat.le_of_ble_eq_true rfl) (by first | omega | exact Nat.le_of_ble_eq_true rfl) (Nat.le_of_ble_eq_true rfl) (fun _ _ hu => hu.elim) (fun r u hu => ?_)
      obtain ⟨rfl, v, N, hS, rfl⟩ := hu
      have hL : (((txtL n a0 b0 c0 L) ++ wd 18) ++ digs P).length ≤ 225 - 19 * (k + 1) + 8 + 3 := by rw [List.length_append, digs_len]; have := dig_le (P); omega
      refine v_bipush (v := nI 32) C dX7_init_496 (by decide) ?_
      refine v_gVr (K := fun w => lmW (xK X) h n (m, e, (nI kk.2.2.1)) ++ (w ++ dS (xK X) d (i + 1 + 1 + 1))) C (Cxt.l _ (Cxt.r _ Cxt.id)) 0 (c_J4_append_cf468 hl (c := 32) (by decide) hS (by omega)) ym_J4_append_cf468 ml_X7_62 rfl rfl rfl rfl dX7_init_498 (by first | omega | exact Nat.le_of_ble_eq_true rfl) (by first | omega | exact Nat.le_of_ble_eq_true rfl) (by first | omega | exact Nat.le_of_ble_eq_true rfl) (Nat.le_of_ble_eq_true rfl) (fun _ _ hu => hu.elim) (fun r u hu => ?_)
      obtain ⟨rfl, v, N, hS, rfl⟩ := hu
      have hL : ((((txtL n a0 b0 c0 L) ++ wd 18) ++ digs P) ++ [32]).length ≤ 225 - 19 * (k + 1) + 8 + 3 + 1 := by rw [List.length_append]; show _ + 1 ≤ _; omega
      refine v_iload C dX7_init_501 rfl ?_
      refine v_gVr (K := fun w => lmW (xK X) h n (m, e, (nI kk.2.2.1)) ++ (w ++ dS (xK X) d (i + 1 + 1 + 1))) C (Cxt.l _ (Cxt.r _ Cxt.id)) 0 (c_J4_append_bf812 hl (by omega) hS (by omega)) ym_J4_append_bf812 ml_X7_47 rfl rfl rfl rfl dX7_init_503 (by first | omega | exact Nat.le_of_ble_eq_true rfl) (by first | omega | exact Nat.le_of_ble_eq_true rfl) (by first | omega | exact Nat.le_of_ble_eq_true rfl) (Nat.le_of_ble_eq_true rfl) (fun _ _ hu => hu.elim) (fun r u hu => ?_)
      obtain ⟨rfl, v, N, hS, rfl⟩ := hu
      have hL : (((((txtL n a0 b0 c0 L) ++ wd 18) ++ digs P) ++ [32]) ++ digs Q).length ≤ 225 - 19 * (k + 1) + 8 + 3 + 1 + 3 := by rw [List.length_append, digs_len]; have := dig_le (Q); omega
      refine v_bipush (v := nI 32) C dX7_init_506 (by decide) ?_
      refine v_gVr (K := fun w => lmW (xK X) h n (m, e, (nI kk.2.2.1)) ++ (w ++ dS (xK X) d (i + 1 + 1 + 1))) C (Cxt.l _ (Cxt.r _ Cxt.id)) 0 (c_J4_append_cf468 hl (c := 32) (by decide) hS (by omega)) ym_J4_append_cf468 ml_X7_62 rfl rfl rfl rfl dX7_init_508 (by first | omega | exact Nat.le_of_ble_eq_true rfl) (by first | omega | exact Nat.le_of_ble_eq_true rfl) (by first | omega | exact Nat.le_of_ble_eq_true rfl) (Nat.le_of_ble_eq_true rfl) (fun _ _ hu => hu.elim) (fun r u hu => ?_)
      obtain ⟨rfl, v, N, hS, rfl⟩ := hu
      have hL : ((((((txtL n a0 b0 c0 L) ++ wd 18) ++ digs P) ++ [32]) ++ digs Q) ++ [32]).length ≤ 225 - 19 * (k + 1) + 8 + 3 + 1 + 3 + 1 := by rw [List.length_append]; show _ + 1 ≤ _; omega
      refine v_iload C dX7_init_511 rfl ?_
      refine v_gVr (K := fun w => lmW (xK X) h n (m, e, (nI kk.2.2.1)) ++ (w ++ dS (xK X) d (i + 1 + 1 + 1))) C (Cxt.l _ (Cxt.r _ Cxt.id)) 0 (c_J4_append_bf812 hl (by omega) hS (by omega)) ym_J4_append_bf812 ml_X7_47 rfl rfl rfl rfl dX7_init_513 (by first | omega | exact Nat.le_of_ble_eq_true rfl) (by first | omega | exact Nat.le_of_ble_eq_true rfl) (by first | omega | exact Nat.le_of_ble_eq_true rfl) (Nat.le_of_ble_eq_true rfl) (fun _ _ hu => hu.elim) (fun r u hu => ?_)
      obtain ⟨rfl, v, N, hS, rfl⟩ := hu
      have hL : (((((((txtL n a0 b0 c0 L) ++ wd 18) ++ digs P) ++ [32]) ++ digs Q) ++ [32]) ++ digs R).length ≤ 225 - 19 * (k + 1) + 8 + 3 + 1 + 3 + 1 + 3 := by rw [List.length_append, digs_len]; have := dig_le (R); omega
      refine v_pop C dX7_init_516 rfl ?_
      refine v_aload_n C dX7_init_517 rfl ?_
      refine v_iload C dX7_init_518 rfl ?_
      refine v_iload C dX7_init_520 rfl ?_
      refine v_iload C dX7_init_522 rfl ?_
      refine v_gVv (K := fun w => w ++ (sbW (xK X) (h 5) v N (((((((txtL n a0 b0 c0 L) ++ wd 18) ++ digs P) ++ [32]) ++ digs Q) ++ [32]) ++ digs R) ++ dS (xK X) d (i + 1 + 1 + 1))) C (Cxt.r _ Cxt.id) 0 (c_X7_copy hl hIM h14 hE hI.set.1 hI.set.2.1 hI.set.2.2 hw.1 hw.2.1 (by omega) hI.2.2.1 hp6) ym_X7_copy ml_X7_90 lm_0 rfl rfl rfl dX7_init_524 (by first | omega | exact Nat.le_of_ble_eq_true rfl) (by first | omega | exact Nat.le_of_ble_eq_true rfl) (by first | omega | exact Nat.le_of_ble_eq_true rfl) (Nat.le_of_ble_eq_true rfl) (fun _ _ hu => hu.elim) (fun r u hu => ?_)
      obtain ⟨e, rfl⟩ := hu
      rw [nI_add]
      refine v_iinc (v := nI k) C (lo2 := [some _, some _, some _, some _, some _, some _, some _]) dX7_init_527 rfl (nI_prd k) rfl rfl ?_
      refine v_goto C 434 dX7_init_530 (by decide) ?_
      refine V.sub (lo2 := [some _, some _, some _, some _, none, none, none]) ⟨rfl, rfl, rfl, rfl, trivial⟩ ?_
      have hT : ((((((txtL n a0 b0 c0 L) ++ wd 18) ++ digs P) ++ [32]) ++ digs Q) ++ [32]) ++ digs R = txtL n a0 b0 c0 L ++ clT (5, P, Q, R) := by
        rw [clT_5]
        simp only [List.append_assoc]
      rw [hT] at hS hL
      rw [hT, ← txtL_s]
      exact ih (m := clX n (5, P, Q, R) m) (kk := clK (5, P, Q, R) kk) (L := L ++ [(5, P, Q, R)]) (hZ.next (5, P, Q, R) (Or.inr (Or.inr (Or.inr (Or.inr (Or.inr (Or.inl ⟨rfl, (show 0 < R by omega), hw.1, hw.2.1, hw.2.2, (show kk.2.2.1 < 4 by omega)⟩)))))) rfl hS (Nat.le_trans hL (by omega))) (by omega) (by omega) (by omega) (show kk.2.2.1 + 1 ≤ 4 - k by omega) hk6
    · refine v_goto C 527 dX7_init_479 (by decide) ?_
      refine v_iinc (v := nI k) C (lo2 := [some _, some _, some _, some _, some _, some _, some _]) dX7_init_527 rfl (nI_prd k) rfl rfl ?_
      refine v_goto C 434 dX7_init_530 (by decide) ?_
      refine V.sub (lo2 := [some _, some _, some _, some _, none, none, none]) ⟨rfl, rfl, rfl, rfl, trivial⟩ ?_
      exact ih (hZ.le (by omega)) (by omega) (by omega) (by omega) (by omega) hk6
set_option maxHeartbeats 16000000 in
theorem mi_cop0 {X : Cx} {b d n a0 b0 c0 v N i : Nat} {h e : Nat → Nat} {L : List Q4} {m : Mg} {kk : Cnt} {K0 N0 : Nat} (hl : (xl X).stackTraces = false) (C : Ok SS MM X RX7 cX7_init 7 19 400 70000) (F : FinG X none rv (fun _ w => MemP (xK X) b d w) (fun _ _ => False) 400 70000) (h31 : (xK X).2.2.2 999 < 2 ^ 20)  (hb : h 0 = b) (hZ : Sof (xK X) n a0 b0 c0 L m kk N (225)) (hi : i ≤ 29) (hK0 : K0 ≤ 340) (hN0 : N0 ≤ 62000) (hk6 : kk.2.2.2 = 0) : V X iW 434 [some (.ref (h 0)), some (.ref d), some (.int (nI n)), some (.int (nI 0)), none, none, none] [] (lmW (xK X) h n (m, e, (nI kk.2.2.1)) ++ (sbW (xK X) (h 5) v N (txtL n a0 b0 c0 L) ++ dS (xK X) d (i))) K0 N0 := by
  obtain ⟨⟨n1, h14, ha0, hb0, hc0⟩, hR, hI, ⟨hp6, hk4⟩, hS, hL⟩ := id hZ
  obtain ⟨cM, hM, hcM⟩ := id hI.2.1
  have hIM := hM.1
  have hE := hM.2.1
  refine v_iload_n C dX7_init_434 rfl ?_
  refine v_if_le C 533 dX7_init_435 (by decide) (fun c435 => ?_) (fun c => absurd c (by decide))
  exact mi_fil0 hl C F h31 hb hZ (by omega) (by omega) (by omega) hk6
theorem mi_copy {X : Cx} {b d n a0 b0 c0 : Nat} {h : Nat → Nat} (hl : (xl X).stackTraces = false) (C : Ok SS MM X RX7 cX7_init 7 19 400 70000) (F : FinG X none rv (fun _ w => MemP (xK X) b d w) (fun _ _ => False) 400 70000) (h31 : (xK X).2.2.2 999 < 2 ^ 20) (hb : h 0 = b) : ∀ (k : Nat), k ≤ 4 → ∀ {v N i : Nat} {e : Nat → Nat} {L : List Q4} {m : Mg} {kk : Cnt} {K0 N0 : Nat}, Sof (xK X) n a0 b0 c0 L m kk N (225 - 19 * k) → i ≤ 29 - 3 * k → K0 ≤ 330 - 66 * k → N0 ≤ 62000 - 6500 * k → kk.2.2.1 ≤ 4 - k → kk.2.2.2 = 0 → V X iW 434 [some (.ref (h 0)), some (.ref d), some (.int (nI n)), some (.int (nI k)), none, none, none] [] (lmW (xK X) h n (m, e, (nI kk.2.2.1)) ++ (sbW (xK X) (h 5) v N (txtL n a0 b0 c0 L) ++ dS (xK X) d (i))) K0 N0
  | 0, _, v, N, i, e, L, m, kk, K0, N0, hZ, hi, hK, hN, h5, h6 => mi_cop0 hl C F h31 hb (hZ.le (by omega)) (by omega) (by omega) (by omega) h6
  | k + 1, hk, v, N, i, e, L, m, kk, K0, N0, hZ, hi, hK, hN, h5, h6 => mi_copyS hl C F h31 hb hZ hi hK hN h5 h6 hk (mi_copy hl C F h31 hb k (by omega))
set_option maxHeartbeats 16000000 in
theorem mi_copc {X : Cx} {b d n a0 b0 c0 v N i : Nat} {h e : Nat → Nat} {L : List Q4} {m : Mg} {kk : Cnt} {K0 N0 : Nat} (hl : (xl X).stackTraces = false) (C : Ok SS MM X RX7 cX7_init 7 19 400 70000) (F : FinG X none rv (fun _ w => MemP (xK X) b d w) (fun _ _ => False) 400 70000) (h31 : (xK X).2.2.2 999 < 2 ^ 20) {lk : Value} (hb : h 0 = b) (hZ : Sof (xK X) n a0 b0 c0 L m kk N (149)) (hi : i ≤ 16) (hK0 : K0 ≤ 66) (hN0 : N0 ≤ 36000) (hk0 : kk.2.2.1 = 0) (hk6 : kk.2.2.2 = 0) : V X iW 427 [some (.ref (h 0)), some (.ref d), some (.int (nI n)), some lk, none, none, none] [] (lmW (xK X) h n (m, e, (nI kk.2.2.1)) ++ (sbW (xK X) (h 5) v N (txtL n a0 b0 c0 L) ++ dS (xK X) d (i))) K0 N0 := by
  obtain ⟨⟨n1, h14, ha0, hb0, hc0⟩, hR, hI, ⟨hp6, hk4⟩, hS, hL⟩ := id hZ
  obtain ⟨cM, hM, hcM⟩ := id hI.2.1
  have hIM := hM.1
  have hE := hM.2.1
  refine v_aload_n C dX7_init_427 rfl ?_
  refine v_iconst (v := nI 0) C dX7_init_428 (by decide) ?_
  refine v_iconst (v := nI 4) C dX7_init_429 (by decide) ?_
  refine v_gVi (K := fun w => lmW (xK X) h n (m, e, (nI kk.2.2.1)) ++ (sbW (xK X) (h 5) v N (txtL n a0 b0 c0 L) ++ w)) C (Cxt.l _ (Cxt.l _ Cxt.id)) 0 (c_X6_next hl (lo := 0) (hi := 4) (by omega) (by omega) (by omega) h31) ym_X6_next ml_X7_32 rfl rfl rfl rfl dX7_init_430 (by first | omega | exact Nat.le_of_ble_eq_true rfl) (by first | omega | exact Nat.le_of_ble_eq_true rfl) (by first | omega | exact Nat.le_of_ble_eq_true rfl) (Nat.le_of_ble_eq_true rfl) (fun _ _ hu => hu.elim) (fun r u hu => ?_)
  obtain ⟨rfl, rfl⟩ := hu
  have rZ := drw_in (κ := (xK X)) (i := i) (show 0 ≤ 4 by omega)
  generalize drw (xK X) (i) (0) (4) = Z at rZ ⊢
  refine v_istore_n C (lo2 := [some _, some _, some _, some _, none, none, none]) dX7_init_433 rfl (Nat.le_of_ble_eq_true rfl) rfl ?_
  exact mi_copy hl C F h31 hb Z (by omega) (hZ.le (by omega)) (by omega) (by omega) (by omega) (by omega) hk6
set_option maxHeartbeats 16000000 in
theorem mi_lock {X : Cx} {b d n a0 b0 c0 v N i : Nat} {h e : Nat → Nat} {L : List Q4} {m : Mg} {kk : Cnt} {K0 N0 : Nat} (hl : (xl X).stackTraces = false) (C : Ok SS MM X RX7 cX7_init 7 19 400 70000) (F : FinG X none rv (fun _ w => MemP (xK X) b d w) (fun _ _ => False) 400 70000) (h31 : (xK X).2.2.2 999 < 2 ^ 20) {lk : Value} (hb : h 0 = b) (hZ : Sof (xK X) n a0 b0 c0 L m kk N (126)) (hi : i ≤ 13) (hK0 : K0 ≤ 52) (hN0 : N0 ≤ 32000) (hk0 : kk.2 = (0, 0, 0)) : V X iW 342 [some (.ref (h 0)), some (.ref d), some (.int (nI n)), some lk, none, none, none] [] (lmW (xK X) h n (m, e, (nI kk.2.2.1)) ++ (sbW (xK X) (h 5) v N (txtL n a0 b0 c0 L) ++ dS (xK X) d (i))) K0 N0 := by
  obtain ⟨⟨n1, h14, ha0, hb0, hc0⟩, hR, hI, ⟨hp6, hk4⟩, hS, hL⟩ := id hZ
  obtain ⟨cM, hM, hcM⟩ := id hI.2.1
  have hIM := hM.1
  have hE := hM.2.1
  refine v_aload_n C dX7_init_342 rfl ?_
  refine v_iconst (v := nI 0) C dX7_init_343 (by decide) ?_
  refine v_iconst (v := nI 3) C dX7_init_344 (by decide) ?_
  refine v_gVi (K := fun w => lmW (xK X) h n (m, e, (nI kk.2.2.1)) ++ (sbW (xK X) (h 5) v N (txtL n a0 b0 c0 L) ++ w)) C (Cxt.l _ (Cxt.l _ Cxt.id)) 0 (c_X6_next hl (lo := 0) (hi := 3) (by omega) (by omega) (by omega) h31) ym_X6_next ml_X7_32 rfl rfl rfl rfl dX7_init_345 (by first | omega | exact Nat.le_of_ble_eq_true rfl) (by first | omega | exact Nat.le_of_ble_eq_true rfl) (by first | omega | exact Nat.le_of_ble_eq_true rfl) (Nat.le_of_ble_eq_true rfl) (fun _ _ hu => hu.elim) (fun r u hu => ?_)
  obtain ⟨rfl, rfl⟩ := hu
  have rZ := drw_in (κ := (xK X)) (i := i) (show 0 ≤ 3 by omega)
  generalize drw (xK X) (i) (0) (3) = Z at rZ ⊢
  refine v_if_ne C 427 dX7_init_348 (by decide) (fun c348 => ?_) (fun c348 => ?_)
  · refine V.sub (lo2 := [some _, some _, some _, some _, none, none, none]) ⟨rfl, rfl, rfl, rfl, trivial⟩ ?_
    exact mi_copc hl C F h31 hb (hZ.le (by omega)) (by omega) (by omega) (by omega) (by rw [hk0]) (by rw [hk0])
  · refine v_aload_n C dX7_init_351 rfl ?_
    refine v_iconst (v := nI 0) C dX7_init_352 (by decide) ?_
    refine v_iload_n C dX7_init_353 rfl ?_
    refine v_iconst (v := nI 1) C dX7_init_354 (by decide) ?_
    first | refine v_isubN C dX7_init_355 (by omega) ?_ | refine v_isub C dX7_init_355 ?_
    refine v_gVi (K := fun w => lmW (xK X) h n (m, e, (nI kk.2.2.1)) ++ (sbW (xK X) (h 5) v N (txtL n a0 b0 c0 L) ++ w)) C (Cxt.l _ (Cxt.l _ Cxt.id)) 0 (c_X6_next hl (lo := 0) (hi := (n - 1)) (by omega) (by omega) (by omega) h31) ym_X6_next ml_X7_32 rfl rfl rfl rfl dX7_init_356 (by first | omega | exact Nat.le_of_ble_eq_true rfl) (by first | omega | exact Nat.le_of_ble_eq_true rfl) (by first | omega | exact Nat.le_of_ble_eq_true rfl) (Nat.le_of_ble_eq_true rfl) (fun _ _ hu => hu.elim) (fun r u hu => ?_)
    obtain ⟨rfl, rfl⟩ := hu
    have rP := drw_in (κ := (xK X)) (i := i + 1) (show 0 ≤ (n - 1) by omega)
    generalize drw (xK X) (i + 1) (0) ((n - 1)) = P at rP ⊢
    refine v_istore_n C (lo2 := [some _, some _, some _, some _, none, none, none]) dX7_init_359 rfl (Nat.le_of_ble_eq_true rfl) rfl ?_
    refine v_iload_n C dX7_init_360 rfl ?_
    refine v_iconst (v := nI 1) C dX7_init_361 (by decide) ?_
    first | refine v_isubN C dX7_init_362 (by omega) ?_ | refine v_isub C dX7_init_362 ?_
    refine v_iload_n C dX7_init_363 rfl ?_
    refine v_aload_n C dX7_init_364 rfl ?_
    refine v_iconst (v := nI 0) C dX7_init_365 (by decide) ?_
    refine v_iconst (v := nI 2) C dX7_init_366 (by decide) ?_
    refine v_gVi (K := fun w => lmW (xK X) h n (m, e, (nI kk.2.2.1)) ++ (sbW (xK X) (h 5) v N (txtL n a0 b0 c0 L) ++ w)) C (Cxt.l _ (Cxt.l _ Cxt.id)) 0 (c_X6_next hl (lo := 0) (hi := 2) (by omega) (by omega) (by omega) h31) ym_X6_next ml_X7_32 rfl rfl rfl rfl dX7_init_367 (by first | omega | exact Nat.le_of_ble_eq_true rfl) (by first | omega | exact Nat.le_of_ble_eq_true rfl) (by first | omega | exact Nat.le_of_ble_eq_true rfl) (Nat.le_of_ble_eq_true rfl) (fun _ _ hu => hu.elim) (fun r u hu => ?_)
    obtain ⟨rfl, rfl⟩ := hu
    have rR := drw_in (κ := (xK X)) (i := i + 1 + 1) (show 0 ≤ 2 by omega)
    generalize drw (xK X) (i + 1 + 1) (0) (2) = R at rR ⊢
    first | refine v_iaddN C dX7_init_370 ?_ | refine v_iadd C dX7_init_370 ?_
    obtain ⟨q, hq⟩ : ∃ q, q = (if P + R < n - 1 then P + R else n - 1) := ⟨_, rfl⟩
    have hq1 : P ≤ q ∧ q ≤ n - 1 := by rw [hq]; split <;> omega
    refine v_mmin (z := nI q) C ml_X7_73 w_minS w_mI w_minC rfl (Nat.le_of_ble_eq_true rfl) dX7_init_371 (by first | omega | exact Nat.le_of_ble_eq_true rfl) (by first | omega | exact Nat.le_of_ble_eq_true rfl) ?_ ?_
    · rw [mn_n (by omega) (by omega), hq]
    refine v_istore C (lo2 := [some _, some _, some _, some _, some _, none, none]) dX7_init_374 rfl (Nat.le_of_ble_eq_true rfl) rfl ?_
    refine v_aload_n C dX7_init_376 rfl ?_
    refine v_gF (K := fun w => w ++ (sbW (xK X) (h 5) v N (txtL n a0 b0 c0 L) ++ dS (xK X) d (i + 1 + 1 + 1))) C (Cxt.r _ Cxt.id) (v := .ref (h 5)) 0 fl_X7_14 lm_0 rfl dX7_init_377 ?_
    refine v_ldcS C (i := 17) rfl rfl dX7_init_380 ?_
    refine v_gVr (K := fun w => lmW (xK X) h n (m, e, (nI kk.2.2.1)) ++ (w ++ dS (xK X) d (i + 1 + 1 + 1))) C (Cxt.l _ (Cxt.r _ Cxt.id)) 0 (c_sbS hl (i := 17) (by decide) hS (by omega)) ym_J4_append_15ec4 ml_X7_53 rfl rfl rfl rfl dX7_init_382 (by first | omega | exact Nat.le_of_ble_eq_true rfl) (by first | omega | exact Nat.le_of_ble_eq_true rfl) (by first | omega | exact Nat.le_of_ble_eq_true rfl) (Nat.le_of_ble_eq_true rfl) (fun _ _ hu => hu.elim) (fun r u hu => ?_)
    obtain ⟨rfl, v, N, hS, rfl⟩ := hu
    have hL : ((txtL n a0 b0 c0 L) ++ wd 17).length ≤ 134 := by rw [List.length_append]; have := wd_le 17; omega
    refine v_iload_n C dX7_init_385 rfl ?_
    refine v_gVr (K := fun w => lmW (xK X) h n (m, e, (nI kk.2.2.1)) ++ (w ++ dS (xK X) d (i + 1 + 1 + 1))) C (Cxt.l _ (Cxt.r _ Cxt.id)) 0 (c_J4_append_bf812 hl (by omega) hS (by omega)) ym_J4_append_bf812 ml_X7_47 rfl rfl rfl rfl dX7_init_386 (by first | omega | exact Nat.le_of_ble_eq_true rfl) (by first | omega | exact Nat.le_of_ble_eq_true rfl) (by first | omega | exact Nat.le_of_ble_eq_true rfl) (Nat.le_of_ble_eq_true rfl) (fun _ _ hu => hu.elim) (fun r u hu => ?_)
    obtain ⟨rfl, v, N, hS, rfl⟩ := hu
    have hL : (((txtL n a0 b0 c0 L) ++ wd 17) ++ digs P).length ≤ 137 := by rw [List.length_append, digs_len]; have := dig_le (P); omega
    refine v_bipush (v := nI 32) C dX7_init_389 (by decide) ?_
    refine v_gVr (K := fun w => lmW (xK X) h n (m, e, (nI kk.2.2.1)) ++ (w ++ dS (xK X) d (i + 1 + 1 + 1))) C (Cxt.l _ (Cxt.r _ Cxt.id)) 0 (c_J4_append_cf468 hl (c := 32) (by decide) hS (by omega)) ym_J4_append_cf468 ml_X7_62 rfl rfl rfl rfl dX7_init_391 (by first | omega | exact Nat.le_of_ble_eq_true rfl) (by first | omega | exact Nat.le_of_ble_eq_true rfl) (by first | omega | exact Nat.le_of_ble_eq_true rfl) (Nat.le_of_ble_eq_true rfl) (fun _ _ hu => hu.elim) (fun r u hu => ?_)
    obtain ⟨rfl, v, N, hS, rfl⟩ := hu
    have hL : ((((txtL n a0 b0 c0 L) ++ wd 17) ++ digs P) ++ [32]).length ≤ 138 := by rw [List.length_append]; show _ + 1 ≤ _; omega
    refine v_iload C dX7_init_394 rfl ?_
    refine v_gVr (K := fun w => lmW (xK X) h n (m, e, (nI kk.2.2.1)) ++ (w ++ dS (xK X) d (i + 1 + 1 + 1))) C (Cxt.l _ (Cxt.r _ Cxt.id)) 0 (c_J4_append_bf812 hl (by omega) hS (by omega)) ym_J4_append_bf812 ml_X7_47 rfl rfl rfl rfl dX7_init_396 (by first | omega | exact Nat.le_of_ble_eq_true rfl) (by first | omega | exact Nat.le_of_ble_eq_true rfl) (by first | omega | exact Nat.le_of_ble_eq_true rfl) (Nat.le_of_ble_eq_true rfl) (fun _ _ hu => hu.elim) (fun r u hu => ?_)
    obtain ⟨rfl, v, N, hS, rfl⟩ := hu
    have hL : (((((txtL n a0 b0 c0 L) ++ wd 17) ++ digs P) ++ [32]) ++ digs q).length ≤ 141 := by rw [List.length_append, digs_len]; have := dig_le (q); omega
    refine v_pop C dX7_init_399 rfl ?_
    refine v_iload_n C dX7_init_400 rfl ?_
    refine v_istore C (lo2 := [some _, some _, some _, some _, some _, some _, none]) dX7_init_401 rfl (Nat.le_of_ble_eq_true rfl) rfl ?_
    have L403 : ∀ (t : Nat × Mg), (fun t => P ≤ t.1 ∧ t.1 ≤ q + 1 ∧ forG (fun p y => lckM y p (nI 1)) t.1 (q + 1 - t.1) t.2 = setL P (q + 1 - P) m) t → (fun t : Nat × Mg => V X iW 403 [some (.ref (h 0)), some (.ref d), some (.int (nI n)), some (.int (nI P)), some (.int (nI q)), some (.int (nI t.1)), none] [] (lmW (xK X) h n (t.2, e, (nI kk.2.2.1)) ++ (sbW (xK X) (h 5) v N ((((txtL n a0 b0 c0 L ++ wd 17) ++ digs P) ++ [32]) ++ digs q) ++ dS (xK X) d (i + 1 + 1 + 1))) (K0 + 4) (N0 + 4000)) t := by
      refine v_ind (fun t : Nat × Mg => q + 1 - t.1) ?_
      rintro ⟨j, y⟩ ih403 hI403
      try dsimp only at hI403 ⊢
      obtain ⟨i0, i1, i2⟩ := hI403
      refine v_iload C dX7_init_403 rfl ?_
      refine v_iload C dX7_init_405 rfl ?_
      first | refine v_icmp_gtN C 427 dX7_init_407 (by decide) (by omega) (by omega) (fun c407 => ?_) (fun c407 => ?_) | refine v_icmp_gt C 427 dX7_init_407 (by decide) (fun c407 => ?_) (fun c407 => ?_)
      · have hy : y = setL P (q + 1 - P) m := by rw [← i2, show q + 1 - j = 0 by omega]; rfl
        rw [hy]
        refine V.sub (lo2 := [some _, some _, some _, some _, none, none, none]) ⟨rfl, rfl, rfl, rfl, trivial⟩ ?_
        have hT : ((((txtL n a0 b0 c0 L) ++ wd 17) ++ digs P) ++ [32]) ++ digs q = txtL n a0 b0 c0 L ++ clT (4, P, q, 0) := by
          rw [clT_4]
          simp only [List.append_assoc]
        rw [hT] at hS hL
        rw [hT, ← txtL_s]
        exact mi_copc (m := clX n (4, P, q, 0) m) (kk := clK (4, P, q, 0) kk) (L := L ++ [(4, P, q, 0)]) hl C F h31 hb (hZ.next (4, P, q, 0) (Or.inr (Or.inr (Or.inr (Or.inr (Or.inl ⟨rfl, hq1.1, (show q < n by omega), by rw [hk0], by rw [hk0], by rw [hk0]⟩))))) rfl hS (Nat.le_trans hL (by omega))) (by omega) (by omega) (by omega) (show kk.2.2.1 = 0 by rw [hk0]) (show kk.2.2.2 = 0 by rw [hk0])
      · refine v_aload_n C dX7_init_410 rfl ?_
        refine v_gF (K := fun w => w ++ (sbW (xK X) (h 5) v N (((((txtL n a0 b0 c0 L) ++ wd 17) ++ digs P) ++ [32]) ++ digs q) ++ dS (xK X) d (i + 1 + 1 + 1))) C (Cxt.r _ Cxt.id) (v := .ref (h 1)) 0 fl_X7_40 lm_0 rfl dX7_init_411 ?_
        refine v_iload C dX7_init_414 rfl ?_
        refine v_gP (K := fun w => w ++ (sbW (xK X) (h 5) v N (((((txtL n a0 b0 c0 L) ++ wd 17) ++ digs P) ++ [32]) ++ digs q) ++ dS (xK X) d (i + 1 + 1 + 1))) C (Cxt.r _ Cxt.id) (x := (some (h (8 + j)))) 1 lm_1 (by first | decide | omega) j (if_pos (by omega)) ?_ rfl dX7_init_416 ?_
        · omega
        refine v_iconst (v := nI 1) C dX7_init_417 (by decide) ?_
        refine v_pFN (K := fun w => w ++ (sbW (xK X) (h 5) v N (((((txtL n a0 b0 c0 L) ++ wd 17) ++ digs P) ++ [32]) ++ digs q) ++ dS (xK X) d (i + 1 + 1 + 1))) C (Cxt.r _ Cxt.id) (5 + j) fln_X7_80 fw_X8_4 (plc_at (by omega)) rfl rfl (Nat.le_of_ble_eq_true rfl) (set_locked (by omega)) dX7_init_418 ?_
        first | refine v_iinc1 C (lo2 := [some _, some _, some _, some _, some _, some _, none]) dX7_init_421 rfl rfl rfl ?_ | refine v_iinc C (lo2 := [some _, some _, some _, some _, some _, some _, none]) dX7_init_421 rfl rfl rfl rfl ?_
        refine v_goto C 403 dX7_init_424 (by decide) ?_
        rw [show q + 1 - j = (q + 1 - (j + 1)) + 1 by omega] at i2
        exact ih403 (j + 1, lckM y j (nI 1)) (by show q + 1 - (j + 1) < q + 1 - j; omega) ⟨by show P ≤ j + 1; omega, by show j + 1 ≤ q + 1; omega, i2⟩
    refine V.wid (k2 := K0 + 4) (n2 := N0 + 4000) (by omega) (by omega) ?_
    exact L403 (P, m) ⟨Nat.le_refl _, by show P ≤ q + 1; omega, rfl⟩
set_option maxHeartbeats 16000000 in
theorem mi_rule4 {X : Cx} {b d n a0 b0 c0 v N i : Nat} {h e : Nat → Nat} {L : List Q4} {m : Mg} {kk : Cnt} {K0 N0 : Nat} (hl : (xl X).stackTraces = false) (C : Ok SS MM X RX7 cX7_init 7 19 400 70000) (F : FinG X none rv (fun _ w => MemP (xK X) b d w) (fun _ _ => False) 400 70000) (h31 : (xK X).2.2.2 999 < 2 ^ 20)  (hb : h 0 = b) (hZ : Sof (xK X) n a0 b0 c0 L m kk N (118)) (hi : i ≤ 12) (hK0 : K0 ≤ 51) (hN0 : N0 ≤ 31000) (h54 : m 5 4 = nI 0) (hk0 : kk.2 = (0, 0, 0)) : V X iW 292 [some (.ref (h 0)), some (.ref d), some (.int (nI n)), some (.int (nI 4)), none, none, none] [] (lmW (xK X) h n (m, e, (nI kk.2.2.1)) ++ (sbW (xK X) (h 5) v N (txtL n a0 b0 c0 L) ++ dS (xK X) d (i))) K0 N0 := by
  obtain ⟨⟨n1, h14, ha0, hb0, hc0⟩, hR, hI, ⟨hp6, hk4⟩, hS, hL⟩ := id hZ
  obtain ⟨cM, hM, hcM⟩ := id hI.2.1
  have hIM := hM.1
  have hE := hM.2.1
  refine v_iload_n C dX7_init_292 rfl ?_
  refine v_iconst (v := nI 5) C dX7_init_293 (by decide) ?_
  refine v_icmp_ge C 342 dX7_init_294 (by decide) (fun c => absurd c (by decide)) (fun c294 => ?_)
  refine v_aload_n C dX7_init_297 rfl ?_
  refine v_iconst (v := nI 0) C dX7_init_298 (by decide) ?_
  refine v_iconst (v := nI 2) C dX7_init_299 (by decide) ?_
  refine v_gVi (K := fun w => lmW (xK X) h n (m, e, (nI kk.2.2.1)) ++ (sbW (xK X) (h 5) v N (txtL n a0 b0 c0 L) ++ w)) C (Cxt.l _ (Cxt.l _ Cxt.id)) 0 (c_X6_next hl (lo := 0) (hi := 2) (by omega) (by omega) (by omega) h31) ym_X6_next ml_X7_32 rfl rfl rfl rfl dX7_init_300 (by first | omega | exact Nat.le_of_ble_eq_true rfl) (by first | omega | exact Nat.le_of_ble_eq_true rfl) (by first | omega | exact Nat.le_of_ble_eq_true rfl) (Nat.le_of_ble_eq_true rfl) (fun _ _ hu => hu.elim) (fun r u hu => ?_)
  obtain ⟨rfl, rfl⟩ := hu
  have rZ := drw_in (κ := (xK X)) (i := i) (show 0 ≤ 2 by omega)
  generalize drw (xK X) (i) (0) (2) = Z at rZ ⊢
  refine v_if_le C 309 dX7_init_303 (by decide) (fun c303 => ?_) (fun c303 => ?_)
  · refine v_aload_n C dX7_init_309 rfl ?_
    refine v_gF (K := fun w => w ++ (sbW (xK X) (h 5) v N (txtL n a0 b0 c0 L) ++ dS (xK X) d (i + 1))) C (Cxt.r _ Cxt.id) (v := .ref (h 5)) 0 fl_X7_14 lm_0 rfl dX7_init_310 ?_
    refine v_iload_n C dX7_init_313 rfl ?_
    refine v_iconst (v := nI 3) C dX7_init_314 (by decide) ?_
    refine v_icmp_ne C 323 dX7_init_315 (by decide) (fun c315 => ?_) (fun c => absurd c (by decide))
    refine v_ldcS C (i := 16) rfl rfl dX7_init_323 ?_
    refine v_gVr (K := fun w => lmW (xK X) h n (m, e, (nI kk.2.2.1)) ++ (w ++ dS (xK X) d (i + 1))) C (Cxt.l _ (Cxt.r _ Cxt.id)) 0 (c_sbS hl (i := 16) (by decide) hS (by omega)) ym_J4_append_15ec4 ml_X7_53 rfl rfl rfl rfl dX7_init_325 (by first | omega | exact Nat.le_of_ble_eq_true rfl) (by first | omega | exact Nat.le_of_ble_eq_true rfl) (by first | omega | exact Nat.le_of_ble_eq_true rfl) (Nat.le_of_ble_eq_true rfl) (fun _ _ hu => hu.elim) (fun r u hu => ?_)
    obtain ⟨rfl, v, N, hS, rfl⟩ := hu
    have hL : ((txtL n a0 b0 c0 L) ++ wd 16).length ≤ 126 := by rw [List.length_append]; have := wd_le 16; omega
    refine v_pop C dX7_init_328 rfl ?_
    refine v_aload_n C dX7_init_329 rfl ?_
    refine v_gF (K := fun w => w ++ (sbW (xK X) (h 5) v N ((txtL n a0 b0 c0 L) ++ wd 16) ++ dS (xK X) d (i + 1))) C (Cxt.r _ Cxt.id) (v := .ref (h 2)) 0 fl_X7_20 lm_0 rfl dX7_init_330 ?_
    refine v_iload_n C dX7_init_333 rfl ?_
    refine v_iconst (v := nI 1) C dX7_init_334 (by decide) ?_
    refine v_sI (K := fun w => w ++ (sbW (xK X) (h 5) v N ((txtL n a0 b0 c0 L) ++ wd 16) ++ dS (xK X) d (i + 1))) C (Cxt.r _ Cxt.id) 2 lm_2 (by first | decide | omega) 4 ?_ rfl set_set dX7_init_335 ?_
    · first | decide | omega
    first | refine v_iinc1 C (lo2 := [some _, some _, some _, some _, none, none, none]) dX7_init_336 rfl rfl rfl ?_ | refine v_iinc C (lo2 := [some _, some _, some _, some _, none, none, none]) dX7_init_336 rfl rfl rfl rfl ?_
    refine v_goto C 292 dX7_init_339 (by decide) ?_
    refine v_iload_n C dX7_init_292 rfl ?_
    refine v_iconst (v := nI 5) C dX7_init_293 (by decide) ?_
    refine v_icmp_ge C 342 dX7_init_294 (by decide) (fun c294 => ?_) (fun c => absurd c (by decide))
    refine V.sub (lo2 := [some _, some _, some _, some _, none, none, none]) ⟨rfl, rfl, rfl, rfl, trivial⟩ ?_
    have hT : (txtL n a0 b0 c0 L) ++ wd 16 = txtL n a0 b0 c0 L ++ clT (3, 0, 0, 0) := rfl
    rw [hT] at hS hL
    rw [hT, ← txtL_s]
    exact mi_lock (m := clX n (3, 0, 0, 0) m) (kk := clK (3, 0, 0, 0) kk) (L := L ++ [(3, 0, 0, 0)]) hl C F h31 hb (hZ.next (3, 0, 0, 0) (Or.inr (Or.inr (Or.inr (Or.inl ⟨rfl, h54, by rw [hk0]⟩)))) rfl hS (Nat.le_trans hL (by omega))) (by omega) (by omega) (by omega) hk0
  · refine v_goto C 336 dX7_init_306 (by decide) ?_
    first | refine v_iinc1 C (lo2 := [some _, some _, some _, some _, none, none, none]) dX7_init_336 rfl rfl rfl ?_ | refine v_iinc C (lo2 := [some _, some _, some _, some _, none, none, none]) dX7_init_336 rfl rfl rfl rfl ?_
    refine v_goto C 292 dX7_init_339 (by decide) ?_
    refine v_iload_n C dX7_init_292 rfl ?_
    refine v_iconst (v := nI 5) C dX7_init_293 (by decide) ?_
    refine v_icmp_ge C 342 dX7_init_294 (by decide) (fun c294 => ?_) (fun c => absurd c (by decide))
    refine V.sub (lo2 := [some _, some _, some _, some _, none, none, none]) ⟨rfl, rfl, rfl, rfl, trivial⟩ ?_
    exact mi_lock hl C F h31 hb (hZ.le (by omega)) (by omega) (by omega) (by omega) hk0
set_option maxHeartbeats 16000000 in
theorem mi_rule3 {X : Cx} {b d n a0 b0 c0 v N i : Nat} {h e : Nat → Nat} {L : List Q4} {m : Mg} {kk : Cnt} {K0 N0 : Nat} (hl : (xl X).stackTraces = false) (C : Ok SS MM X RX7 cX7_init 7 19 400 70000) (F : FinG X none rv (fun _ w => MemP (xK X) b d w) (fun _ _ => False) 400 70000) (h31 : (xK X).2.2.2 999 < 2 ^ 20)  (hb : h 0 = b) (hZ : Sof (xK X) n a0 b0 c0 L m kk N (110)) (hi : i ≤ 11) (hK0 : K0 ≤ 50) (hN0 : N0 ≤ 30000) (h53 : m 5 3 = nI 0) (h54 : m 5 4 = nI 0) (hk0 : kk.2 = (0, 0, 0)) : V X iW 292 [some (.ref (h 0)), some (.ref d), some (.int (nI n)), some (.int (nI 3)), none, none, none] [] (lmW (xK X) h n (m, e, (nI kk.2.2.1)) ++ (sbW (xK X) (h 5) v N (txtL n a0 b0 c0 L) ++ dS (xK X) d (i))) K0 N0 := by
  obtain ⟨⟨n1, h14, ha0, hb0, hc0⟩, hR, hI, ⟨hp6, hk4⟩, hS, hL⟩ := id hZ
  obtain ⟨cM, hM, hcM⟩ := id hI.2.1
  have hIM := hM.1
  have hE := hM.2.1
  refine v_iload_n C dX7_init_292 rfl ?_
  refine v_iconst (v := nI 5) C dX7_init_293 (by decide) ?_
  refine v_icmp_ge C 342 dX7_init_294 (by decide) (fun c => absurd c (by decide)) (fun c294 => ?_)
  refine v_aload_n C dX7_init_297 rfl ?_
  refine v_iconst (v := nI 0) C dX7_init_298 (by decide) ?_
  refine v_iconst (v := nI 2) C dX7_init_299 (by decide) ?_
  refine v_gVi (K := fun w => lmW (xK X) h n (m, e, (nI kk.2.2.1)) ++ (sbW (xK X) (h 5) v N (txtL n a0 b0 c0 L) ++ w)) C (Cxt.l _ (Cxt.l _ Cxt.id)) 0 (c_X6_next hl (lo := 0) (hi := 2) (by omega) (by omega) (by omega) h31) ym_X6_next ml_X7_32 rfl rfl rfl rfl dX7_init_300 (by first | omega | exact Nat.le_of_ble_eq_true rfl) (by first | omega | exact Nat.le_of_ble_eq_true rfl) (by first | omega | exact Nat.le_of_ble_eq_true rfl) (Nat.le_of_ble_eq_true rfl) (fun _ _ hu => hu.elim) (fun r u hu => ?_)
  obtain ⟨rfl, rfl⟩ := hu
  have rZ := drw_in (κ := (xK X)) (i := i) (show 0 ≤ 2 by omega)
  generalize drw (xK X) (i) (0) (2) = Z at rZ ⊢
  refine v_if_le C 309 dX7_init_303 (by decide) (fun c303 => ?_) (fun c303 => ?_)
  · refine v_aload_n C dX7_init_309 rfl ?_
    refine v_gF (K := fun w => w ++ (sbW (xK X) (h 5) v N (txtL n a0 b0 c0 L) ++ dS (xK X) d (i + 1))) C (Cxt.r _ Cxt.id) (v := .ref (h 5)) 0 fl_X7_14 lm_0 rfl dX7_init_310 ?_
    refine v_iload_n C dX7_init_313 rfl ?_
    refine v_iconst (v := nI 3) C dX7_init_314 (by decide) ?_
    refine v_icmp_ne C 323 dX7_init_315 (by decide) (fun c => absurd c (by decide)) (fun c315 => ?_)
    refine v_ldcS C (i := 15) rfl rfl dX7_init_318 ?_
    refine v_goto C 325 dX7_init_320 (by decide) ?_
    refine v_gVr (K := fun w => lmW (xK X) h n (m, e, (nI kk.2.2.1)) ++ (w ++ dS (xK X) d (i + 1))) C (Cxt.l _ (Cxt.r _ Cxt.id)) 0 (c_sbS hl (i := 15) (by decide) hS (by omega)) ym_J4_append_15ec4 ml_X7_53 rfl rfl rfl rfl dX7_init_325 (by first | omega | exact Nat.le_of_ble_eq_true rfl) (by first | omega | exact Nat.le_of_ble_eq_true rfl) (by first | omega | exact Nat.le_of_ble_eq_true rfl) (Nat.le_of_ble_eq_true rfl) (fun _ _ hu => hu.elim) (fun r u hu => ?_)
    obtain ⟨rfl, v, N, hS, rfl⟩ := hu
    have hL : ((txtL n a0 b0 c0 L) ++ wd 15).length ≤ 118 := by rw [List.length_append]; have := wd_le 15; omega
    refine v_pop C dX7_init_328 rfl ?_
    refine v_aload_n C dX7_init_329 rfl ?_
    refine v_gF (K := fun w => w ++ (sbW (xK X) (h 5) v N ((txtL n a0 b0 c0 L) ++ wd 15) ++ dS (xK X) d (i + 1))) C (Cxt.r _ Cxt.id) (v := .ref (h 2)) 0 fl_X7_20 lm_0 rfl dX7_init_330 ?_
    refine v_iload_n C dX7_init_333 rfl ?_
    refine v_iconst (v := nI 1) C dX7_init_334 (by decide) ?_
    refine v_sI (K := fun w => w ++ (sbW (xK X) (h 5) v N ((txtL n a0 b0 c0 L) ++ wd 15) ++ dS (xK X) d (i + 1))) C (Cxt.r _ Cxt.id) 2 lm_2 (by first | decide | omega) 3 ?_ rfl set_set dX7_init_335 ?_
    · first | decide | omega
    first | refine v_iinc1 C (lo2 := [some _, some _, some _, some _, none, none, none]) dX7_init_336 rfl rfl rfl ?_ | refine v_iinc C (lo2 := [some _, some _, some _, some _, none, none, none]) dX7_init_336 rfl rfl rfl rfl ?_
    refine v_goto C 292 dX7_init_339 (by decide) ?_
    refine V.sub (lo2 := [some _, some _, some _, some _, none, none, none]) ⟨rfl, rfl, rfl, rfl, trivial⟩ ?_
    have hT : (txtL n a0 b0 c0 L) ++ wd 15 = txtL n a0 b0 c0 L ++ clT (2, 0, 0, 0) := rfl
    rw [hT] at hS hL
    rw [hT, ← txtL_s]
    exact mi_rule4 (m := clX n (2, 0, 0, 0) m) (kk := clK (2, 0, 0, 0) kk) (L := L ++ [(2, 0, 0, 0)]) hl C F h31 hb (hZ.next (2, 0, 0, 0) (Or.inr (Or.inr (Or.inl ⟨rfl, h53, by rw [hk0]⟩))) rfl hS (Nat.le_trans hL (by omega))) (by omega) (by omega) (by omega) (show setM m 3 (nI 1) 5 4 = nI 0 from (show upd (m 5) 3 (nI 1) 4 = nI 0 from (upd_o (by decide)).trans h54)) hk0
  · refine v_goto C 336 dX7_init_306 (by decide) ?_
    first | refine v_iinc1 C (lo2 := [some _, some _, some _, some _, none, none, none]) dX7_init_336 rfl rfl rfl ?_ | refine v_iinc C (lo2 := [some _, some _, some _, some _, none, none, none]) dX7_init_336 rfl rfl rfl rfl ?_
    refine v_goto C 292 dX7_init_339 (by decide) ?_
    refine V.sub (lo2 := [some _, some _, some _, some _, none, none, none]) ⟨rfl, rfl, rfl, rfl, trivial⟩ ?_
    exact mi_rule4 hl C F h31 hb (hZ.le (by omega)) (by omega) (by omega) (by omega) (show m 5 4 = nI 0 from h54) hk0
set_option maxHeartbeats 16000000 in
theorem mi_putS {X : Cx} {b d n a0 b0 c0 v N i : Nat} {h e : Nat → Nat} {L : List Q4} {m : Mg} {kk : Cnt} {K0 N0 : Nat} (hl : (xl X).stackTraces = false) (C : Ok SS MM X RX7 cX7_init 7 19 400 70000) (F : FinG X none rv (fun _ w => MemP (xK X) b d w) (fun _ _ => False) 400 70000) (h31 : (xK X).2.2.2 999 < 2 ^ 20) {k : Nat} (hb : h 0 = b) (hZ : Sof (xK X) n a0 b0 c0 L m kk N (110 - 19 * (k + 1))) (hi : i ≤ 11 - 2 * (k + 1)) (hK0 : K0 ≤ 50 - 6 * (k + 1)) (hN0 : N0 ≤ 30000 - 6000 * (k + 1)) (hk5 : kk.1 ≤ 3 - (k + 1)) (hk0 : kk.2 = (0, 0, 0)) (h53 : m 5 3 = nI 0) (h54 : m 5 4 = nI 0) (hk : k + 1 ≤ 3) (ih : ∀ {v N i : Nat} {e : Nat → Nat} {L : List Q4} {m : Mg} {kk : Cnt} {K0 N0 : Nat}, Sof (xK X) n a0 b0 c0 L m kk N (110 - 19 * k) → i ≤ 11 - 2 * k → K0 ≤ 50 - 6 * k → N0 ≤ 30000 - 6000 * k → kk.1 ≤ 3 - k → kk.2 = (0, 0, 0) → m 5 3 = nI 0 → m 5 4 = nI 0 → V X iW 179 [some (.ref (h 0)), some (.ref d), some (.int (nI n)), some (.int (nI k)), none, none, none] [] (lmW (xK X) h n (m, e, (nI kk.2.2.1)) ++ (sbW (xK X) (h 5) v N (txtL n a0 b0 c0 L) ++ dS (xK X) d (i))) K0 N0) : V X iW 179 [some (.ref (h 0)), some (.ref d), some (.int (nI n)), some (.int (nI (k + 1))), none, none, none] [] (lmW (xK X) h n (m, e, (nI kk.2.2.1)) ++ (sbW (xK X) (h 5) v N (txtL n a0 b0 c0 L) ++ dS (xK X) d (i))) K0 N0 := by
  obtain ⟨⟨n1, h14, ha0, hb0, hc0⟩, hR, hI, ⟨hp6, hk4⟩, hS, hL⟩ := id hZ
  obtain ⟨cM, hM, hcM⟩ := id hI.2.1
  have hIM := hM.1
  have hE := hM.2.1
  refine v_iload_n C dX7_init_179 rfl ?_
  refine v_if_le C 290 dX7_init_180 (by decide) (fun c180 => ?_) (fun c180 => ?_)
  · exact absurd c180 (by rw [nI_toInt (by omega)]; omega)
  · refine v_aload_n C dX7_init_183 rfl ?_
    refine v_iconst (v := nI 0) C dX7_init_184 (by decide) ?_
    refine v_iload_n C dX7_init_185 rfl ?_
    refine v_iconst (v := nI 1) C dX7_init_186 (by decide) ?_
    first | refine v_isubN C dX7_init_187 (by omega) ?_ | refine v_isub C dX7_init_187 ?_
    refine v_gVi (K := fun w => lmW (xK X) h n (m, e, (nI kk.2.2.1)) ++ (sbW (xK X) (h 5) v N (txtL n a0 b0 c0 L) ++ w)) C (Cxt.l _ (Cxt.l _ Cxt.id)) 0 (c_X6_next hl (lo := 0) (hi := (n - 1)) (by omega) (by omega) (by omega) h31) ym_X6_next ml_X7_32 rfl rfl rfl rfl dX7_init_188 (by first | omega | exact Nat.le_of_ble_eq_true rfl) (by first | omega | exact Nat.le_of_ble_eq_true rfl) (by first | omega | exact Nat.le_of_ble_eq_true rfl) (Nat.le_of_ble_eq_true rfl) (fun _ _ hu => hu.elim) (fun r u hu => ?_)
    obtain ⟨rfl, rfl⟩ := hu
    have rP := drw_in (κ := (xK X)) (i := i) (show 0 ≤ (n - 1) by omega)
    generalize drw (xK X) (i) (0) ((n - 1)) = P at rP ⊢
    refine v_istore C (lo2 := [some _, some _, some _, some _, some _, none, none]) dX7_init_191 rfl (Nat.le_of_ble_eq_true rfl) rfl ?_
    refine v_aload_n C dX7_init_193 rfl ?_
    refine v_iconst (v := nI 0) C dX7_init_194 (by decide) ?_
    refine v_sipush (v := nI 255) C dX7_init_195 (by decide) ?_
    refine v_gVi (K := fun w => lmW (xK X) h n (m, e, (nI kk.2.2.1)) ++ (sbW (xK X) (h 5) v N (txtL n a0 b0 c0 L) ++ w)) C (Cxt.l _ (Cxt.l _ Cxt.id)) 0 (c_X6_next hl (lo := 0) (hi := 255) (by omega) (by omega) (by omega) h31) ym_X6_next ml_X7_32 rfl rfl rfl rfl dX7_init_198 (by first | omega | exact Nat.le_of_ble_eq_true rfl) (by first | omega | exact Nat.le_of_ble_eq_true rfl) (by first | omega | exact Nat.le_of_ble_eq_true rfl) (Nat.le_of_ble_eq_true rfl) (fun _ _ hu => hu.elim) (fun r u hu => ?_)
    obtain ⟨rfl, rfl⟩ := hu
    have rbv := drw_in (κ := (xK X)) (i := i + 1) (show 0 ≤ 255 by omega)
    generalize drw (xK X) (i + 1) (0) (255) = bv at rbv ⊢
    refine v_istore C (lo2 := [some _, some _, some _, some _, some _, some _, none]) dX7_init_201 rfl (Nat.le_of_ble_eq_true rfl) rfl ?_
    refine v_aload_n C dX7_init_203 rfl ?_
    refine v_gF (K := fun w => w ++ (sbW (xK X) (h 5) v N (txtL n a0 b0 c0 L) ++ dS (xK X) d (i + 1 + 1))) C (Cxt.r _ Cxt.id) (v := .ref (h 5)) 0 fl_X7_14 lm_0 rfl dX7_init_204 ?_
    refine v_ldcS C (i := 14) rfl rfl dX7_init_207 ?_
    refine v_gVr (K := fun w => lmW (xK X) h n (m, e, (nI kk.2.2.1)) ++ (w ++ dS (xK X) d (i + 1 + 1))) C (Cxt.l _ (Cxt.r _ Cxt.id)) 0 (c_sbS hl (i := 14) (by decide) hS (by omega)) ym_J4_append_15ec4 ml_X7_53 rfl rfl rfl rfl dX7_init_209 (by first | omega | exact Nat.le_of_ble_eq_true rfl) (by first | omega | exact Nat.le_of_ble_eq_true rfl) (by first | omega | exact Nat.le_of_ble_eq_true rfl) (Nat.le_of_ble_eq_true rfl) (fun _ _ hu => hu.elim) (fun r u hu => ?_)
    obtain ⟨rfl, v, N, hS, rfl⟩ := hu
    have hL : ((txtL n a0 b0 c0 L) ++ wd 14).length ≤ 110 - 19 * (k + 1) + 8 := by rw [List.length_append]; have := wd_le 14; omega
    refine v_iload C dX7_init_212 rfl ?_
    refine v_gVr (K := fun w => lmW (xK X) h n (m, e, (nI kk.2.2.1)) ++ (w ++ dS (xK X) d (i + 1 + 1))) C (Cxt.l _ (Cxt.r _ Cxt.id)) 0 (c_J4_append_bf812 hl (by omega) hS (by omega)) ym_J4_append_bf812 ml_X7_47 rfl rfl rfl rfl dX7_init_214 (by first | omega | exact Nat.le_of_ble_eq_true rfl) (by first | omega | exact Nat.le_of_ble_eq_true rfl) (by first | omega | exact Nat.le_of_ble_eq_true rfl) (Nat.le_of_ble_eq_true rfl) (fun _ _ hu => hu.elim) (fun r u hu => ?_)
    obtain ⟨rfl, v, N, hS, rfl⟩ := hu
    have hL : (((txtL n a0 b0 c0 L) ++ wd 14) ++ digs P).length ≤ 110 - 19 * (k + 1) + 8 + 3 := by rw [List.length_append, digs_len]; have := dig_le (P); omega
    refine v_bipush (v := nI 32) C dX7_init_217 (by decide) ?_
    refine v_gVr (K := fun w => lmW (xK X) h n (m, e, (nI kk.2.2.1)) ++ (w ++ dS (xK X) d (i + 1 + 1))) C (Cxt.l _ (Cxt.r _ Cxt.id)) 0 (c_J4_append_cf468 hl (c := 32) (by decide) hS (by omega)) ym_J4_append_cf468 ml_X7_62 rfl rfl rfl rfl dX7_init_219 (by first | omega | exact Nat.le_of_ble_eq_true rfl) (by first | omega | exact Nat.le_of_ble_eq_true rfl) (by first | omega | exact Nat.le_of_ble_eq_true rfl) (Nat.le_of_ble_eq_true rfl) (fun _ _ hu => hu.elim) (fun r u hu => ?_)
    obtain ⟨rfl, v, N, hS, rfl⟩ := hu
    have hL : ((((txtL n a0 b0 c0 L) ++ wd 14) ++ digs P) ++ [32]).length ≤ 110 - 19 * (k + 1) + 8 + 3 + 1 := by rw [List.length_append]; show _ + 1 ≤ _; omega
    refine v_iload C dX7_init_222 rfl ?_
    refine v_gVr (K := fun w => lmW (xK X) h n (m, e, (nI kk.2.2.1)) ++ (w ++ dS (xK X) d (i + 1 + 1))) C (Cxt.l _ (Cxt.r _ Cxt.id)) 0 (c_J4_append_bf812 hl (by omega) hS (by omega)) ym_J4_append_bf812 ml_X7_47 rfl rfl rfl rfl dX7_init_224 (by first | omega | exact Nat.le_of_ble_eq_true rfl) (by first | omega | exact Nat.le_of_ble_eq_true rfl) (by first | omega | exact Nat.le_of_ble_eq_true rfl) (Nat.le_of_ble_eq_true rfl) (fun _ _ hu => hu.elim) (fun r u hu => ?_)
    obtain ⟨rfl, v, N, hS, rfl⟩ := hu
    have hL : (((((txtL n a0 b0 c0 L) ++ wd 14) ++ digs P) ++ [32]) ++ digs bv).length ≤ 110 - 19 * (k + 1) + 8 + 3 + 1 + 3 := by rw [List.length_append, digs_len]; have := dig_le (bv); omega
    refine v_pop C dX7_init_227 rfl ?_
    refine v_aload_n C dX7_init_228 rfl ?_
    refine v_gF (K := fun w => w ++ (sbW (xK X) (h 5) v N (((((txtL n a0 b0 c0 L) ++ wd 14) ++ digs P) ++ [32]) ++ digs bv) ++ dS (xK X) d (i + 1 + 1))) C (Cxt.r _ Cxt.id) (v := .ref (h 1)) 0 fl_X7_40 lm_0 rfl dX7_init_229 ?_
    refine v_iload C dX7_init_232 rfl ?_
    refine v_gP (K := fun w => w ++ (sbW (xK X) (h 5) v N (((((txtL n a0 b0 c0 L) ++ wd 14) ++ digs P) ++ [32]) ++ digs bv) ++ dS (xK X) d (i + 1 + 1))) C (Cxt.r _ Cxt.id) (x := (some (h (8 + P)))) 1 lm_1 (by first | decide | omega) P (if_pos (by omega)) ?_ rfl dX7_init_234 ?_
    · omega
    refine v_iload C dX7_init_235 rfl ?_
    refine v_pFN (K := fun w => w ++ (sbW (xK X) (h 5) v N (((((txtL n a0 b0 c0 L) ++ wd 14) ++ digs P) ++ [32]) ++ digs bv) ++ dS (xK X) d (i + 1 + 1))) C (Cxt.r _ Cxt.id) (5 + P) fln_X7_65 fw_X8_1 (plc_at (by omega)) rfl rfl (Nat.le_of_ble_eq_true rfl) (set_stored (by omega)) dX7_init_237 ?_
    refine v_iload C dX7_init_240 rfl ?_
    refine v_iconst (v := nI 1) C dX7_init_242 (by decide) ?_
    first | refine v_iaddN C dX7_init_243 ?_ | refine v_iadd C dX7_init_243 ?_
    refine v_iload_n C dX7_init_244 rfl ?_
    first | refine v_icmp_neN C 251 dX7_init_245 (by decide) (by omega) (by omega) (fun c245 => ?_) (fun c245 => ?_) | refine v_icmp_ne C 251 dX7_init_245 (by decide) (fun c245 => ?_) (fun c245 => ?_)
    · refine v_aload_n C dX7_init_251 rfl ?_
      refine v_gF (K := fun w => w ++ (sbW (xK X) (h 5) v N (((((txtL n a0 b0 c0 L) ++ wd 14) ++ digs P) ++ [32]) ++ digs bv) ++ dS (xK X) d (i + 1 + 1))) C (Cxt.r _ Cxt.id) (v := .ref (h 5)) 0 fl_X7_14 lm_0 rfl dX7_init_252 ?_
      refine v_bipush (v := nI 32) C dX7_init_255 (by decide) ?_
      refine v_gVr (K := fun w => lmW (xK X) h n ((byteM m P (nI bv)), e, (nI kk.2.2.1)) ++ (w ++ dS (xK X) d (i + 1 + 1))) C (Cxt.l _ (Cxt.r _ Cxt.id)) 0 (c_J4_append_cf468 hl (c := 32) (by decide) hS (by omega)) ym_J4_append_cf468 ml_X7_62 rfl rfl rfl rfl dX7_init_257 (by first | omega | exact Nat.le_of_ble_eq_true rfl) (by first | omega | exact Nat.le_of_ble_eq_true rfl) (by first | omega | exact Nat.le_of_ble_eq_true rfl) (Nat.le_of_ble_eq_true rfl) (fun _ _ hu => hu.elim) (fun r u hu => ?_)
      obtain ⟨rfl, v, N, hS, rfl⟩ := hu
      have hL : ((((((txtL n a0 b0 c0 L) ++ wd 14) ++ digs P) ++ [32]) ++ digs bv) ++ [32]).length ≤ 110 - 19 * (k + 1) + 8 + 3 + 1 + 3 + 1 := by rw [List.length_append]; show _ + 1 ≤ _; omega
      refine v_iload C dX7_init_260 rfl ?_
      refine v_iconst (v := nI 2) C dX7_init_262 (by decide) ?_
      refine v_idivN C dX7_init_263 (by omega) (by omega) (by omega) ?_
      refine v_gVr (K := fun w => lmW (xK X) h n ((byteM m P (nI bv)), e, (nI kk.2.2.1)) ++ (w ++ dS (xK X) d (i + 1 + 1))) C (Cxt.l _ (Cxt.r _ Cxt.id)) 0 (c_J4_append_bf812 hl (by omega) hS (by omega)) ym_J4_append_bf812 ml_X7_47 rfl rfl rfl rfl dX7_init_264 (by first | omega | exact Nat.le_of_ble_eq_true rfl) (by first | omega | exact Nat.le_of_ble_eq_true rfl) (by first | omega | exact Nat.le_of_ble_eq_true rfl) (Nat.le_of_ble_eq_true rfl) (fun _ _ hu => hu.elim) (fun r u hu => ?_)
      obtain ⟨rfl, v, N, hS, rfl⟩ := hu
      have hL : (((((((txtL n a0 b0 c0 L) ++ wd 14) ++ digs P) ++ [32]) ++ digs bv) ++ [32]) ++ digs (bv / 2)).length ≤ 110 - 19 * (k + 1) + 8 + 3 + 1 + 3 + 1 + 3 := by rw [List.length_append, digs_len]; have := dig_le ((bv / 2)); omega
      refine v_pop C dX7_init_267 rfl ?_
      refine v_aload_n C dX7_init_268 rfl ?_
      refine v_gF (K := fun w => w ++ (sbW (xK X) (h 5) v N (((((((txtL n a0 b0 c0 L) ++ wd 14) ++ digs P) ++ [32]) ++ digs bv) ++ [32]) ++ digs (bv / 2)) ++ dS (xK X) d (i + 1 + 1))) C (Cxt.r _ Cxt.id) (v := .ref (h 1)) 0 fl_X7_40 lm_0 rfl dX7_init_269 ?_
      refine v_iload C dX7_init_272 rfl ?_
      refine v_iconst (v := nI 1) C dX7_init_274 (by decide) ?_
      first | refine v_iaddN C dX7_init_275 ?_ | refine v_iadd C dX7_init_275 ?_
      refine v_gP (K := fun w => w ++ (sbW (xK X) (h 5) v N (((((((txtL n a0 b0 c0 L) ++ wd 14) ++ digs P) ++ [32]) ++ digs bv) ++ [32]) ++ digs (bv / 2)) ++ dS (xK X) d (i + 1 + 1))) C (Cxt.r _ Cxt.id) (x := (some (h (8 + (P + 1))))) 1 lm_1 (by first | decide | omega) (P + 1) (if_pos (by omega)) ?_ rfl dX7_init_276 ?_
      · omega
      refine v_iload C dX7_init_277 rfl ?_
      refine v_iconst (v := nI 2) C dX7_init_279 (by decide) ?_
      refine v_idivN C dX7_init_280 (by omega) (by omega) (by omega) ?_
      refine v_pFN (K := fun w => w ++ (sbW (xK X) (h 5) v N (((((((txtL n a0 b0 c0 L) ++ wd 14) ++ digs P) ++ [32]) ++ digs bv) ++ [32]) ++ digs (bv / 2)) ++ dS (xK X) d (i + 1 + 1))) C (Cxt.r _ Cxt.id) (5 + (P + 1)) fln_X7_65 fw_X8_1 (plc_at (by omega)) rfl rfl (Nat.le_of_ble_eq_true rfl) (set_stored (by omega)) dX7_init_281 ?_
      refine v_iinc (v := nI k) C (lo2 := [some _, some _, some _, some _, some _, some _, none]) dX7_init_284 rfl (nI_prd k) rfl rfl ?_
      refine v_goto C 179 dX7_init_287 (by decide) ?_
      refine V.sub (lo2 := [some _, some _, some _, some _, none, none, none]) ⟨rfl, rfl, rfl, rfl, trivial⟩ ?_
      have hT : ((((((txtL n a0 b0 c0 L) ++ wd 14) ++ digs P) ++ [32]) ++ digs bv) ++ [32]) ++ digs (bv / 2) = txtL n a0 b0 c0 L ++ clT (1, P, bv, 0) := by
        rw [clT_1]
        simp only [List.append_assoc]
      rw [hT] at hS hL
      rw [hT, ← txtL_s]
      exact ih (m := clX n (1, P, bv, 0) m) (kk := clK (1, P, bv, 0) kk) (L := L ++ [(1, P, bv, 0)]) (hZ.next (1, P, bv, 0) (Or.inr (Or.inl ⟨rfl, (show P + 1 < n by omega), (show bv < 256 by omega), (show kk.1 < 3 by omega), by rw [hk0], by rw [hk0], by rw [hk0]⟩)) rfl hS (Nat.le_trans hL (by omega))) (by omega) (by omega) (by omega) (show kk.1 + 1 ≤ 3 - k by omega) hk0 h53 h54
    · refine v_goto C 284 dX7_init_248 (by decide) ?_
      refine v_iinc (v := nI k) C (lo2 := [some _, some _, some _, some _, some _, some _, none]) dX7_init_284 rfl (nI_prd k) rfl rfl ?_
      refine v_goto C 179 dX7_init_287 (by decide) ?_
      refine V.sub (lo2 := [some _, some _, some _, some _, none, none, none]) ⟨rfl, rfl, rfl, rfl, trivial⟩ ?_
      have hT : ((((txtL n a0 b0 c0 L) ++ wd 14) ++ digs P) ++ [32]) ++ digs bv = txtL n a0 b0 c0 L ++ clT (0, P, bv, 0) := by
        rw [clT_0]
        simp only [List.append_assoc]
      rw [hT] at hS hL
      rw [hT, ← txtL_s]
      exact ih (m := clX n (0, P, bv, 0) m) (kk := clK (0, P, bv, 0) kk) (L := L ++ [(0, P, bv, 0)]) (hZ.next (0, P, bv, 0) (Or.inl ⟨rfl, (show P < n by omega), (show bv < 256 by omega), (show kk.1 < 3 by omega), by rw [hk0], by rw [hk0], by rw [hk0]⟩) rfl hS (Nat.le_trans hL (by omega))) (by omega) (by omega) (by omega) (show kk.1 + 1 ≤ 3 - k by omega) hk0 h53 h54
set_option maxHeartbeats 16000000 in
theorem mi_put0 {X : Cx} {b d n a0 b0 c0 v N i : Nat} {h e : Nat → Nat} {L : List Q4} {m : Mg} {kk : Cnt} {K0 N0 : Nat} (hl : (xl X).stackTraces = false) (C : Ok SS MM X RX7 cX7_init 7 19 400 70000) (F : FinG X none rv (fun _ w => MemP (xK X) b d w) (fun _ _ => False) 400 70000) (h31 : (xK X).2.2.2 999 < 2 ^ 20)  (hb : h 0 = b) (hZ : Sof (xK X) n a0 b0 c0 L m kk N (110)) (hi : i ≤ 11) (hK0 : K0 ≤ 50) (hN0 : N0 ≤ 30000) (hk0 : kk.2 = (0, 0, 0)) (h53 : m 5 3 = nI 0) (h54 : m 5 4 = nI 0) : V X iW 179 [some (.ref (h 0)), some (.ref d), some (.int (nI n)), some (.int (nI 0)), none, none, none] [] (lmW (xK X) h n (m, e, (nI kk.2.2.1)) ++ (sbW (xK X) (h 5) v N (txtL n a0 b0 c0 L) ++ dS (xK X) d (i))) K0 N0 := by
  obtain ⟨⟨n1, h14, ha0, hb0, hc0⟩, hR, hI, ⟨hp6, hk4⟩, hS, hL⟩ := id hZ
  obtain ⟨cM, hM, hcM⟩ := id hI.2.1
  have hIM := hM.1
  have hE := hM.2.1
  refine v_iload_n C dX7_init_179 rfl ?_
  refine v_if_le C 290 dX7_init_180 (by decide) (fun c180 => ?_) (fun c => absurd c (by decide))
  refine v_iconst (v := nI 3) C dX7_init_290 (by decide) ?_
  refine v_istore_n C (lo2 := [some _, some _, some _, some _, none, none, none]) dX7_init_291 rfl (Nat.le_of_ble_eq_true rfl) rfl ?_
  exact mi_rule3 hl C F h31 hb hZ (by omega) (by omega) (by omega) h53 h54 hk0
theorem mi_put {X : Cx} {b d n a0 b0 c0 : Nat} {h : Nat → Nat} (hl : (xl X).stackTraces = false) (C : Ok SS MM X RX7 cX7_init 7 19 400 70000) (F : FinG X none rv (fun _ w => MemP (xK X) b d w) (fun _ _ => False) 400 70000) (h31 : (xK X).2.2.2 999 < 2 ^ 20) (hb : h 0 = b) : ∀ (k : Nat), k ≤ 3 → ∀ {v N i : Nat} {e : Nat → Nat} {L : List Q4} {m : Mg} {kk : Cnt} {K0 N0 : Nat}, Sof (xK X) n a0 b0 c0 L m kk N (110 - 19 * k) → i ≤ 11 - 2 * k → K0 ≤ 50 - 6 * k → N0 ≤ 30000 - 6000 * k → kk.1 ≤ 3 - k → kk.2 = (0, 0, 0) → m 5 3 = nI 0 → m 5 4 = nI 0 → V X iW 179 [some (.ref (h 0)), some (.ref d), some (.int (nI n)), some (.int (nI k)), none, none, none] [] (lmW (xK X) h n (m, e, (nI kk.2.2.1)) ++ (sbW (xK X) (h 5) v N (txtL n a0 b0 c0 L) ++ dS (xK X) d (i))) K0 N0
  | 0, _, v, N, i, e, L, m, kk, K0, N0, hZ, hi, hK, hN, h5, h0, h3, h4 => mi_put0 hl C F h31 hb (hZ.le (by omega)) (by omega) (by omega) (by omega) h0 h3 h4
  | k + 1, hk, v, N, i, e, L, m, kk, K0, N0, hZ, hi, hK, hN, h5, h0, h3, h4 => mi_putS hl C F h31 hb hZ hi hK hN h5 h0 h3 h4 hk (mi_put hl C F h31 hb k (by omega))
set_option maxHeartbeats 16000000 in
theorem mi_head {X : Cx} {b d n v N : Nat} {h e : Nat → Nat} {lk : Value} {K0 N0 : Nat} (hl : (xl X).stackTraces = false) (C : Ok SS MM X RX7 cX7_init 7 19 400 70000) (F : FinG X none rv (fun _ w => MemP (xK X) b d w) (fun _ _ => False) 400 70000) (h31 : (xK X).2.2.2 999 < 2 ^ 20) (n1 : 1 ≤ n) (h14 : n ≤ 14) (hb : h 0 = b) (hS : SbOK N (wd 10)) (hK0 : K0 ≤ 22) (hN0 : N0 ≤ 1400) : V X iW 84 [some (.ref (h 0)), some (.ref d), some (.int (nI n)), some lk, none, none, none] [] (lmW (xK X) h n (m00 n, e, nI 0) ++ (sbW (xK X) (h 5) v N (wd 10) ++ dS (xK X) d 1)) K0 N0 := by
  have hL : (wd 10).length ≤ 8 := wd_le 10
  refine v_aload_n C dX7_init_84 rfl ?_
  refine v_gF (K := fun w => w ++ (sbW (xK X) (h 5) v N (wd 10) ++ dS (xK X) d (1))) C (Cxt.r _ Cxt.id) (v := .ref (h 2)) 0 fl_X7_20 lm_0 rfl dX7_init_85 ?_
  refine v_iconst (v := nI 0) C dX7_init_88 (by decide) ?_
  refine v_aload_n C dX7_init_89 rfl ?_
  refine v_iconst (v := nI 1) C dX7_init_90 (by decide) ?_
  refine v_iconst (v := nI 3) C dX7_init_91 (by decide) ?_
  refine v_gVi (K := fun w => lmW (xK X) h n ((m00 n), e, (nI 0)) ++ (sbW (xK X) (h 5) v N (wd 10) ++ w)) C (Cxt.l _ (Cxt.l _ Cxt.id)) 0 (c_X6_next hl (lo := 1) (hi := 3) (by omega) (by omega) (by omega) h31) ym_X6_next ml_X7_32 rfl rfl rfl rfl dX7_init_92 (by first | omega | exact Nat.le_of_ble_eq_true rfl) (by first | omega | exact Nat.le_of_ble_eq_true rfl) (by first | omega | exact Nat.le_of_ble_eq_true rfl) (Nat.le_of_ble_eq_true rfl) (fun _ _ hu => hu.elim) (fun r u hu => ?_)
  obtain ⟨rfl, rfl⟩ := hu
  have ra0 := drw_in (κ := (xK X)) (i := 1) (show 1 ≤ 3 by omega)
  generalize drw (xK X) (1) (1) (3) = a0 at ra0 ⊢
  refine v_sI (K := fun w => w ++ (sbW (xK X) (h 5) v N (wd 10) ++ dS (xK X) d (2))) C (Cxt.r _ Cxt.id) 2 lm_2 (by first | decide | omega) 0 ?_ rfl set_set dX7_init_95 ?_
  · first | decide | omega
  refine v_aload_n C dX7_init_96 rfl ?_
  refine v_gF (K := fun w => w ++ (sbW (xK X) (h 5) v N (wd 10) ++ dS (xK X) d (2))) C (Cxt.r _ Cxt.id) (v := .ref (h 2)) 0 fl_X7_20 lm_0 rfl dX7_init_97 ?_
  refine v_iconst (v := nI 1) C dX7_init_100 (by decide) ?_
  refine v_aload_n C dX7_init_101 rfl ?_
  refine v_iconst (v := nI 0) C dX7_init_102 (by decide) ?_
  refine v_bipush (v := nI 12) C dX7_init_103 (by decide) ?_
  refine v_gVi (K := fun w => lmW (xK X) h n ((setM (m00 n) 0 (nI a0)), e, (nI 0)) ++ (sbW (xK X) (h 5) v N (wd 10) ++ w)) C (Cxt.l _ (Cxt.l _ Cxt.id)) 0 (c_X6_next hl (lo := 0) (hi := 12) (by omega) (by omega) (by omega) h31) ym_X6_next ml_X7_32 rfl rfl rfl rfl dX7_init_105 (by first | omega | exact Nat.le_of_ble_eq_true rfl) (by first | omega | exact Nat.le_of_ble_eq_true rfl) (by first | omega | exact Nat.le_of_ble_eq_true rfl) (Nat.le_of_ble_eq_true rfl) (fun _ _ hu => hu.elim) (fun r u hu => ?_)
  obtain ⟨rfl, rfl⟩ := hu
  have rb0 := drw_in (κ := (xK X)) (i := 2) (show 0 ≤ 12 by omega)
  generalize drw (xK X) (2) (0) (12) = b0 at rb0 ⊢
  refine v_sI (K := fun w => w ++ (sbW (xK X) (h 5) v N (wd 10) ++ dS (xK X) d (3))) C (Cxt.r _ Cxt.id) 2 lm_2 (by first | decide | omega) 1 ?_ rfl set_set dX7_init_108 ?_
  · first | decide | omega
  refine v_aload_n C dX7_init_109 rfl ?_
  refine v_gF (K := fun w => w ++ (sbW (xK X) (h 5) v N (wd 10) ++ dS (xK X) d (3))) C (Cxt.r _ Cxt.id) (v := .ref (h 2)) 0 fl_X7_20 lm_0 rfl dX7_init_110 ?_
  refine v_iconst (v := nI 2) C dX7_init_113 (by decide) ?_
  refine v_aload_n C dX7_init_114 rfl ?_
  refine v_iconst (v := nI 0) C dX7_init_115 (by decide) ?_
  refine v_iconst (v := nI 3) C dX7_init_116 (by decide) ?_
  refine v_gVi (K := fun w => lmW (xK X) h n ((setM (setM (m00 n) 0 (nI a0)) 1 (nI b0)), e, (nI 0)) ++ (sbW (xK X) (h 5) v N (wd 10) ++ w)) C (Cxt.l _ (Cxt.l _ Cxt.id)) 0 (c_X6_next hl (lo := 0) (hi := 3) (by omega) (by omega) (by omega) h31) ym_X6_next ml_X7_32 rfl rfl rfl rfl dX7_init_117 (by first | omega | exact Nat.le_of_ble_eq_true rfl) (by first | omega | exact Nat.le_of_ble_eq_true rfl) (by first | omega | exact Nat.le_of_ble_eq_true rfl) (Nat.le_of_ble_eq_true rfl) (fun _ _ hu => hu.elim) (fun r u hu => ?_)
  obtain ⟨rfl, rfl⟩ := hu
  have rc0 := drw_in (κ := (xK X)) (i := 3) (show 0 ≤ 3 by omega)
  generalize drw (xK X) (3) (0) (3) = c0 at rc0 ⊢
  refine v_sI (K := fun w => w ++ (sbW (xK X) (h 5) v N (wd 10) ++ dS (xK X) d (4))) C (Cxt.r _ Cxt.id) 2 lm_2 (by first | decide | omega) 2 ?_ rfl set_set dX7_init_120 ?_
  · first | decide | omega
  refine v_aload_n C dX7_init_121 rfl ?_
  refine v_gF (K := fun w => w ++ (sbW (xK X) (h 5) v N (wd 10) ++ dS (xK X) d (4))) C (Cxt.r _ Cxt.id) (v := .ref (h 5)) 0 fl_X7_14 lm_0 rfl dX7_init_122 ?_
  refine v_iload_n C dX7_init_125 rfl ?_
  refine v_gVr (K := fun w => lmW (xK X) h n ((setM (setM (setM (m00 n) 0 (nI a0)) 1 (nI b0)) 2 (nI c0)), e, (nI 0)) ++ (w ++ dS (xK X) d (4))) C (Cxt.l _ (Cxt.r _ Cxt.id)) 0 (c_J4_append_bf812 hl (by omega) hS (by omega)) ym_J4_append_bf812 ml_X7_47 rfl rfl rfl rfl dX7_init_126 (by first | omega | exact Nat.le_of_ble_eq_true rfl) (by first | omega | exact Nat.le_of_ble_eq_true rfl) (by first | omega | exact Nat.le_of_ble_eq_true rfl) (Nat.le_of_ble_eq_true rfl) (fun _ _ hu => hu.elim) (fun r u hu => ?_)
  obtain ⟨rfl, v, N, hS, rfl⟩ := hu
  have hL : ((wd 10) ++ digs n).length ≤ 11 := by rw [List.length_append, digs_len]; have := dig_le (n); omega
  refine v_ldcS C (i := 11) rfl rfl dX7_init_129 ?_
  refine v_gVr (K := fun w => lmW (xK X) h n ((setM (setM (setM (m00 n) 0 (nI a0)) 1 (nI b0)) 2 (nI c0)), e, (nI 0)) ++ (w ++ dS (xK X) d (4))) C (Cxt.l _ (Cxt.r _ Cxt.id)) 0 (c_sbS hl (i := 11) (by decide) hS (by omega)) ym_J4_append_15ec4 ml_X7_53 rfl rfl rfl rfl dX7_init_131 (by first | omega | exact Nat.le_of_ble_eq_true rfl) (by first | omega | exact Nat.le_of_ble_eq_true rfl) (by first | omega | exact Nat.le_of_ble_eq_true rfl) (Nat.le_of_ble_eq_true rfl) (fun _ _ hu => hu.elim) (fun r u hu => ?_)
  obtain ⟨rfl, v, N, hS, rfl⟩ := hu
  have hL : (((wd 10) ++ digs n) ++ wd 11).length ≤ 19 := by rw [List.length_append]; have := wd_le 11; omega
  refine v_aload_n C dX7_init_134 rfl ?_
  refine v_gF (K := fun w => w ++ (sbW (xK X) (h 5) v N (((wd 10) ++ digs n) ++ wd 11) ++ dS (xK X) d (4))) C (Cxt.r _ Cxt.id) (v := .ref (h 2)) 0 fl_X7_20 lm_0 rfl dX7_init_135 ?_
  refine v_iconst (v := nI 0) C dX7_init_138 (by decide) ?_
  refine v_gI (K := fun w => w ++ (sbW (xK X) (h 5) v N (((wd 10) ++ digs n) ++ wd 11) ++ dS (xK X) d (4))) C (Cxt.r _ Cxt.id) (x := (nI a0)) 2 lm_2 (by first | decide | omega) 0 (rfl) ?_ rfl dX7_init_139 ?_
  · omega
  refine v_gVr (K := fun w => lmW (xK X) h n ((setM (setM (setM (m00 n) 0 (nI a0)) 1 (nI b0)) 2 (nI c0)), e, (nI 0)) ++ (w ++ dS (xK X) d (4))) C (Cxt.l _ (Cxt.r _ Cxt.id)) 0 (c_J4_append_bf812 hl (by omega) hS (by omega)) ym_J4_append_bf812 ml_X7_47 rfl rfl rfl rfl dX7_init_140 (by first | omega | exact Nat.le_of_ble_eq_true rfl) (by first | omega | exact Nat.le_of_ble_eq_true rfl) (by first | omega | exact Nat.le_of_ble_eq_true rfl) (Nat.le_of_ble_eq_true rfl) (fun _ _ hu => hu.elim) (fun r u hu => ?_)
  obtain ⟨rfl, v, N, hS, rfl⟩ := hu
  have hL : ((((wd 10) ++ digs n) ++ wd 11) ++ digs a0).length ≤ 22 := by rw [List.length_append, digs_len]; have := dig_le (a0); omega
  refine v_ldcS C (i := 12) rfl rfl dX7_init_143 ?_
  refine v_gVr (K := fun w => lmW (xK X) h n ((setM (setM (setM (m00 n) 0 (nI a0)) 1 (nI b0)) 2 (nI c0)), e, (nI 0)) ++ (w ++ dS (xK X) d (4))) C (Cxt.l _ (Cxt.r _ Cxt.id)) 0 (c_sbS hl (i := 12) (by decide) hS (by omega)) ym_J4_append_15ec4 ml_X7_53 rfl rfl rfl rfl dX7_init_145 (by first | omega | exact Nat.le_of_ble_eq_true rfl) (by first | omega | exact Nat.le_of_ble_eq_true rfl) (by first | omega | exact Nat.le_of_ble_eq_true rfl) (Nat.le_of_ble_eq_true rfl) (fun _ _ hu => hu.elim) (fun r u hu => ?_)
  obtain ⟨rfl, v, N, hS, rfl⟩ := hu
  have hL : (((((wd 10) ++ digs n) ++ wd 11) ++ digs a0) ++ wd 12).length ≤ 30 := by rw [List.length_append]; have := wd_le 12; omega
  refine v_aload_n C dX7_init_148 rfl ?_
  refine v_gF (K := fun w => w ++ (sbW (xK X) (h 5) v N (((((wd 10) ++ digs n) ++ wd 11) ++ digs a0) ++ wd 12) ++ dS (xK X) d (4))) C (Cxt.r _ Cxt.id) (v := .ref (h 2)) 0 fl_X7_20 lm_0 rfl dX7_init_149 ?_
  refine v_iconst (v := nI 1) C dX7_init_152 (by decide) ?_
  refine v_gI (K := fun w => w ++ (sbW (xK X) (h 5) v N (((((wd 10) ++ digs n) ++ wd 11) ++ digs a0) ++ wd 12) ++ dS (xK X) d (4))) C (Cxt.r _ Cxt.id) (x := (nI b0)) 2 lm_2 (by first | decide | omega) 1 (rfl) ?_ rfl dX7_init_153 ?_
  · omega
  refine v_gVr (K := fun w => lmW (xK X) h n ((setM (setM (setM (m00 n) 0 (nI a0)) 1 (nI b0)) 2 (nI c0)), e, (nI 0)) ++ (w ++ dS (xK X) d (4))) C (Cxt.l _ (Cxt.r _ Cxt.id)) 0 (c_J4_append_bf812 hl (by omega) hS (by omega)) ym_J4_append_bf812 ml_X7_47 rfl rfl rfl rfl dX7_init_154 (by first | omega | exact Nat.le_of_ble_eq_true rfl) (by first | omega | exact Nat.le_of_ble_eq_true rfl) (by first | omega | exact Nat.le_of_ble_eq_true rfl) (Nat.le_of_ble_eq_true rfl) (fun _ _ hu => hu.elim) (fun r u hu => ?_)
  obtain ⟨rfl, v, N, hS, rfl⟩ := hu
  have hL : ((((((wd 10) ++ digs n) ++ wd 11) ++ digs a0) ++ wd 12) ++ digs b0).length ≤ 33 := by rw [List.length_append, digs_len]; have := dig_le (b0); omega
  refine v_ldcS C (i := 13) rfl rfl dX7_init_157 ?_
  refine v_gVr (K := fun w => lmW (xK X) h n ((setM (setM (setM (m00 n) 0 (nI a0)) 1 (nI b0)) 2 (nI c0)), e, (nI 0)) ++ (w ++ dS (xK X) d (4))) C (Cxt.l _ (Cxt.r _ Cxt.id)) 0 (c_sbS hl (i := 13) (by decide) hS (by omega)) ym_J4_append_15ec4 ml_X7_53 rfl rfl rfl rfl dX7_init_159 (by first | omega | exact Nat.le_of_ble_eq_true rfl) (by first | omega | exact Nat.le_of_ble_eq_true rfl) (by first | omega | exact Nat.le_of_ble_eq_true rfl) (Nat.le_of_ble_eq_true rfl) (fun _ _ hu => hu.elim) (fun r u hu => ?_)
  obtain ⟨rfl, v, N, hS, rfl⟩ := hu
  have hL : (((((((wd 10) ++ digs n) ++ wd 11) ++ digs a0) ++ wd 12) ++ digs b0) ++ wd 13).length ≤ 41 := by rw [List.length_append]; have := wd_le 13; omega
  refine v_aload_n C dX7_init_162 rfl ?_
  refine v_gF (K := fun w => w ++ (sbW (xK X) (h 5) v N (((((((wd 10) ++ digs n) ++ wd 11) ++ digs a0) ++ wd 12) ++ digs b0) ++ wd 13) ++ dS (xK X) d (4))) C (Cxt.r _ Cxt.id) (v := .ref (h 2)) 0 fl_X7_20 lm_0 rfl dX7_init_163 ?_
  refine v_iconst (v := nI 2) C dX7_init_166 (by decide) ?_
  refine v_gI (K := fun w => w ++ (sbW (xK X) (h 5) v N (((((((wd 10) ++ digs n) ++ wd 11) ++ digs a0) ++ wd 12) ++ digs b0) ++ wd 13) ++ dS (xK X) d (4))) C (Cxt.r _ Cxt.id) (x := (nI c0)) 2 lm_2 (by first | decide | omega) 2 (rfl) ?_ rfl dX7_init_167 ?_
  · omega
  refine v_gVr (K := fun w => lmW (xK X) h n ((setM (setM (setM (m00 n) 0 (nI a0)) 1 (nI b0)) 2 (nI c0)), e, (nI 0)) ++ (w ++ dS (xK X) d (4))) C (Cxt.l _ (Cxt.r _ Cxt.id)) 0 (c_J4_append_bf812 hl (by omega) hS (by omega)) ym_J4_append_bf812 ml_X7_47 rfl rfl rfl rfl dX7_init_168 (by first | omega | exact Nat.le_of_ble_eq_true rfl) (by first | omega | exact Nat.le_of_ble_eq_true rfl) (by first | omega | exact Nat.le_of_ble_eq_true rfl) (Nat.le_of_ble_eq_true rfl) (fun _ _ hu => hu.elim) (fun r u hu => ?_)
  obtain ⟨rfl, v, N, hS, rfl⟩ := hu
  have hL : ((((((((wd 10) ++ digs n) ++ wd 11) ++ digs a0) ++ wd 12) ++ digs b0) ++ wd 13) ++ digs c0).length ≤ 44 := by rw [List.length_append, digs_len]; have := dig_le (c0); omega
  refine v_pop C dX7_init_171 rfl ?_
  refine v_aload_n C dX7_init_172 rfl ?_
  refine v_iconst (v := nI 0) C dX7_init_173 (by decide) ?_
  refine v_iconst (v := nI 3) C dX7_init_174 (by decide) ?_
  refine v_gVi (K := fun w => lmW (xK X) h n ((setM (setM (setM (m00 n) 0 (nI a0)) 1 (nI b0)) 2 (nI c0)), e, (nI 0)) ++ (sbW (xK X) (h 5) v N ((((((((wd 10) ++ digs n) ++ wd 11) ++ digs a0) ++ wd 12) ++ digs b0) ++ wd 13) ++ digs c0) ++ w)) C (Cxt.l _ (Cxt.l _ Cxt.id)) 0 (c_X6_next hl (lo := 0) (hi := 3) (by omega) (by omega) (by omega) h31) ym_X6_next ml_X7_32 rfl rfl rfl rfl dX7_init_175 (by first | omega | exact Nat.le_of_ble_eq_true rfl) (by first | omega | exact Nat.le_of_ble_eq_true rfl) (by first | omega | exact Nat.le_of_ble_eq_true rfl) (Nat.le_of_ble_eq_true rfl) (fun _ _ hu => hu.elim) (fun r u hu => ?_)
  obtain ⟨rfl, rfl⟩ := hu
  have rZ := drw_in (κ := (xK X)) (i := 4) (show 0 ≤ 3 by omega)
  generalize drw (xK X) (4) (0) (3) = Z at rZ ⊢
  refine v_istore_n C (lo2 := [some _, some _, some _, some _, none, none, none]) dX7_init_178 rfl (Nat.le_of_ble_eq_true rfl) rfl ?_
  refine V.sub (lo2 := [some _, some _, some _, some _, none, none, none]) ⟨rfl, rfl, rfl, rfl, trivial⟩ ?_
  have hT : (((((((wd 10) ++ digs n) ++ wd 11) ++ digs a0) ++ wd 12) ++ digs b0) ++ wd 13) ++ digs c0 = txtL n a0 b0 c0 [] := rfl
  rw [hT] at hS hL
  rw [hT]
  exact mi_put (m := hdL n a0 b0 c0) (kk := (0, 0, 0, 0)) hl C F h31 hb Z (by omega) ⟨⟨n1, h14, ra0, rb0.2, rc0.2⟩, ⟨rfl, rfl⟩, LI_hd n1 h14 ra0 rb0.2 rc0.2, ⟨rfl, Nat.zero_le _⟩, hS, Nat.le_trans hL (by omega)⟩ (by omega) (by omega) (by omega) (Nat.zero_le _) rfl rfl rfl
set_option maxHeartbeats 16000000 in
theorem c_X7_init {l : Launch} (hl : l.stackTraces = false) {κ : Kp} {b d : Nat} (h31 : κ.2.2.2 999 < 2 ^ 20) : CtG SS MM l κ yX7_init cX7_init 7 none 19 400 70000 [.ref b, .ref d] (((b, .inr (7, [.null, .null, .null, .null, .null, .int 0, .int 0])) : Nat × va_E) :: dS κ d 0) rv (fun _ w => MemP κ b d w) (fun _ _ => False) := by
  refine CtG.of (own := RX7) (by decide) rfl hl (by intro v hv; simp only [List.mem_cons, List.not_mem_nil, or_false] at hv; first | (rcases hv with rfl | rfl | rfl | rfl | rfl | rfl <;> rfl) | (rcases hv with rfl | rfl | rfl | rfl | rfl <;> rfl) | (rcases hv with rfl | rfl | rfl | rfl <;> rfl) | (rcases hv with rfl | rfl | rfl <;> rfl) | (rcases hv with rfl | rfl <;> rfl) | (subst hv; rfl) | exact hv.elim) (Nat.le_of_ble_eq_true rfl) (fun X hxl hxk C F NH hnm => ?_)
  subst hxl hxk
  show V X iW 0 [some (.ref b), some (.ref d), none, none, none, none, none] [] (((b, .inr (7, [.null, .null, .null, .null, .null, .int 0, .int 0])) : Nat × va_E) :: dS (xK X) d 0) 0 0
  refine v_aload_n C dX7_init_0 rfl ?_
  refine v_objInit C ml_X7_1 rfl dX7_init_1 (by decide) ?_
  refine v_aload_n C dX7_init_4 rfl ?_
  refine v_new C nw_X7_7 dX7_init_5 (by first | omega | exact Nat.le_of_ble_eq_true rfl) (by first | omega | exact Nat.le_of_ble_eq_true rfl) (fun q5 => ?_)
  refine v_dup C dX7_init_8 rfl ?_
  refine v_ldcS C (i := 10) rfl rfl dX7_init_9 ?_
  refine v_gNv (K := fun w => w ++ (((b, .inr (7, [.null, .null, .null, .null, .null, .int 0, .int 0])) : Nat × va_E) :: dS (xK X) d 0)) C (Cxt.r _ Cxt.id) (c_sbNew hl (i := 10) (by decide)) yc_J4_init_a7421 ml_X7_11 rfl rfl dX7_init_11 (by first | omega | exact Nat.le_of_ble_eq_true rfl) (by first | omega | exact Nat.le_of_ble_eq_true rfl) (by first | omega | exact Nat.le_of_ble_eq_true rfl) (Nat.le_of_ble_eq_true rfl) (fun _ _ hu => hu.elim) (fun r u hu => ?_)
  obtain ⟨v, N, hS, rfl⟩ := hu
  refine v_pFF (K := fun w => (sbW (xK X) q5 v N (wd 10)) ++ w) (ws := ((b, .inr (7, [.null, .null, .null, .null, .null, .int 0, .int 0])) : Nat × va_E) :: dS (xK X) d 0) C hnm (Cxt.l _ Cxt.id) 0 fl_X7_14 fwf_X7_0 rfl rfl rfl (Nat.le_of_ble_eq_true rfl) rfl dX7_init_14 ?_
  refine v_aload_n C dX7_init_17 rfl ?_
  refine v_iconst (v := nI 5) C dX7_init_18 (by decide) ?_
  refine v_newI C 5 rfl (by omega) dX7_init_19 (by first | omega | exact Nat.le_of_ble_eq_true rfl) (by first | omega | exact Nat.le_of_ble_eq_true rfl) (fun q2 => ?_)
  refine v_pFF (K := fun w => (cI (xK X) q2 5 (fun _ => 0) :: sbW (xK X) q5 v N (wd 10)) ++ w) (ws := ((b, .inr (7, [.ref q5, .null, .null, .null, .null, .int 0, .int 0])) : Nat × va_E) :: dS (xK X) d 0) C hnm (Cxt.l _ Cxt.id) 0 fl_X7_20 fwf_X7_2 rfl rfl rfl (Nat.le_of_ble_eq_true rfl) rfl dX7_init_21 ?_
  refine v_aload_n C dX7_init_24 rfl ?_
  refine v_bipush (v := nI 9) C dX7_init_25 (by decide) ?_
  refine v_newI C 9 rfl (by omega) dX7_init_27 (by first | omega | exact Nat.le_of_ble_eq_true rfl) (by first | omega | exact Nat.le_of_ble_eq_true rfl) (fun q3 => ?_)
  refine v_pFF (K := fun w => (cI (xK X) q3 9 (fun _ => 0) :: cI (xK X) q2 5 (fun _ => 0) :: sbW (xK X) q5 v N (wd 10)) ++ w) (ws := ((b, .inr (7, [.ref q5, .null, .ref q2, .null, .null, .int 0, .int 0])) : Nat × va_E) :: dS (xK X) d 0) C hnm (Cxt.l _ Cxt.id) 0 fl_X7_24 fwf_X7_3 rfl rfl rfl (Nat.le_of_ble_eq_true rfl) rfl dX7_init_29 ?_
  refine v_aload_n C dX7_init_32 rfl ?_
  refine v_bipush (v := nI 80) C dX7_init_33 (by decide) ?_
  refine v_newE C 80 rfl (by omega) (TT_t 426 (by decide +kernel) (by decide +kernel)) dX7_init_35 (by first | omega | exact Nat.le_of_ble_eq_true rfl) (by first | omega | exact Nat.le_of_ble_eq_true rfl) (fun q4 => ?_)
  refine v_pFF (K := fun w => (cE (xK X) q4 80 (fun _ => none) :: cI (xK X) q3 9 (fun _ => 0) :: cI (xK X) q2 5 (fun _ => 0) :: sbW (xK X) q5 v N (wd 10)) ++ w) (ws := ((b, .inr (7, [.ref q5, .null, .ref q2, .ref q3, .null, .int 0, .int 0])) : Nat × va_E) :: dS (xK X) d 0) C hnm (Cxt.l _ Cxt.id) 0 fl_X7_28 fwf_X7_4 rfl rfl rfl (Nat.le_of_ble_eq_true rfl) rfl dX7_init_38 ?_
  refine v_aload_n C dX7_init_41 rfl ?_
  refine v_iconst (v := nI 1) C dX7_init_42 (by decide) ?_
  refine v_bipush (v := nI 14) C dX7_init_43 (by decide) ?_
  refine v_gVi (K := fun w => (cE (xK X) q4 80 (fun _ => none) :: cI (xK X) q3 9 (fun _ => 0) :: cI (xK X) q2 5 (fun _ => 0) :: (sbW (xK X) q5 v N (wd 10) ++ [((b, .inr (7, [.ref q5, .null, .ref q2, .ref q3, .ref q4, .int 0, .int 0])) : Nat × va_E)])) ++ w) C (Cxt.l _ Cxt.id) 0 (c_X6_next hl (lo := 1) (hi := 14) (by omega) (by omega) (by omega) h31) ym_X6_next ml_X7_32 rfl rfl rfl rfl dX7_init_45 (by first | omega | exact Nat.le_of_ble_eq_true rfl) (by first | omega | exact Nat.le_of_ble_eq_true rfl) (by first | omega | exact Nat.le_of_ble_eq_true rfl) (Nat.le_of_ble_eq_true rfl) (fun _ _ hu => hu.elim) (fun r u hu => ?_)
  obtain ⟨rfl, rfl⟩ := hu
  have rn := drw_in (κ := (xK X)) (i := 0) (show 1 ≤ 14 by omega)
  generalize drw (xK X) 0 1 14 = n at rn ⊢
  obtain ⟨n1, h14⟩ := rn
  refine v_istore_n C (lo2 := [some _, some _, some _, none, none, none, none]) dX7_init_48 rfl (Nat.le_of_ble_eq_true rfl) rfl ?_
  refine v_aload_n C dX7_init_49 rfl ?_
  refine v_iload_n C dX7_init_50 rfl ?_
  refine v_newP C n rfl (by omega) (TT_t 429 (by decide +kernel) (by decide +kernel)) dX7_init_51 (by first | omega | exact Nat.le_of_ble_eq_true rfl) (by omega) (fun q1 => ?_)
  refine v_pFF (K := fun w => (cP (xK X) q1 n (fun _ => none) :: cE (xK X) q4 80 (fun _ => none) :: cI (xK X) q3 9 (fun _ => 0) :: cI (xK X) q2 5 (fun _ => 0) :: sbW (xK X) q5 v N (wd 10)) ++ w) (ws := ((b, .inr (7, [.ref q5, .null, .ref q2, .ref q3, .ref q4, .int 0, .int 0])) : Nat × va_E) :: dS (xK X) d 1) C hnm (Cxt.l _ Cxt.id) 0 fl_X7_40 fwf_X7_1 rfl rfl rfl (Nat.le_of_ble_eq_true rfl) rfl dX7_init_54 ?_
  obtain ⟨h, rfl, rfl, rfl, rfl, rfl, rfl⟩ := hh_ex b q1 q2 q3 q4 q5
  refine V.perm (ws' := lmB (xK X) h n 0 (sbW (xK X) (h 5) v N (wd 10) ++ dS (xK X) d 1)) (prm8 _ _ _ _ _ _ _ _) ?_
  refine v_iconst (v := nI 0) C dX7_init_57 (by decide) ?_
  refine v_istore_n C (lo2 := [some _, some _, some _, some _, none, none, none]) dX7_init_58 rfl (Nat.le_of_ble_eq_true rfl) rfl ?_
  have L59 : ∀ (t : Nat × (Nat → Nat)), (fun t => t.1 ≤ n ∧ ∀ k, k < 8 → t.2 k = h k) t → (fun t : Nat × (Nat → Nat) => V X iW 59 [some (.ref (t.2 0)), some (.ref d), some (.int (nI n)), some (.int (nI t.1)), none, none, none] [] (lmB (xK X) (t.2) n (t.1) (sbW (xK X) (h 5) v N (wd 10) ++ dS (xK X) d 1)) (7 + t.1) (1200 + 5 * t.1)) t := by
    refine v_ind (fun t : Nat × (Nat → Nat) => n - t.1) ?_
    rintro ⟨j, g⟩ ih59 hI59
    try dsimp only at hI59 ⊢
    obtain ⟨i1, i2⟩ := hI59
    refine v_iload_n C dX7_init_59 rfl ?_
    refine v_iload_n C dX7_init_60 rfl ?_
    first | refine v_icmp_geN C 84 dX7_init_61 (by decide) (by omega) (by omega) (fun c61 => ?_) (fun c61 => ?_) | refine v_icmp_ge C 84 dX7_init_61 (by decide) (fun c61 => ?_) (fun c61 => ?_)
    · have hjn : j = n := by omega
      subst hjn
      rw [lmB_n (e := fun _ => 0) h14, ← i2 5 (by omega)]
      exact mi_head hl C F h31 n1 h14 (i2 0 (by omega)) hS (by omega) (by omega)
    · refine v_aload_n C dX7_init_64 rfl ?_
      refine v_gF (K := fun w => w) C Cxt.id (v := .ref (g 1)) 0 fl_X7_40 rfl rfl dX7_init_65 ?_
      refine v_iload_n C dX7_init_68 rfl ?_
      refine v_new C nw_X7_38 dX7_init_69 (by first | omega | exact Nat.le_of_ble_eq_true rfl) (by first | omega | exact Nat.le_of_ble_eq_true rfl) (fun q => ?_)
      refine v_dup C dX7_init_72 rfl ?_
      refine v_iload_n C dX7_init_73 rfl ?_
      refine v_gNv (K := fun w => w ++ lmB (xK X) (g) n (j) (sbW (xK X) (h 5) v N (wd 10) ++ dS (xK X) d 1)) C (Cxt.r _ Cxt.id) (c_X8_init hl) yc_X8_init ml_X7_44 rfl rfl dX7_init_74 (by first | omega | exact Nat.le_of_ble_eq_true rfl) (by first | omega | exact Nat.le_of_ble_eq_true rfl) (by first | omega | exact Nat.le_of_ble_eq_true rfl) (Nat.le_of_ble_eq_true rfl) (fun _ _ hu => hu.elim) (fun r u hu => ?_)
      obtain rfl := hu
      refine v_sP (K := fun w => w) (ws := [(q, .inr (8, [.int (nI j), .int 0, .int (-1), va_rf none, .int 0]))] ++ lmB (xK X) (g) n (j) (sbW (xK X) (h 5) v N (wd 10) ++ dS (xK X) d 1)) C Cxt.id 2 0 rfl rfl (by omega) j ?_ rfl rfl dX7_init_77 ?_
      · omega
      refine V.perm lmB_next ?_
      first | refine v_iinc1 C (lo2 := [some _, some _, some _, some _, none, none, none]) dX7_init_78 rfl rfl rfl ?_ | refine v_iinc C (lo2 := [some _, some _, some _, some _, none, none, none]) dX7_init_78 rfl rfl rfl rfl ?_
      refine v_goto C 59 dX7_init_81 (by decide) ?_
      refine V.sub (lo2 := [some _, some _, some _, some _, none, none, none]) ⟨rfl, rfl, rfl, rfl, trivial⟩ ?_
      refine V.wid (k2 := 7 + (j + 1)) (n2 := 1200 + 5 * (j + 1)) (by omega) (by omega) ?_
      rw [show g 0 = hup g j q 0 from (hup_lo (by omega)).symm]
      exact ih59 (j + 1, hup g j q) (by show n - (j + 1) < n - j; omega) ⟨by show j + 1 ≤ n; omega, fun k hk => by show hup g j q k = h k; rw [hup_lo hk, i2 k hk]⟩
  refine V.wid (k2 := 7 + 0) (n2 := 1200 + 5 * 0) (by omega) (by omega) ?_
  exact L59 (0, h) ⟨Nat.zero_le _, fun _ _ => rfl⟩

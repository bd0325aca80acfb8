set_option maxHeartbeats 3000000 in
theorem c_L_act {l : Launch} (hl : l.stackTraces = false) {κ : Kp} {g h : Nat → Nat} {n cM : Nat} {m : Mg} {e : Nat → Nat} {u : Cg} {b i : Nat} (hG : GU m u) (hW : WM n cM m) (hI : LI n m) (n1 : ¬ n = 0) (hk6 : ∃ j, j < 1000 ∧ m 6 0 = nI j) (h31 : κ.2.2.2 999 < 2 ^ 20) (hi0 : i < 2000) : CtG SS MM l κ yL_act cL_act 11 (some FieldType.boolean) 20 120 500 [.ref (g 0), .ref (h 0), .ref b] (cS κ g u ++ (lmW κ h n (m, e, m 6 0) ++ dS κ b i)) ri (fun r w => r = nI 1 ∧ ∃ m' e' u' i', GU m' u' ∧ LI n m' ∧ (m' 6 0 = m 6 0 ∨ m' 6 0 = m 6 0 + nI 1) ∧ i' ≤ i + 20 ∧ w = cS κ g u' ++ (lmW κ h n (m', e', m' 6 0) ++ dS κ b i')) (fun _ _ => False) := by
  refine CtG.of (own := RL) (by decide) rfl hl (by intro v hv; simp only [List.mem_cons, List.not_mem_nil, or_false] at hv; first | (rcases hv with rfl | rfl | rfl | rfl | rfl | rfl <;> rfl) | (rcases hv with rfl | rfl | rfl | rfl | rfl <;> rfl) | (rcases hv with rfl | rfl | rfl | rfl <;> rfl) | (rcases hv with rfl | rfl | rfl <;> rfl) | (rcases hv with rfl | rfl <;> rfl) | (subst hv; rfl) | exact hv.elim) (Nat.le_of_ble_eq_true rfl) (fun X hxl hxk C F NH hnm => ?_)
  subst hxl hxk
  show V X iW 0 [some (.ref (g 0)), some (.ref (h 0)), some (.ref b), none, none, none, none, none, none, none, none] [] (cS (xK X) g u ++ (lmW (xK X) h n (m, e, m 6 0) ++ dS (xK X) b i)) 0 0
  obtain ⟨s, ⟨sT, mT⟩, rr, hh, sl, tx, L0, rfl, hH⟩ := hG
  have h14 := hI.1
  have hIM := hI.im
  have hE := hI.ev
  have hset := hI.set
  have hn31 : n < 2 ^ 31 := by omega
  have hn96 : n ≤ 96 := by omega
  refine v_aload_n C dL_act_0 rfl ?_
  refine v_iconst (v := nI 0) C dL_act_1 (by decide) ?_
  refine v_bipush (v := nI 16) C dL_act_2 (by decide) ?_
  refine v_gVi (K := fun w => cS (xK X) g ((s, m), (sT, mT), rr, hh, sl, tx) ++ (lmW (xK X) h n (m, e, m 6 0) ++ w)) C (Cxt.l _ (Cxt.l _ Cxt.id)) 0 (c_X6_next hl (i := i) (lo := 0) (hi := 16) (by omega) (by omega) (by omega) h31) ym_X6_next ml_L_217 rfl rfl rfl rfl dL_act_4 (by first | omega | exact Nat.le_of_ble_eq_true rfl) (by first | omega | exact Nat.le_of_ble_eq_true rfl) (by first | omega | exact Nat.le_of_ble_eq_true rfl) (Nat.le_of_ble_eq_true rfl) (fun _ _ hu => hu.elim) (fun r u hu => ?_)
  obtain ⟨rfl, rfl⟩ := hu
  have hbW := drw_in (κ := (xK X)) (i := i) (a := 0) (b := 16) (by omega)
  generalize drw (xK X) (i) (0) (16) = W at hbW ⊢
  refine v_istore_n C (lo2 := [some _, some _, some _, some _, none, none, none, none, none, none, none]) dL_act_7 rfl (Nat.le_of_ble_eq_true rfl) rfl ?_
  refine v_aload_n C dL_act_8 rfl ?_
  refine v_gFN (K := fun w => cS (xK X) g ((s, m), (sT, mT), rr, hh, sl, tx) ++ (w ++ dS (xK X) b (i + 1))) C (Cxt.l _ (Cxt.r _ Cxt.id)) (v := .ref (h 1)) 0 fln_L_154 lm_0 rfl dL_act_9 ?_
  refine v_lenA (K := fun w => cS (xK X) g ((s, m), (sT, mT), rr, hh, sl, tx) ++ (w ++ dS (xK X) b (i + 1))) C (Cxt.l _ (Cxt.r _ Cxt.id)) (N := n) 3 1 rfl lm_1 rfl dL_act_12 ?_
  refine v_istore C (lo2 := [some _, some _, some _, some _, some _, none, none, none, none, none, none]) dL_act_13 rfl (Nat.le_of_ble_eq_true rfl) rfl ?_
  refine v_aload_n C dL_act_15 rfl ?_
  refine v_iconst (v := nI 0) C dL_act_16 (by decide) ?_
  refine v_iload C dL_act_17 rfl ?_
  refine v_iconst (v := nI 1) C dL_act_19 (by decide) ?_
  first | refine v_isubN C dL_act_20 (by omega) ?_ | refine v_isub C dL_act_20 ?_
  refine v_gVi (K := fun w => cS (xK X) g ((s, m), (sT, mT), rr, hh, sl, tx) ++ (lmW (xK X) h n (m, e, m 6 0) ++ w)) C (Cxt.l _ (Cxt.l _ Cxt.id)) 0 (c_X6_next hl (i := i + 1) (lo := 0) (hi := (n - 1)) (by omega) (by omega) (by omega) h31) ym_X6_next ml_L_217 rfl rfl rfl rfl dL_act_21 (by first | omega | exact Nat.le_of_ble_eq_true rfl) (by first | omega | exact Nat.le_of_ble_eq_true rfl) (by first | omega | exact Nat.le_of_ble_eq_true rfl) (Nat.le_of_ble_eq_true rfl) (fun _ _ hu => hu.elim) (fun r u hu => ?_)
  obtain ⟨rfl, rfl⟩ := hu
  have hba := drw_in (κ := (xK X)) (i := i + 1) (a := 0) (b := (n - 1)) (by omega)
  generalize drw (xK X) (i + 1) (0) ((n - 1)) = a at hba ⊢
  have han : a < n := by omega
  refine v_istore C (lo2 := [some _, some _, some _, some _, some _, some _, none, none, none, none, none]) dL_act_24 rfl (Nat.le_of_ble_eq_true rfl) rfl ?_
  refine v_aload_n C dL_act_26 rfl ?_
  refine v_iconst (v := nI 0) C dL_act_27 (by decide) ?_
  refine v_sipush (v := nI 255) C dL_act_28 (by decide) ?_
  refine v_gVi (K := fun w => cS (xK X) g ((s, m), (sT, mT), rr, hh, sl, tx) ++ (lmW (xK X) h n (m, e, m 6 0) ++ w)) C (Cxt.l _ (Cxt.l _ Cxt.id)) 0 (c_X6_next hl (i := i + 1 + 1) (lo := 0) (hi := 255) (by omega) (by omega) (by omega) h31) ym_X6_next ml_L_217 rfl rfl rfl rfl dL_act_31 (by first | omega | exact Nat.le_of_ble_eq_true rfl) (by first | omega | exact Nat.le_of_ble_eq_true rfl) (by first | omega | exact Nat.le_of_ble_eq_true rfl) (Nat.le_of_ble_eq_true rfl) (fun _ _ hu => hu.elim) (fun r u hu => ?_)
  obtain ⟨rfl, rfl⟩ := hu
  have hbv := drw_in (κ := (xK X)) (i := i + 1 + 1) (a := 0) (b := 255) (by omega)
  generalize drw (xK X) (i + 1 + 1) (0) (255) = v at hbv ⊢
  refine v_istore C (lo2 := [some _, some _, some _, some _, some _, some _, some _, none, none, none, none]) dL_act_34 rfl (Nat.le_of_ble_eq_true rfl) rfl ?_
  refine v_aload_n C dL_act_36 rfl ?_
  refine v_gFN (K := fun w => cS (xK X) g ((s, m), (sT, mT), rr, hh, sl, tx) ++ (w ++ dS (xK X) b (i + 1 + 1 + 1))) C (Cxt.l _ (Cxt.r _ Cxt.id)) (v := .ref (h 1)) 0 fln_L_154 lm_0 rfl dL_act_37 ?_
  refine v_iload C dL_act_40 rfl ?_
  refine v_gP (K := fun w => cS (xK X) g ((s, m), (sT, mT), rr, hh, sl, tx) ++ (w ++ dS (xK X) b (i + 1 + 1 + 1))) C (Cxt.l _ (Cxt.r _ Cxt.id)) (x := (some (h (8 + a)))) 1 lm_1 (by first | decide | omega) a (if_pos (by omega)) ?_ rfl dL_act_42 ?_
  · omega
  refine v_astore C (lo2 := [some _, some _, some _, some _, some _, some _, some _, some _, none, none, none]) dL_act_43 rfl (Nat.le_of_ble_eq_true rfl) rfl ?_
  refine v_iload_n C dL_act_45 rfl ?_
  refine v_bipush (v := nI 14) C dL_act_46 (by decide) ?_
  first | refine v_icmp_leN C 60 dL_act_48 (by decide) (by omega) (by omega) (fun c48 => ?_) (fun c48 => ?_) | refine v_icmp_le C 60 dL_act_48 (by decide) (fun c48 => ?_) (fun c48 => ?_)
  · refine v_iload_n C dL_act_60 rfl ?_
    refine v_bipush (v := nI 14) C dL_act_61 (by decide) ?_
    first | refine v_icmp_neN C 130 dL_act_63 (by decide) (by omega) (by omega) (fun c63 => ?_) (fun c63 => ?_) | refine v_icmp_ne C 130 dL_act_63 (by decide) (fun c63 => ?_) (fun c63 => ?_)
    · refine v_iload_n C dL_act_130 rfl ?_
      refine v_iconst (v := nI 5) C dL_act_131 (by decide) ?_
      first | refine v_icmp_geN C 241 dL_act_132 (by decide) (by omega) (by omega) (fun c132 => ?_) (fun c132 => ?_) | refine v_icmp_ge C 241 dL_act_132 (by decide) (fun c132 => ?_) (fun c132 => ?_)
      · refine v_iload_n C dL_act_241 rfl ?_
        refine v_iconst (v := nI 5) C dL_act_242 (by decide) ?_
        first | refine v_icmp_neN C 316 dL_act_243 (by decide) (by omega) (by omega) (fun c243 => ?_) (fun c243 => ?_) | refine v_icmp_ne C 316 dL_act_243 (by decide) (fun c243 => ?_) (fun c243 => ?_)
        · refine v_iload_n C dL_act_316 rfl ?_
          refine v_bipush (v := nI 8) C dL_act_317 (by decide) ?_
          first | refine v_icmp_geN C 347 dL_act_319 (by decide) (by omega) (by omega) (fun c319 => ?_) (fun c319 => ?_) | refine v_icmp_ge C 347 dL_act_319 (by decide) (fun c319 => ?_) (fun c319 => ?_)
          · refine v_iload_n C dL_act_347 rfl ?_
            refine v_bipush (v := nI 10) C dL_act_348 (by decide) ?_
            first | refine v_icmp_geN C 404 dL_act_350 (by decide) (by omega) (by omega) (fun c350 => ?_) (fun c350 => ?_) | refine v_icmp_ge C 404 dL_act_350 (by decide) (fun c350 => ?_) (fun c350 => ?_)
            · refine v_iload_n C dL_act_404 rfl ?_
              refine v_bipush (v := nI 10) C dL_act_405 (by decide) ?_
              first | refine v_icmp_neN C 485 dL_act_407 (by decide) (by omega) (by omega) (fun c407 => ?_) (fun c407 => ?_) | refine v_icmp_ne C 485 dL_act_407 (by decide) (fun c407 => ?_) (fun c407 => ?_)
              · refine v_iload_n C dL_act_485 rfl ?_
                refine v_bipush (v := nI 11) C dL_act_486 (by decide) ?_
                first | refine v_icmp_neN C 575 dL_act_488 (by decide) (by omega) (by omega) (fun c488 => ?_) (fun c488 => ?_) | refine v_icmp_ne C 575 dL_act_488 (by decide) (fun c488 => ?_) (fun c488 => ?_)
                · refine v_iload C dL_act_575 rfl ?_
                  refine v_iconst (v := nI 5) C dL_act_577 (by decide) ?_
                  refine v_iremN C dL_act_578 (by omega) (by omega) (by omega) ?_
                  refine v_istore C (lo2 := [some _, some _, some _, some _, some _, some _, some _, some _, some _, none, none]) dL_act_579 rfl (Nat.le_of_ble_eq_true rfl) rfl ?_
                  rcases (show v % 5 = 0 ∨ v % 5 = 1 ∨ v % 5 = 2 ∨ v % 5 = 3 ∨ v % 5 = 4 by omega) with hx | hx | hx | hx | hx
                  · rw [hx]
                    have hS : LI n (setM m 0 (nI (1 + a))) := LI_setM (x := (1 + a)) hI (by decide) (fun _ => by omega) (fun _ => by omega) (fun _ => by omega) (fun _ => by omega)
                    have hPk := klM_Pd hS.im
                    have hK := hS.pd hPk
                    have h6k : (klM n (setM m 0 (nI (1 + a)))) 6 0 = m 6 0 := hPk.1.2.2.2.1
                    obtain ⟨cK, hWK⟩ := hK.wm
                    refine v_iload C dL_act_581 rfl ?_
                    refine v_if_ne C 593 dL_act_583 (by decide) (fun c => absurd c (by decide)) (fun c583 => ?_)
                    refine v_iconst (v := nI 1) C dL_act_586 (by decide) ?_
                    refine v_iload C dL_act_587 rfl ?_
                    first | refine v_iaddN C dL_act_589 ?_ | refine v_iadd C dL_act_589 ?_
                    refine v_goto C 621 dL_act_590 (by decide) ?_
                    refine v_istore C (lo2 := [some _, some _, some _, some _, some _, some _, some _, some _, some _, some _, none]) dL_act_621 rfl (Nat.le_of_ble_eq_true rfl) rfl ?_
                    refine v_aload_n C dL_act_623 rfl ?_
                    refine v_gFN (K := fun w => cS (xK X) g ((s, m), (sT, mT), rr, hh, sl, tx) ++ (w ++ dS (xK X) b (i + 1 + 1 + 1))) C (Cxt.l _ (Cxt.r _ Cxt.id)) (v := .ref (h 2)) 0 fln_L_168 lm_0 rfl dL_act_624 ?_
                    refine v_iload C dL_act_627 rfl ?_
                    refine v_gI (K := fun w => cS (xK X) g ((s, m), (sT, mT), rr, hh, sl, tx) ++ (w ++ dS (xK X) b (i + 1 + 1 + 1))) C (Cxt.l _ (Cxt.r _ Cxt.id)) (x := (m 5 0)) 2 lm_2 (by first | decide | omega) 0 (rfl) ?_ rfl dL_act_629 ?_
                    · omega
                    refine v_istore C (lo2 := [some _, some _, some _, some _, some _, some _, some _, some _, some _, some _, some _]) dL_act_630 rfl (Nat.le_of_ble_eq_true rfl) rfl ?_
                    refine v_aload_n C dL_act_632 rfl ?_
                    refine v_gFN (K := fun w => cS (xK X) g ((s, m), (sT, mT), rr, hh, sl, tx) ++ (w ++ dS (xK X) b (i + 1 + 1 + 1))) C (Cxt.l _ (Cxt.r _ Cxt.id)) (v := .ref (h 2)) 0 fln_L_168 lm_0 rfl dL_act_633 ?_
                    refine v_iload C dL_act_636 rfl ?_
                    refine v_iload C dL_act_638 rfl ?_
                    refine v_sI (K := fun w => cS (xK X) g ((s, m), (sT, mT), rr, hh, sl, tx) ++ (w ++ dS (xK X) b (i + 1 + 1 + 1))) C (Cxt.l _ (Cxt.r _ Cxt.id)) 2 lm_2 (by first | decide | omega) 0 ?_ rfl set_set dL_act_640 ?_
                    · first | decide | omega
                    refine v_aload_n C dL_act_641 rfl ?_
                    refine v_gVv (K := fun w => cS (xK X) g ((s, m), (sT, mT), rr, hh, sl, tx) ++ (w ++ dS (xK X) b (i + 1 + 1 + 1))) C (Cxt.l _ (Cxt.r _ Cxt.id)) 0 (c_X7_limit hl hS.im h14 hS.ev hS.set.1 hS.set.2.1 hS.set.2.2) ym_X7_limit ml_L_255 lm_0 rfl rfl rfl dL_act_642 (by first | omega | exact Nat.le_of_ble_eq_true rfl) (by first | omega | exact Nat.le_of_ble_eq_true rfl) (by first | omega | exact Nat.le_of_ble_eq_true rfl) (Nat.le_of_ble_eq_true rfl) (fun _ _ hu => hu.elim) (fun r u hu => ?_)
                    obtain ⟨e1, rfl⟩ := hu
                    refine v_aload_n C dL_act_645 rfl ?_
                    refine v_iload C dL_act_646 rfl ?_
                    refine v_iload C dL_act_648 rfl ?_
                    refine v_kVi (K := fun w => w ++ (lmW (xK X) h n ((klM n (setM m 0 (nI (1 + a)))), e1, m 6 0) ++ dS (xK X) b (i + 1 + 1 + 1))) C (Cxt.r _ Cxt.id) (c_X5_setSetting hl (c := cM) hW hH) ym_X5_setSetting ml_L_103 fix_cS cS_0 rfl rfl rfl dL_act_650 (by first | omega | exact Nat.le_of_ble_eq_true rfl) (by first | omega | exact Nat.le_of_ble_eq_true rfl) (by first | omega | exact Nat.le_of_ble_eq_true rfl) (Nat.le_of_ble_eq_true rfl) (fun _ _ hu => (noA (cd_e0 (k := 0) (x := (1 + a)) n1 (by decide) (fun _ => by omega) (fun _ => by omega) (fun _ => by omega) (fun _ => by omega)) hu.1).elim) (fun r u hu => ?_)
                    obtain ⟨⟨-, rfl⟩, s, ⟨sT, mT⟩, hh, rfl, hH⟩ := hu
                    rw [tN_nI (show 0 < 2 ^ 31 by decide)]
                    refine v_iload C dL_act_653 rfl ?_
                    refine v_icmp_ne C 688 dL_act_655 (by decide) (fun c655 => ?_) (fun c655 => ?_)
                    · exact absurd rfl c655
                    · refine v_aload_n C dL_act_658 rfl ?_
                      refine v_bipush (v := nI 22) C dL_act_659 (by decide) ?_
                      refine v_iload C dL_act_661 rfl ?_
                      refine v_iload C dL_act_663 rfl ?_
                      refine v_iconst (v := nI 1) C dL_act_665 (by decide) ?_
                      refine v_icmp_ne C 674 dL_act_666 (by decide) (fun c666 => ?_) (fun c => absurd c (by decide))
                      refine v_bipush (v := nI 21) C dL_act_674 (by decide) ?_
                      refine v_iconst (v := nI 0) C dL_act_676 (by decide) ?_
                      refine v_gSHi (K := fun w => w ++ (lmW (xK X) h n ((klM n (setM m 0 (nI (1 + a)))), e1, m 6 0) ++ dS (xK X) b (i + 1 + 1 + 1))) C (Cxt.r _ Cxt.id) (c_thrown hl (Nat.le_of_ble_eq_true rfl) (Nat.le_of_ble_eq_true rfl) (c_calls_22 (b := _) (c := _) hl (by decide) (c_X5_setSetting hl hWK hH)) (fun _ _ hu => by
                          obtain ⟨_, _, hz, _⟩ := hu
                          have hy := hz.1.1
                          rw [(cd_e2 (k := 0) (v := 21) n1 (by decide))] at hy
                          exact absurd hy (by decide)) (fun _ _ hp => tA_E hp.1)) ysh_L_thrown ml_L_226 rfl rfl dL_act_677 (Nat.le_of_ble_eq_true rfl) (by first | omega | exact Nat.le_of_ble_eq_true rfl) (by first | omega | exact Nat.le_of_ble_eq_true rfl) (Nat.le_of_ble_eq_true rfl) (fun _ _ hu => hu.elim) (fun r u hu => ?_)
                      obtain ⟨e9, u9, hp, rfl, rfl⟩ := hu
                      rw [show exN e9 = 3 from ex_A ((cd_e2 (k := 0) (v := 21) n1 (by decide))) hp.1]
                      obtain ⟨s, ⟨sT, mT⟩, rfl⟩ := hp.2
                      refine v_iconst (v := nI 3) C dL_act_680 (by decide) ?_
                      refine v_icmp_ne C 688 dL_act_681 (by decide) (fun c => absurd c (by decide)) (fun c681 => ?_)
                      refine v_iconst (v := nI 1) C dL_act_684 (by decide) ?_
                      refine v_goto C 689 dL_act_685 (by decide) ?_
                      refine v_iretG C F (by first | rfl | exact bI_nar _) dL_act_689 (by first | omega | exact Nat.le_of_ble_eq_true rfl) (by first | omega | exact Nat.le_of_ble_eq_true rfl) rfl (List.Perm.refl _) ?_
                      exact ⟨rfl, (klM n (setM m 0 (nI (1 + a)))), e1, ((s, (klM n (setM m 0 (nI (1 + a))))), (sT, mT), rr, hh, sl, tx), i + 1 + 1 + 1, ⟨s, (sT, mT), rr, hh, sl, tx, _, rfl, hH⟩, hK, Or.inl h6k, by omega, by rw [h6k]⟩
                  · rw [hx]
                    have hS : LI n (setM m 1 (nI a)) := LI_setM (x := a) hI (by decide) (fun _ => by omega) (fun _ => by omega) (fun _ => by omega) (fun _ => by omega)
                    have hPk := klM_Pd hS.im
                    have hK := hS.pd hPk
                    have h6k : (klM n (setM m 1 (nI a))) 6 0 = m 6 0 := hPk.1.2.2.2.1
                    obtain ⟨cK, hWK⟩ := hK.wm
                    refine v_iload C dL_act_581 rfl ?_
                    refine v_if_ne C 593 dL_act_583 (by decide) (fun c583 => ?_) (fun c => absurd c (by decide))
                    refine v_iload C dL_act_593 rfl ?_
                    refine v_iconst (v := nI 1) C dL_act_595 (by decide) ?_
                    refine v_icmp_ne C 604 dL_act_596 (by decide) (fun c => absurd c (by decide)) (fun c596 => ?_)
                    refine v_iload C dL_act_599 rfl ?_
                    refine v_goto C 621 dL_act_601 (by decide) ?_
                    refine v_istore C (lo2 := [some _, some _, some _, some _, some _, some _, some _, some _, some _, some _, none]) dL_act_621 rfl (Nat.le_of_ble_eq_true rfl) rfl ?_
                    refine v_aload_n C dL_act_623 rfl ?_
                    refine v_gFN (K := fun w => cS (xK X) g ((s, m), (sT, mT), rr, hh, sl, tx) ++ (w ++ dS (xK X) b (i + 1 + 1 + 1))) C (Cxt.l _ (Cxt.r _ Cxt.id)) (v := .ref (h 2)) 0 fln_L_168 lm_0 rfl dL_act_624 ?_
                    refine v_iload C dL_act_627 rfl ?_
                    refine v_gI (K := fun w => cS (xK X) g ((s, m), (sT, mT), rr, hh, sl, tx) ++ (w ++ dS (xK X) b (i + 1 + 1 + 1))) C (Cxt.l _ (Cxt.r _ Cxt.id)) (x := (m 5 1)) 2 lm_2 (by first | decide | omega) 1 (rfl) ?_ rfl dL_act_629 ?_
                    · omega
                    refine v_istore C (lo2 := [some _, some _, some _, some _, some _, some _, some _, some _, some _, some _, some _]) dL_act_630 rfl (Nat.le_of_ble_eq_true rfl) rfl ?_
                    refine v_aload_n C dL_act_632 rfl ?_
                    refine v_gFN (K := fun w => cS (xK X) g ((s, m), (sT, mT), rr, hh, sl, tx) ++ (w ++ dS (xK X) b (i + 1 + 1 + 1))) C (Cxt.l _ (Cxt.r _ Cxt.id)) (v := .ref (h 2)) 0 fln_L_168 lm_0 rfl dL_act_633 ?_
                    refine v_iload C dL_act_636 rfl ?_
                    refine v_iload C dL_act_638 rfl ?_
                    refine v_sI (K := fun w => cS (xK X) g ((s, m), (sT, mT), rr, hh, sl, tx) ++ (w ++ dS (xK X) b (i + 1 + 1 + 1))) C (Cxt.l _ (Cxt.r _ Cxt.id)) 2 lm_2 (by first | decide | omega) 1 ?_ rfl set_set dL_act_640 ?_
                    · first | decide | omega
                    refine v_aload_n C dL_act_641 rfl ?_
                    refine v_gVv (K := fun w => cS (xK X) g ((s, m), (sT, mT), rr, hh, sl, tx) ++ (w ++ dS (xK X) b (i + 1 + 1 + 1))) C (Cxt.l _ (Cxt.r _ Cxt.id)) 0 (c_X7_limit hl hS.im h14 hS.ev hS.set.1 hS.set.2.1 hS.set.2.2) ym_X7_limit ml_L_255 lm_0 rfl rfl rfl dL_act_642 (by first | omega | exact Nat.le_of_ble_eq_true rfl) (by first | omega | exact Nat.le_of_ble_eq_true rfl) (by first | omega | exact Nat.le_of_ble_eq_true rfl) (Nat.le_of_ble_eq_true rfl) (fun _ _ hu => hu.elim) (fun r u hu => ?_)
                    obtain ⟨e1, rfl⟩ := hu
                    refine v_aload_n C dL_act_645 rfl ?_
                    refine v_iload C dL_act_646 rfl ?_
                    refine v_iload C dL_act_648 rfl ?_
                    refine v_kVi (K := fun w => w ++ (lmW (xK X) h n ((klM n (setM m 1 (nI a))), e1, m 6 0) ++ dS (xK X) b (i + 1 + 1 + 1))) C (Cxt.r _ Cxt.id) (c_X5_setSetting hl (c := cM) hW hH) ym_X5_setSetting ml_L_103 fix_cS cS_0 rfl rfl rfl dL_act_650 (by first | omega | exact Nat.le_of_ble_eq_true rfl) (by first | omega | exact Nat.le_of_ble_eq_true rfl) (by first | omega | exact Nat.le_of_ble_eq_true rfl) (Nat.le_of_ble_eq_true rfl) (fun _ _ hu => (noA (cd_e0 (k := 1) (x := a) n1 (by decide) (fun _ => by omega) (fun _ => by omega) (fun _ => by omega) (fun _ => by omega)) hu.1).elim) (fun r u hu => ?_)
                    obtain ⟨⟨-, rfl⟩, s, ⟨sT, mT⟩, hh, rfl, hH⟩ := hu
                    rw [tN_nI (show 1 < 2 ^ 31 by decide)]
                    refine v_iload C dL_act_653 rfl ?_
                    refine v_icmp_ne C 688 dL_act_655 (by decide) (fun c655 => ?_) (fun c655 => ?_)
                    · exact absurd rfl c655
                    · refine v_aload_n C dL_act_658 rfl ?_
                      refine v_bipush (v := nI 22) C dL_act_659 (by decide) ?_
                      refine v_iload C dL_act_661 rfl ?_
                      refine v_iload C dL_act_663 rfl ?_
                      refine v_iconst (v := nI 1) C dL_act_665 (by decide) ?_
                      refine v_icmp_ne C 674 dL_act_666 (by decide) (fun c => absurd c (by decide)) (fun c666 => ?_)
                      refine v_bipush (v := nI 97) C dL_act_669 (by decide) ?_
                      refine v_goto C 676 dL_act_671 (by decide) ?_
                      refine v_iconst (v := nI 0) C dL_act_676 (by decide) ?_
                      refine v_gSHi (K := fun w => w ++ (lmW (xK X) h n ((klM n (setM m 1 (nI a))), e1, m 6 0) ++ dS (xK X) b (i + 1 + 1 + 1))) C (Cxt.r _ Cxt.id) (c_thrown hl (Nat.le_of_ble_eq_true rfl) (Nat.le_of_ble_eq_true rfl) (c_calls_22 (b := _) (c := _) hl (by decide) (c_X5_setSetting hl hWK hH)) (fun _ _ hu => by
                          obtain ⟨_, _, hz, _⟩ := hu
                          have hy := hz.1.1
                          rw [(cd_e2 (k := 1) (v := 97) n1 (by decide))] at hy
                          exact absurd hy (by decide)) (fun _ _ hp => tA_E hp.1)) ysh_L_thrown ml_L_226 rfl rfl dL_act_677 (Nat.le_of_ble_eq_true rfl) (by first | omega | exact Nat.le_of_ble_eq_true rfl) (by first | omega | exact Nat.le_of_ble_eq_true rfl) (Nat.le_of_ble_eq_true rfl) (fun _ _ hu => hu.elim) (fun r u hu => ?_)
                      obtain ⟨e9, u9, hp, rfl, rfl⟩ := hu
                      rw [show exN e9 = 3 from ex_A ((cd_e2 (k := 1) (v := 97) n1 (by decide))) hp.1]
                      obtain ⟨s, ⟨sT, mT⟩, rfl⟩ := hp.2
                      refine v_iconst (v := nI 3) C dL_act_680 (by decide) ?_
                      refine v_icmp_ne C 688 dL_act_681 (by decide) (fun c => absurd c (by decide)) (fun c681 => ?_)
                      refine v_iconst (v := nI 1) C dL_act_684 (by decide) ?_
                      refine v_goto C 689 dL_act_685 (by decide) ?_
                      refine v_iretG C F (by first | rfl | exact bI_nar _) dL_act_689 (by first | omega | exact Nat.le_of_ble_eq_true rfl) (by first | omega | exact Nat.le_of_ble_eq_true rfl) rfl (List.Perm.refl _) ?_
                      exact ⟨rfl, (klM n (setM m 1 (nI a))), e1, ((s, (klM n (setM m 1 (nI a)))), (sT, mT), rr, hh, sl, tx), i + 1 + 1 + 1, ⟨s, (sT, mT), rr, hh, sl, tx, _, rfl, hH⟩, hK, Or.inl h6k, by omega, by rw [h6k]⟩
                  · rw [hx]
                    have hS : LI n (setM m 2 (nI (a % 4))) := LI_setM (x := (a % 4)) hI (by decide) (fun _ => by omega) (fun _ => by omega) (fun _ => by omega) (fun _ => by omega)
                    have hPk := klM_Pd hS.im
                    have hK := hS.pd hPk
                    have h6k : (klM n (setM m 2 (nI (a % 4)))) 6 0 = m 6 0 := hPk.1.2.2.2.1
                    obtain ⟨cK, hWK⟩ := hK.wm
                    refine v_iload C dL_act_581 rfl ?_
                    refine v_if_ne C 593 dL_act_583 (by decide) (fun c583 => ?_) (fun c => absurd c (by decide))
                    refine v_iload C dL_act_593 rfl ?_
                    refine v_iconst (v := nI 1) C dL_act_595 (by decide) ?_
                    refine v_icmp_ne C 604 dL_act_596 (by decide) (fun c596 => ?_) (fun c => absurd c (by decide))
                    refine v_iload C dL_act_604 rfl ?_
                    refine v_iconst (v := nI 2) C dL_act_606 (by decide) ?_
                    refine v_icmp_ne C 617 dL_act_607 (by decide) (fun c => absurd c (by decide)) (fun c607 => ?_)
                    refine v_iload C dL_act_610 rfl ?_
                    refine v_iconst (v := nI 4) C dL_act_612 (by decide) ?_
                    refine v_iremN C dL_act_613 (by omega) (by omega) (by omega) ?_
                    refine v_goto C 621 dL_act_614 (by decide) ?_
                    refine v_istore C (lo2 := [some _, some _, some _, some _, some _, some _, some _, some _, some _, some _, none]) dL_act_621 rfl (Nat.le_of_ble_eq_true rfl) rfl ?_
                    refine v_aload_n C dL_act_623 rfl ?_
                    refine v_gFN (K := fun w => cS (xK X) g ((s, m), (sT, mT), rr, hh, sl, tx) ++ (w ++ dS (xK X) b (i + 1 + 1 + 1))) C (Cxt.l _ (Cxt.r _ Cxt.id)) (v := .ref (h 2)) 0 fln_L_168 lm_0 rfl dL_act_624 ?_
                    refine v_iload C dL_act_627 rfl ?_
                    refine v_gI (K := fun w => cS (xK X) g ((s, m), (sT, mT), rr, hh, sl, tx) ++ (w ++ dS (xK X) b (i + 1 + 1 + 1))) C (Cxt.l _ (Cxt.r _ Cxt.id)) (x := (m 5 2)) 2 lm_2 (by first | decide | omega) 2 (rfl) ?_ rfl dL_act_629 ?_
                    · omega
                    refine v_istore C (lo2 := [some _, some _, some _, some _, some _, some _, some _, some _, some _, some _, some _]) dL_act_630 rfl (Nat.le_of_ble_eq_true rfl) rfl ?_
                    refine v_aload_n C dL_act_632 rfl ?_
                    refine v_gFN (K := fun w => cS (xK X) g ((s, m), (sT, mT), rr, hh, sl, tx) ++ (w ++ dS (xK X) b (i + 1 + 1 + 1))) C (Cxt.l _ (Cxt.r _ Cxt.id)) (v := .ref (h 2)) 0 fln_L_168 lm_0 rfl dL_act_633 ?_
                    refine v_iload C dL_act_636 rfl ?_
                    refine v_iload C dL_act_638 rfl ?_
                    refine v_sI (K := fun w => cS (xK X) g ((s, m), (sT, mT), rr, hh, sl, tx) ++ (w ++ dS (xK X) b (i + 1 + 1 + 1))) C (Cxt.l _ (Cxt.r _ Cxt.id)) 2 lm_2 (by first | decide | omega) 2 ?_ rfl set_set dL_act_640 ?_
                    · first | decide | omega
                    refine v_aload_n C dL_act_641 rfl ?_
                    refine v_gVv (K := fun w => cS (xK X) g ((s, m), (sT, mT), rr, hh, sl, tx) ++ (w ++ dS (xK X) b (i + 1 + 1 + 1))) C (Cxt.l _ (Cxt.r _ Cxt.id)) 0 (c_X7_limit hl hS.im h14 hS.ev hS.set.1 hS.set.2.1 hS.set.2.2) ym_X7_limit ml_L_255 lm_0 rfl rfl rfl dL_act_642 (by first | omega | exact Nat.le_of_ble_eq_true rfl) (by first | omega | exact Nat.le_of_ble_eq_true rfl) (by first | omega | exact Nat.le_of_ble_eq_true rfl) (Nat.le_of_ble_eq_true rfl) (fun _ _ hu => hu.elim) (fun r u hu => ?_)
                    obtain ⟨e1, rfl⟩ := hu
                    refine v_aload_n C dL_act_645 rfl ?_
                    refine v_iload C dL_act_646 rfl ?_
                    refine v_iload C dL_act_648 rfl ?_
                    refine v_kVi (K := fun w => w ++ (lmW (xK X) h n ((klM n (setM m 2 (nI (a % 4)))), e1, m 6 0) ++ dS (xK X) b (i + 1 + 1 + 1))) C (Cxt.r _ Cxt.id) (c_X5_setSetting hl (c := cM) hW hH) ym_X5_setSetting ml_L_103 fix_cS cS_0 rfl rfl rfl dL_act_650 (by first | omega | exact Nat.le_of_ble_eq_true rfl) (by first | omega | exact Nat.le_of_ble_eq_true rfl) (by first | omega | exact Nat.le_of_ble_eq_true rfl) (Nat.le_of_ble_eq_true rfl) (fun _ _ hu => (noA (cd_e0 (k := 2) (x := (a % 4)) n1 (by decide) (fun _ => by omega) (fun _ => by omega) (fun _ => by omega) (fun _ => by omega)) hu.1).elim) (fun r u hu => ?_)
                    obtain ⟨⟨-, rfl⟩, s, ⟨sT, mT⟩, hh, rfl, hH⟩ := hu
                    rw [tN_nI (show 2 < 2 ^ 31 by decide)]
                    refine v_iload C dL_act_653 rfl ?_
                    refine v_icmp_ne C 688 dL_act_655 (by decide) (fun c655 => ?_) (fun c655 => ?_)
                    · exact absurd rfl c655
                    · refine v_aload_n C dL_act_658 rfl ?_
                      refine v_bipush (v := nI 22) C dL_act_659 (by decide) ?_
                      refine v_iload C dL_act_661 rfl ?_
                      refine v_iload C dL_act_663 rfl ?_
                      refine v_iconst (v := nI 1) C dL_act_665 (by decide) ?_
                      refine v_icmp_ne C 674 dL_act_666 (by decide) (fun c666 => ?_) (fun c => absurd c (by decide))
                      refine v_bipush (v := nI 21) C dL_act_674 (by decide) ?_
                      refine v_iconst (v := nI 0) C dL_act_676 (by decide) ?_
                      refine v_gSHi (K := fun w => w ++ (lmW (xK X) h n ((klM n (setM m 2 (nI (a % 4)))), e1, m 6 0) ++ dS (xK X) b (i + 1 + 1 + 1))) C (Cxt.r _ Cxt.id) (c_thrown hl (Nat.le_of_ble_eq_true rfl) (Nat.le_of_ble_eq_true rfl) (c_calls_22 (b := _) (c := _) hl (by decide) (c_X5_setSetting hl hWK hH)) (fun _ _ hu => by
                          obtain ⟨_, _, hz, _⟩ := hu
                          have hy := hz.1.1
                          rw [(cd_e2 (k := 2) (v := 21) n1 (by decide))] at hy
                          exact absurd hy (by decide)) (fun _ _ hp => tA_E hp.1)) ysh_L_thrown ml_L_226 rfl rfl dL_act_677 (Nat.le_of_ble_eq_true rfl) (by first | omega | exact Nat.le_of_ble_eq_true rfl) (by first | omega | exact Nat.le_of_ble_eq_true rfl) (Nat.le_of_ble_eq_true rfl) (fun _ _ hu => hu.elim) (fun r u hu => ?_)
                      obtain ⟨e9, u9, hp, rfl, rfl⟩ := hu
                      rw [show exN e9 = 3 from ex_A ((cd_e2 (k := 2) (v := 21) n1 (by decide))) hp.1]
                      obtain ⟨s, ⟨sT, mT⟩, rfl⟩ := hp.2
                      refine v_iconst (v := nI 3) C dL_act_680 (by decide) ?_
                      refine v_icmp_ne C 688 dL_act_681 (by decide) (fun c => absurd c (by decide)) (fun c681 => ?_)
                      refine v_iconst (v := nI 1) C dL_act_684 (by decide) ?_
                      refine v_goto C 689 dL_act_685 (by decide) ?_
                      refine v_iretG C F (by first | rfl | exact bI_nar _) dL_act_689 (by first | omega | exact Nat.le_of_ble_eq_true rfl) (by first | omega | exact Nat.le_of_ble_eq_true rfl) rfl (List.Perm.refl _) ?_
                      exact ⟨rfl, (klM n (setM m 2 (nI (a % 4)))), e1, ((s, (klM n (setM m 2 (nI (a % 4))))), (sT, mT), rr, hh, sl, tx), i + 1 + 1 + 1, ⟨s, (sT, mT), rr, hh, sl, tx, _, rfl, hH⟩, hK, Or.inl h6k, by omega, by rw [h6k]⟩
                  · rw [hx]
                    have hS : LI n (setM m 3 (nI (a % 2))) := LI_setM (x := (a % 2)) hI (by decide) (fun _ => by omega) (fun _ => by omega) (fun _ => by omega) (fun _ => by omega)
                    have hPk := klM_Pd hS.im
                    have hK := hS.pd hPk
                    have h6k : (klM n (setM m 3 (nI (a % 2)))) 6 0 = m 6 0 := hPk.1.2.2.2.1
                    obtain ⟨cK, hWK⟩ := hK.wm
                    refine v_iload C dL_act_581 rfl ?_
                    refine v_if_ne C 593 dL_act_583 (by decide) (fun c583 => ?_) (fun c => absurd c (by decide))
                    refine v_iload C dL_act_593 rfl ?_
                    refine v_iconst (v := nI 1) C dL_act_595 (by decide) ?_
                    refine v_icmp_ne C 604 dL_act_596 (by decide) (fun c596 => ?_) (fun c => absurd c (by decide))
                    refine v_iload C dL_act_604 rfl ?_
                    refine v_iconst (v := nI 2) C dL_act_606 (by decide) ?_
                    refine v_icmp_ne C 617 dL_act_607 (by decide) (fun c607 => ?_) (fun c => absurd c (by decide))
                    refine v_iload C dL_act_617 rfl ?_
                    refine v_iconst (v := nI 2) C dL_act_619 (by decide) ?_
                    refine v_iremN C dL_act_620 (by omega) (by omega) (by omega) ?_
                    refine v_istore C (lo2 := [some _, some _, some _, some _, some _, some _, some _, some _, some _, some _, none]) dL_act_621 rfl (Nat.le_of_ble_eq_true rfl) rfl ?_
                    refine v_aload_n C dL_act_623 rfl ?_
                    refine v_gFN (K := fun w => cS (xK X) g ((s, m), (sT, mT), rr, hh, sl, tx) ++ (w ++ dS (xK X) b (i + 1 + 1 + 1))) C (Cxt.l _ (Cxt.r _ Cxt.id)) (v := .ref (h 2)) 0 fln_L_168 lm_0 rfl dL_act_624 ?_
                    refine v_iload C dL_act_627 rfl ?_
                    refine v_gI (K := fun w => cS (xK X) g ((s, m), (sT, mT), rr, hh, sl, tx) ++ (w ++ dS (xK X) b (i + 1 + 1 + 1))) C (Cxt.l _ (Cxt.r _ Cxt.id)) (x := (m 5 3)) 2 lm_2 (by first | decide | omega) 3 (rfl) ?_ rfl dL_act_629 ?_
                    · omega
                    refine v_istore C (lo2 := [some _, some _, some _, some _, some _, some _, some _, some _, some _, some _, some _]) dL_act_630 rfl (Nat.le_of_ble_eq_true rfl) rfl ?_
                    refine v_aload_n C dL_act_632 rfl ?_
                    refine v_gFN (K := fun w => cS (xK X) g ((s, m), (sT, mT), rr, hh, sl, tx) ++ (w ++ dS (xK X) b (i + 1 + 1 + 1))) C (Cxt.l _ (Cxt.r _ Cxt.id)) (v := .ref (h 2)) 0 fln_L_168 lm_0 rfl dL_act_633 ?_
                    refine v_iload C dL_act_636 rfl ?_
                    refine v_iload C dL_act_638 rfl ?_
                    refine v_sI (K := fun w => cS (xK X) g ((s, m), (sT, mT), rr, hh, sl, tx) ++ (w ++ dS (xK X) b (i + 1 + 1 + 1))) C (Cxt.l _ (Cxt.r _ Cxt.id)) 2 lm_2 (by first | decide | omega) 3 ?_ rfl set_set dL_act_640 ?_
                    · first | decide | omega
                    refine v_aload_n C dL_act_641 rfl ?_
                    refine v_gVv (K := fun w => cS (xK X) g ((s, m), (sT, mT), rr, hh, sl, tx) ++ (w ++ dS (xK X) b (i + 1 + 1 + 1))) C (Cxt.l _ (Cxt.r _ Cxt.id)) 0 (c_X7_limit hl hS.im h14 hS.ev hS.set.1 hS.set.2.1 hS.set.2.2) ym_X7_limit ml_L_255 lm_0 rfl rfl rfl dL_act_642 (by first | omega | exact Nat.le_of_ble_eq_true rfl) (by first | omega | exact Nat.le_of_ble_eq_true rfl) (by first | omega | exact Nat.le_of_ble_eq_true rfl) (Nat.le_of_ble_eq_true rfl) (fun _ _ hu => hu.elim) (fun r u hu => ?_)
                    obtain ⟨e1, rfl⟩ := hu
                    refine v_aload_n C dL_act_645 rfl ?_
                    refine v_iload C dL_act_646 rfl ?_
                    refine v_iload C dL_act_648 rfl ?_
                    refine v_kVi (K := fun w => w ++ (lmW (xK X) h n ((klM n (setM m 3 (nI (a % 2)))), e1, m 6 0) ++ dS (xK X) b (i + 1 + 1 + 1))) C (Cxt.r _ Cxt.id) (c_X5_setSetting hl (c := cM) hW hH) ym_X5_setSetting ml_L_103 fix_cS cS_0 rfl rfl rfl dL_act_650 (by first | omega | exact Nat.le_of_ble_eq_true rfl) (by first | omega | exact Nat.le_of_ble_eq_true rfl) (by first | omega | exact Nat.le_of_ble_eq_true rfl) (Nat.le_of_ble_eq_true rfl) (fun _ _ hu => (noA (cd_e0 (k := 3) (x := (a % 2)) n1 (by decide) (fun _ => by omega) (fun _ => by omega) (fun _ => by omega) (fun _ => by omega)) hu.1).elim) (fun r u hu => ?_)
                    obtain ⟨⟨-, rfl⟩, s, ⟨sT, mT⟩, hh, rfl, hH⟩ := hu
                    rw [tN_nI (show 3 < 2 ^ 31 by decide)]
                    refine v_iload C dL_act_653 rfl ?_
                    refine v_icmp_ne C 688 dL_act_655 (by decide) (fun c655 => ?_) (fun c655 => ?_)
                    · exact absurd rfl c655
                    · refine v_aload_n C dL_act_658 rfl ?_
                      refine v_bipush (v := nI 22) C dL_act_659 (by decide) ?_
                      refine v_iload C dL_act_661 rfl ?_
                      refine v_iload C dL_act_663 rfl ?_
                      refine v_iconst (v := nI 1) C dL_act_665 (by decide) ?_
                      refine v_icmp_ne C 674 dL_act_666 (by decide) (fun c666 => ?_) (fun c => absurd c (by decide))
                      refine v_bipush (v := nI 21) C dL_act_674 (by decide) ?_
                      refine v_iconst (v := nI 0) C dL_act_676 (by decide) ?_
                      refine v_gSHi (K := fun w => w ++ (lmW (xK X) h n ((klM n (setM m 3 (nI (a % 2)))), e1, m 6 0) ++ dS (xK X) b (i + 1 + 1 + 1))) C (Cxt.r _ Cxt.id) (c_thrown hl (Nat.le_of_ble_eq_true rfl) (Nat.le_of_ble_eq_true rfl) (c_calls_22 (b := _) (c := _) hl (by decide) (c_X5_setSetting hl hWK hH)) (fun _ _ hu => by
                          obtain ⟨_, _, hz, _⟩ := hu
                          have hy := hz.1.1
                          rw [(cd_e2 (k := 3) (v := 21) n1 (by decide))] at hy
                          exact absurd hy (by decide)) (fun _ _ hp => tA_E hp.1)) ysh_L_thrown ml_L_226 rfl rfl dL_act_677 (Nat.le_of_ble_eq_true rfl) (by first | omega | exact Nat.le_of_ble_eq_true rfl) (by first | omega | exact Nat.le_of_ble_eq_true rfl) (Nat.le_of_ble_eq_true rfl) (fun _ _ hu => hu.elim) (fun r u hu => ?_)
                      obtain ⟨e9, u9, hp, rfl, rfl⟩ := hu
                      rw [show exN e9 = 3 from ex_A ((cd_e2 (k := 3) (v := 21) n1 (by decide))) hp.1]
                      obtain ⟨s, ⟨sT, mT⟩, rfl⟩ := hp.2
                      refine v_iconst (v := nI 3) C dL_act_680 (by decide) ?_
                      refine v_icmp_ne C 688 dL_act_681 (by decide) (fun c => absurd c (by decide)) (fun c681 => ?_)
                      refine v_iconst (v := nI 1) C dL_act_684 (by decide) ?_
                      refine v_goto C 689 dL_act_685 (by decide) ?_
                      refine v_iretG C F (by first | rfl | exact bI_nar _) dL_act_689 (by first | omega | exact Nat.le_of_ble_eq_true rfl) (by first | omega | exact Nat.le_of_ble_eq_true rfl) rfl (List.Perm.refl _) ?_
                      exact ⟨rfl, (klM n (setM m 3 (nI (a % 2)))), e1, ((s, (klM n (setM m 3 (nI (a % 2))))), (sT, mT), rr, hh, sl, tx), i + 1 + 1 + 1, ⟨s, (sT, mT), rr, hh, sl, tx, _, rfl, hH⟩, hK, Or.inl h6k, by omega, by rw [h6k]⟩
                  · rw [hx]
                    have hS : LI n (setM m 4 (nI (a % 2))) := LI_setM (x := (a % 2)) hI (by decide) (fun _ => by omega) (fun _ => by omega) (fun _ => by omega) (fun _ => by omega)
                    have hPk := klM_Pd hS.im
                    have hK := hS.pd hPk
                    have h6k : (klM n (setM m 4 (nI (a % 2)))) 6 0 = m 6 0 := hPk.1.2.2.2.1
                    obtain ⟨cK, hWK⟩ := hK.wm
                    refine v_iload C dL_act_581 rfl ?_
                    refine v_if_ne C 593 dL_act_583 (by decide) (fun c583 => ?_) (fun c => absurd c (by decide))
                    refine v_iload C dL_act_593 rfl ?_
                    refine v_iconst (v := nI 1) C dL_act_595 (by decide) ?_
                    refine v_icmp_ne C 604 dL_act_596 (by decide) (fun c596 => ?_) (fun c => absurd c (by decide))
                    refine v_iload C dL_act_604 rfl ?_
                    refine v_iconst (v := nI 2) C dL_act_606 (by decide) ?_
                    refine v_icmp_ne C 617 dL_act_607 (by decide) (fun c607 => ?_) (fun c => absurd c (by decide))
                    refine v_iload C dL_act_617 rfl ?_
                    refine v_iconst (v := nI 2) C dL_act_619 (by decide) ?_
                    refine v_iremN C dL_act_620 (by omega) (by omega) (by omega) ?_
                    refine v_istore C (lo2 := [some _, some _, some _, some _, some _, some _, some _, some _, some _, some _, none]) dL_act_621 rfl (Nat.le_of_ble_eq_true rfl) rfl ?_
                    refine v_aload_n C dL_act_623 rfl ?_
                    refine v_gFN (K := fun w => cS (xK X) g ((s, m), (sT, mT), rr, hh, sl, tx) ++ (w ++ dS (xK X) b (i + 1 + 1 + 1))) C (Cxt.l _ (Cxt.r _ Cxt.id)) (v := .ref (h 2)) 0 fln_L_168 lm_0 rfl dL_act_624 ?_
                    refine v_iload C dL_act_627 rfl ?_
                    refine v_gI (K := fun w => cS (xK X) g ((s, m), (sT, mT), rr, hh, sl, tx) ++ (w ++ dS (xK X) b (i + 1 + 1 + 1))) C (Cxt.l _ (Cxt.r _ Cxt.id)) (x := (m 5 4)) 2 lm_2 (by first | decide | omega) 4 (rfl) ?_ rfl dL_act_629 ?_
                    · omega
                    refine v_istore C (lo2 := [some _, some _, some _, some _, some _, some _, some _, some _, some _, some _, some _]) dL_act_630 rfl (Nat.le_of_ble_eq_true rfl) rfl ?_
                    refine v_aload_n C dL_act_632 rfl ?_
                    refine v_gFN (K := fun w => cS (xK X) g ((s, m), (sT, mT), rr, hh, sl, tx) ++ (w ++ dS (xK X) b (i + 1 + 1 + 1))) C (Cxt.l _ (Cxt.r _ Cxt.id)) (v := .ref (h 2)) 0 fln_L_168 lm_0 rfl dL_act_633 ?_
                    refine v_iload C dL_act_636 rfl ?_
                    refine v_iload C dL_act_638 rfl ?_
                    refine v_sI (K := fun w => cS (xK X) g ((s, m), (sT, mT), rr, hh, sl, tx) ++ (w ++ dS (xK X) b (i + 1 + 1 + 1))) C (Cxt.l _ (Cxt.r _ Cxt.id)) 2 lm_2 (by first | decide | omega) 4 ?_ rfl set_set dL_act_640 ?_
                    · first | decide | omega
                    refine v_aload_n C dL_act_641 rfl ?_
                    refine v_gVv (K := fun w => cS (xK X) g ((s, m), (sT, mT), rr, hh, sl, tx) ++ (w ++ dS (xK X) b (i + 1 + 1 + 1))) C (Cxt.l _ (Cxt.r _ Cxt.id)) 0 (c_X7_limit hl hS.im h14 hS.ev hS.set.1 hS.set.2.1 hS.set.2.2) ym_X7_limit ml_L_255 lm_0 rfl rfl rfl dL_act_642 (by first | omega | exact Nat.le_of_ble_eq_true rfl) (by first | omega | exact Nat.le_of_ble_eq_true rfl) (by first | omega | exact Nat.le_of_ble_eq_true rfl) (Nat.le_of_ble_eq_true rfl) (fun _ _ hu => hu.elim) (fun r u hu => ?_)
                    obtain ⟨e1, rfl⟩ := hu
                    refine v_aload_n C dL_act_645 rfl ?_
                    refine v_iload C dL_act_646 rfl ?_
                    refine v_iload C dL_act_648 rfl ?_
                    refine v_kVi (K := fun w => w ++ (lmW (xK X) h n ((klM n (setM m 4 (nI (a % 2)))), e1, m 6 0) ++ dS (xK X) b (i + 1 + 1 + 1))) C (Cxt.r _ Cxt.id) (c_X5_setSetting hl (c := cM) hW hH) ym_X5_setSetting ml_L_103 fix_cS cS_0 rfl rfl rfl dL_act_650 (by first | omega | exact Nat.le_of_ble_eq_true rfl) (by first | omega | exact Nat.le_of_ble_eq_true rfl) (by first | omega | exact Nat.le_of_ble_eq_true rfl) (Nat.le_of_ble_eq_true rfl) (fun _ _ hu => (noA (cd_e0 (k := 4) (x := (a % 2)) n1 (by decide) (fun _ => by omega) (fun _ => by omega) (fun _ => by omega) (fun _ => by omega)) hu.1).elim) (fun r u hu => ?_)
                    obtain ⟨⟨-, rfl⟩, s, ⟨sT, mT⟩, hh, rfl, hH⟩ := hu
                    rw [tN_nI (show 4 < 2 ^ 31 by decide)]
                    refine v_iload C dL_act_653 rfl ?_
                    refine v_icmp_ne C 688 dL_act_655 (by decide) (fun c655 => ?_) (fun c655 => ?_)
                    · exact absurd rfl c655
                    · refine v_aload_n C dL_act_658 rfl ?_
                      refine v_bipush (v := nI 22) C dL_act_659 (by decide) ?_
                      refine v_iload C dL_act_661 rfl ?_
                      refine v_iload C dL_act_663 rfl ?_
                      refine v_iconst (v := nI 1) C dL_act_665 (by decide) ?_
                      refine v_icmp_ne C 674 dL_act_666 (by decide) (fun c666 => ?_) (fun c => absurd c (by decide))
                      refine v_bipush (v := nI 21) C dL_act_674 (by decide) ?_
                      refine v_iconst (v := nI 0) C dL_act_676 (by decide) ?_
                      refine v_gSHi (K := fun w => w ++ (lmW (xK X) h n ((klM n (setM m 4 (nI (a % 2)))), e1, m 6 0) ++ dS (xK X) b (i + 1 + 1 + 1))) C (Cxt.r _ Cxt.id) (c_thrown hl (Nat.le_of_ble_eq_true rfl) (Nat.le_of_ble_eq_true rfl) (c_calls_22 (b := _) (c := _) hl (by decide) (c_X5_setSetting hl hWK hH)) (fun _ _ hu => by
                          obtain ⟨_, _, hz, _⟩ := hu
                          have hy := hz.1.1
                          rw [(cd_e2 (k := 4) (v := 21) n1 (by decide))] at hy
                          exact absurd hy (by decide)) (fun _ _ hp => tA_E hp.1)) ysh_L_thrown ml_L_226 rfl rfl dL_act_677 (Nat.le_of_ble_eq_true rfl) (by first | omega | exact Nat.le_of_ble_eq_true rfl) (by first | omega | exact Nat.le_of_ble_eq_true rfl) (Nat.le_of_ble_eq_true rfl) (fun _ _ hu => hu.elim) (fun r u hu => ?_)
                      obtain ⟨e9, u9, hp, rfl, rfl⟩ := hu
                      rw [show exN e9 = 3 from ex_A ((cd_e2 (k := 4) (v := 21) n1 (by decide))) hp.1]
                      obtain ⟨s, ⟨sT, mT⟩, rfl⟩ := hp.2
                      refine v_iconst (v := nI 3) C dL_act_680 (by decide) ?_
                      refine v_icmp_ne C 688 dL_act_681 (by decide) (fun c => absurd c (by decide)) (fun c681 => ?_)
                      refine v_iconst (v := nI 1) C dL_act_684 (by decide) ?_
                      refine v_goto C 689 dL_act_685 (by decide) ?_
                      refine v_iretG C F (by first | rfl | exact bI_nar _) dL_act_689 (by first | omega | exact Nat.le_of_ble_eq_true rfl) (by first | omega | exact Nat.le_of_ble_eq_true rfl) rfl (List.Perm.refl _) ?_
                      exact ⟨rfl, (klM n (setM m 4 (nI (a % 2)))), e1, ((s, (klM n (setM m 4 (nI (a % 2))))), (sT, mT), rr, hh, sl, tx), i + 1 + 1 + 1, ⟨s, (sT, mT), rr, hh, sl, tx, _, rfl, hH⟩, hK, Or.inl h6k, by omega, by rw [h6k]⟩
                · refine v_iload C dL_act_491 rfl ?_
                  refine v_iconst (v := nI 2) C dL_act_493 (by decide) ?_
                  refine v_iremN C dL_act_494 (by omega) (by omega) (by omega) ?_
                  refine v_iconst (v := nI 1) C dL_act_495 (by decide) ?_
                  first | refine v_icmp_neN C 511 dL_act_496 (by decide) (by omega) (by omega) (fun c496 => ?_) (fun c496 => ?_) | refine v_icmp_ne C 511 dL_act_496 (by decide) (fun c496 => ?_) (fun c496 => ?_)
                  · refine v_iconst (v := nI 0) C dL_act_511 (by decide) ?_
                    refine v_istore C (lo2 := [some _, some _, some _, some _, some _, some _, some _, some _, some _, none, none]) dL_act_512 rfl (Nat.le_of_ble_eq_true rfl) rfl ?_
                    refine v_aload C dL_act_514 rfl ?_
                    refine v_iload C dL_act_516 rfl ?_
                    refine v_iconst (v := nI 2) C dL_act_518 (by decide) ?_
                    refine v_iremN C dL_act_519 (by omega) (by omega) (by omega) ?_
                    refine v_iconst (v := nI 1) C dL_act_520 (by decide) ?_
                    first | refine v_icmp_neN C 528 dL_act_521 (by decide) (by omega) (by omega) (fun c521 => ?_) (fun c521 => ?_) | refine v_icmp_ne C 528 dL_act_521 (by decide) (fun c521 => ?_) (fun c521 => ?_)
                    · refine v_iconst (v := nI 0) C dL_act_528 (by decide) ?_
                      refine v_pFN (K := fun w => cS (xK X) g ((s, m), (sT, mT), rr, hh, sl, tx) ++ (w ++ dS (xK X) b (i + 1 + 1 + 1))) C (Cxt.l _ (Cxt.r _ Cxt.id)) (5 + a) fln_L_202 fw_X8_4 (plc_at han) rfl rfl (Nat.le_of_ble_eq_true rfl) (set_locked han) dL_act_529 ?_
                      refine v_iload C dL_act_532 rfl ?_
                      refine v_iconst (v := nI 1) C dL_act_534 (by decide) ?_
                      refine v_icmp_ne C 545 dL_act_535 (by decide) (fun c535 => ?_) (fun c => absurd c (by decide))
                      refine v_aload_n C dL_act_545 rfl ?_
                      refine v_iload C dL_act_546 rfl ?_
                      refine v_iload C dL_act_548 rfl ?_
                      refine v_iconst (v := nI 2) C dL_act_550 (by decide) ?_
                      refine v_iremN C dL_act_551 (by omega) (by omega) (by omega) ?_
                      refine v_iconst (v := nI 1) C dL_act_552 (by decide) ?_
                      first | refine v_icmp_neN C 560 dL_act_553 (by decide) (by omega) (by omega) (fun c553 => ?_) (fun c553 => ?_) | refine v_icmp_ne C 560 dL_act_553 (by decide) (fun c553 => ?_) (fun c553 => ?_)
                      · refine v_iconst (v := nI 0) C dL_act_560 (by decide) ?_
                        refine v_kVi (K := fun w => w ++ (lmW (xK X) h n ((lckM m a (nI 0)), e, m 6 0) ++ dS (xK X) b (i + 1 + 1 + 1))) C (Cxt.r _ Cxt.id) (c_X5_setLock hl (al := false) (c := cM) hW hH) ym_X5_setLock ml_L_100 fix_cS cS_0 rfl rfl rfl dL_act_561 (by first | omega | exact Nat.le_of_ble_eq_true rfl) (by first | omega | exact Nat.le_of_ble_eq_true rfl) (by first | omega | exact Nat.le_of_ble_eq_true rfl) (Nat.le_of_ble_eq_true rfl) (fun _ _ hu => (no3 (cd_1 n1 han hn31) hu.1).elim) (fun r u hu => ?_)
                        obtain ⟨⟨-, rfl⟩, s, ⟨sT, mT⟩, hh, rfl, hH⟩ := hu
                        rw [if_neg Bool.false_ne_true, tN_nI (show a < 2 ^ 31 by omega), slk_n]
                        refine v_iload C dL_act_564 rfl ?_
                        refine v_icmp_ne C 573 dL_act_566 (by decide) (fun c566 => ?_) (fun c566 => ?_)
                        · exact absurd rfl c566
                        · refine v_iconst (v := nI 1) C dL_act_569 (by decide) ?_
                          refine v_goto C 574 dL_act_570 (by decide) ?_
                          refine v_iretG C F (by first | rfl | exact bI_nar _) dL_act_574 (by first | omega | exact Nat.le_of_ble_eq_true rfl) (by first | omega | exact Nat.le_of_ble_eq_true rfl) rfl (List.Perm.refl _) ?_
                          exact ⟨rfl, (lckM m a (nI 0)), e, ((s, (lckM m a (nI 0))), (sT, mT), rr, hh, sl, tx), i + 1 + 1 + 1, ⟨s, (sT, mT), rr, hh, sl, tx, _, rfl, hH⟩, (hI.slk (b := false) han), Or.inl rfl, by omega, rfl⟩
                      · omega
                    · omega
                  · refine v_aload C dL_act_499 rfl ?_
                    refine v_gFN (K := fun w => cS (xK X) g ((s, m), (sT, mT), rr, hh, sl, tx) ++ (w ++ dS (xK X) b (i + 1 + 1 + 1))) C (Cxt.l _ (Cxt.r _ Cxt.id)) (v := va_rf (srcV h m a)) (5 + a) fln_L_190 (plc_at han) rfl dL_act_501 ?_
                    refine v_ifnull C (x := (srcV h m a)) 511 dL_act_504 (by decide) (fun c504 => ?_) (fun a504 c504 => ?_)
                    · have ho : owb m a = false := owb_f.mpr (srcV_no.mp c504)
                      refine v_iconst (v := nI 0) C dL_act_511 (by decide) ?_
                      refine v_istore C (lo2 := [some _, some _, some _, some _, some _, some _, some _, some _, some _, none, none]) dL_act_512 rfl (Nat.le_of_ble_eq_true rfl) rfl ?_
                      refine v_aload C dL_act_514 rfl ?_
                      refine v_iload C dL_act_516 rfl ?_
                      refine v_iconst (v := nI 2) C dL_act_518 (by decide) ?_
                      refine v_iremN C dL_act_519 (by omega) (by omega) (by omega) ?_
                      refine v_iconst (v := nI 1) C dL_act_520 (by decide) ?_
                      first | refine v_icmp_neN C 528 dL_act_521 (by decide) (by omega) (by omega) (fun c521 => ?_) (fun c521 => ?_) | refine v_icmp_ne C 528 dL_act_521 (by decide) (fun c521 => ?_) (fun c521 => ?_)
                      · omega
                      · refine v_iconst (v := nI 1) C dL_act_524 (by decide) ?_
                        refine v_goto C 529 dL_act_525 (by decide) ?_
                        refine v_pFN (K := fun w => cS (xK X) g ((s, m), (sT, mT), rr, hh, sl, tx) ++ (w ++ dS (xK X) b (i + 1 + 1 + 1))) C (Cxt.l _ (Cxt.r _ Cxt.id)) (5 + a) fln_L_202 fw_X8_4 (plc_at han) rfl rfl (Nat.le_of_ble_eq_true rfl) (set_locked han) dL_act_529 ?_
                        refine v_iload C dL_act_532 rfl ?_
                        refine v_iconst (v := nI 1) C dL_act_534 (by decide) ?_
                        refine v_icmp_ne C 545 dL_act_535 (by decide) (fun c535 => ?_) (fun c => absurd c (by decide))
                        refine v_aload_n C dL_act_545 rfl ?_
                        refine v_iload C dL_act_546 rfl ?_
                        refine v_iload C dL_act_548 rfl ?_
                        refine v_iconst (v := nI 2) C dL_act_550 (by decide) ?_
                        refine v_iremN C dL_act_551 (by omega) (by omega) (by omega) ?_
                        refine v_iconst (v := nI 1) C dL_act_552 (by decide) ?_
                        first | refine v_icmp_neN C 560 dL_act_553 (by decide) (by omega) (by omega) (fun c553 => ?_) (fun c553 => ?_) | refine v_icmp_ne C 560 dL_act_553 (by decide) (fun c553 => ?_) (fun c553 => ?_)
                        · omega
                        · refine v_iconst (v := nI 1) C dL_act_556 (by decide) ?_
                          refine v_goto C 561 dL_act_557 (by decide) ?_
                          refine v_kVi (K := fun w => w ++ (lmW (xK X) h n ((lckM m a (nI 1)), e, m 6 0) ++ dS (xK X) b (i + 1 + 1 + 1))) C (Cxt.r _ Cxt.id) (c_X5_setLock hl (al := true) (c := cM) hW hH) ym_X5_setLock ml_L_100 fix_cS cS_0 rfl rfl rfl dL_act_561 (by first | omega | exact Nat.le_of_ble_eq_true rfl) (by first | omega | exact Nat.le_of_ble_eq_true rfl) (by first | omega | exact Nat.le_of_ble_eq_true rfl) (Nat.le_of_ble_eq_true rfl) (fun _ _ hu => (no3 (cd_1 n1 han hn31) hu.1).elim) (fun r u hu => ?_)
                          obtain ⟨⟨-, rfl⟩, s, ⟨sT, mT⟩, hh, rfl, hH⟩ := hu
                          rw [if_pos rfl, tN_nI (show a < 2 ^ 31 by omega), cnt_1, ho, slk_o ho]
                          rw [if_neg Bool.false_ne_true]
                          refine v_iload C dL_act_564 rfl ?_
                          refine v_icmp_ne C 573 dL_act_566 (by decide) (fun c566 => ?_) (fun c566 => ?_)
                          · exact absurd rfl c566
                          · refine v_iconst (v := nI 1) C dL_act_569 (by decide) ?_
                            refine v_goto C 574 dL_act_570 (by decide) ?_
                            refine v_iretG C F (by first | rfl | exact bI_nar _) dL_act_574 (by first | omega | exact Nat.le_of_ble_eq_true rfl) (by first | omega | exact Nat.le_of_ble_eq_true rfl) rfl (List.Perm.refl _) ?_
                            exact ⟨rfl, (lckM m a (nI 1)), e, ((s, (lckM m a (nI 1))), (sT, mT), rr, hh, sl, tx), i + 1 + 1 + 1, ⟨s, (sT, mT), rr, hh, sl, tx, _, rfl, hH⟩, (by have z := hI.slk (b := true) han; rw [slk_o ho] at z; exact z), Or.inl rfl, by omega, rfl⟩
                    · have ho : owb m a = true := owb_t.mpr (srcV_yes c504).1
                      refine v_iconst (v := nI 1) C dL_act_507 (by decide) ?_
                      refine v_goto C 512 dL_act_508 (by decide) ?_
                      refine v_istore C (lo2 := [some _, some _, some _, some _, some _, some _, some _, some _, some _, none, none]) dL_act_512 rfl (Nat.le_of_ble_eq_true rfl) rfl ?_
                      refine v_aload C dL_act_514 rfl ?_
                      refine v_iload C dL_act_516 rfl ?_
                      refine v_iconst (v := nI 2) C dL_act_518 (by decide) ?_
                      refine v_iremN C dL_act_519 (by omega) (by omega) (by omega) ?_
                      refine v_iconst (v := nI 1) C dL_act_520 (by decide) ?_
                      first | refine v_icmp_neN C 528 dL_act_521 (by decide) (by omega) (by omega) (fun c521 => ?_) (fun c521 => ?_) | refine v_icmp_ne C 528 dL_act_521 (by decide) (fun c521 => ?_) (fun c521 => ?_)
                      · omega
                      · refine v_iconst (v := nI 1) C dL_act_524 (by decide) ?_
                        refine v_goto C 529 dL_act_525 (by decide) ?_
                        refine v_pFN (K := fun w => cS (xK X) g ((s, m), (sT, mT), rr, hh, sl, tx) ++ (w ++ dS (xK X) b (i + 1 + 1 + 1))) C (Cxt.l _ (Cxt.r _ Cxt.id)) (5 + a) fln_L_202 fw_X8_4 (plc_at han) rfl rfl (Nat.le_of_ble_eq_true rfl) (set_locked han) dL_act_529 ?_
                        refine v_iload C dL_act_532 rfl ?_
                        refine v_iconst (v := nI 1) C dL_act_534 (by decide) ?_
                        refine v_icmp_ne C 545 dL_act_535 (by decide) (fun c => absurd c (by decide)) (fun c535 => ?_)
                        refine v_aload_n C dL_act_538 rfl ?_
                        refine v_aload C dL_act_539 rfl ?_
                        refine v_iconst (v := nI 2) C dL_act_541 (by decide) ?_
                        refine v_gVv (K := fun w => cS (xK X) g ((s, m), (sT, mT), rr, hh, sl, tx) ++ (w ++ dS (xK X) b (i + 1 + 1 + 1))) C (Cxt.l _ (Cxt.r _ Cxt.id)) 0 (c_X7_pay hl (lck_im hIM) h14 (lck_ev hE) (Or.inr (Or.inl rfl)) han) ym_X7_pay ml_L_251 lm_0 rfl rfl rfl dL_act_542 (by first | omega | exact Nat.le_of_ble_eq_true rfl) (by first | omega | exact Nat.le_of_ble_eq_true rfl) (by first | omega | exact Nat.le_of_ble_eq_true rfl) (Nat.le_of_ble_eq_true rfl) (fun _ _ hu => hu.elim) (fun r u hu => ?_)
                        obtain ⟨e1, rfl⟩ := hu
                        rw [← slk_p ho]
                        refine v_aload_n C dL_act_545 rfl ?_
                        refine v_iload C dL_act_546 rfl ?_
                        refine v_iload C dL_act_548 rfl ?_
                        refine v_iconst (v := nI 2) C dL_act_550 (by decide) ?_
                        refine v_iremN C dL_act_551 (by omega) (by omega) (by omega) ?_
                        refine v_iconst (v := nI 1) C dL_act_552 (by decide) ?_
                        first | refine v_icmp_neN C 560 dL_act_553 (by decide) (by omega) (by omega) (fun c553 => ?_) (fun c553 => ?_) | refine v_icmp_ne C 560 dL_act_553 (by decide) (fun c553 => ?_) (fun c553 => ?_)
                        · omega
                        · refine v_iconst (v := nI 1) C dL_act_556 (by decide) ?_
                          refine v_goto C 561 dL_act_557 (by decide) ?_
                          refine v_kVi (K := fun w => w ++ (lmW (xK X) h n ((slkM a true m), e1, m 6 0) ++ dS (xK X) b (i + 1 + 1 + 1))) C (Cxt.r _ Cxt.id) (c_X5_setLock hl (al := true) (c := cM) hW hH) ym_X5_setLock ml_L_100 fix_cS cS_0 rfl rfl rfl dL_act_561 (by first | omega | exact Nat.le_of_ble_eq_true rfl) (by first | omega | exact Nat.le_of_ble_eq_true rfl) (by first | omega | exact Nat.le_of_ble_eq_true rfl) (Nat.le_of_ble_eq_true rfl) (fun _ _ hu => (no3 (cd_1 n1 han hn31) hu.1).elim) (fun r u hu => ?_)
                          obtain ⟨⟨-, rfl⟩, s, ⟨sT, mT⟩, hh, rfl, hH⟩ := hu
                          rw [if_pos rfl, tN_nI (show a < 2 ^ 31 by omega), cnt_1, ho]
                          rw [if_pos rfl]
                          refine v_iload C dL_act_564 rfl ?_
                          refine v_icmp_ne C 573 dL_act_566 (by decide) (fun c566 => ?_) (fun c566 => ?_)
                          · exact absurd rfl c566
                          · refine v_iconst (v := nI 1) C dL_act_569 (by decide) ?_
                            refine v_goto C 574 dL_act_570 (by decide) ?_
                            refine v_iretG C F (by first | rfl | exact bI_nar _) dL_act_574 (by first | omega | exact Nat.le_of_ble_eq_true rfl) (by first | omega | exact Nat.le_of_ble_eq_true rfl) rfl (List.Perm.refl _) ?_
                            exact ⟨rfl, (slkM a true m), e1, ((s, (slkM a true m)), (sT, mT), rr, hh, sl, tx), i + 1 + 1 + 1, ⟨s, (sT, mT), rr, hh, sl, tx, _, rfl, hH⟩, (hI.slk (b := true) han), Or.inl (slk_5 hIM han).2, by omega, by rw [(slk_5 hIM han).2]⟩
              · refine v_aload C dL_act_410 rfl ?_
                refine v_gVi (K := fun w => cS (xK X) g ((s, m), (sT, mT), rr, hh, sl, tx) ++ (w ++ dS (xK X) b (i + 1 + 1 + 1))) C (Cxt.l _ (Cxt.r _ Cxt.id)) (5 + a) (c_X8_value hl hIM h14 han) ym_X8_value ml_L_185 (plc_at han) rfl rfl rfl dL_act_412 (by first | omega | exact Nat.le_of_ble_eq_true rfl) (by first | omega | exact Nat.le_of_ble_eq_true rfl) (by first | omega | exact Nat.le_of_ble_eq_true rfl) (Nat.le_of_ble_eq_true rfl) (fun _ _ hu => hu.elim) (fun r u hu => ?_)
                obtain ⟨rfl, rfl⟩ := hu
                refine v_istore C (lo2 := [some _, some _, some _, some _, some _, some _, some _, some _, some _, none, none]) dL_act_415 rfl (Nat.le_of_ble_eq_true rfl) rfl ?_
                refine v_aload_n C dL_act_417 rfl ?_
                refine v_gFN (K := fun w => cS (xK X) g ((s, m), (sT, mT), rr, hh, sl, tx) ++ (w ++ dS (xK X) b (i + 1 + 1 + 1))) C (Cxt.l _ (Cxt.r _ Cxt.id)) (v := .ref (h 3)) 0 fln_L_172 lm_0 rfl dL_act_418 ?_
                refine v_bipush (v := nI 6) C dL_act_421 (by decide) ?_
                refine v_dup2 C dL_act_423 rfl rfl ?_
                refine v_gI (K := fun w => cS (xK X) g ((s, m), (sT, mT), rr, hh, sl, tx) ++ (w ++ dS (xK X) b (i + 1 + 1 + 1))) C (Cxt.l _ (Cxt.r _ Cxt.id)) (x := (m 6 6)) 3 lm_3 (by first | decide | omega) 6 (rfl) ?_ rfl dL_act_424 ?_
                · omega
                refine v_aload C dL_act_425 rfl ?_
                refine v_gVi (K := fun w => cS (xK X) g ((s, m), (sT, mT), rr, hh, sl, tx) ++ (w ++ dS (xK X) b (i + 1 + 1 + 1))) C (Cxt.l _ (Cxt.r _ Cxt.id)) (5 + a) (c_X8_hops hl hIM h14 han) ym_X8_hops ml_L_209 (plc_at han) rfl rfl rfl dL_act_427 (by first | omega | exact Nat.le_of_ble_eq_true rfl) (by first | omega | exact Nat.le_of_ble_eq_true rfl) (by first | omega | exact Nat.le_of_ble_eq_true rfl) (Nat.le_of_ble_eq_true rfl) (fun _ _ hu => hu.elim) (fun r u hu => ?_)
                obtain ⟨rfl, rfl⟩ := hu
                refine v_iadd C dL_act_430 ?_
                refine v_sI (K := fun w => cS (xK X) g ((s, m), (sT, mT), rr, hh, sl, tx) ++ (w ++ dS (xK X) b (i + 1 + 1 + 1))) C (Cxt.l _ (Cxt.r _ Cxt.id)) 3 lm_3 (by first | decide | omega) 6 ?_ rfl set_acc dL_act_431 ?_
                · first | decide | omega
                refine v_aload_n C dL_act_432 rfl ?_
                refine v_gFN (K := fun w => cS (xK X) g ((s, m), (sT, mT), rr, hh, sl, tx) ++ (w ++ dS (xK X) b (i + 1 + 1 + 1))) C (Cxt.l _ (Cxt.r _ Cxt.id)) (v := .ref (h 3)) 0 fln_L_172 lm_0 rfl dL_act_433 ?_
                refine v_bipush (v := nI 8) C dL_act_436 (by decide) ?_
                refine v_dup2 C dL_act_438 rfl rfl ?_
                refine v_gI (K := fun w => cS (xK X) g ((s, m), (sT, mT), rr, hh, sl, tx) ++ (w ++ dS (xK X) b (i + 1 + 1 + 1))) C (Cxt.l _ (Cxt.r _ Cxt.id)) (x := ((accM m 6 (nI (hopsM m a))) 6 8)) 3 lm_3 (by first | decide | omega) 8 (rfl) ?_ rfl dL_act_439 ?_
                · omega
                refine v_iconst (v := nI 1) C dL_act_440 (by decide) ?_
                refine v_iadd C dL_act_441 ?_
                refine v_sI (K := fun w => cS (xK X) g ((s, m), (sT, mT), rr, hh, sl, tx) ++ (w ++ dS (xK X) b (i + 1 + 1 + 1))) C (Cxt.l _ (Cxt.r _ Cxt.id)) 3 lm_3 (by first | decide | omega) 8 ?_ rfl set_acc dL_act_442 ?_
                · first | decide | omega
                refine V.stt (g2 := cS (xK X) g ((s, m), (sT, mT), rr, hh, sl, tx) ++ (lmW (xK X) h n (fetM a m, e, m 6 0) ++ dS (xK X) b (i + 1 + 1 + 1))) (by rw [← fet_c]; rfl) ?_
                refine v_aload_n C dL_act_443 rfl ?_
                refine v_gFN (K := fun w => cS (xK X) g ((s, m), (sT, mT), rr, hh, sl, tx) ++ (w ++ dS (xK X) b (i + 1 + 1 + 1))) C (Cxt.l _ (Cxt.r _ Cxt.id)) (v := .ref (h 2)) 0 fln_L_168 lm_0 rfl dL_act_444 ?_
                refine v_iconst (v := nI 4) C dL_act_447 (by decide) ?_
                refine v_gI (K := fun w => cS (xK X) g ((s, m), (sT, mT), rr, hh, sl, tx) ++ (w ++ dS (xK X) b (i + 1 + 1 + 1))) C (Cxt.l _ (Cxt.r _ Cxt.id)) (x := ((fetM a m) 5 4)) 2 lm_2 (by first | decide | omega) 4 (rfl) ?_ rfl dL_act_448 ?_
                · omega
                refine v_iconst (v := nI 1) C dL_act_449 (by decide) ?_
                refine v_icmp_ne C 468 dL_act_450 (by decide) (fun c450 => ?_) (fun c450 => ?_)
                · refine v_aload_n C dL_act_468 rfl ?_
                  refine v_iload C dL_act_469 rfl ?_
                  refine v_kVi (K := fun w => w ++ (lmW (xK X) h n ((fetM a m), e, m 6 0) ++ dS (xK X) b (i + 1 + 1 + 1))) C (Cxt.r _ Cxt.id) (c_X5_fetch hl (c := cM) hW hH) ym_X5_fetch ml_L_91 fix_cS cS_0 rfl rfl rfl dL_act_471 (by first | omega | exact Nat.le_of_ble_eq_true rfl) (by first | omega | exact Nat.le_of_ble_eq_true rfl) (by first | omega | exact Nat.le_of_ble_eq_true rfl) (Nat.le_of_ble_eq_true rfl) (fun _ _ hu => (no3 (cd_1 n1 han hn31) hu.1).elim) (fun r u hu => ?_)
                  obtain ⟨⟨-, rfl⟩, s, ⟨sT, mT⟩, hh, rfl, hH⟩ := hu
                  rw [tN_nI (show a < 2 ^ 31 by omega), fetch_v hIM han, fetch_n (m := m) c450]
                  refine v_iload C dL_act_474 rfl ?_
                  refine v_icmp_ne C 483 dL_act_476 (by decide) (fun c476 => ?_) (fun c476 => ?_)
                  · exact absurd rfl c476
                  · refine v_iconst (v := nI 1) C dL_act_479 (by decide) ?_
                    refine v_goto C 484 dL_act_480 (by decide) ?_
                    refine v_iretG C F (by first | rfl | exact bI_nar _) dL_act_484 (by first | omega | exact Nat.le_of_ble_eq_true rfl) (by first | omega | exact Nat.le_of_ble_eq_true rfl) rfl (List.Perm.refl _) ?_
                    exact ⟨rfl, (fetM a m), e, ((s, (fetM a m)), (sT, mT), rr, hh, sl, tx), i + 1 + 1 + 1, ⟨s, (sT, mT), rr, hh, sl, tx, _, rfl, hH⟩, (by have z := hI.fetch han; rw [fetch_n (m := m) c450] at z; exact z), Or.inl rfl, by omega, rfl⟩
                · refine v_aload C dL_act_453 rfl ?_
                  refine v_gFN (K := fun w => cS (xK X) g ((s, m), (sT, mT), rr, hh, sl, tx) ++ (w ++ dS (xK X) b (i + 1 + 1 + 1))) C (Cxt.l _ (Cxt.r _ Cxt.id)) (v := va_rf (srcV h (fetM a m) a)) (5 + a) fln_L_190 (plc_at han) rfl dL_act_455 ?_
                  refine v_ifnull C (x := (srcV h (fetM a m) a)) 468 dL_act_458 (by decide) (fun c458 => ?_) (fun a458 c458 => ?_)
                  · have ho : owb m a = false := owb_f.mpr (srcV_no.mp c458)
                    refine v_aload_n C dL_act_468 rfl ?_
                    refine v_iload C dL_act_469 rfl ?_
                    refine v_kVi (K := fun w => w ++ (lmW (xK X) h n ((fetM a m), e, m 6 0) ++ dS (xK X) b (i + 1 + 1 + 1))) C (Cxt.r _ Cxt.id) (c_X5_fetch hl (c := cM) hW hH) ym_X5_fetch ml_L_91 fix_cS cS_0 rfl rfl rfl dL_act_471 (by first | omega | exact Nat.le_of_ble_eq_true rfl) (by first | omega | exact Nat.le_of_ble_eq_true rfl) (by first | omega | exact Nat.le_of_ble_eq_true rfl) (Nat.le_of_ble_eq_true rfl) (fun _ _ hu => (no3 (cd_1 n1 han hn31) hu.1).elim) (fun r u hu => ?_)
                    obtain ⟨⟨-, rfl⟩, s, ⟨sT, mT⟩, hh, rfl, hH⟩ := hu
                    rw [tN_nI (show a < 2 ^ 31 by omega), fetch_v hIM han, fetch_f (m := m) c450 ho]
                    refine v_iload C dL_act_474 rfl ?_
                    refine v_icmp_ne C 483 dL_act_476 (by decide) (fun c476 => ?_) (fun c476 => ?_)
                    · exact absurd rfl c476
                    · refine v_iconst (v := nI 1) C dL_act_479 (by decide) ?_
                      refine v_goto C 484 dL_act_480 (by decide) ?_
                      refine v_iretG C F (by first | rfl | exact bI_nar _) dL_act_484 (by first | omega | exact Nat.le_of_ble_eq_true rfl) (by first | omega | exact Nat.le_of_ble_eq_true rfl) rfl (List.Perm.refl _) ?_
                      exact ⟨rfl, (fetM a m), e, ((s, (fetM a m)), (sT, mT), rr, hh, sl, tx), i + 1 + 1 + 1, ⟨s, (sT, mT), rr, hh, sl, tx, _, rfl, hH⟩, (by have z := hI.fetch han; rw [fetch_f (m := m) c450 ho] at z; exact z), Or.inl rfl, by omega, rfl⟩
                  · have ho : owb m a = true := owb_t.mpr (srcV_yes c458).1
                    refine v_aload_n C dL_act_461 rfl ?_
                    refine v_aload C dL_act_462 rfl ?_
                    refine v_iconst (v := nI 2) C dL_act_464 (by decide) ?_
                    refine v_gVv (K := fun w => cS (xK X) g ((s, m), (sT, mT), rr, hh, sl, tx) ++ (w ++ dS (xK X) b (i + 1 + 1 + 1))) C (Cxt.l _ (Cxt.r _ Cxt.id)) 0 (c_X7_pay hl (fet_im hIM) h14 (fet_ev hE) (Or.inr (Or.inl rfl)) han) ym_X7_pay ml_L_251 lm_0 rfl rfl rfl dL_act_465 (by first | omega | exact Nat.le_of_ble_eq_true rfl) (by first | omega | exact Nat.le_of_ble_eq_true rfl) (by first | omega | exact Nat.le_of_ble_eq_true rfl) (Nat.le_of_ble_eq_true rfl) (fun _ _ hu => hu.elim) (fun r u hu => ?_)
                    obtain ⟨e1, rfl⟩ := hu
                    rw [← fetch_t (m := m) c450 ho]
                    refine v_aload_n C dL_act_468 rfl ?_
                    refine v_iload C dL_act_469 rfl ?_
                    refine v_kVi (K := fun w => w ++ (lmW (xK X) h n ((fetchM a m), e1, m 6 0) ++ dS (xK X) b (i + 1 + 1 + 1))) C (Cxt.r _ Cxt.id) (c_X5_fetch hl (c := cM) hW hH) ym_X5_fetch ml_L_91 fix_cS cS_0 rfl rfl rfl dL_act_471 (by first | omega | exact Nat.le_of_ble_eq_true rfl) (by first | omega | exact Nat.le_of_ble_eq_true rfl) (by first | omega | exact Nat.le_of_ble_eq_true rfl) (Nat.le_of_ble_eq_true rfl) (fun _ _ hu => (no3 (cd_1 n1 han hn31) hu.1).elim) (fun r u hu => ?_)
                    obtain ⟨⟨-, rfl⟩, s, ⟨sT, mT⟩, hh, rfl, hH⟩ := hu
                    rw [tN_nI (show a < 2 ^ 31 by omega), fetch_v hIM han]
                    refine v_iload C dL_act_474 rfl ?_
                    refine v_icmp_ne C 483 dL_act_476 (by decide) (fun c476 => ?_) (fun c476 => ?_)
                    · exact absurd rfl c476
                    · refine v_iconst (v := nI 1) C dL_act_479 (by decide) ?_
                      refine v_goto C 484 dL_act_480 (by decide) ?_
                      refine v_iretG C F (by first | rfl | exact bI_nar _) dL_act_484 (by first | omega | exact Nat.le_of_ble_eq_true rfl) (by first | omega | exact Nat.le_of_ble_eq_true rfl) rfl (List.Perm.refl _) ?_
                      exact ⟨rfl, (fetchM a m), e1, ((s, (fetchM a m)), (sT, mT), rr, hh, sl, tx), i + 1 + 1 + 1, ⟨s, (sT, mT), rr, hh, sl, tx, _, rfl, hH⟩, hI.fetch han, Or.inl (fetch_5 han).2, by omega, by rw [(fetch_5 han).2]⟩
            · obtain ⟨bw, hb0, hb1, hb2, hbd⟩ := hI.band
              refine v_iconst (v := nI 0) C dL_act_353 (by decide) ?_
              refine v_istore C (lo2 := [some _, some _, some _, some _, some _, some _, some _, some _, some _, none, none]) dL_act_354 rfl (Nat.le_of_ble_eq_true rfl) rfl ?_
              refine v_iconst (v := nI 0) C dL_act_356 (by decide) ?_
              refine v_istore C (lo2 := [some _, some _, some _, some _, some _, some _, some _, some _, some _, some _, none]) dL_act_357 rfl (Nat.le_of_ble_eq_true rfl) rfl ?_
              have L359 : ∀ (t : Nat × Mg × (Nat → Nat)), (fun t => t.1 ≤ v % 3 + 1 ∧ t.2.1 = payK 1 n (t.1 * bw) m) t → (fun t : Nat × Mg × (Nat → Nat) => V X iW 359 [some (.ref (g 0)), some (.ref (h 0)), some (.ref b), some (.int (nI W)), some (.int (nI n)), some (.int (nI a)), some (.int (nI v)), some (.ref (h (8 + a))), some (.int (nI (min (t.1 * bw) (cntG (owb m) 0 n)))), some (.int (nI t.1)), none] [] (cS (xK X) g ((s, m), (sT, mT), rr, hh, sl, tx) ++ (lmW (xK X) h n (t.2.1, t.2.2, m 6 0) ++ dS (xK X) b (i + 1 + 1 + 1))) (14 * t.1) (42 * t.1)) t := by
                refine v_ind (fun t : Nat × Mg × (Nat → Nat) => v % 3 + 1 - t.1) ?_
                rintro ⟨j, y, e⟩ ih359 hI359
                try dsimp only at hI359 ⊢
                obtain ⟨i1, i2⟩ := hI359
                have hPy : Pd n m y := by rw [i2]; exact (payK_ok hIM).1
                have hIy := hPy.im hIM
                have hEy := hPy.1.2.2.2.2 hE
                have e5y : y 5 = m 5 := hPy.1.2.2.1
                have h6y : y 6 0 = m 6 0 := hPy.1.2.2.2.1
                have hpy : PolOK y := by unfold PolOK; rw [e5y]; exact hset.1
                have hby : y 5 0 = nI bw := by rw [e5y]; exact hb0
                refine v_iload C dL_act_359 rfl ?_
                refine v_iload C dL_act_361 rfl ?_
                refine v_iconst (v := nI 3) C dL_act_363 (by decide) ?_
                refine v_iremN C dL_act_364 (by omega) (by omega) (by omega) ?_
                first | refine v_icmp_gtN C 383 dL_act_365 (by decide) (by omega) (by omega) (fun c365 => ?_) (fun c365 => ?_) | refine v_icmp_gt C 383 dL_act_365 (by decide) (fun c365 => ?_) (fun c365 => ?_)
                · obtain rfl : j = 1 + v % 3 := by omega
                  refine v_aload_n C dL_act_383 rfl ?_
                  refine v_iconst (v := nI 1) C dL_act_384 (by decide) ?_
                  refine v_iload C dL_act_385 rfl ?_
                  refine v_iconst (v := nI 3) C dL_act_387 (by decide) ?_
                  refine v_iremN C dL_act_388 (by omega) (by omega) (by omega) ?_
                  first | refine v_iaddN C dL_act_389 ?_ | refine v_iadd C dL_act_389 ?_
                  refine v_kVi (K := fun w => w ++ (lmW (xK X) h n (y, e, m 6 0) ++ dS (xK X) b (i + 1 + 1 + 1))) C (Cxt.r _ Cxt.id) (c_X5_tick hl (c := cM) hW hH) ym_X5_tick ml_L_94 fix_cS cS_0 rfl rfl rfl dL_act_390 (by first | omega | exact Nat.le_of_ble_eq_true rfl) (by first | omega | exact Nat.le_of_ble_eq_true rfl) (by first | omega | exact Nat.le_of_ble_eq_true rfl) (Nat.le_of_ble_eq_true rfl) (fun _ _ hu => (noA (cd_i n1 (by omega) (by omega) (by omega)) hu.1).elim) (fun r u hu => ?_)
                  obtain ⟨⟨-, rfl⟩, s, ⟨sT, mT⟩, hh, rfl, hH⟩ := hu
                  rw [tN_nI (show 1 + v % 3 < 2 ^ 31 by omega), hbd]
                  refine v_iload C dL_act_393 rfl ?_
                  refine v_icmp_ne C 402 dL_act_395 (by decide) (fun c395 => ?_) (fun c395 => ?_)
                  · exact absurd rfl c395
                  · refine v_iconst (v := nI 1) C dL_act_398 (by decide) ?_
                    refine v_goto C 403 dL_act_399 (by decide) ?_
                    refine v_iretG C F (by first | rfl | exact bI_nar _) dL_act_403 (by first | omega | exact Nat.le_of_ble_eq_true rfl) (by first | omega | exact Nat.le_of_ble_eq_true rfl) rfl (List.Perm.refl _) ?_
                    exact ⟨rfl, y, e, ((s, payK 1 n (min ((1 + v % 3) * bw) (cntG (owb m) 0 n)) m), (sT, mT), rr, hh, sl, tx), i + 1 + 1 + 1, ⟨s, (sT, mT), rr, hh, sl, tx, _, by rw [i2, payK_cap hIM], hH⟩, hI.pd hPy, Or.inl h6y, by omega, by rw [h6y]⟩
                · refine v_iload C dL_act_368 rfl ?_
                  refine v_aload_n C dL_act_370 rfl ?_
                  refine v_gVi (K := fun w => cS (xK X) g ((s, m), (sT, mT), rr, hh, sl, tx) ++ (w ++ dS (xK X) b (i + 1 + 1 + 1))) C (Cxt.l _ (Cxt.r _ Cxt.id)) 0 (c_X7_tick hl hIy h14 hEy hpy hby (by omega)) ym_X7_tick ml_L_249 lm_0 rfl rfl rfl dL_act_371 (by first | omega | exact Nat.le_of_ble_eq_true rfl) (by first | omega | exact Nat.le_of_ble_eq_true rfl) (by first | omega | exact Nat.le_of_ble_eq_true rfl) (Nat.le_of_ble_eq_true rfl) (fun _ _ hu => hu.elim) (fun r u hu => ?_)
                  obtain ⟨rfl, e1, rfl⟩ := hu
                  first | refine v_iaddN C dL_act_374 ?_ | refine v_iadd C dL_act_374 ?_
                  refine v_istore C (lo2 := [some _, some _, some _, some _, some _, some _, some _, some _, some _, some _, none]) dL_act_375 rfl (Nat.le_of_ble_eq_true rfl) rfl ?_
                  first | refine v_iinc1 C (lo2 := [some _, some _, some _, some _, some _, some _, some _, some _, some _, some _, none]) dL_act_377 rfl rfl rfl ?_ | refine v_iinc C (lo2 := [some _, some _, some _, some _, some _, some _, some _, some _, some _, some _, none]) dL_act_377 rfl rfl rfl rfl ?_
                  refine v_goto C 359 dL_act_380 (by decide) ?_
                  have hcy : cntG (owb y) 0 n = cntG (owb m) 0 n - j * bw := by rw [i2]; exact (payK_ok hIM).2
                  have hsum : min (j * bw) (cntG (owb m) 0 n) + min bw (cntG (owb y) 0 n) = min ((j + 1) * bw) (cntG (owb m) 0 n) := by rw [hcy]; exact tick_s
                  rw [hsum]
                  refine V.wid (k2 := 14 * (j + 1)) (n2 := 42 * (j + 1)) (by omega) (by omega) ?_
                  exact ih359 (j + 1, payK 1 n bw y, e1) (by show v % 3 + 1 - (j + 1) < v % 3 + 1 - j; omega) ⟨by show j + 1 ≤ v % 3 + 1; omega, by show payK 1 n bw y = payK 1 n ((j + 1) * bw) m; rw [i2, Nat.succ_mul, payK_add]⟩
              have L0 := L359 (0, m, e) ⟨Nat.zero_le _, by show m = payK 1 n (0 * bw) m; rw [Nat.zero_mul]; rfl⟩
              try dsimp only at L0
              rw [Nat.zero_mul, Nat.zero_min] at L0
              exact L0
          · rcases (show W = 6 ∨ W = 7 by omega) with hW6 | hW7
            · subst hW6
              refine v_aload_n C dL_act_322 rfl ?_
              refine v_aload_n C dL_act_323 rfl ?_
              refine v_iload C dL_act_324 rfl ?_
              refine v_iload C dL_act_326 rfl ?_
              refine v_iconst (v := nI 1) C dL_act_328 (by decide) ?_
              first | refine v_isubN C dL_act_329 (by omega) ?_ | refine v_isub C dL_act_329 ?_
              refine v_iload C dL_act_330 rfl ?_
              refine v_iload C dL_act_332 rfl ?_
              refine v_iconst (v := nI 4) C dL_act_334 (by decide) ?_
              refine v_iremN C dL_act_335 (by omega) (by omega) (by omega) ?_
              first | refine v_iaddN C dL_act_336 ?_ | refine v_iadd C dL_act_336 ?_
              refine v_mmin (z := nI (min (n - 1) (a + v % 4))) C ml_L_240 w_minS w_mI w_minC rfl (Nat.le_of_ble_eq_true rfl) dL_act_337 (by first | omega | exact Nat.le_of_ble_eq_true rfl) (by first | omega | exact Nat.le_of_ble_eq_true rfl) ?_ ?_
              · exact nI_min (by omega) (by omega)
              refine v_iload_n C dL_act_340 rfl ?_
              refine v_iload C dL_act_341 rfl ?_
              refine V.stt (g2 := (cS (xK X) g ((s, m), (sT, mT), rr, hh, sl, tx) ++ lmW (xK X) h n (m, e, m 6 0)) ++ dS (xK X) b (i + 1 + 1 + 1)) (List.append_assoc _ _ _).symm ?_
              refine v_gSi (K := fun w => w ++ dS (xK X) b (i + 1 + 1 + 1)) C (Cxt.r _ Cxt.id) (c_rows6 hl ⟨s, (sT, mT), rr, hh, sl, tx, _, rfl, hH⟩ hW hI n1 (by omega) (by omega)) ys_L_rows ml_L_245 rfl rfl dL_act_343 (by first | omega | exact Nat.le_of_ble_eq_true rfl) (by first | omega | exact Nat.le_of_ble_eq_true rfl) (by first | omega | exact Nat.le_of_ble_eq_true rfl) (Nat.le_of_ble_eq_true rfl) (fun _ _ hu => hu.elim) (fun r u hu => ?_)
              obtain ⟨rfl, m1, e1, u1, hG1, hI1, h61, rfl⟩ := hu
              rw [List.append_assoc]
              refine v_iretG C F (by first | rfl | exact bI_nar _) dL_act_346 (by first | omega | exact Nat.le_of_ble_eq_true rfl) (by first | omega | exact Nat.le_of_ble_eq_true rfl) rfl (List.Perm.refl _) ?_
              exact ⟨rfl, m1, e1, u1, i + 1 + 1 + 1, hG1, hI1, Or.inl h61, by omega, by rw [h61]⟩
            · subst hW7
              refine v_aload_n C dL_act_322 rfl ?_
              refine v_aload_n C dL_act_323 rfl ?_
              refine v_iload C dL_act_324 rfl ?_
              refine v_iload C dL_act_326 rfl ?_
              refine v_iconst (v := nI 1) C dL_act_328 (by decide) ?_
              first | refine v_isubN C dL_act_329 (by omega) ?_ | refine v_isub C dL_act_329 ?_
              refine v_iload C dL_act_330 rfl ?_
              refine v_iload C dL_act_332 rfl ?_
              refine v_iconst (v := nI 4) C dL_act_334 (by decide) ?_
              refine v_iremN C dL_act_335 (by omega) (by omega) (by omega) ?_
              first | refine v_iaddN C dL_act_336 ?_ | refine v_iadd C dL_act_336 ?_
              refine v_mmin (z := nI (min (n - 1) (a + v % 4))) C ml_L_240 w_minS w_mI w_minC rfl (Nat.le_of_ble_eq_true rfl) dL_act_337 (by first | omega | exact Nat.le_of_ble_eq_true rfl) (by first | omega | exact Nat.le_of_ble_eq_true rfl) ?_ ?_
              · exact nI_min (by omega) (by omega)
              refine v_iload_n C dL_act_340 rfl ?_
              refine v_iload C dL_act_341 rfl ?_
              refine V.stt (g2 := (cS (xK X) g ((s, m), (sT, mT), rr, hh, sl, tx) ++ lmW (xK X) h n (m, e, m 6 0)) ++ dS (xK X) b (i + 1 + 1 + 1)) (List.append_assoc _ _ _).symm ?_
              refine v_gSi (K := fun w => w ++ dS (xK X) b (i + 1 + 1 + 1)) C (Cxt.r _ Cxt.id) (c_rows7 hl ⟨s, (sT, mT), rr, hh, sl, tx, _, rfl, hH⟩ hW hI n1 (by omega) (by omega) (by omega)) ys_L_rows ml_L_245 rfl rfl dL_act_343 (by first | omega | exact Nat.le_of_ble_eq_true rfl) (by first | omega | exact Nat.le_of_ble_eq_true rfl) (by first | omega | exact Nat.le_of_ble_eq_true rfl) (Nat.le_of_ble_eq_true rfl) (fun _ _ hu => hu.elim) (fun r u hu => ?_)
              obtain ⟨rfl, m1, e1, u1, hG1, hI1, h61, rfl⟩ := hu
              rw [List.append_assoc]
              refine v_iretG C F (by first | rfl | exact bI_nar _) dL_act_346 (by first | omega | exact Nat.le_of_ble_eq_true rfl) (by first | omega | exact Nat.le_of_ble_eq_true rfl) rfl (List.Perm.refl _) ?_
              exact ⟨rfl, m1, e1, u1, i + 1 + 1 + 1, hG1, hI1, Or.inl h61, by omega, by rw [h61]⟩
        · refine v_aload C dL_act_246 rfl ?_
          refine v_gFN (K := fun w => cS (xK X) g ((s, m), (sT, mT), rr, hh, sl, tx) ++ (w ++ dS (xK X) b (i + 1 + 1 + 1))) C (Cxt.l _ (Cxt.r _ Cxt.id)) (v := .int (m 4 a)) (5 + a) fln_L_202 (plc_at han) rfl dL_act_248 ?_
          refine v_if_eq C 289 dL_act_251 (by decide) (fun c251 => ?_) (fun c251 => ?_)
          · have hla : lockB m a = false := lk_f (hI.lk a han) c251
            refine v_aload_n C dL_act_289 rfl ?_
            refine v_iload C dL_act_290 rfl ?_
            refine v_iload C dL_act_292 rfl ?_
            refine v_kVi (K := fun w => w ++ (lmW (xK X) h n (m, e, m 6 0) ++ dS (xK X) b (i + 1 + 1 + 1))) C (Cxt.r _ Cxt.id) (c_X5_write hl (c := cM) hW hH) ym_X5_write ml_L_85 fix_cS cS_0 rfl rfl rfl dL_act_294 (by first | omega | exact Nat.le_of_ble_eq_true rfl) (by first | omega | exact Nat.le_of_ble_eq_true rfl) (by first | omega | exact Nat.le_of_ble_eq_true rfl) (Nat.le_of_ble_eq_true rfl) (fun _ _ hu => (no3 (cd_w0 n1 han hn31 (show v < 256 by omega) hla) hu.1).elim) (fun r u hu => ?_)
            obtain ⟨⟨-, rfl⟩, s, ⟨sT, mT⟩, hh, rfl, hH⟩ := hu
            rw [tN_nI (show a < 2 ^ 31 by omega)]
            refine v_aload_n C dL_act_297 rfl ?_
            refine v_iload C dL_act_298 rfl ?_
            refine v_iload C dL_act_300 rfl ?_
            refine v_iload C dL_act_302 rfl ?_
            refine v_gVi (K := fun w => cS (xK X) g ((s, (fillM n a a (nI v) m).2), (sT, mT), rr, hh, sl, tx) ++ (w ++ dS (xK X) b (i + 1 + 1 + 1))) C (Cxt.l _ (Cxt.r _ Cxt.id)) 0 (c_X7_fill hl hIM h14 hE (a := a) (c := a + 1) (by omega) (by omega) (by rw [nI_toInt (by omega)]; omega)) ym_X7_fill ml_L_239 lm_0 rfl rfl rfl dL_act_304 (by first | omega | exact Nat.le_of_ble_eq_true rfl) (by first | omega | exact Nat.le_of_ble_eq_true rfl) (by first | omega | exact Nat.le_of_ble_eq_true rfl) (Nat.le_of_ble_eq_true rfl) (fun _ _ hu => hu.elim) (fun r u hu => ?_)
            obtain ⟨rfl, e1, rfl⟩ := hu
            rw [fillL_eq (by omega) (by omega)]
            refine v_icmp_ne C 314 dL_act_307 (by decide) (fun c307 => ?_) (fun c307 => ?_)
            · exact absurd rfl c307
            · refine v_iconst (v := nI 1) C dL_act_310 (by decide) ?_
              refine v_goto C 315 dL_act_311 (by decide) ?_
              refine v_iretG C F (by first | rfl | exact bI_nar _) dL_act_315 (by first | omega | exact Nat.le_of_ble_eq_true rfl) (by first | omega | exact Nat.le_of_ble_eq_true rfl) rfl (List.Perm.refl _) ?_
              exact ⟨rfl, (fillM n a a (nI v) m).2, e1, ((s, (fillM n a a (nI v) m).2), (sT, mT), rr, hh, sl, tx), i + 1 + 1 + 1, ⟨s, (sT, mT), rr, hh, sl, tx, _, rfl, hH⟩, hI.fill (by omega), Or.inl (fill_5 hIM).2, by omega, by rw [(fill_5 hIM).2]⟩
          · have hla : lockB m a = true := lk_t (hI.lk a han) c251
            refine v_aload_n C dL_act_254 rfl ?_
            refine v_bipush (v := nI 16) C dL_act_255 (by decide) ?_
            refine v_iload C dL_act_257 rfl ?_
            refine v_iload C dL_act_259 rfl ?_
            refine v_iconst (v := nI 0) C dL_act_261 (by decide) ?_
            refine v_gSHi (K := fun w => w ++ (lmW (xK X) h n (m, e, m 6 0) ++ dS (xK X) b (i + 1 + 1 + 1))) C (Cxt.r _ Cxt.id) (c_thrown hl (Nat.le_of_ble_eq_true rfl) (Nat.le_of_ble_eq_true rfl) (c_calls_16 (b := _) (c := _) hl (by decide) (c_X5_write hl hW hH)) (fun _ _ hu => by
                obtain ⟨_, _, hz, _⟩ := hu
                have hy := hz.1.1
                rw [(cd_w3 n1 han hn31 (show v < 256 by omega) hla)] at hy
                exact absurd hy (by decide)) (fun _ _ hp => ts_E hp.1)) ysh_L_thrown ml_L_226 rfl rfl dL_act_262 (Nat.le_of_ble_eq_true rfl) (by first | omega | exact Nat.le_of_ble_eq_true rfl) (by first | omega | exact Nat.le_of_ble_eq_true rfl) (Nat.le_of_ble_eq_true rfl) (fun _ _ hu => hu.elim) (fun r u hu => ?_)
            obtain ⟨e9, u9, hp, rfl, rfl⟩ := hu
            rw [show exN e9 = 3 from ex_3 ((cd_w3 n1 han hn31 (show v < 256 by omega) hla)) hp.1]
            obtain ⟨s, ⟨sT, mT⟩, rfl⟩ := hp.2
            refine v_iconst (v := nI 3) C dL_act_265 (by decide) ?_
            refine v_icmp_ne C 287 dL_act_266 (by decide) (fun c => absurd c (by decide)) (fun c266 => ?_)
            refine v_aload_n C dL_act_269 rfl ?_
            refine v_bipush (v := nI 8) C dL_act_270 (by decide) ?_
            refine v_iload C dL_act_272 rfl ?_
            refine v_iconst (v := nI 0) C dL_act_274 (by decide) ?_
            refine v_iconst (v := nI 0) C dL_act_275 (by decide) ?_
            refine v_gSHi (K := fun w => w ++ (lmW (xK X) h n (m, e, m 6 0) ++ dS (xK X) b (i + 1 + 1 + 1))) C (Cxt.r _ Cxt.id) (c_thrown hl (Nat.le_of_ble_eq_true rfl) (Nat.le_of_ble_eq_true rfl) (c_calls_8 (b := _) (c := _) hl (by decide) (c_X5_forcedByWrite hl hW)) (fun _ _ hu => by
                obtain ⟨_, _, hz, _⟩ := hu
                have hy := hz.1.1
                rw [(cd_p3 n1 han hn31 hla)] at hy
                exact absurd hy (by decide)) (fun _ _ hp => ts_E hp.1)) ysh_L_thrown ml_L_226 rfl rfl dL_act_276 (Nat.le_of_ble_eq_true rfl) (by first | omega | exact Nat.le_of_ble_eq_true rfl) (by first | omega | exact Nat.le_of_ble_eq_true rfl) (Nat.le_of_ble_eq_true rfl) (fun _ _ hu => hu.elim) (fun r u hu => ?_)
            obtain ⟨e9, u9, hp, rfl, rfl⟩ := hu
            rw [show exN e9 = 3 from ex_3 ((cd_p3 n1 han hn31 hla)) hp.1]
            obtain ⟨s, ⟨sT, mT⟩, rfl⟩ := hp.2
            refine v_iconst (v := nI 3) C dL_act_279 (by decide) ?_
            refine v_icmp_ne C 287 dL_act_280 (by decide) (fun c => absurd c (by decide)) (fun c280 => ?_)
            refine v_iconst (v := nI 1) C dL_act_283 (by decide) ?_
            refine v_goto C 288 dL_act_284 (by decide) ?_
            refine v_iretG C F (by first | rfl | exact bI_nar _) dL_act_288 (by first | omega | exact Nat.le_of_ble_eq_true rfl) (by first | omega | exact Nat.le_of_ble_eq_true rfl) rfl (List.Perm.refl _) ?_
            exact ⟨rfl, m, e, ((s, m), (sT, mT), rr, hh, sl, tx), i + 1 + 1 + 1, ⟨s, (sT, mT), rr, hh, sl, tx, _, rfl, hH⟩, hI, Or.inl rfl, by omega, rfl⟩
      · refine v_aload_n C dL_act_135 rfl ?_
        refine v_iconst (v := nI 0) C dL_act_136 (by decide) ?_
        refine v_iload C dL_act_137 rfl ?_
        refine v_iconst (v := nI 1) C dL_act_139 (by decide) ?_
        first | refine v_isubN C dL_act_140 (by omega) ?_ | refine v_isub C dL_act_140 ?_
        refine v_gVi (K := fun w => cS (xK X) g ((s, m), (sT, mT), rr, hh, sl, tx) ++ (lmW (xK X) h n (m, e, m 6 0) ++ w)) C (Cxt.l _ (Cxt.l _ Cxt.id)) 0 (c_X6_next hl (i := i + 1 + 1 + 1) (lo := 0) (hi := (n - 1)) (by omega) (by omega) (by omega) h31) ym_X6_next ml_L_217 rfl rfl rfl rfl dL_act_141 (by first | omega | exact Nat.le_of_ble_eq_true rfl) (by first | omega | exact Nat.le_of_ble_eq_true rfl) (by first | omega | exact Nat.le_of_ble_eq_true rfl) (Nat.le_of_ble_eq_true rfl) (fun _ _ hu => hu.elim) (fun r u hu => ?_)
        obtain ⟨rfl, rfl⟩ := hu
        have hbQ := drw_in (κ := (xK X)) (i := i + 1 + 1 + 1) (a := 0) (b := (n - 1)) (by omega)
        generalize drw (xK X) (i + 1 + 1 + 1) (0) ((n - 1)) = Q at hbQ ⊢
        refine v_istore C (lo2 := [some _, some _, some _, some _, some _, some _, some _, some _, some _, none, none]) dL_act_144 rfl (Nat.le_of_ble_eq_true rfl) rfl ?_
        refine v_aload_n C dL_act_146 rfl ?_
        refine v_iconst (v := nI 1) C dL_act_147 (by decide) ?_
        refine v_iload C dL_act_148 rfl ?_
        refine v_gVi (K := fun w => cS (xK X) g ((s, m), (sT, mT), rr, hh, sl, tx) ++ (lmW (xK X) h n (m, e, m 6 0) ++ w)) C (Cxt.l _ (Cxt.l _ Cxt.id)) 0 (c_X6_next hl (i := i + 1 + 1 + 1 + 1) (lo := 1) (hi := n) (by omega) (by omega) (by omega) h31) ym_X6_next ml_L_217 rfl rfl rfl rfl dL_act_150 (by first | omega | exact Nat.le_of_ble_eq_true rfl) (by first | omega | exact Nat.le_of_ble_eq_true rfl) (by first | omega | exact Nat.le_of_ble_eq_true rfl) (Nat.le_of_ble_eq_true rfl) (fun _ _ hu => hu.elim) (fun r u hu => ?_)
        obtain ⟨rfl, rfl⟩ := hu
        have hbK := drw_in (κ := (xK X)) (i := i + 1 + 1 + 1 + 1) (a := 1) (b := n) (by omega)
        generalize drw (xK X) (i + 1 + 1 + 1 + 1) (1) (n) = K at hbK ⊢
        have hQn : Q < n := by omega
        have hKn : 1 ≤ K ∧ K ≤ n := by omega
        refine v_istore C (lo2 := [some _, some _, some _, some _, some _, some _, some _, some _, some _, some _, none]) dL_act_153 rfl (Nat.le_of_ble_eq_true rfl) rfl ?_
        refine v_aload_n C dL_act_155 rfl ?_
        refine v_iload C dL_act_156 rfl ?_
        refine v_iload C dL_act_158 rfl ?_
        refine v_iload C dL_act_160 rfl ?_
        refine v_gVi (K := fun w => cS (xK X) g ((s, m), (sT, mT), rr, hh, sl, tx) ++ (w ++ dS (xK X) b (i + 1 + 1 + 1 + 1 + 1))) C (Cxt.l _ (Cxt.r _ Cxt.id)) 0 (c_X7_why hl h14 (by omega) (by omega) (by omega) hI.lk) ym_X7_why ml_L_230 lm_0 rfl rfl rfl dL_act_162 (by first | omega | exact Nat.le_of_ble_eq_true rfl) (by first | omega | exact Nat.le_of_ble_eq_true rfl) (by first | omega | exact Nat.le_of_ble_eq_true rfl) (Nat.le_of_ble_eq_true rfl) (fun _ _ hu => hu.elim) (fun r u hu => ?_)
        obtain ⟨rfl, rfl⟩ := hu
        refine v_if_eq C 206 dL_act_165 (by decide) (fun c165 => ?_) (fun c165 => ?_)
        · have hw := why_0 (m := m) (n := n) (fr := a) (to_ := Q) (len := K) c165
          refine v_aload_n C dL_act_206 rfl ?_
          refine v_iload C dL_act_207 rfl ?_
          refine v_iload C dL_act_209 rfl ?_
          refine v_iload C dL_act_211 rfl ?_
          refine v_gVv (K := fun w => cS (xK X) g ((s, m), (sT, mT), rr, hh, sl, tx) ++ (w ++ dS (xK X) b (i + 1 + 1 + 1 + 1 + 1))) C (Cxt.l _ (Cxt.r _ Cxt.id)) 0 (c_X7_copy hl hIM h14 hE hset.1 hset.2.1 hset.2.2 hw.1 hw.2.1 (by omega) hI.2.2.1 rfl) ym_X7_copy ml_L_233 lm_0 rfl rfl rfl dL_act_213 (by first | omega | exact Nat.le_of_ble_eq_true rfl) (by first | omega | exact Nat.le_of_ble_eq_true rfl) (by first | omega | exact Nat.le_of_ble_eq_true rfl) (Nat.le_of_ble_eq_true rfl) (fun _ _ hu => hu.elim) (fun r u hu => ?_)
          obtain ⟨e1, rfl⟩ := hu
          have hcp := hI.cop hk6 (show 0 < K by omega) hw.1 hw.2.1
          refine v_aload_n C dL_act_216 rfl ?_
          refine v_iload C dL_act_217 rfl ?_
          refine v_iload C dL_act_219 rfl ?_
          refine v_iload C dL_act_221 rfl ?_
          refine v_kVi (K := fun w => w ++ (lmW (xK X) h n ((copyM n a Q K m), e1, (m 6 0 + nI 1)) ++ dS (xK X) b (i + 1 + 1 + 1 + 1 + 1))) C (Cxt.r _ Cxt.id) (c_X5_copy hl (c := cM) hW hH) ym_X5_copy ml_L_82 fix_cS cS_0 rfl rfl rfl dL_act_223 (by first | omega | exact Nat.le_of_ble_eq_true rfl) (by first | omega | exact Nat.le_of_ble_eq_true rfl) (by first | omega | exact Nat.le_of_ble_eq_true rfl) (Nat.le_of_ble_eq_true rfl) (fun _ _ hu => (noA (cd_c0 n1 hI.n7 hn96 hKn.1 hw) hu.1).elim) (fun r u hu => ?_)
          obtain ⟨⟨-, rfl⟩, s, ⟨sT, mT⟩, hh, rfl, hH⟩ := hu
          rw [tN_nI (show a < 2 ^ 31 by omega), tN_nI (show Q < 2 ^ 31 by omega), tN_nI (show K < 2 ^ 31 by omega)]
          refine v_aload_n C dL_act_226 rfl ?_
          refine v_gFN (K := fun w => cS (xK X) g ((s, (copyM n a Q K m)), (sT, mT), rr, hh, sl, tx) ++ (w ++ dS (xK X) b (i + 1 + 1 + 1 + 1 + 1))) C (Cxt.l _ (Cxt.r _ Cxt.id)) (v := .int (m 6 0 + nI 1)) 0 fln_L_236 lm_0 rfl dL_act_227 ?_
          refine v_iconst (v := nI 1) C dL_act_230 (by decide) ?_
          refine v_isub C dL_act_231 ?_
          refine v_icmp_ne C 239 dL_act_232 (by decide) (fun c232 => ?_) (fun c232 => ?_)
          · exact absurd p1_eq c232
          · refine v_iconst (v := nI 1) C dL_act_235 (by decide) ?_
            refine v_goto C 240 dL_act_236 (by decide) ?_
            refine v_iretG C F (by first | rfl | exact bI_nar _) dL_act_240 (by first | omega | exact Nat.le_of_ble_eq_true rfl) (by first | omega | exact Nat.le_of_ble_eq_true rfl) rfl (List.Perm.refl _) ?_
            exact ⟨rfl, (copyM n a Q K m), e1, ((s, (copyM n a Q K m)), (sT, mT), rr, hh, sl, tx), i + 1 + 1 + 1 + 1 + 1, ⟨s, (sT, mT), rr, hh, sl, tx, _, rfl, hH⟩, hcp.1, Or.inr hcp.2, by omega, by rw [hcp.2]⟩
        · have hwz : ¬ whyN m n a Q K = 0 := fun z => c165 (congrArg nI z)
          refine v_aload_n C dL_act_168 rfl ?_
          refine v_bipush (v := nI 15) C dL_act_169 (by decide) ?_
          refine v_iload C dL_act_171 rfl ?_
          refine v_iload C dL_act_173 rfl ?_
          refine v_iload C dL_act_175 rfl ?_
          refine v_gSHi (K := fun w => w ++ (lmW (xK X) h n (m, e, m 6 0) ++ dS (xK X) b (i + 1 + 1 + 1 + 1 + 1))) C (Cxt.r _ Cxt.id) (c_thrown hl (Nat.le_of_ble_eq_true rfl) (Nat.le_of_ble_eq_true rfl) (c_calls_15 (b := _) (c := _) hl (by decide) (c_X5_copy hl hW hH)) (fun _ _ hu => by
              obtain ⟨_, _, hz, _⟩ := hu
              have hy := hz.1.1
              rw [(cd_c2 n1 hI.n7 hn96 han hQn hKn hwz)] at hy
              exact absurd hy (by decide)) (fun _ _ hp => tA_E hp.1)) ysh_L_thrown ml_L_226 rfl rfl dL_act_177 (Nat.le_of_ble_eq_true rfl) (by first | omega | exact Nat.le_of_ble_eq_true rfl) (by first | omega | exact Nat.le_of_ble_eq_true rfl) (Nat.le_of_ble_eq_true rfl) (fun _ _ hu => hu.elim) (fun r u hu => ?_)
          obtain ⟨e9, u9, hp, rfl, rfl⟩ := hu
          rw [show exN e9 = 3 from ex_A ((cd_c2 n1 hI.n7 hn96 han hQn hKn hwz)) hp.1]
          obtain ⟨s, ⟨sT, mT⟩, rfl⟩ := hp.2
          refine v_iconst (v := nI 3) C dL_act_180 (by decide) ?_
          refine v_icmp_ne C 204 dL_act_181 (by decide) (fun c => absurd c (by decide)) (fun c181 => ?_)
          refine v_aload_n C dL_act_184 rfl ?_
          refine v_bipush (v := nI 27) C dL_act_185 (by decide) ?_
          refine v_iload C dL_act_187 rfl ?_
          refine v_iload C dL_act_189 rfl ?_
          refine v_iload C dL_act_191 rfl ?_
          refine v_gSHi (K := fun w => w ++ (lmW (xK X) h n (m, e, m 6 0) ++ dS (xK X) b (i + 1 + 1 + 1 + 1 + 1))) C (Cxt.r _ Cxt.id) (c_thrown hl (Nat.le_of_ble_eq_true rfl) (Nat.le_of_ble_eq_true rfl) (c_calls_27 (b := _) (c := _) hl (by decide) (c_X5_costOfCopy hl hW)) (fun _ _ hu => by
              obtain ⟨_, _, hz, _⟩ := hu
              have hy := hz.1.1
              rw [(cd_c2 n1 hI.n7 hn96 han hQn hKn hwz)] at hy
              exact absurd hy (by decide)) (fun _ _ hp => tA_E hp.1)) ysh_L_thrown ml_L_226 rfl rfl dL_act_193 (Nat.le_of_ble_eq_true rfl) (by first | omega | exact Nat.le_of_ble_eq_true rfl) (by first | omega | exact Nat.le_of_ble_eq_true rfl) (Nat.le_of_ble_eq_true rfl) (fun _ _ hu => hu.elim) (fun r u hu => ?_)
          obtain ⟨e9, u9, hp, rfl, rfl⟩ := hu
          rw [show exN e9 = 3 from ex_A ((cd_c2 n1 hI.n7 hn96 han hQn hKn hwz)) hp.1]
          obtain ⟨s, ⟨sT, mT⟩, rfl⟩ := hp.2
          refine v_iconst (v := nI 3) C dL_act_196 (by decide) ?_
          refine v_icmp_ne C 204 dL_act_197 (by decide) (fun c => absurd c (by decide)) (fun c197 => ?_)
          refine v_iconst (v := nI 1) C dL_act_200 (by decide) ?_
          refine v_goto C 205 dL_act_201 (by decide) ?_
          refine v_iretG C F (by first | rfl | exact bI_nar _) dL_act_205 (by first | omega | exact Nat.le_of_ble_eq_true rfl) (by first | omega | exact Nat.le_of_ble_eq_true rfl) rfl (List.Perm.refl _) ?_
          exact ⟨rfl, m, e, ((s, m), (sT, mT), rr, hh, sl, tx), i + 1 + 1 + 1 + 1 + 1, ⟨s, (sT, mT), rr, hh, sl, tx, _, rfl, hH⟩, hI, Or.inl rfl, by omega, rfl⟩
    · refine v_aload C dL_act_66 rfl ?_
      refine v_gFN (K := fun w => cS (xK X) g ((s, m), (sT, mT), rr, hh, sl, tx) ++ (w ++ dS (xK X) b (i + 1 + 1 + 1))) C (Cxt.l _ (Cxt.r _ Cxt.id)) (v := va_rf (srcV h m a)) (5 + a) fln_L_190 (plc_at han) rfl dL_act_68 ?_
      refine v_ifnonnull C (x := (srcV h m a)) 94 dL_act_71 (by decide) (fun a71 c71 => ?_) (fun c71 => ?_)
      · have ho : owb m a = true := owb_t.mpr (srcV_yes c71).1
        refine v_aload C dL_act_94 rfl ?_
        refine v_gVi (K := fun w => cS (xK X) g ((s, m), (sT, mT), rr, hh, sl, tx) ++ (w ++ dS (xK X) b (i + 1 + 1 + 1))) C (Cxt.l _ (Cxt.r _ Cxt.id)) (5 + a) (c_X8_hops hl hIM h14 han) ym_X8_hops ml_L_209 (plc_at han) rfl rfl rfl dL_act_96 (by first | omega | exact Nat.le_of_ble_eq_true rfl) (by first | omega | exact Nat.le_of_ble_eq_true rfl) (by first | omega | exact Nat.le_of_ble_eq_true rfl) (Nat.le_of_ble_eq_true rfl) (fun _ _ hu => hu.elim) (fun r u hu => ?_)
        obtain ⟨rfl, rfl⟩ := hu
        refine v_iconst (v := nI 1) C dL_act_99 (by decide) ?_
        refine v_isub C dL_act_100 ?_
        refine v_istore C (lo2 := [some _, some _, some _, some _, some _, some _, some _, some _, some _, none, none]) dL_act_101 rfl (Nat.le_of_ble_eq_true rfl) rfl ?_
        refine v_aload C dL_act_103 rfl ?_
        refine v_aload C dL_act_105 rfl ?_
        refine v_gVr (K := fun w => cS (xK X) g ((s, m), (sT, mT), rr, hh, sl, tx) ++ (w ++ dS (xK X) b (i + 1 + 1 + 1))) C (Cxt.l _ (Cxt.r _ Cxt.id)) (5 + a) (c_X8_root hl hIM h14 han) ym_X8_root ml_L_214 (plc_at han) rfl rfl rfl dL_act_107 (by first | omega | exact Nat.le_of_ble_eq_true rfl) (by first | omega | exact Nat.le_of_ble_eq_true rfl) (by first | omega | exact Nat.le_of_ble_eq_true rfl) (Nat.le_of_ble_eq_true rfl) (fun _ _ hu => hu.elim) (fun r u hu => ?_)
        obtain ⟨rfl, rfl⟩ := hu
        refine v_pFN (K := fun w => cS (xK X) g ((s, m), (sT, mT), rr, hh, sl, tx) ++ (w ++ dS (xK X) b (i + 1 + 1 + 1))) C (Cxt.l _ (Cxt.r _ Cxt.id)) (v := va_rf (some (h (8 + (rootM m a))))) (5 + a) fln_L_190 fw_X8_3 (plc_at han) rfl rfl (Nat.le_of_ble_eq_true rfl) (set_source han (by have z := (root_end hIM a han).1; omega)) dL_act_110 ?_
        refine v_aload_n C dL_act_113 rfl ?_
        refine v_iload C dL_act_114 rfl ?_
        refine v_kVi (K := fun w => w ++ (lmW (xK X) h n ((srcM m a (nI (rootM m a))), e, m 6 0) ++ dS (xK X) b (i + 1 + 1 + 1))) C (Cxt.r _ Cxt.id) (c_X5_shorten hl (c := cM) hW hH) ym_X5_shorten ml_L_121 fix_cS cS_0 rfl rfl rfl dL_act_116 (by first | omega | exact Nat.le_of_ble_eq_true rfl) (by first | omega | exact Nat.le_of_ble_eq_true rfl) (by first | omega | exact Nat.le_of_ble_eq_true rfl) (Nat.le_of_ble_eq_true rfl) (fun _ _ hu => (no3 (cd_s0 n1 han hn31 ho) hu.1).elim) (fun r u hu => ?_)
        obtain ⟨⟨-, rfl⟩, s, ⟨sT, mT⟩, hh, rfl, hH⟩ := hu
        rw [tN_nI (show a < 2 ^ 31 by omega)]
        refine v_iload C dL_act_119 rfl ?_
        refine v_icmp_ne C 128 dL_act_121 (by decide) (fun c121 => ?_) (fun c121 => ?_)
        · exact absurd rfl c121
        · refine v_iconst (v := nI 1) C dL_act_124 (by decide) ?_
          refine v_goto C 129 dL_act_125 (by decide) ?_
          refine v_iretG C F (by first | rfl | exact bI_nar _) dL_act_129 (by first | omega | exact Nat.le_of_ble_eq_true rfl) (by first | omega | exact Nat.le_of_ble_eq_true rfl) rfl (List.Perm.refl _) ?_
          exact ⟨rfl, (srcM m a (nI (rootM m a))), e, ((s, (srcM m a (nI (rootM m a)))), (sT, mT), rr, hh, sl, tx), i + 1 + 1 + 1, ⟨s, (sT, mT), rr, hh, sl, tx, _, rfl, hH⟩, hI.short han ho, Or.inl rfl, by omega, rfl⟩
      · have ho : owb m a = false := owb_f.mpr (srcV_no.mp c71)
        refine v_aload_n C dL_act_74 rfl ?_
        refine v_bipush (v := nI 30) C dL_act_75 (by decide) ?_
        refine v_iload C dL_act_77 rfl ?_
        refine v_iconst (v := nI 0) C dL_act_79 (by decide) ?_
        refine v_iconst (v := nI 0) C dL_act_80 (by decide) ?_
        refine v_gSHi (K := fun w => w ++ (lmW (xK X) h n (m, e, m 6 0) ++ dS (xK X) b (i + 1 + 1 + 1))) C (Cxt.r _ Cxt.id) (c_thrown hl (Nat.le_of_ble_eq_true rfl) (Nat.le_of_ble_eq_true rfl) (c_calls_30 (b := _) (c := _) hl (by decide) (c_X5_shorten hl hW hH)) (fun _ _ hu => by
            obtain ⟨_, _, hz, _⟩ := hu
            have hy := hz.1.1
            rw [(cd_s3 n1 han hn31 ho)] at hy
            exact absurd hy (by decide)) (fun _ _ hp => ts_E hp.1)) ysh_L_thrown ml_L_226 rfl rfl dL_act_81 (Nat.le_of_ble_eq_true rfl) (by first | omega | exact Nat.le_of_ble_eq_true rfl) (by first | omega | exact Nat.le_of_ble_eq_true rfl) (Nat.le_of_ble_eq_true rfl) (fun _ _ hu => hu.elim) (fun r u hu => ?_)
        obtain ⟨e9, u9, hp, rfl, rfl⟩ := hu
        rw [show exN e9 = 3 from ex_3 ((cd_s3 n1 han hn31 ho)) hp.1]
        obtain ⟨s, ⟨sT, mT⟩, rfl⟩ := hp.2
        refine v_iconst (v := nI 3) C dL_act_84 (by decide) ?_
        refine v_icmp_ne C 92 dL_act_85 (by decide) (fun c => absurd c (by decide)) (fun c85 => ?_)
        refine v_iconst (v := nI 1) C dL_act_88 (by decide) ?_
        refine v_goto C 93 dL_act_89 (by decide) ?_
        refine v_iretG C F (by first | rfl | exact bI_nar _) dL_act_93 (by first | omega | exact Nat.le_of_ble_eq_true rfl) (by first | omega | exact Nat.le_of_ble_eq_true rfl) rfl (List.Perm.refl _) ?_
        exact ⟨rfl, m, e, ((s, m), (sT, mT), rr, hh, sl, tx), i + 1 + 1 + 1, ⟨s, (sT, mT), rr, hh, sl, tx, _, rfl, hH⟩, hI, Or.inl rfl, by omega, rfl⟩
  · refine v_aload_n C dL_act_51 rfl ?_
    refine v_aload_n C dL_act_52 rfl ?_
    refine v_aload_n C dL_act_53 rfl ?_
    refine v_iload C dL_act_54 rfl ?_
    refine v_gSi (K := fun w => w) C Cxt.id (c_L_moves hl (cM := cM) (i := i + 1 + 1 + 1) ⟨s, (sT, mT), rr, hh, sl, tx, _, rfl, hH⟩ hW hI n1 hk6 h31 (by omega) han) ys_L_moves ml_L_222 rfl rfl dL_act_56 (by first | omega | exact Nat.le_of_ble_eq_true rfl) (by first | omega | exact Nat.le_of_ble_eq_true rfl) (by first | omega | exact Nat.le_of_ble_eq_true rfl) (Nat.le_of_ble_eq_true rfl) (fun _ _ hu => hu.elim) (fun r u hu => ?_)
    obtain ⟨rfl, m1, e1, u1, i1, hG1, hI1, h61, hi1, rfl⟩ := hu
    refine v_iretG C F (by first | rfl | exact bI_nar _) dL_act_59 (by first | omega | exact Nat.le_of_ble_eq_true rfl) (by first | omega | exact Nat.le_of_ble_eq_true rfl) rfl (List.Perm.refl _) ?_
    exact ⟨rfl, m1, e1, u1, i1, hG1, hI1, h61, by omega, rfl⟩

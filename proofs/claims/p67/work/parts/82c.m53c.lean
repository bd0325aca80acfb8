set_option maxHeartbeats 2000000 in
theorem vl_C {X : Cx} {g h e : Nat → Nat} {n cM : Nat} {m : Mg} {u : Cg} {b i a c Q K0 N0 : Nat}  (hl : (xl X).stackTraces = false) (C : Ok SS MM X RL cL_values 25 17 5000 70000) (F : FinG X (some FieldType.boolean) ri (fun r w => r = nI 1 ∧ ∃ u' i', GU m u' ∧ i' ≤ i + 10 ∧ w = cS (xK X) g u' ++ (lmW (xK X) h n (m, e, m 6 0) ++ dS (xK X) b i')) (fun _ _ => False) 5000 70000) (hG : GU m u) (hW : WM n cM m) (hI : LI n m) (n1 : ¬ n = 0) (hac : a ≤ c ∧ c < n) (hQ : Q < n) (hK0 : K0 ≤ 50) (hN0 : N0 ≤ 300)  : V X iW 568 [some (.ref (g 0)), some (.ref (h 0)), none, some (.int (nI n)), some (.int (nI a)), some (.int (nI c)), none, none, some (.int (nI Q)), none, none, none, none, none, none, none, none, none, none, none, none, none, none, none, none] [] (cS (xK X) g u ++ (lmW (xK X) h n (m, e, m 6 0) ++ dS (xK X) b (i + 1 + 1 + 1 + 1))) K0 N0 := by
  obtain ⟨s, ⟨sT, mT⟩, rr, hh, sl, tx, L0, rfl, hH⟩ := hG
  have h14 := hI.1
  have hIM := hI.im
  have hE := hI.ev
  have hset := hI.set
  have hn31 : n < 2 ^ 31 := by omega
  have hn96 : n ≤ 96 := by omega
  refine v_iload_n C dL_values_568 rfl ?_
  refine v_iload C dL_values_569 rfl ?_
  refine v_iload C dL_values_571 rfl ?_
  refine v_mmax (z := nI (max a Q)) C ml_L_326 w_maxS w_mI w_maxC rfl (Nat.le_of_ble_eq_true rfl) dL_values_573 (by first | omega | exact Nat.le_of_ble_eq_true rfl) (by first | omega | exact Nat.le_of_ble_eq_true rfl) ?_ ?_
  · exact nI_max (by omega) (by omega)
  first | refine v_isubN C dL_values_576 (by omega) ?_ | refine v_isub C dL_values_576 ?_
  obtain ⟨K, hK⟩ : ∃ K, K = n - max a Q := ⟨_, rfl⟩
  rw [← hK]
  have hKn : a + K ≤ n ∧ Q + K ≤ n ∧ 1 ≤ K ∧ (a + K = n ∨ Q + K = n) := by omega
  refine v_istore C (lo2 := [some _, some _, none, some _, some _, some _, none, none, some _, none, none, none, none, none, none, none, none, none, some _, none, none, none, none, none, none]) dL_values_577 rfl (Nat.le_of_ble_eq_true rfl) rfl ?_
  refine v_iconst (v := nI 1) C dL_values_579 (by decide) ?_
  refine v_istore C (lo2 := [some _, some _, none, some _, some _, some _, none, none, some _, none, none, none, none, none, none, none, none, none, some _, some _, none, none, none, none, none]) dL_values_580 rfl (Nat.le_of_ble_eq_true rfl) rfl ?_
  refine v_iconst (v := nI 0) C dL_values_582 (by decide) ?_
  refine v_istore C (lo2 := [some _, some _, none, some _, some _, some _, none, none, some _, none, none, none, none, none, none, none, none, none, some _, some _, some _, none, none, none, none]) dL_values_583 rfl (Nat.le_of_ble_eq_true rfl) rfl ?_
  have L585 : ∀ (t : Nat × Bool), (fun t => t.1 ≤ K ∧ (t.2 && !anyG (samB m a Q) t.1 (K - t.1)) = !anyG (samB m a Q) 0 (K - 0)) t → (fun t : Nat × Bool => V X iW 585 [some (.ref (g 0)), some (.ref (h 0)), none, some (.int (nI n)), some (.int (nI a)), some (.int (nI c)), none, none, some (.int (nI Q)), none, none, none, none, none, none, none, none, none, some (.int (nI K)), some (.int (bI t.2)), some (.int (nI t.1)), none, none, none, none] [] (cS (xK X) g ((s, m), (sT, mT), rr, hh, sl, tx) ++ (lmW (xK X) h n (m, e, m 6 0) ++ dS (xK X) b (i + 1 + 1 + 1 + 1))) K0 N0) t := by
    refine v_ind (fun t : Nat × Bool => K - t.1) ?_
    rintro ⟨k, z⟩ ih585 hI585
    try dsimp only at hI585 ⊢
    obtain ⟨i1, i2⟩ := hI585
    refine v_iload C dL_values_585 rfl ?_
    refine v_iload C dL_values_587 rfl ?_
    first | refine v_icmp_geN C 637 dL_values_589 (by decide) (by omega) (by omega) (fun c589 => ?_) (fun c589 => ?_) | refine v_icmp_ge C 637 dL_values_589 (by decide) (fun c589 => ?_) (fun c589 => ?_)
    · have hz : z = !anyG (samB m a Q) 0 K := by
        rw [show K - k = 0 by omega] at i2
        have i3 : (z && !false) = !anyG (samB m a Q) 0 K := i2
        rw [← i3]; simp
      refine v_aload_n C dL_values_637 rfl ?_
      refine v_iload C dL_values_638 rfl ?_
      refine v_iload C dL_values_640 rfl ?_
      refine v_iload C dL_values_642 rfl ?_
      refine v_kVi (K := fun w => w ++ (lmW (xK X) h n (m, e, m 6 0) ++ dS (xK X) b (i + 1 + 1 + 1 + 1))) C (Cxt.r _ Cxt.id) (c_X5_same hl (c := cM) hW) ym_X5_same ml_L_53 fix_cS cS_0 rfl rfl rfl dL_values_644 (by first | omega | exact Nat.le_of_ble_eq_true rfl) (by first | omega | exact Nat.le_of_ble_eq_true rfl) (by first | omega | exact Nat.le_of_ble_eq_true rfl) (Nat.le_of_ble_eq_true rfl) (fun _ _ hu => (no3 (cd_sm n1 (show a < n by omega) hQ hn31 (show K < 2 ^ 31 by omega) (if_pos (by omega))) hu.1).elim) (fun r u hu => ?_)
      obtain ⟨⟨-, rfl⟩, s, ⟨sT, mT⟩, rfl⟩ := hu
      rw [tN_nI (show a < 2 ^ 31 by omega), tN_nI (show Q < 2 ^ 31 by omega), tN_nI (show K < 2 ^ 31 by omega), ← hz]
      refine v_iload C dL_values_647 rfl ?_
      refine v_icmp_ne C 685 dL_values_649 (by decide) (fun c649 => ?_) (fun c649 => ?_)
      · exact absurd rfl c649
      · refine v_aload_n C dL_values_652 rfl ?_
        refine v_bipush (v := nI 6) C dL_values_653 (by decide) ?_
        refine v_iload C dL_values_655 rfl ?_
        refine v_iload C dL_values_657 rfl ?_
        refine v_iload C dL_values_659 rfl ?_
        refine v_iconst (v := nI 1) C dL_values_661 (by decide) ?_
        first | refine v_iaddN C dL_values_662 ?_ | refine v_iadd C dL_values_662 ?_
        refine v_gSHi (K := fun w => w ++ (lmW (xK X) h n (m, e, m 6 0) ++ dS (xK X) b (i + 1 + 1 + 1 + 1))) C (Cxt.r _ Cxt.id) (c_thrown hl (Nat.le_of_ble_eq_true rfl) (Nat.le_of_ble_eq_true rfl) (c_calls_6 (b := _) (c := _) hl (by decide) (c_X5_same hl hW)) (fun _ _ hu => by
            obtain ⟨_, _, hz, _⟩ := hu
            have hy := hz.1.1
            rw [(cd_sm n1 (show a < n by omega) hQ hn31 (show K + 1 < 2 ^ 31 by omega) (if_neg (by omega)))] at hy
            exact absurd hy (by decide)) (fun _ _ hp => ts_E hp.1)) ysh_L_thrown ml_L_226 rfl rfl dL_values_663 (Nat.le_of_ble_eq_true rfl) (by first | omega | exact Nat.le_of_ble_eq_true rfl) (by first | omega | exact Nat.le_of_ble_eq_true rfl) (Nat.le_of_ble_eq_true rfl) (fun _ _ hu => hu.elim) (fun r u hu => ?_)
        obtain ⟨e9, u9, hp, rfl, rfl⟩ := hu
        rw [show exN e9 = 3 from ex_3 ((cd_sm n1 (show a < n by omega) hQ hn31 (show K + 1 < 2 ^ 31 by omega) (if_neg (by omega)))) hp.1]
        obtain ⟨s, ⟨sT, mT⟩, rfl⟩ := hp.2
        refine v_iconst (v := nI 3) C dL_values_666 (by decide) ?_
        refine v_icmp_ne C 685 dL_values_667 (by decide) (fun c => absurd c (by decide)) (fun c667 => ?_)
        refine v_aload_n C dL_values_670 rfl ?_
        refine v_bipush (v := nI 6) C dL_values_671 (by decide) ?_
        refine v_iload C dL_values_673 rfl ?_
        refine v_iload C dL_values_675 rfl ?_
        refine v_iconst (v := nI 0) C dL_values_677 (by decide) ?_
        refine v_gSHi (K := fun w => w ++ (lmW (xK X) h n (m, e, m 6 0) ++ dS (xK X) b (i + 1 + 1 + 1 + 1))) C (Cxt.r _ Cxt.id) (c_thrown hl (Nat.le_of_ble_eq_true rfl) (Nat.le_of_ble_eq_true rfl) (c_calls_6 (b := _) (c := _) hl (by decide) (c_X5_same hl hW)) (fun _ _ hu => by
            obtain ⟨_, _, hz, _⟩ := hu
            have hy := hz.1.1
            rw [(cd_sm n1 (show a < n by omega) hQ hn31 (show 0 < 2 ^ 31 by omega) (if_neg (by omega)))] at hy
            exact absurd hy (by decide)) (fun _ _ hp => ts_E hp.1)) ysh_L_thrown ml_L_226 rfl rfl dL_values_678 (Nat.le_of_ble_eq_true rfl) (by first | omega | exact Nat.le_of_ble_eq_true rfl) (by first | omega | exact Nat.le_of_ble_eq_true rfl) (Nat.le_of_ble_eq_true rfl) (fun _ _ hu => hu.elim) (fun r u hu => ?_)
        obtain ⟨e9, u9, hp, rfl, rfl⟩ := hu
        rw [show exN e9 = 3 from ex_3 ((cd_sm n1 (show a < n by omega) hQ hn31 (show 0 < 2 ^ 31 by omega) (if_neg (by omega)))) hp.1]
        obtain ⟨s, ⟨sT, mT⟩, rfl⟩ := hp.2
        refine v_iconst (v := nI 3) C dL_values_681 (by decide) ?_
        refine v_icmp_eq C 687 dL_values_682 (by decide) (fun c682 => ?_) (fun c => absurd c (by decide))
        refine V.sub (lo2 := [some _, some _, none, none, none, some _, none, none, none, none, none, none, none, none, none, none, none, none, none, none, none, none, none, none, none]) ⟨rfl, rfl, rfl, trivial⟩ ?_
        exact vl_D (a := a) (Q := Q) hl C F ⟨s, (sT, mT), rr, hh, sl, tx, _, rfl, hH⟩ hW hI n1 hac hQ (by omega) (by omega)
    · have hkK : k < K := by omega
      refine v_iload C dL_values_592 rfl ?_
      refine v_aload_n C dL_values_594 rfl ?_
      refine v_gFN (K := fun w => cS (xK X) g ((s, m), (sT, mT), rr, hh, sl, tx) ++ (w ++ dS (xK X) b (i + 1 + 1 + 1 + 1))) C (Cxt.l _ (Cxt.r _ Cxt.id)) (v := .ref (h 1)) 0 fln_L_154 lm_0 rfl dL_values_595 ?_
      refine v_iload C dL_values_598 rfl ?_
      refine v_iload C dL_values_600 rfl ?_
      first | refine v_iaddN C dL_values_602 ?_ | refine v_iadd C dL_values_602 ?_
      refine v_gP (K := fun w => cS (xK X) g ((s, m), (sT, mT), rr, hh, sl, tx) ++ (w ++ dS (xK X) b (i + 1 + 1 + 1 + 1))) C (Cxt.l _ (Cxt.r _ Cxt.id)) (x := (some (h (8 + (a + k))))) 1 lm_1 (by first | decide | omega) (a + k) (if_pos (by omega)) ?_ rfl dL_values_603 ?_
      · omega
      refine v_gVi (K := fun w => cS (xK X) g ((s, m), (sT, mT), rr, hh, sl, tx) ++ (w ++ dS (xK X) b (i + 1 + 1 + 1 + 1))) C (Cxt.l _ (Cxt.r _ Cxt.id)) (5 + (a + k)) (c_X8_value hl hIM h14 (by omega)) ym_X8_value ml_L_185 (plc_at (by omega)) rfl rfl rfl dL_values_604 (by first | omega | exact Nat.le_of_ble_eq_true rfl) (by first | omega | exact Nat.le_of_ble_eq_true rfl) (by first | omega | exact Nat.le_of_ble_eq_true rfl) (Nat.le_of_ble_eq_true rfl) (fun _ _ hu => hu.elim) (fun r u hu => ?_)
      obtain ⟨rfl, rfl⟩ := hu
      refine v_aload_n C dL_values_607 rfl ?_
      refine v_gFN (K := fun w => cS (xK X) g ((s, m), (sT, mT), rr, hh, sl, tx) ++ (w ++ dS (xK X) b (i + 1 + 1 + 1 + 1))) C (Cxt.l _ (Cxt.r _ Cxt.id)) (v := .ref (h 1)) 0 fln_L_154 lm_0 rfl dL_values_608 ?_
      refine v_iload C dL_values_611 rfl ?_
      refine v_iload C dL_values_613 rfl ?_
      first | refine v_iaddN C dL_values_615 ?_ | refine v_iadd C dL_values_615 ?_
      refine v_gP (K := fun w => cS (xK X) g ((s, m), (sT, mT), rr, hh, sl, tx) ++ (w ++ dS (xK X) b (i + 1 + 1 + 1 + 1))) C (Cxt.l _ (Cxt.r _ Cxt.id)) (x := (some (h (8 + (Q + k))))) 1 lm_1 (by first | decide | omega) (Q + k) (if_pos (by omega)) ?_ rfl dL_values_616 ?_
      · omega
      refine v_gVi (K := fun w => cS (xK X) g ((s, m), (sT, mT), rr, hh, sl, tx) ++ (w ++ dS (xK X) b (i + 1 + 1 + 1 + 1))) C (Cxt.l _ (Cxt.r _ Cxt.id)) (5 + (Q + k)) (c_X8_value hl hIM h14 (by omega)) ym_X8_value ml_L_185 (plc_at (by omega)) rfl rfl rfl dL_values_617 (by first | omega | exact Nat.le_of_ble_eq_true rfl) (by first | omega | exact Nat.le_of_ble_eq_true rfl) (by first | omega | exact Nat.le_of_ble_eq_true rfl) (Nat.le_of_ble_eq_true rfl) (fun _ _ hu => hu.elim) (fun r u hu => ?_)
      obtain ⟨rfl, rfl⟩ := hu
      refine v_icmp_ne C 627 dL_values_620 (by decide) (fun c620 => ?_) (fun c620 => ?_)
      · refine v_iconst (v := nI 0) C dL_values_627 (by decide) ?_
        refine v_iand C dL_values_628 ?_
        rw [bI_and0]
        refine v_istore C (lo2 := [some _, some _, none, some _, some _, some _, none, none, some _, none, none, none, none, none, none, none, none, none, some _, some _, some _, none, none, none, none]) dL_values_629 rfl (Nat.le_of_ble_eq_true rfl) rfl ?_
        first | refine v_iinc1 C (lo2 := [some _, some _, none, some _, some _, some _, none, none, some _, none, none, none, none, none, none, none, none, none, some _, some _, some _, none, none, none, none]) dL_values_631 rfl rfl rfl ?_ | refine v_iinc C (lo2 := [some _, some _, none, some _, some _, some _, none, none, some _, none, none, none, none, none, none, none, none, none, some _, some _, some _, none, none, none, none]) dL_values_631 rfl rfl rfl rfl ?_
        refine v_goto C 585 dL_values_634 (by decide) ?_
        rw [sam_s hkK, show (valM m (a + k) == valM m (Q + k)) = false from beq_eq_false_iff_ne.mpr c620, Bool.and_false] at i2
        exact ih585 (k + 1, false) (by show K - (k + 1) < K - k; omega) ⟨by show k + 1 ≤ K; omega, i2⟩
      · refine v_iconst (v := nI 1) C dL_values_623 (by decide) ?_
        refine v_goto C 628 dL_values_624 (by decide) ?_
        refine v_iand C dL_values_628 ?_
        rw [bI_and1]
        refine v_istore C (lo2 := [some _, some _, none, some _, some _, some _, none, none, some _, none, none, none, none, none, none, none, none, none, some _, some _, some _, none, none, none, none]) dL_values_629 rfl (Nat.le_of_ble_eq_true rfl) rfl ?_
        first | refine v_iinc1 C (lo2 := [some _, some _, none, some _, some _, some _, none, none, some _, none, none, none, none, none, none, none, none, none, some _, some _, some _, none, none, none, none]) dL_values_631 rfl rfl rfl ?_ | refine v_iinc C (lo2 := [some _, some _, none, some _, some _, some _, none, none, some _, none, none, none, none, none, none, none, none, none, some _, some _, some _, none, none, none, none]) dL_values_631 rfl rfl rfl rfl ?_
        refine v_goto C 585 dL_values_634 (by decide) ?_
        rw [sam_s hkK, show (valM m (a + k) == valM m (Q + k)) = true from beq_iff_eq.mpr c620, Bool.and_true] at i2
        exact ih585 (k + 1, z) (by show K - (k + 1) < K - k; omega) ⟨by show k + 1 ≤ K; omega, i2⟩
  exact L585 (0, true) ⟨Nat.zero_le _, Bool.true_and _⟩

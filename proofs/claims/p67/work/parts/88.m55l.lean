set_option maxHeartbeats 2000000 in
theorem lw_step {X : Cx} {g h e : Nat → Nat} {n bs d i K0 N0 : Nat} {m : Mg} {u : Cg} {t r T : Nat} (hl : (xl X).stackTraces = false) (C : Ok SS MM X RL cL_law 5 30 600086 7301442) (F : FinL X bs) (hG : GU m u) (hI : LI n m) (hK0 : K0 ≤ 4000 + 10300 * T) (hN0 : N0 ≤ 200000 + 216500 * T) (ht : t = r + 1) (ht2 : t ≤ 16) (hT : T + t ≤ 16) (h31 : (xK X).2.2.2 999 < 2 ^ 20) (hi : i ≤ 200 + 30 * T) (hk6 : ∃ j, j ≤ 10 + T ∧ m 6 0 = nI j) (IH : ∀ {m2 : Mg} {e2 : Nat → Nat} {u2 : Cg} {i3 K1 N1 : Nat}, LI n m2 → GU m2 u2 → (∃ j, j ≤ 10 + (T + 1) ∧ m2 6 0 = nI j) → i3 ≤ 200 + 30 * (T + 1) → K1 ≤ 4000 + 10300 * (T + 1) → N1 ≤ 200000 + 216500 * (T + 1) → V X iW 153 [some (.ref bs), some (.ref d), some (.ref (h 0)), some (.ref (g 0)), some (.int (nI r))] [] (cS (xK X) g u2 ++ (lmW (xK X) h n (m2, e2, m2 6 0) ++ dS (xK X) d i3)) K1 N1) : V X iW 153 [some (.ref bs), some (.ref d), some (.ref (h 0)), some (.ref (g 0)), some (.int (nI t))] [] (cS (xK X) g u ++ (lmW (xK X) h n (m, e, m 6 0) ++ dS (xK X) d i)) K0 N0 := by
  obtain ⟨s, ⟨sT, mT⟩, rr, hh, sl, tx, L0, rfl, hH⟩ := hG
  obtain ⟨cM, hW⟩ := hI.wm
  have n1 := hI.n1
  have h14 := hI.1
  have hIM := hI.im
  have hn31 : n < 2 ^ 31 := by omega
  subst ht
  refine v_iload C dL_law_153 rfl ?_
  refine v_if_le C 200 dL_law_155 (by decide) (fun c155 => ?_) (fun c155 => ?_)
  · rw [nI_toInt (by omega)] at c155
    omega
  · refine v_aload_n C dL_law_158 rfl ?_
    refine v_aload_n C dL_law_159 rfl ?_
    refine V.stt (g2 := (cS (xK X) g ((s, m), (sT, mT), rr, hh, sl, tx) ++ lmW (xK X) h n (m, e, m 6 0)) ++ dS (xK X) d i) (List.append_assoc _ _ _).symm ?_
    refine v_gSi (K := fun w => w ++ dS (xK X) d i) C (Cxt.r _ Cxt.id) (c_L_debts hl ⟨s, (sT, mT), rr, hh, sl, tx, _, rfl, hH⟩ hW hI n1) ys_L_debts ml_L_372 rfl rfl dL_law_160 (by first | omega | exact Nat.le_of_ble_eq_true rfl) (by first | omega | exact Nat.le_of_ble_eq_true rfl) (by first | omega | exact Nat.le_of_ble_eq_true rfl) (Nat.le_of_ble_eq_true rfl) (fun _ _ hu => hu.elim) (fun r u hu => ?_)
    obtain ⟨rfl, u, hG, rfl⟩ := hu
    obtain ⟨s, ⟨sT, mT⟩, rr, hh, sl, tx, L0, rfl, hH⟩ := hG
    rw [List.append_assoc]
    refine v_if_eq C 192 dL_law_163 (by decide) (fun c => absurd c (by decide)) (fun c163 => ?_)
    refine v_aload_n C dL_law_166 rfl ?_
    refine v_aload_n C dL_law_167 rfl ?_
    refine v_aload_n C dL_law_168 rfl ?_
    refine v_gSi (K := fun w => w) C Cxt.id (c_L_values hl ⟨s, (sT, mT), rr, hh, sl, tx, _, rfl, hH⟩ hW hI n1 (by obtain ⟨j, hj, e6⟩ := hk6; exact ⟨j, by omega, e6⟩) h31 (by omega)) ys_L_values ml_L_374 rfl rfl dL_law_169 (by first | omega | exact Nat.le_of_ble_eq_true rfl) (by first | omega | exact Nat.le_of_ble_eq_true rfl) (by first | omega | exact Nat.le_of_ble_eq_true rfl) (Nat.le_of_ble_eq_true rfl) (fun _ _ hu => hu.elim) (fun r u hu => ?_)
    obtain ⟨rfl, u, i2, hG, hi2, rfl⟩ := hu
    obtain ⟨s, ⟨sT, mT⟩, rr, hh, sl, tx, L0, rfl, hH⟩ := hG
    refine v_if_eq C 192 dL_law_172 (by decide) (fun c => absurd c (by decide)) (fun c172 => ?_)
    refine v_aload_n C dL_law_175 rfl ?_
    refine v_aload_n C dL_law_176 rfl ?_
    refine v_aload_n C dL_law_177 rfl ?_
    refine v_gSi (K := fun w => w) C Cxt.id (c_L_act hl ⟨s, (sT, mT), rr, hh, sl, tx, _, rfl, hH⟩ hW hI n1 (by obtain ⟨j, hj, e6⟩ := hk6; exact ⟨j, by omega, e6⟩) h31 (by omega)) ys_L_act ml_L_378 rfl rfl dL_law_178 (by first | omega | exact Nat.le_of_ble_eq_true rfl) (by first | omega | exact Nat.le_of_ble_eq_true rfl) (by first | omega | exact Nat.le_of_ble_eq_true rfl) (Nat.le_of_ble_eq_true rfl) (fun _ _ hu => hu.elim) (fun r u hu => ?_)
    obtain ⟨rfl, m2, e2, u, i3, hG, hI2, h6, hi3, rfl⟩ := hu
    obtain ⟨s, ⟨sT, mT⟩, rr, hh, sl, tx, L0, rfl, hH⟩ := hG
    obtain ⟨cM2, hW2⟩ := hI2.wm
    have n2 := hI2.n1
    have hk62 : ∃ j, j ≤ 10 + (T + 1) ∧ m2 6 0 = nI j := by
      obtain ⟨j, hj, e6⟩ := hk6
      rcases h6 with h6 | h6
      · exact ⟨j, by omega, h6.trans e6⟩
      · exact ⟨j + 1, by omega, by rw [h6, e6, nI_add]⟩
    refine v_if_eq C 192 dL_law_181 (by decide) (fun c => absurd c (by decide)) (fun c181 => ?_)
    refine v_aload_n C dL_law_184 rfl ?_
    refine v_aload_n C dL_law_185 rfl ?_
    refine V.stt (g2 := (cS (xK X) g ((s, m2), (sT, mT), rr, hh, sl, tx) ++ lmW (xK X) h n (m2, e2, m2 6 0)) ++ dS (xK X) d i3) (List.append_assoc _ _ _).symm ?_
    refine v_gSi (K := fun w => w ++ dS (xK X) d i3) C (Cxt.r _ Cxt.id) (c_L_isLike hl ⟨s, (sT, mT), rr, hh, sl, tx, _, rfl, hH⟩ hW2 hI2 n2) ys_L_isLike ml_L_368 rfl rfl dL_law_186 (by first | omega | exact Nat.le_of_ble_eq_true rfl) (by first | omega | exact Nat.le_of_ble_eq_true rfl) (by first | omega | exact Nat.le_of_ble_eq_true rfl) (Nat.le_of_ble_eq_true rfl) (fun _ _ hu => hu.elim) (fun r u hu => ?_)
    obtain ⟨rfl, u, hG, rfl⟩ := hu
    obtain ⟨s, ⟨sT, mT⟩, rr, hh, sl, tx, L0, rfl, hH⟩ := hG
    rw [List.append_assoc]
    refine v_if_ne C 194 dL_law_189 (by decide) (fun c189 => ?_) (fun c => absurd c (by decide))
    refine v_iinc (v := nI r) C (lo2 := [some _, some _, some _, some _, some _]) dL_law_194 rfl (nI_prd r) rfl rfl ?_
    refine v_goto C 153 dL_law_197 (by decide) ?_
    exact IH hI2 ⟨s, (sT, mT), rr, hh, sl, tx, _, rfl, hH⟩ hk62 (by omega) (by omega) (by omega)

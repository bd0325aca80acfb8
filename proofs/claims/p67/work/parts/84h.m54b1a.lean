set_option maxHeartbeats 2000000 in
theorem db_1a {X : Cx} {g h e : Nat → Nat} {n cM sq k K0 N0 : Nat} {m : Mg} {p : Int32} {u : Cg} {T : List Nat} {sv N : Nat} {D : Option Nat} (hl : (xl X).stackTraces = false) (C : Ok SS MM X RL cL_debts 17 17 4200 140000) (F : FinG X (some FieldType.boolean) ri (fun r w => r = nI 1 ∧ ∃ u', GU m u' ∧ w = cS (xK X) g u' ++ lmW (xK X) h n (m, e, p)) (fun _ _ => False) 4200 140000) (hG : GU m u) (hW : WM n cM m) (hI : LI n m) (n1 : ¬ n = 0) (hS : SbOK N T) (hTL : T.length ≤ 13 * k) (hT : T.map nI = forG (dbsS m n) 0 k []) (hK0 : K0 ≤ 10 + 60 * k + 0) (hN0 : N0 ≤ 100 + 8000 * k + 0) (hkn : k < n) (IH : DBH X g h e n m p sq (k + 1)) (hD : D = (forG (nstep m (nI 2)) 0 k none)) : V X iW 158 [some (.ref (g 0)), some (.ref (h 0)), some (.int (nI (cntG (startM m) 0 k))), some (.int (nI (cntG (stlB m) 0 k))), some (.int (nI (cntG (crdB m n) 0 k))), some (.ref sq), some (va_rf (oH h D)), some (.int (nI k)), some (.ref (h (8 + k))), some (.int (nI (cntG (depB m k false) 0 n))), some (.int (nI (cntG (depB m k true) 0 n))), none, none, none, none, none, none] [] ((cS (xK X) g u ++ sbW (xK X) sq sv N T) ++ lmW (xK X) h n (m, e, p)) K0 N0 := by
  obtain ⟨s, ⟨sT, mT⟩, rr, hh, sl, tx, L0, rfl, hH⟩ := hG
  have h14 := hI.1
  have hIM := hI.im
  have hE := hI.ev
  have hset := hI.set
  have hn31 : n < 2 ^ 31 := by omega
  have hn96 : n ≤ 96 := by omega
  have hco := cntG_le (f := depB m k false) n 0
  have hcc : crdB m n k = decide (0 < cntG (depB m k false) 0 n) := any_cnt n 0
  refine v_iload_n C dL_debts_158 rfl ?_
  refine v_aload C dL_debts_159 rfl ?_
  refine v_gFN (K := fun w => (cS (xK X) g ((s, m), (sT, mT), rr, hh, sl, tx) ++ sbW (xK X) sq sv N (T)) ++ w) C (Cxt.l _ Cxt.id) (v := .int (m 1 k)) (5 + k) fln_L_183 (plc_at hkn) rfl dL_debts_161 ?_
  refine v_aload C dL_debts_164 rfl ?_
  refine v_gVi (K := fun w => (cS (xK X) g ((s, m), (sT, mT), rr, hh, sl, tx) ++ sbW (xK X) sq sv N (T)) ++ w) C (Cxt.l _ Cxt.id) (5 + k) (c_X8_value hl hIM h14 hkn) ym_X8_value ml_L_185 (plc_at hkn) rfl rfl rfl dL_debts_166 (by first | omega | exact Nat.le_of_ble_eq_true rfl) (by first | omega | exact Nat.le_of_ble_eq_true rfl) (by first | omega | exact Nat.le_of_ble_eq_true rfl) (Nat.le_of_ble_eq_true rfl) (fun _ _ hu => hu.elim) (fun r u hu => ?_)
  obtain ⟨rfl, rfl⟩ := hu
  refine v_icmp_ne C 176 dL_debts_169 (by decide) (fun c169 => ?_) (fun c169 => ?_)
  · have hs : stlB m k = true := by unfold stlB; rw [beq_eq_false_iff_ne.mpr c169]; rfl
    refine v_iconst (v := nI 1) C dL_debts_176 (by decide) ?_
    first | refine v_iaddN C dL_debts_177 ?_ | refine v_iadd C dL_debts_177 ?_
    refine V_stk (st2 := [.int (nI (cntG (stlB m) 0 (k + 1)))]) (by rw [cnt_e, hs]; rfl) ?_
    refine v_istore_n C (lo2 := [some _, some _, some _, some _, some _, some _, some _, some _, some _, some _, some _, none, none, none, none, none, none]) dL_debts_178 rfl (Nat.le_of_ble_eq_true rfl) rfl ?_
    refine v_iload C dL_debts_179 rfl ?_
    refine v_iload C dL_debts_181 rfl ?_
    refine v_if_le C 190 dL_debts_183 (by decide) (fun c183 => ?_) (fun c183 => ?_)
    · rw [nI_toInt (by omega)] at c183
      have hc : crdB m n k = false := by rw [hcc]; exact decide_eq_false (by omega)
      refine v_iconst (v := nI 0) C dL_debts_190 (by decide) ?_
      first | refine v_iaddN C dL_debts_191 ?_ | refine v_iadd C dL_debts_191 ?_
      refine V_stk (st2 := [.int (nI (cntG (crdB m n) 0 (k + 1)))]) (by rw [cnt_e, hc]; rfl) ?_
      refine v_istore C (lo2 := [some _, some _, some _, some _, some _, some _, some _, some _, some _, some _, some _, none, none, none, none, none, none]) dL_debts_192 rfl (Nat.le_of_ble_eq_true rfl) rfl ?_
      refine V.sub (lo2 := [some _, some _, some _, some _, some _, some _, some _, some _, some _, some _, some _, none, none, none, none, none, none]) ⟨rfl, rfl, rfl, rfl, rfl, rfl, rfl, rfl, rfl, rfl, rfl, trivial⟩ ?_
      exact db_1b hl C F ⟨s, (sT, mT), rr, hh, sl, tx, _, rfl, hH⟩ hW hI n1 hS hTL hT (by omega) (by omega) hkn IH hD
    · rw [nI_toInt (by omega)] at c183
      have hc : crdB m n k = true := by rw [hcc]; exact decide_eq_true (by omega)
      refine v_iconst (v := nI 1) C dL_debts_186 (by decide) ?_
      refine v_goto C 191 dL_debts_187 (by decide) ?_
      first | refine v_iaddN C dL_debts_191 ?_ | refine v_iadd C dL_debts_191 ?_
      refine V_stk (st2 := [.int (nI (cntG (crdB m n) 0 (k + 1)))]) (by rw [cnt_e, hc]; rfl) ?_
      refine v_istore C (lo2 := [some _, some _, some _, some _, some _, some _, some _, some _, some _, some _, some _, none, none, none, none, none, none]) dL_debts_192 rfl (Nat.le_of_ble_eq_true rfl) rfl ?_
      refine V.sub (lo2 := [some _, some _, some _, some _, some _, some _, some _, some _, some _, some _, some _, none, none, none, none, none, none]) ⟨rfl, rfl, rfl, rfl, rfl, rfl, rfl, rfl, rfl, rfl, rfl, trivial⟩ ?_
      exact db_1b hl C F ⟨s, (sT, mT), rr, hh, sl, tx, _, rfl, hH⟩ hW hI n1 hS hTL hT (by omega) (by omega) hkn IH hD
  · have hs : stlB m k = false := by unfold stlB; rw [beq_iff_eq.mpr c169]; rfl
    refine v_iconst (v := nI 0) C dL_debts_172 (by decide) ?_
    refine v_goto C 177 dL_debts_173 (by decide) ?_
    first | refine v_iaddN C dL_debts_177 ?_ | refine v_iadd C dL_debts_177 ?_
    refine V_stk (st2 := [.int (nI (cntG (stlB m) 0 (k + 1)))]) (by rw [cnt_e, hs]; rfl) ?_
    refine v_istore_n C (lo2 := [some _, some _, some _, some _, some _, some _, some _, some _, some _, some _, some _, none, none, none, none, none, none]) dL_debts_178 rfl (Nat.le_of_ble_eq_true rfl) rfl ?_
    refine v_iload C dL_debts_179 rfl ?_
    refine v_iload C dL_debts_181 rfl ?_
    refine v_if_le C 190 dL_debts_183 (by decide) (fun c183 => ?_) (fun c183 => ?_)
    · rw [nI_toInt (by omega)] at c183
      have hc : crdB m n k = false := by rw [hcc]; exact decide_eq_false (by omega)
      refine v_iconst (v := nI 0) C dL_debts_190 (by decide) ?_
      first | refine v_iaddN C dL_debts_191 ?_ | refine v_iadd C dL_debts_191 ?_
      refine V_stk (st2 := [.int (nI (cntG (crdB m n) 0 (k + 1)))]) (by rw [cnt_e, hc]; rfl) ?_
      refine v_istore C (lo2 := [some _, some _, some _, some _, some _, some _, some _, some _, some _, some _, some _, none, none, none, none, none, none]) dL_debts_192 rfl (Nat.le_of_ble_eq_true rfl) rfl ?_
      refine V.sub (lo2 := [some _, some _, some _, some _, some _, some _, some _, some _, some _, some _, some _, none, none, none, none, none, none]) ⟨rfl, rfl, rfl, rfl, rfl, rfl, rfl, rfl, rfl, rfl, rfl, trivial⟩ ?_
      exact db_1b hl C F ⟨s, (sT, mT), rr, hh, sl, tx, _, rfl, hH⟩ hW hI n1 hS hTL hT (by omega) (by omega) hkn IH hD
    · rw [nI_toInt (by omega)] at c183
      have hc : crdB m n k = true := by rw [hcc]; exact decide_eq_true (by omega)
      refine v_iconst (v := nI 1) C dL_debts_186 (by decide) ?_
      refine v_goto C 191 dL_debts_187 (by decide) ?_
      first | refine v_iaddN C dL_debts_191 ?_ | refine v_iadd C dL_debts_191 ?_
      refine V_stk (st2 := [.int (nI (cntG (crdB m n) 0 (k + 1)))]) (by rw [cnt_e, hc]; rfl) ?_
      refine v_istore C (lo2 := [some _, some _, some _, some _, some _, some _, some _, some _, some _, some _, some _, none, none, none, none, none, none]) dL_debts_192 rfl (Nat.le_of_ble_eq_true rfl) rfl ?_
      refine V.sub (lo2 := [some _, some _, some _, some _, some _, some _, some _, some _, some _, some _, some _, none, none, none, none, none, none]) ⟨rfl, rfl, rfl, rfl, rfl, rfl, rfl, rfl, rfl, rfl, rfl, trivial⟩ ?_
      exact db_1b hl C F ⟨s, (sT, mT), rr, hh, sl, tx, _, rfl, hH⟩ hW hI n1 hS hTL hT (by omega) (by omega) hkn IH hD

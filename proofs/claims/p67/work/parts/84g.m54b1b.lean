set_option maxHeartbeats 2000000 in
theorem db_1b {X : Cx} {g h e : Nat → Nat} {n cM sq k K0 N0 : Nat} {m : Mg} {p : Int32} {u : Cg} {T : List Nat} {sv N : Nat} {D : Option Nat} (hl : (xl X).stackTraces = false) (C : Ok SS MM X RL cL_debts 17 17 4200 140000) (F : FinG X (some FieldType.boolean) ri (fun r w => r = nI 1 ∧ ∃ u', GU m u' ∧ w = cS (xK X) g u' ++ lmW (xK X) h n (m, e, p)) (fun _ _ => False) 4200 140000) (hG : GU m u) (hW : WM n cM m) (hI : LI n m) (n1 : ¬ n = 0) (hS : SbOK N T) (hTL : T.length ≤ 13 * k) (hT : T.map nI = forG (dbsS m n) 0 k []) (hK0 : K0 ≤ 10 + 60 * k + 0) (hN0 : N0 ≤ 100 + 8000 * k + 0) (hkn : k < n) (IH : DBH X g h e n m p sq (k + 1)) (hD : D = (forG (nstep m (nI 2)) 0 k none)) : V X iW 194 [some (.ref (g 0)), some (.ref (h 0)), some (.int (nI (cntG (startM m) 0 k))), some (.int (nI (cntG (stlB m) 0 (k + 1)))), some (.int (nI (cntG (crdB m n) 0 (k + 1)))), some (.ref sq), some (va_rf (oH h D)), some (.int (nI k)), some (.ref (h (8 + k))), some (.int (nI (cntG (depB m k false) 0 n))), some (.int (nI (cntG (depB m k true) 0 n))), none, none, none, none, none, none] [] ((cS (xK X) g u ++ sbW (xK X) sq sv N T) ++ lmW (xK X) h n (m, e, p)) K0 N0 := by
  obtain ⟨s, ⟨sT, mT⟩, rr, hh, sl, tx, L0, rfl, hH⟩ := hG
  have h14 := hI.1
  have hIM := hI.im
  have hE := hI.ev
  have hset := hI.set
  have hn31 : n < 2 ^ 31 := by omega
  have hn96 : n ≤ 96 := by omega
  refine v_aload C dL_debts_194 rfl ?_
  refine v_gFN (K := fun w => (cS (xK X) g ((s, m), (sT, mT), rr, hh, sl, tx) ++ sbW (xK X) sq sv N (T)) ++ w) C (Cxt.l _ Cxt.id) (v := va_rf (srcV h m k)) (5 + k) fln_L_190 (plc_at hkn) rfl dL_debts_196 ?_
  refine v_ifnull C (x := (srcV h m k)) 224 dL_debts_199 (by decide) (fun c199 => ?_) (fun a199 c199 => ?_)
  · have ho : owb m k = false := owb_f.mpr (srcV_no.mp c199)
    refine V.sub (lo2 := [some _, some _, some _, some _, some _, some _, some _, some _, some _, some _, some _, none, none, none, none, none, none]) ⟨rfl, rfl, rfl, rfl, rfl, rfl, rfl, rfl, rfl, rfl, rfl, trivial⟩ ?_
    exact db_1c (D := D) hl C F ⟨s, (sT, mT), rr, hh, sl, tx, _, rfl, hH⟩ hW hI n1 hS hTL hT (by omega) (by omega) hkn IH (by rw [for_e, ← hD, nst_f ho])
  · have ho : owb m k = true := owb_t.mpr (srcV_yes c199).1
    refine v_aloadq C (x := (oH h D)) dL_debts_202 rfl ?_
    cases D with
    | none =>
      refine v_ifnull C (x := none) 220 dL_debts_204 (by decide) (fun _ => ?_) (fun _ c => by cases c)
      refine v_aload C dL_debts_220 rfl ?_
      refine v_astore C (lo2 := [some _, some _, some _, some _, some _, some _, some _, some _, some _, some _, some _, none, none, none, none, none, none]) dL_debts_222 rfl (Nat.le_of_ble_eq_true rfl) rfl ?_
      refine V.sub (lo2 := [some _, some _, some _, some _, some _, some _, some _, some _, some _, some _, some _, none, none, none, none, none, none]) ⟨rfl, rfl, rfl, rfl, rfl, rfl, rfl, rfl, rfl, rfl, rfl, trivial⟩ ?_
      exact db_1c (D := some k) hl C F ⟨s, (sT, mT), rr, hh, sl, tx, _, rfl, hH⟩ hW hI n1 hS hTL hT (by omega) (by omega) hkn IH (by rw [for_e, ← hD, nst_n ho])
    | some q =>
      have hq : q < n := deep_in k (by omega) q hD.symm
      have b1 := hops_lt hIM hq
      have b2 := hops_lt hIM hkn
      refine v_ifnull C (x := some (h (8 + q))) 220 dL_debts_204 (by decide) (fun c => by cases c) (fun _ _ => ?_)
      refine v_aload C dL_debts_207 rfl ?_
      refine v_gVi (K := fun w => (cS (xK X) g ((s, m), (sT, mT), rr, hh, sl, tx) ++ sbW (xK X) sq sv N (T)) ++ w) C (Cxt.l _ Cxt.id) (5 + k) (c_X8_hops hl hIM h14 hkn) ym_X8_hops ml_L_209 (plc_at hkn) rfl rfl rfl dL_debts_209 (by first | omega | exact Nat.le_of_ble_eq_true rfl) (by first | omega | exact Nat.le_of_ble_eq_true rfl) (by first | omega | exact Nat.le_of_ble_eq_true rfl) (Nat.le_of_ble_eq_true rfl) (fun _ _ hu => hu.elim) (fun r u hu => ?_)
      obtain ⟨rfl, rfl⟩ := hu
      refine v_aload C dL_debts_212 rfl ?_
      refine v_gVi (K := fun w => (cS (xK X) g ((s, m), (sT, mT), rr, hh, sl, tx) ++ sbW (xK X) sq sv N (T)) ++ w) C (Cxt.l _ Cxt.id) (5 + q) (c_X8_hops hl hIM h14 hq) ym_X8_hops ml_L_209 (plc_at hq) rfl rfl rfl dL_debts_214 (by first | omega | exact Nat.le_of_ble_eq_true rfl) (by first | omega | exact Nat.le_of_ble_eq_true rfl) (by first | omega | exact Nat.le_of_ble_eq_true rfl) (Nat.le_of_ble_eq_true rfl) (fun _ _ hu => hu.elim) (fun r u hu => ?_)
      obtain ⟨rfl, rfl⟩ := hu
      first | refine v_icmp_leN C 224 dL_debts_217 (by decide) (by omega) (by omega) (fun c217 => ?_) (fun c217 => ?_) | refine v_icmp_le C 224 dL_debts_217 (by decide) (fun c217 => ?_) (fun c217 => ?_)
      · refine V.sub (lo2 := [some _, some _, some _, some _, some _, some _, some _, some _, some _, some _, some _, none, none, none, none, none, none]) ⟨rfl, rfl, rfl, rfl, rfl, rfl, rfl, rfl, rfl, rfl, rfl, trivial⟩ ?_
        exact db_1c (D := some q) hl C F ⟨s, (sT, mT), rr, hh, sl, tx, _, rfl, hH⟩ hW hI n1 hS hTL hT (by omega) (by omega) hkn IH (by rw [for_e, ← hD, nst_2f ho (by omega)])
      · refine v_aload C dL_debts_220 rfl ?_
        refine v_astore C (lo2 := [some _, some _, some _, some _, some _, some _, some _, some _, some _, some _, some _, none, none, none, none, none, none]) dL_debts_222 rfl (Nat.le_of_ble_eq_true rfl) rfl ?_
        refine V.sub (lo2 := [some _, some _, some _, some _, some _, some _, some _, some _, some _, some _, some _, none, none, none, none, none, none]) ⟨rfl, rfl, rfl, rfl, rfl, rfl, rfl, rfl, rfl, rfl, rfl, trivial⟩ ?_
        exact db_1c (D := some k) hl C F ⟨s, (sT, mT), rr, hh, sl, tx, _, rfl, hH⟩ hW hI n1 hS hTL hT (by omega) (by omega) hkn IH (by rw [for_e, ← hD, nst_2t ho (by omega)])

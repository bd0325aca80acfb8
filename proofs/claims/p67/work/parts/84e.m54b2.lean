set_option maxHeartbeats 2000000 in
theorem db_2 {X : Cx} {g h e : Nat → Nat} {n cM sq k K0 N0 : Nat} {m : Mg} {p : Int32} {u : Cg} {T : List Nat} {sv N : Nat} {D : Option Nat} (hl : (xl X).stackTraces = false) (C : Ok SS MM X RL cL_debts 17 17 4200 140000) (F : FinG X (some FieldType.boolean) ri (fun r w => r = nI 1 ∧ ∃ u', GU m u' ∧ w = cS (xK X) g u' ++ lmW (xK X) h n (m, e, p)) (fun _ _ => False) 4200 140000) (hG : GU m u) (hW : WM n cM m) (hI : LI n m) (n1 : ¬ n = 0) (hS : SbOK N T) (hTL : T.length ≤ 13 * k) (hT : T.map nI = forG (dbsS m n) 0 k []) (hK0 : K0 ≤ 10 + 60 * k + 12) (hN0 : N0 ≤ 100 + 8000 * k + 72) (hkn : k < n) (IH : DBH X g h e n m p sq (k + 1)) (hD : D = (forG (nstep m (nI 2)) 0 (k + 1) none)) : V X iW 250 [some (.ref (g 0)), some (.ref (h 0)), some (.int (nI (cntG (startM m) 0 k))), some (.int (nI (cntG (stlB m) 0 (k + 1)))), some (.int (nI (cntG (crdB m n) 0 (k + 1)))), some (.ref sq), some (va_rf (oH h D)), some (.int (nI k)), some (.ref (h (8 + k))), none, none, none, none, none, none, none, none] [] ((cS (xK X) g u ++ sbW (xK X) sq sv N T) ++ lmW (xK X) h n (m, e, p)) K0 N0 := by
  obtain ⟨s, ⟨sT, mT⟩, rr, hh, sl, tx, L0, rfl, hH⟩ := hG
  have h14 := hI.1
  have hIM := hI.im
  have hE := hI.ev
  have hset := hI.set
  have hn31 : n < 2 ^ 31 := by omega
  have hn96 : n ≤ 96 := by omega
  refine v_aload C dL_debts_250 rfl ?_
  refine v_gFN (K := fun w => (cS (xK X) g ((s, m), (sT, mT), rr, hh, sl, tx) ++ sbW (xK X) sq sv N (T)) ++ w) C (Cxt.l _ Cxt.id) (v := va_rf (srcV h m k)) (5 + k) fln_L_190 (plc_at hkn) rfl dL_debts_252 ?_
  refine v_ifnull C (x := (srcV h m k)) 441 dL_debts_255 (by decide) (fun c255 => ?_) (fun a255 c255 => ?_)
  · first | refine v_iinc1 C (lo2 := [some _, some _, some _, some _, some _, some _, some _, some _, some _, none, none, none, none, none, none, none, none]) dL_debts_441 rfl rfl (by cases (oH h D) <;> rfl) ?_ | refine v_iinc C (lo2 := [some _, some _, some _, some _, some _, some _, some _, some _, some _, none, none, none, none, none, none, none, none]) dL_debts_441 rfl rfl rfl (by cases (oH h D) <;> rfl) ?_
    refine v_goto C 22 dL_debts_444 (by decide) ?_
    have hst : startM m k = false := start_f (owb_f.mpr (srcV_no.mp c255))
    have e2 : cntG (startM m) 0 (k + 1) = cntG (startM m) 0 k := by rw [cnt_e, hst]; rfl
    rw [← e2]
    refine V.sub (lo2 := [some _, some _, some _, some _, some _, some _, some _, some _, none, none, none, none, none, none, none, none, none]) ⟨rfl, rfl, rfl, rfl, rfl, rfl, rfl, rfl, trivial⟩ ?_
    rw [hD]
    exact IH _ T sv N _ _ ⟨s, (sT, mT), rr, hh, sl, tx, _, rfl, hH⟩ hS (by omega) (by rw [for_e, dbs_f hst]; exact hT) (by omega) (by omega)
  · have hno := (srcV_yes c255).1
    have ho : owb m k = true := owb_t.mpr hno
    refine v_iload C dL_debts_258 rfl ?_
    refine v_if_le C 283 dL_debts_260 (by decide) (fun c260 => ?_) (fun c260 => ?_)
    · rw [nI_toInt (by omega)] at c260
      have hk0 : k = 0 := by omega
      have hst : startM m k = true := start_t ho (by rw [hk0]; exact cont_0)
      refine V.sub (lo2 := [some _, some _, some _, some _, some _, some _, some _, some _, some _, none, none, none, none, none, none, none, none]) ⟨rfl, rfl, rfl, rfl, rfl, rfl, rfl, rfl, rfl, trivial⟩ ?_
      exact db_3 hl C F ⟨s, (sT, mT), rr, hh, sl, tx, _, rfl, hH⟩ hW hI n1 hS hTL hT (by omega) (by omega) hkn IH hD hst hno
    · rw [nI_toInt (by omega)] at c260
      have hk1 : 1 ≤ k := by omega
      have hgc : gonB m (k - 1) k = contM m k := by
        have z := gon_cont (j := k - 1) hIM (by omega)
        rw [show k - 1 + 1 = k by omega] at z
        exact z
      refine v_aload_n C dL_debts_263 rfl ?_
      refine v_gFN (K := fun w => (cS (xK X) g ((s, m), (sT, mT), rr, hh, sl, tx) ++ sbW (xK X) sq sv N (T)) ++ w) C (Cxt.l _ Cxt.id) (v := .ref (h 1)) 0 fln_L_154 lm_0 rfl dL_debts_264 ?_
      refine v_iload C dL_debts_267 rfl ?_
      refine v_iconst (v := nI 1) C dL_debts_269 (by decide) ?_
      first | refine v_isubN C dL_debts_270 (by omega) ?_ | refine v_isub C dL_debts_270 ?_
      refine v_gP (K := fun w => (cS (xK X) g ((s, m), (sT, mT), rr, hh, sl, tx) ++ sbW (xK X) sq sv N (T)) ++ w) C (Cxt.l _ Cxt.id) (x := (some (h (8 + (k - 1))))) 1 lm_1 (by first | decide | omega) (k - 1) (if_pos (by omega)) ?_ rfl dL_debts_271 ?_
      · omega
      refine v_aload C dL_debts_272 rfl ?_
      refine v_gSi (K := fun w => (cS (xK X) g ((s, m), (sT, mT), rr, hh, sl, tx) ++ sbW (xK X) sq sv N (T)) ++ w) C (Cxt.l _ Cxt.id) (c_L_goesOn hl hIM (show k - 1 < n by omega) (hkn) (by omega) h14) ys_L_goesOn ml_L_271 rfl rfl dL_debts_274 (by first | omega | exact Nat.le_of_ble_eq_true rfl) (by first | omega | exact Nat.le_of_ble_eq_true rfl) (by first | omega | exact Nat.le_of_ble_eq_true rfl) (Nat.le_of_ble_eq_true rfl) (fun _ _ hu => hu.elim) (fun r u hu => ?_)
      obtain ⟨rfl, rfl⟩ := hu
      refine v_if_eqB C 283 dL_debts_277 (by decide) (fun c277 => ?_) (fun c277 => ?_)
      · have hst : startM m k = true := start_t ho (by rw [← hgc]; exact c277)
        refine V.sub (lo2 := [some _, some _, some _, some _, some _, some _, some _, some _, some _, none, none, none, none, none, none, none, none]) ⟨rfl, rfl, rfl, rfl, rfl, rfl, rfl, rfl, rfl, trivial⟩ ?_
        exact db_3 hl C F ⟨s, (sT, mT), rr, hh, sl, tx, _, rfl, hH⟩ hW hI n1 hS hTL hT (by omega) (by omega) hkn IH hD hst hno
      · refine v_goto C 441 dL_debts_280 (by decide) ?_
        first | refine v_iinc1 C (lo2 := [some _, some _, some _, some _, some _, some _, some _, some _, some _, none, none, none, none, none, none, none, none]) dL_debts_441 rfl rfl (by cases (oH h D) <;> rfl) ?_ | refine v_iinc C (lo2 := [some _, some _, some _, some _, some _, some _, some _, some _, some _, none, none, none, none, none, none, none, none]) dL_debts_441 rfl rfl rfl (by cases (oH h D) <;> rfl) ?_
        refine v_goto C 22 dL_debts_444 (by decide) ?_
        have hst : startM m k = false := start_c (by rw [← hgc]; exact c277)
        have e2 : cntG (startM m) 0 (k + 1) = cntG (startM m) 0 k := by rw [cnt_e, hst]; rfl
        rw [← e2]
        refine V.sub (lo2 := [some _, some _, some _, some _, some _, some _, some _, some _, none, none, none, none, none, none, none, none, none]) ⟨rfl, rfl, rfl, rfl, rfl, rfl, rfl, rfl, trivial⟩ ?_
        rw [hD]
        exact IH _ T sv N _ _ ⟨s, (sT, mT), rr, hh, sl, tx, _, rfl, hH⟩ hS (by omega) (by rw [for_e, dbs_f hst]; exact hT) (by omega) (by omega)

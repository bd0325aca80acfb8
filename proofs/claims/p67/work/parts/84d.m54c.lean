set_option maxHeartbeats 2000000 in
theorem db_3 {X : Cx} {g h e : Nat → Nat} {n cM sq k K0 N0 : Nat} {m : Mg} {p : Int32} {u : Cg} {T : List Nat} {sv N : Nat} {D : Option Nat} (hl : (xl X).stackTraces = false) (C : Ok SS MM X RL cL_debts 17 17 4200 140000) (F : FinG X (some FieldType.boolean) ri (fun r w => r = nI 1 ∧ ∃ u', GU m u' ∧ w = cS (xK X) g u' ++ lmW (xK X) h n (m, e, p)) (fun _ _ => False) 4200 140000) (hG : GU m u) (hW : WM n cM m) (hI : LI n m) (n1 : ¬ n = 0) (hS : SbOK N T) (hTL : T.length ≤ 13 * k) (hT : T.map nI = forG (dbsS m n) 0 k []) (hK0 : K0 ≤ 10 + 60 * k + 12) (hN0 : N0 ≤ 100 + 8000 * k + 72) (hkn : k < n) (IH : DBH X g h e n m p sq (k + 1)) (hD : D = (forG (nstep m (nI 2)) 0 (k + 1) none)) (hst : startM m k = true) (hno : ¬ m 2 k = -1) : V X iW 283 [some (.ref (g 0)), some (.ref (h 0)), some (.int (nI (cntG (startM m) 0 k))), some (.int (nI (cntG (stlB m) 0 (k + 1)))), some (.int (nI (cntG (crdB m n) 0 (k + 1)))), some (.ref sq), some (va_rf (oH h D)), some (.int (nI k)), some (.ref (h (8 + k))), none, none, none, none, none, none, none, none] [] ((cS (xK X) g u ++ sbW (xK X) sq sv N T) ++ lmW (xK X) h n (m, e, p)) K0 N0 := by
  obtain ⟨s, ⟨sT, mT⟩, rr, hh, sl, tx, L0, rfl, hH⟩ := hG
  have h14 := hI.1
  have hIM := hI.im
  have hE := hI.ev
  have hset := hI.set
  have hn31 : n < 2 ^ 31 := by omega
  have hn96 : n ≤ 96 := by omega
  refine v_iload C dL_debts_283 rfl ?_
  refine v_istore C (lo2 := [some _, some _, some _, some _, some _, some _, some _, some _, some _, none, none, some _, none, none, none, none, none]) dL_debts_285 rfl (Nat.le_of_ble_eq_true rfl) rfl ?_
  have L287 : ∀ (t : Nat), (fun t => RunI m n k t) t → (fun t : Nat => V X iW 287 [some (.ref (g 0)), some (.ref (h 0)), some (.int (nI (cntG (startM m) 0 k))), some (.int (nI (cntG (stlB m) 0 (k + 1)))), some (.int (nI (cntG (crdB m n) 0 (k + 1)))), some (.ref sq), some (va_rf (oH h D)), some (.int (nI k)), some (.ref (h (8 + k))), none, none, some (.int (nI t)), none, none, none, none, none] [] ((cS (xK X) g ((s, m), (sT, mT), rr, hh, sl, tx) ++ sbW (xK X) sq sv N T) ++ lmW (xK X) h n (m, e, p)) K0 N0) t := by
    refine v_ind (fun t : Nat => n - t) ?_
    rintro l ih287 hI287
    try dsimp only at hI287 ⊢
    have hr : RunI m n k l := hI287
    have hrl := hr.2.1
    refine v_iload C dL_debts_287 rfl ?_
    refine v_iconst (v := nI 1) C dL_debts_289 (by decide) ?_
    first | refine v_iaddN C dL_debts_290 ?_ | refine v_iadd C dL_debts_290 ?_
    refine v_aload_n C dL_debts_291 rfl ?_
    refine v_gFN (K := fun w => (cS (xK X) g ((s, m), (sT, mT), rr, hh, sl, tx) ++ sbW (xK X) sq sv N (T)) ++ w) C (Cxt.l _ Cxt.id) (v := .ref (h 1)) 0 fln_L_154 lm_0 rfl dL_debts_292 ?_
    refine v_lenA (K := fun w => (cS (xK X) g ((s, m), (sT, mT), rr, hh, sl, tx) ++ sbW (xK X) sq sv N (T)) ++ w) C (Cxt.l _ Cxt.id) (N := n) 3 1 rfl lm_1 rfl dL_debts_295 ?_
    first | refine v_icmp_geN C 327 dL_debts_296 (by decide) (by omega) (by omega) (fun c296 => ?_) (fun c296 => ?_) | refine v_icmp_ge C 327 dL_debts_296 (by decide) (fun c296 => ?_) (fun c296 => ?_)
    · refine V.sub (lo2 := [some _, some _, some _, some _, some _, some _, some _, some _, some _, none, none, some _, none, none, none, none, none]) ⟨rfl, rfl, rfl, rfl, rfl, rfl, rfl, rfl, rfl, rfl, trivial⟩ ?_
      exact db_4 hl C F ⟨s, (sT, mT), rr, hh, sl, tx, _, rfl, hH⟩ hW hI n1 hS hTL hT (by omega) (by omega) hkn IH hD ⟨hr.1, hr.2.1⟩ (hr.end h14 (fun z => absurd z (by omega))) hst hno
    · refine v_aload_n C dL_debts_299 rfl ?_
      refine v_gFN (K := fun w => (cS (xK X) g ((s, m), (sT, mT), rr, hh, sl, tx) ++ sbW (xK X) sq sv N (T)) ++ w) C (Cxt.l _ Cxt.id) (v := .ref (h 1)) 0 fln_L_154 lm_0 rfl dL_debts_300 ?_
      refine v_iload C dL_debts_303 rfl ?_
      refine v_gP (K := fun w => (cS (xK X) g ((s, m), (sT, mT), rr, hh, sl, tx) ++ sbW (xK X) sq sv N (T)) ++ w) C (Cxt.l _ Cxt.id) (x := (some (h (8 + l)))) 1 lm_1 (by first | decide | omega) l (if_pos (by omega)) ?_ rfl dL_debts_305 ?_
      · omega
      refine v_aload_n C dL_debts_306 rfl ?_
      refine v_gFN (K := fun w => (cS (xK X) g ((s, m), (sT, mT), rr, hh, sl, tx) ++ sbW (xK X) sq sv N (T)) ++ w) C (Cxt.l _ Cxt.id) (v := .ref (h 1)) 0 fln_L_154 lm_0 rfl dL_debts_307 ?_
      refine v_iload C dL_debts_310 rfl ?_
      refine v_iconst (v := nI 1) C dL_debts_312 (by decide) ?_
      first | refine v_iaddN C dL_debts_313 ?_ | refine v_iadd C dL_debts_313 ?_
      refine v_gP (K := fun w => (cS (xK X) g ((s, m), (sT, mT), rr, hh, sl, tx) ++ sbW (xK X) sq sv N (T)) ++ w) C (Cxt.l _ Cxt.id) (x := (some (h (8 + (l + 1))))) 1 lm_1 (by first | decide | omega) (l + 1) (if_pos (by omega)) ?_ rfl dL_debts_314 ?_
      · omega
      refine v_gSi (K := fun w => (cS (xK X) g ((s, m), (sT, mT), rr, hh, sl, tx) ++ sbW (xK X) sq sv N (T)) ++ w) C (Cxt.l _ Cxt.id) (c_L_goesOn hl hIM (hr.2.1) (by omega) (by omega) h14) ys_L_goesOn ml_L_271 rfl rfl dL_debts_315 (by first | omega | exact Nat.le_of_ble_eq_true rfl) (by first | omega | exact Nat.le_of_ble_eq_true rfl) (by first | omega | exact Nat.le_of_ble_eq_true rfl) (Nat.le_of_ble_eq_true rfl) (fun _ _ hu => hu.elim) (fun r u hu => ?_)
      obtain ⟨rfl, rfl⟩ := hu
      refine v_if_eqB C 327 dL_debts_318 (by decide) (fun c318 => ?_) (fun c318 => ?_)
      · refine V.sub (lo2 := [some _, some _, some _, some _, some _, some _, some _, some _, some _, none, none, some _, none, none, none, none, none]) ⟨rfl, rfl, rfl, rfl, rfl, rfl, rfl, rfl, rfl, rfl, trivial⟩ ?_
        exact db_4 hl C F ⟨s, (sT, mT), rr, hh, sl, tx, _, rfl, hH⟩ hW hI n1 hS hTL hT (by omega) (by omega) hkn IH hD ⟨hr.1, hr.2.1⟩ (hr.end h14 (fun z => by rw [← gon_cont hIM z]; exact c318)) hst hno
      · first | refine v_iinc1 C (lo2 := [some _, some _, some _, some _, some _, some _, some _, some _, some _, none, none, some _, none, none, none, none, none]) dL_debts_321 rfl rfl rfl ?_ | refine v_iinc C (lo2 := [some _, some _, some _, some _, some _, some _, some _, some _, some _, none, none, some _, none, none, none, none, none]) dL_debts_321 rfl rfl rfl rfl ?_
        refine v_goto C 287 dL_debts_324 (by decide) ?_
        exact ih287 (l + 1) (by show n - (l + 1) < n - l; omega) (hr.step h14 (by omega) (by rw [← gon_cont hIM (by omega)]; exact c318))
  exact L287 k (RunI.init hkn)

set_option maxHeartbeats 2000000 in
theorem db_n {X : Cx} {g h e : Nat → Nat} {n cM sq k K0 N0 : Nat} {m : Mg} {p : Int32} {u : Cg} {T : List Nat} {sv N : Nat}  (hl : (xl X).stackTraces = false) (C : Ok SS MM X RL cL_debts 17 17 4200 140000) (F : FinG X (some FieldType.boolean) ri (fun r w => r = nI 1 ∧ ∃ u', GU m u' ∧ w = cS (xK X) g u' ++ lmW (xK X) h n (m, e, p)) (fun _ _ => False) 4200 140000) (hG : GU m u) (hW : WM n cM m) (hI : LI n m) (n1 : ¬ n = 0) (hS : SbOK N T) (hTL : T.length ≤ 13 * k) (hT : T.map nI = forG (dbsS m n) 0 k []) (hK0 : K0 ≤ 10 + 60 * k + 0) (hN0 : N0 ≤ 100 + 8000 * k + 0) (hkn : k = n) : V X iW 22 [some (.ref (g 0)), some (.ref (h 0)), some (.int (nI (cntG (startM m) 0 k))), some (.int (nI (cntG (stlB m) 0 k))), some (.int (nI (cntG (crdB m n) 0 k))), some (.ref sq), some (va_rf (oH h (forG (nstep m (nI 2)) 0 k none))), some (.int (nI k)), none, none, none, none, none, none, none, none, none] [] ((cS (xK X) g u ++ sbW (xK X) sq sv N T) ++ lmW (xK X) h n (m, e, p)) K0 N0 := by
  rw [hkn] at hT hTL hK0 hN0 ⊢
  obtain ⟨s, ⟨sT, mT⟩, rr, hh, sl, tx, L0, rfl, hH⟩ := hG
  have h14 := hI.1
  have hIM := hI.im
  have hE := hI.ev
  have hset := hI.set
  have hn31 : n < 2 ^ 31 := by omega
  have hn96 : n ≤ 96 := by omega
  refine v_iload C dL_debts_22 rfl ?_
  refine v_aload_n C dL_debts_24 rfl ?_
  refine v_gFN (K := fun w => (cS (xK X) g ((s, m), (sT, mT), rr, hh, sl, tx) ++ sbW (xK X) sq sv N (T)) ++ w) C (Cxt.l _ Cxt.id) (v := .ref (h 1)) 0 fln_L_154 lm_0 rfl dL_debts_25 ?_
  refine v_lenA (K := fun w => (cS (xK X) g ((s, m), (sT, mT), rr, hh, sl, tx) ++ sbW (xK X) sq sv N (T)) ++ w) C (Cxt.l _ Cxt.id) (N := n) 3 1 rfl lm_1 rfl dL_debts_28 ?_
  first | refine v_icmp_geN C 447 dL_debts_29 (by decide) (by omega) (by omega) (fun c29 => ?_) (fun c29 => ?_) | refine v_icmp_ge C 447 dL_debts_29 (by decide) (fun c29 => ?_) (fun c29 => ?_)
  · refine v_iload_n C dL_debts_447 rfl ?_
    refine v_if_ne C 459 dL_debts_448 (by decide) (fun c448 => ?_) (fun c448 => ?_)
    · have hc : ¬ cntG (startM m) 0 n = 0 := fun z => c448 (by rw [z]; rfl)
      refine V.sub (lo2 := [some _, some _, some _, some _, some _, some _, some _, none, none, none, none, none, none, none, none, none, none]) ⟨rfl, rfl, rfl, rfl, rfl, rfl, rfl, trivial⟩ ?_
      exact db_E (k := 0) (D := nextM m n (nI 2)) hl C F ⟨s, (sT, mT), rr, hh, sl, tx, _, rfl, hH⟩ hW hI n1 hS (by omega) (by rw [dbs_all hc]; exact hT) rfl (by omega) (by omega)
    · have hc : cntG (startM m) 0 n = 0 := by have z := congrArg Int32.toInt c448; rw [nI_toInt (by have := cntG_le (f := startM m) n 0; omega), i0_toInt] at z; omega
      refine v_aload C dL_debts_451 rfl ?_
      refine v_bipush (v := nI 45) C dL_debts_453 (by decide) ?_
      refine v_gVr (K := fun w => (cS (xK X) g ((s, m), (sT, mT), rr, hh, sl, tx) ++ w) ++ lmW (xK X) h n (m, e, p)) C (Cxt.r _ (Cxt.l _ Cxt.id)) 0 (c_J4_append_cf468 hl (c := 45) (by decide) hS (by omega)) ym_J4_append_cf468 ml_L_275 rfl rfl rfl rfl dL_debts_455 (by first | omega | exact Nat.le_of_ble_eq_true rfl) (by first | omega | exact Nat.le_of_ble_eq_true rfl) (by first | omega | exact Nat.le_of_ble_eq_true rfl) (Nat.le_of_ble_eq_true rfl) (fun _ _ hu => hu.elim) (fun r u hu => ?_)
      obtain ⟨e9, sv, N, hS, rfl⟩ := hu
      rw [e9]
      refine v_pop C dL_debts_458 rfl ?_
      refine V.sub (lo2 := [some _, some _, some _, some _, some _, some _, some _, none, none, none, none, none, none, none, none, none, none]) ⟨rfl, rfl, rfl, rfl, rfl, rfl, rfl, trivial⟩ ?_
      exact db_E (k := 0) (D := nextM m n (nI 2)) hl C F ⟨s, (sT, mT), rr, hh, sl, tx, _, rfl, hH⟩ hW hI n1 hS (by simp only [List.length_append, List.length_cons, List.length_nil]; omega) (by rw [(dbs_non hc).1, List.map_append, hT, (dbs_non hc).2]; rfl) rfl (by omega) (by omega)
  · omega

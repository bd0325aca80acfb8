set_option maxHeartbeats 2000000 in
theorem db_1c {X : Cx} {g h e : Nat → Nat} {n cM sq k K0 N0 : Nat} {m : Mg} {p : Int32} {u : Cg} {T : List Nat} {sv N : Nat} {D : Option Nat} (hl : (xl X).stackTraces = false) (C : Ok SS MM X RL cL_debts 17 17 4200 140000) (F : FinG X (some FieldType.boolean) ri (fun r w => r = nI 1 ∧ ∃ u', GU m u' ∧ w = cS (xK X) g u' ++ lmW (xK X) h n (m, e, p)) (fun _ _ => False) 4200 140000) (hG : GU m u) (hW : WM n cM m) (hI : LI n m) (n1 : ¬ n = 0) (hS : SbOK N T) (hTL : T.length ≤ 13 * k) (hT : T.map nI = forG (dbsS m n) 0 k []) (hK0 : K0 ≤ 10 + 60 * k + 0) (hN0 : N0 ≤ 100 + 8000 * k + 0) (hkn : k < n) (IH : DBH X g h e n m p sq (k + 1)) (hD : D = (forG (nstep m (nI 2)) 0 (k + 1) none)) : V X iW 224 [some (.ref (g 0)), some (.ref (h 0)), some (.int (nI (cntG (startM m) 0 k))), some (.int (nI (cntG (stlB m) 0 (k + 1)))), some (.int (nI (cntG (crdB m n) 0 (k + 1)))), some (.ref sq), some (va_rf (oH h D)), some (.int (nI k)), some (.ref (h (8 + k))), some (.int (nI (cntG (depB m k false) 0 n))), some (.int (nI (cntG (depB m k true) 0 n))), none, none, none, none, none, none] [] ((cS (xK X) g u ++ sbW (xK X) sq sv N T) ++ lmW (xK X) h n (m, e, p)) K0 N0 := by
  obtain ⟨s, ⟨sT, mT⟩, rr, hh, sl, tx, L0, rfl, hH⟩ := hG
  have h14 := hI.1
  have hIM := hI.im
  have hE := hI.ev
  have hset := hI.set
  have hn31 : n < 2 ^ 31 := by omega
  have hn96 : n ≤ 96 := by omega
  refine v_aload_n C dL_debts_224 rfl ?_
  refine v_iload C dL_debts_225 rfl ?_
  refine v_iconst (v := nI 0) C dL_debts_227 (by decide) ?_
  refine v_kVi (K := fun w => (w ++ sbW (xK X) sq sv N (T)) ++ lmW (xK X) h n (m, e, p)) C (Cxt.r _ (Cxt.r _ Cxt.id)) (c_X5_dependents hl (c := cM) hW (al := false)) ym_X5_dependents ml_L_39 fix_cS cS_0 rfl rfl rfl dL_debts_228 (by first | omega | exact Nat.le_of_ble_eq_true rfl) (by first | omega | exact Nat.le_of_ble_eq_true rfl) (by first | omega | exact Nat.le_of_ble_eq_true rfl) (Nat.le_of_ble_eq_true rfl) (fun _ _ hu => (no3 (cd_1 n1 hkn hn31) hu.1).elim) (fun r u hu => ?_)
  obtain ⟨⟨-, rfl⟩, s, ⟨sT, mT⟩, rfl⟩ := hu
  rw [tN_nI (show k < 2 ^ 31 by omega)]
  refine v_iload C dL_debts_231 rfl ?_
  refine v_icmp_ne C 248 dL_debts_233 (by decide) (fun c233 => ?_) (fun c233 => ?_)
  · exact absurd rfl c233
  · refine v_aload_n C dL_debts_236 rfl ?_
    refine v_iload C dL_debts_237 rfl ?_
    refine v_iconst (v := nI 1) C dL_debts_239 (by decide) ?_
    refine v_kVi (K := fun w => (w ++ sbW (xK X) sq sv N (T)) ++ lmW (xK X) h n (m, e, p)) C (Cxt.r _ (Cxt.r _ Cxt.id)) (c_X5_dependents hl (c := cM) hW (al := true)) ym_X5_dependents ml_L_39 fix_cS cS_0 rfl rfl rfl dL_debts_240 (by first | omega | exact Nat.le_of_ble_eq_true rfl) (by first | omega | exact Nat.le_of_ble_eq_true rfl) (by first | omega | exact Nat.le_of_ble_eq_true rfl) (Nat.le_of_ble_eq_true rfl) (fun _ _ hu => (no3 (cd_1 n1 hkn hn31) hu.1).elim) (fun r u hu => ?_)
    obtain ⟨⟨-, rfl⟩, s, ⟨sT, mT⟩, rfl⟩ := hu
    rw [tN_nI (show k < 2 ^ 31 by omega)]
    refine v_iload C dL_debts_243 rfl ?_
    refine v_icmp_eq C 250 dL_debts_245 (by decide) (fun c245 => ?_) (fun c245 => ?_)
    · refine V.sub (lo2 := [some _, some _, some _, some _, some _, some _, some _, some _, some _, none, none, none, none, none, none, none, none]) ⟨rfl, rfl, rfl, rfl, rfl, rfl, rfl, rfl, rfl, trivial⟩ ?_
      exact db_2 hl C F ⟨s, (sT, mT), rr, hh, sl, tx, _, rfl, hH⟩ hW hI n1 hS hTL hT (by omega) (by omega) hkn IH hD
    · exact absurd rfl c245

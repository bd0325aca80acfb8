set_option maxHeartbeats 2000000 in
theorem vl_A {X : Cx} {g h e : Nat → Nat} {n cM : Nat} {m : Mg} {u : Cg} {b i a c Q K0 N0 : Nat}  (hl : (xl X).stackTraces = false) (C : Ok SS MM X RL cL_values 25 17 5000 70000) (F : FinG X (some FieldType.boolean) ri (fun r w => r = nI 1 ∧ ∃ u' i', GU m u' ∧ i' ≤ i + 10 ∧ w = cS (xK X) g u' ++ (lmW (xK X) h n (m, e, m 6 0) ++ dS (xK X) b i')) (fun _ _ => False) 5000 70000) (hG : GU m u) (hW : WM n cM m) (hI : LI n m) (n1 : ¬ n = 0) (hac : a ≤ c ∧ c < n) (hQ : Q < n) (hK0 : K0 ≤ 20) (hN0 : N0 ≤ 120)  : V X iW 295 [some (.ref (g 0)), some (.ref (h 0)), none, some (.int (nI n)), some (.int (nI a)), some (.int (nI c)), none, none, some (.int (nI Q)), none, none, none, some (.int (nI (cntG (owb m) a (c + 1 - a)))), some (.int (oN (fstG (owb m) a (n - a)))), none, none, none, none, none, none, none, none, none, none, none] [] (cS (xK X) g u ++ (lmW (xK X) h n (m, e, m 6 0) ++ dS (xK X) b (i + 1 + 1 + 1 + 1))) K0 N0 := by
  obtain ⟨s, ⟨sT, mT⟩, rr, hh, sl, tx, L0, rfl, hH⟩ := hG
  have h14 := hI.1
  have hIM := hI.im
  have hE := hI.ev
  have hset := hI.set
  have hn31 : n < 2 ^ 31 := by omega
  have hn96 : n ≤ 96 := by omega
  obtain ⟨rk, hrk⟩ := IM_rk hIM
  refine v_iconst (v := (-1)) C dL_values_295 (by decide) ?_
  refine v_istore C (lo2 := [some _, some _, none, some _, some _, some _, none, none, some _, none, none, none, some _, some _, some _, none, none, none, none, none, none, none, none, none, none]) dL_values_296 rfl (Nat.le_of_ble_eq_true rfl) rfl ?_
  refine v_iconst (v := nI 0) C dL_values_298 (by decide) ?_
  refine v_istore C (lo2 := [some _, some _, none, some _, some _, some _, none, none, some _, none, none, none, some _, some _, some _, some _, none, none, none, none, none, none, none, none, none]) dL_values_299 rfl (Nat.le_of_ble_eq_true rfl) rfl ?_
  refine v_iconst (v := nI 0) C dL_values_301 (by decide) ?_
  refine v_istore C (lo2 := [some _, some _, none, some _, some _, some _, none, none, some _, none, none, none, some _, some _, some _, some _, some _, none, none, none, none, none, none, none, none]) dL_values_302 rfl (Nat.le_of_ble_eq_true rfl) rfl ?_
  refine v_aload_n C dL_values_304 rfl ?_
  refine v_gFN (K := fun w => cS (xK X) g ((s, m), (sT, mT), rr, hh, sl, tx) ++ (w ++ dS (xK X) b (i + 1 + 1 + 1 + 1))) C (Cxt.l _ (Cxt.r _ Cxt.id)) (v := .ref (h 1)) 0 fln_L_154 lm_0 rfl dL_values_305 ?_
  refine v_iload C dL_values_308 rfl ?_
  refine v_gP (K := fun w => cS (xK X) g ((s, m), (sT, mT), rr, hh, sl, tx) ++ (w ++ dS (xK X) b (i + 1 + 1 + 1 + 1))) C (Cxt.l _ (Cxt.r _ Cxt.id)) (x := (some (h (8 + c)))) 1 lm_1 (by first | decide | omega) c (if_pos (by omega)) ?_ rfl dL_values_310 ?_
  · omega
  refine v_astore C (lo2 := [some _, some _, none, some _, some _, some _, none, none, some _, none, none, none, some _, some _, some _, some _, some _, some _, none, none, none, none, none, none, none]) dL_values_311 rfl (Nat.le_of_ble_eq_true rfl) rfl ?_
  have L313 : ∀ (t : Option Nat × Nat), (fun t => WayI m n c Q t.2 rk t.1) t → (fun t : Option Nat × Nat => V X iW 313 [some (.ref (g 0)), some (.ref (h 0)), none, some (.int (nI n)), some (.int (nI a)), some (.int (nI c)), none, none, some (.int (nI Q)), none, none, none, some (.int (nI (cntG (owb m) a (c + 1 - a)))), some (.int (oN (fstG (owb m) a (n - a)))), some (.int (-1)), some (.int (nI t.2)), some (.int (nI 0)), some (va_rf (oH h t.1)), none, none, none, none, none, none, none] [] (cS (xK X) g ((s, m), (sT, mT), rr, hh, sl, tx) ++ (lmW (xK X) h n (m, e, m 6 0) ++ dS (xK X) b (i + 1 + 1 + 1 + 1))) K0 N0) t := by
    refine v_ind (fun t : Option Nat × Nat => owM rk t.1) ?_
    rintro ⟨w, k⟩ ih313 hI313
    try dsimp only at hI313 ⊢
    refine v_aloadq C (x := (oH h w)) dL_values_313 rfl ?_
    cases w with
    | none =>
      refine v_ifnull C (x := none) 341 dL_values_315 (by decide) (fun _ => ?_) (fun _ c => by cases c)
      exact vl_A2 (w := none) hl C F ⟨s, (sT, mT), rr, hh, sl, tx, _, rfl, hH⟩ hW hI n1 hac hQ hK0 hN0 ⟨fun _ => hI313, fun x hx => by cases hx⟩
    | some p =>
      have hp : p < n := hI313.1
      refine v_ifnull C (x := some (h (8 + p))) 341 dL_values_315 (by decide) (fun c => by cases c) (fun _ _ => ?_)
      refine v_aload C dL_values_318 rfl ?_
      refine v_gFN (K := fun w => cS (xK X) g ((s, m), (sT, mT), rr, hh, sl, tx) ++ (w ++ dS (xK X) b (i + 1 + 1 + 1 + 1))) C (Cxt.l _ (Cxt.r _ Cxt.id)) (v := .int (nI p)) (5 + p) fln_L_175 (plc_at hp) rfl dL_values_320 ?_
      refine v_iload C dL_values_323 rfl ?_
      first | refine v_icmp_eqN C 341 dL_values_325 (by decide) (by omega) (by omega) (fun c325 => ?_) (fun c325 => ?_) | refine v_icmp_eq C 341 dL_values_325 (by decide) (fun c325 => ?_) (fun c325 => ?_)
      · exact vl_A2 (w := some (h (8 + p))) hl C F ⟨s, (sT, mT), rr, hh, sl, tx, _, rfl, hH⟩ hW hI n1 hac hQ hK0 hN0 ⟨fun z => (by cases z), fun _ _ => hI313.yes c325⟩
      · first | refine v_iinc1 C (lo2 := [some _, some _, none, some _, some _, some _, none, none, some _, none, none, none, some _, some _, some _, some _, some _, some _, none, none, none, none, none, none, none]) dL_values_328 rfl rfl rfl ?_ | refine v_iinc C (lo2 := [some _, some _, none, some _, some _, some _, none, none, some _, none, none, none, some _, some _, some _, some _, some _, some _, none, none, none, none, none, none, none]) dL_values_328 rfl rfl rfl rfl ?_
        refine v_aload C dL_values_331 rfl ?_
        refine v_gFN (K := fun w => cS (xK X) g ((s, m), (sT, mT), rr, hh, sl, tx) ++ (w ++ dS (xK X) b (i + 1 + 1 + 1 + 1))) C (Cxt.l _ (Cxt.r _ Cxt.id)) (v := va_rf (srcV h m p)) (5 + p) fln_L_190 (plc_at hp) rfl dL_values_333 ?_
        by_cases ho : m 2 p = -1
        · rw [srcV_f ho]
          refine v_astoreq C (x := none) (lo2 := [some _, some _, none, some _, some _, some _, none, none, some _, none, none, none, some _, some _, some _, some _, some _, some _, none, none, none, none, none, none, none]) dL_values_336 rfl (Nat.le_of_ble_eq_true rfl) rfl ?_
          refine v_goto C 313 dL_values_338 (by decide) ?_
          exact ih313 (none, k + 1) (by show 0 < rk p + 1; omega) (hI313.end c325 ho)
        · rw [srcV_t ho]
          refine v_astore C (lo2 := [some _, some _, none, some _, some _, some _, none, none, some _, none, none, none, some _, some _, some _, some _, some _, some _, none, none, none, none, none, none, none]) dL_values_336 rfl (Nat.le_of_ble_eq_true rfl) rfl ?_
          refine v_goto C 313 dL_values_338 (by decide) ?_
          exact ih313 (some (src m p), k + 1) (by show rk (src m p) + 1 < rk p + 1; have := hrk.2 p hp ho; omega) (hI313.step hIM hrk c325 ho)
  exact L313 (some c, 0) (show c < n ∧ ∃ f, rk c < f ∧ hbF f 0 m c Q = hbM m c Q from ⟨hac.2, 96, by have := hrk.1 c hac.2; omega, rfl⟩)

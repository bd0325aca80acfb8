theorem db_all {X : Cx} {g h e : Nat → Nat} {n cM sq : Nat} {m : Mg} {p : Int32} (hl : (xl X).stackTraces = false) (C : Ok SS MM X RL cL_debts 17 17 4200 140000) (F : FinG X (some FieldType.boolean) ri (fun r w => r = nI 1 ∧ ∃ u', GU m u' ∧ w = cS (xK X) g u' ++ lmW (xK X) h n (m, e, p)) (fun _ _ => False) 4200 140000) (hW : WM n cM m) (hI : LI n m) (n1 : ¬ n = 0) (hinj : ∀ i j, i < n → j < n → h (8 + i) = h (8 + j) → i = j) : ∀ r k, k + r = n → DBH X g h e n m p sq k
  | 0, k, hk => fun _ _ _ _ _ _ hG hS hTL hT h1 h2 => db_n hl C F hG hW hI n1 hS hTL hT (by omega) (by omega) (by omega)
  | r + 1, k, hk => fun _ _ _ _ _ _ hG hS hTL hT h1 h2 => db_0 (D := (forG (nstep m (nI 2)) 0 k none)) hl C F hG hW hI n1 hS hTL hT (by omega) (by omega) (by omega) (db_all hl C F hW hI n1 hinj r (k + 1) (by omega)) rfl hinj
set_option maxHeartbeats 2000000 in
theorem c_L_debts {l : Launch} (hl : l.stackTraces = false) {κ : Kp} {g h : Nat → Nat} {n cM : Nat} {m : Mg} {e : Nat → Nat} {p : Int32} {u : Cg} (hG : GU m u) (hW : WM n cM m) (hI : LI n m) (n1 : ¬ n = 0) : CtG SS MM l κ yL_debts cL_debts 17 (some FieldType.boolean) 17 4200 140000 [.ref (g 0), .ref (h 0)] (cS κ g u ++ lmW κ h n (m, e, p)) ri (fun r w => r = nI 1 ∧ ∃ u', GU m u' ∧ w = cS κ g u' ++ lmW κ h n (m, e, p)) (fun _ _ => False) := by
  refine CtG.of (own := RL) (by decide) rfl hl (by intro v hv; simp only [List.mem_cons, List.not_mem_nil, or_false] at hv; first | (rcases hv with rfl | rfl | rfl | rfl | rfl | rfl <;> rfl) | (rcases hv with rfl | rfl | rfl | rfl | rfl <;> rfl) | (rcases hv with rfl | rfl | rfl | rfl <;> rfl) | (rcases hv with rfl | rfl | rfl <;> rfl) | (rcases hv with rfl | rfl <;> rfl) | (subst hv; rfl) | exact hv.elim) (Nat.le_of_ble_eq_true rfl) (fun X hxl hxk C F NH hnm => ?_)
  subst hxl hxk
  show V X iW 0 [some (.ref (g 0)), some (.ref (h 0)), none, none, none, none, none, none, none, none, none, none, none, none, none, none, none] [] (cS (xK X) g u ++ lmW (xK X) h n (m, e, p)) 0 0
  obtain ⟨s, ⟨sT, mT⟩, rr, hh, sl, tx, L0, rfl, hH⟩ := hG
  have h14 := hI.1
  refine V_dis (fun hdis => ?_)
  have hd2 : va_D (xA X) (lmW (xK X) h n (m, e, p)) := va_D.less hdis (List.sublist_append_right _ _)
  have hinj : ∀ i j, i < n → j < n → h (8 + i) = h (8 + j) → i = j := fun i j hi hj he => by have z := hd2.1 (5 + i) (5 + j) _ _ (plc_at hi) (plc_at hj) he; omega
  clear hdis hd2
  refine v_iconst (v := nI 0) C dL_debts_0 (by decide) ?_
  refine v_istore_n C (lo2 := [some _, some _, some _, none, none, none, none, none, none, none, none, none, none, none, none, none, none]) dL_debts_1 rfl (Nat.le_of_ble_eq_true rfl) rfl ?_
  refine v_iconst (v := nI 0) C dL_debts_2 (by decide) ?_
  refine v_istore_n C (lo2 := [some _, some _, some _, some _, none, none, none, none, none, none, none, none, none, none, none, none, none]) dL_debts_3 rfl (Nat.le_of_ble_eq_true rfl) rfl ?_
  refine v_iconst (v := nI 0) C dL_debts_4 (by decide) ?_
  refine v_istore C (lo2 := [some _, some _, some _, some _, some _, none, none, none, none, none, none, none, none, none, none, none, none]) dL_debts_5 rfl (Nat.le_of_ble_eq_true rfl) rfl ?_
  refine v_new C nw_L_268 dL_debts_7 (by first | omega | exact Nat.le_of_ble_eq_true rfl) (by first | omega | exact Nat.le_of_ble_eq_true rfl) (fun sq => ?_)
  refine v_dup C dL_debts_10 rfl ?_
  refine v_gNv (K := fun w => w ++ (cS (xK X) g ((s, m), (sT, mT), rr, hh, sl, tx) ++ lmW (xK X) h n (m, e, p))) C (Cxt.r _ Cxt.id) (c_J4_init_da8c8 hl) yc_J4_init_da8c8 ml_L_270 rfl rfl dL_debts_11 (by first | omega | exact Nat.le_of_ble_eq_true rfl) (by first | omega | exact Nat.le_of_ble_eq_true rfl) (by first | omega | exact Nat.le_of_ble_eq_true rfl) (Nat.le_of_ble_eq_true rfl) (fun _ _ hu => hu.elim) (fun r u hu => ?_)
  obtain ⟨sv, rfl⟩ := hu
  have hS : SbOK 16 [] := ⟨by decide, by decide, fun b hb => by cases hb⟩
  refine V.perm (ws' := (cS (xK X) g ((s, m), (sT, mT), rr, hh, sl, tx) ++ sbW (xK X) sq sv 16 []) ++ lmW (xK X) h n (m, e, p)) (by rw [← List.append_assoc]; exact List.perm_append_comm.append_right _) ?_
  refine v_astore C (lo2 := [some _, some _, some _, some _, some _, some _, none, none, none, none, none, none, none, none, none, none, none]) dL_debts_14 rfl (Nat.le_of_ble_eq_true rfl) rfl ?_
  refine v_null C dL_debts_16 ?_
  refine v_astoreq C (x := none) (lo2 := [some _, some _, some _, some _, some _, some _, some _, none, none, none, none, none, none, none, none, none, none]) dL_debts_17 rfl (Nat.le_of_ble_eq_true rfl) rfl ?_
  refine v_iconst (v := nI 0) C dL_debts_19 (by decide) ?_
  refine v_istore C (lo2 := [some _, some _, some _, some _, some _, some _, some _, some _, none, none, none, none, none, none, none, none, none]) dL_debts_20 rfl (Nat.le_of_ble_eq_true rfl) rfl ?_
  exact db_all hl C F hW hI n1 hinj n 0 (Nat.zero_add n) _ [] sv 16 _ _ ⟨s, (sT, mT), rr, hh, sl, tx, _, rfl, hH⟩ hS (Nat.le_refl 0) rfl (by omega) (by omega)

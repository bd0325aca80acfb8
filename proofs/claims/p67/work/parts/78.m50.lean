set_option maxHeartbeats 2000000 in
theorem c_X7_isLocked0 {l : Launch} (hl : l.stackTraces = false) {κ : Kp} {h : Nat → Nat} {n : Nat} {m : Mg} {e : Nat → Nat} {p : Int32} (h14 : n ≤ 14) : CtG SS MM l κ yX7_isLocked cX7_isLocked 5 (some FieldType.boolean) 0 0 0 [.ref (h 0), .int (nI n), .int (-1)] (lmW κ h n (m, e, p)) ri (fun r w => r = nI 0 ∧ w = lmW κ h n (m, e, p)) (fun _ _ => False) := by
  refine CtG.of (own := RX7) (by decide) rfl hl (by intro v hv; simp only [List.mem_cons, List.not_mem_nil, or_false] at hv; first | (rcases hv with rfl | rfl | rfl | rfl | rfl | rfl <;> rfl) | (rcases hv with rfl | rfl | rfl | rfl | rfl <;> rfl) | (rcases hv with rfl | rfl | rfl | rfl <;> rfl) | (rcases hv with rfl | rfl | rfl <;> rfl) | (rcases hv with rfl | rfl <;> rfl) | (subst hv; rfl) | exact hv.elim) (Nat.le_of_ble_eq_true rfl) (fun X hxl hxk C F NH hnm => ?_)
  subst hxl hxk
  show V X iW 0 [some (.ref (h 0)), some (.int (nI n)), some (.int (-1)), none, none] [] (lmW (xK X) h n (m, e, p)) 0 0
  refine v_iconst (v := nI 0) C dX7_isLocked_0 (by decide) ?_
  refine v_istore_n C (lo2 := [some _, some _, some _, some _, none]) dX7_isLocked_1 rfl (Nat.le_of_ble_eq_true rfl) rfl ?_
  refine v_iload_n C dX7_isLocked_2 rfl ?_
  refine v_istore C (lo2 := [some _, some _, some _, some _, some _]) dX7_isLocked_3 rfl (Nat.le_of_ble_eq_true rfl) rfl ?_
  refine v_iload C dX7_isLocked_5 rfl ?_
  refine v_iload_n C dX7_isLocked_7 rfl ?_
  refine v_icmp_gt C 30 dX7_isLocked_8 (by decide) (fun c8 => ?_) (fun c8 => ?_)
  · refine v_iload_n C dX7_isLocked_30 rfl ?_
    refine v_iretG C F (by first | rfl | exact bI_nar _) dX7_isLocked_31 (by first | omega | exact Nat.le_of_ble_eq_true rfl) (by first | omega | exact Nat.le_of_ble_eq_true rfl) rfl (List.Perm.refl _) ?_
    exact ⟨rfl, rfl⟩
  · exact absurd (show (-1 : Int32).toInt < (nI n).toInt by rw [nI_toInt (by omega), show (-1 : Int32).toInt = -1 by decide]; omega) c8
set_option maxHeartbeats 2000000 in
theorem c_L_moves {l : Launch} (hl : l.stackTraces = false) {κ : Kp} {g h : Nat → Nat} {n cM : Nat} {m : Mg} {e : Nat → Nat} {u : Cg} {b i : Nat} {a : Nat} (hG : GU m u) (hW : WM n cM m) (hI : LI n m) (n1 : ¬ n = 0) (hk6 : ∃ j, j < 1000 ∧ m 6 0 = nI j) (h31 : κ.2.2.2 999 < 2 ^ 20) (hi0 : i < 2100) (han : a < n) : CtG SS MM l κ yL_moves cL_moves 9 (some FieldType.boolean) 19 100 400 [.ref (g 0), .ref (h 0), .ref b, .int (nI a)] (cS κ g u ++ (lmW κ h n (m, e, m 6 0) ++ dS κ b i)) ri (fun r w => r = nI 1 ∧ ∃ m' e' u' i', GU m' u' ∧ LI n m' ∧ (m' 6 0 = m 6 0 ∨ m' 6 0 = m 6 0 + nI 1) ∧ i' ≤ i + 10 ∧ w = cS κ g u' ++ (lmW κ h n (m', e', m' 6 0) ++ dS κ b i')) (fun _ _ => False) := by
  refine CtG.of (own := RL) (by decide) rfl hl (by intro v hv; simp only [List.mem_cons, List.not_mem_nil, or_false] at hv; first | (rcases hv with rfl | rfl | rfl | rfl | rfl | rfl <;> rfl) | (rcases hv with rfl | rfl | rfl | rfl | rfl <;> rfl) | (rcases hv with rfl | rfl | rfl | rfl <;> rfl) | (rcases hv with rfl | rfl | rfl <;> rfl) | (rcases hv with rfl | rfl <;> rfl) | (subst hv; rfl) | exact hv.elim) (Nat.le_of_ble_eq_true rfl) (fun X hxl hxk C F NH hnm => ?_)
  subst hxl hxk
  show V X iW 0 [some (.ref (g 0)), some (.ref (h 0)), some (.ref b), some (.int (nI a)), none, none, none, none, none] [] (cS (xK X) g u ++ (lmW (xK X) h n (m, e, m 6 0) ++ dS (xK X) b i)) 0 0
  obtain ⟨s, ⟨sT, mT⟩, rr, hh, sl, tx, L0, rfl, hH⟩ := hG
  have h14 := hI.1
  have hIM := hI.im
  have hE := hI.ev
  have hset := hI.set
  have hn31 : n < 2 ^ 31 := by omega
  have hn96 : n ≤ 96 := by omega
  refine v_aload_n C dL_moves_0 rfl ?_
  refine v_gFN (K := fun w => cS (xK X) g ((s, m), (sT, mT), rr, hh, sl, tx) ++ (w ++ dS (xK X) b (i))) C (Cxt.l _ (Cxt.r _ Cxt.id)) (v := .ref (h 1)) 0 fln_L_154 lm_0 rfl dL_moves_1 ?_
  refine v_lenA (K := fun w => cS (xK X) g ((s, m), (sT, mT), rr, hh, sl, tx) ++ (w ++ dS (xK X) b (i))) C (Cxt.l _ (Cxt.r _ Cxt.id)) (N := n) 3 1 rfl lm_1 rfl dL_moves_4 ?_
  refine v_istore C (lo2 := [some _, some _, some _, some _, some _, none, none, none, none]) dL_moves_5 rfl (Nat.le_of_ble_eq_true rfl) rfl ?_
  refine v_aload_n C dL_moves_7 rfl ?_
  refine v_iconst (v := nI 0) C dL_moves_8 (by decide) ?_
  refine v_iload C dL_moves_9 rfl ?_
  refine v_iconst (v := nI 1) C dL_moves_11 (by decide) ?_
  first | refine v_isubN C dL_moves_12 (by omega) ?_ | refine v_isub C dL_moves_12 ?_
  refine v_gVi (K := fun w => cS (xK X) g ((s, m), (sT, mT), rr, hh, sl, tx) ++ (lmW (xK X) h n (m, e, m 6 0) ++ w)) C (Cxt.l _ (Cxt.l _ Cxt.id)) 0 (c_X6_next hl (i := i) (lo := 0) (hi := (n - 1)) (by omega) (by omega) (by omega) h31) ym_X6_next ml_L_217 rfl rfl rfl rfl dL_moves_13 (by first | omega | exact Nat.le_of_ble_eq_true rfl) (by first | omega | exact Nat.le_of_ble_eq_true rfl) (by first | omega | exact Nat.le_of_ble_eq_true rfl) (Nat.le_of_ble_eq_true rfl) (fun _ _ hu => hu.elim) (fun r u hu => ?_)
  obtain ⟨rfl, rfl⟩ := hu
  have hbP := drw_in (κ := (xK X)) (i := i) (a := 0) (b := (n - 1)) (by omega)
  generalize drw (xK X) (i) (0) ((n - 1)) = P at hbP ⊢
  refine v_istore C (lo2 := [some _, some _, some _, some _, some _, some _, none, none, none]) dL_moves_16 rfl (Nat.le_of_ble_eq_true rfl) rfl ?_
  refine v_aload_n C dL_moves_18 rfl ?_
  refine v_iconst (v := nI 1) C dL_moves_19 (by decide) ?_
  refine v_iload C dL_moves_20 rfl ?_
  refine v_gVi (K := fun w => cS (xK X) g ((s, m), (sT, mT), rr, hh, sl, tx) ++ (lmW (xK X) h n (m, e, m 6 0) ++ w)) C (Cxt.l _ (Cxt.l _ Cxt.id)) 0 (c_X6_next hl (i := i + 1) (lo := 1) (hi := n) (by omega) (by omega) (by omega) h31) ym_X6_next ml_L_217 rfl rfl rfl rfl dL_moves_22 (by first | omega | exact Nat.le_of_ble_eq_true rfl) (by first | omega | exact Nat.le_of_ble_eq_true rfl) (by first | omega | exact Nat.le_of_ble_eq_true rfl) (Nat.le_of_ble_eq_true rfl) (fun _ _ hu => hu.elim) (fun r u hu => ?_)
  obtain ⟨rfl, rfl⟩ := hu
  have hbK := drw_in (κ := (xK X)) (i := i + 1) (a := 1) (b := n) (by omega)
  generalize drw (xK X) (i + 1) (1) (n) = K at hbK ⊢
  have hPn : P < n := by omega
  have hKn : 1 ≤ K ∧ K ≤ n := by omega
  refine v_istore C (lo2 := [some _, some _, some _, some _, some _, some _, some _, none, none]) dL_moves_25 rfl (Nat.le_of_ble_eq_true rfl) rfl ?_
  refine v_aload_n C dL_moves_27 rfl ?_
  refine v_iconst (v := nI 0) C dL_moves_28 (by decide) ?_
  refine v_iconst (v := nI 1) C dL_moves_29 (by decide) ?_
  refine v_gVi (K := fun w => cS (xK X) g ((s, m), (sT, mT), rr, hh, sl, tx) ++ (lmW (xK X) h n (m, e, m 6 0) ++ w)) C (Cxt.l _ (Cxt.l _ Cxt.id)) 0 (c_X6_next hl (i := i + 1 + 1) (lo := 0) (hi := 1) (by omega) (by omega) (by omega) h31) ym_X6_next ml_L_217 rfl rfl rfl rfl dL_moves_30 (by first | omega | exact Nat.le_of_ble_eq_true rfl) (by first | omega | exact Nat.le_of_ble_eq_true rfl) (by first | omega | exact Nat.le_of_ble_eq_true rfl) (Nat.le_of_ble_eq_true rfl) (fun _ _ hu => hu.elim) (fun r u hu => ?_)
  obtain ⟨rfl, rfl⟩ := hu
  have hbZ := drw_in (κ := (xK X)) (i := i + 1 + 1) (a := 0) (b := 1) (by omega)
  generalize drw (xK X) (i + 1 + 1) (0) (1) = Z at hbZ ⊢
  refine v_if_ne C 120 dL_moves_33 (by decide) (fun c33 => ?_) (fun c33 => ?_)
  · refine v_aload_n C dL_moves_120 rfl ?_
    refine v_iload_n C dL_moves_121 rfl ?_
    refine v_iload C dL_moves_122 rfl ?_
    refine v_iload C dL_moves_124 rfl ?_
    refine v_gVi (K := fun w => cS (xK X) g ((s, m), (sT, mT), rr, hh, sl, tx) ++ (w ++ dS (xK X) b (i + 1 + 1 + 1))) C (Cxt.l _ (Cxt.r _ Cxt.id)) 0 (c_X7_why hl h14 (by omega) (by omega) (by omega) hI.lk) ym_X7_why ml_L_230 lm_0 rfl rfl rfl dL_moves_126 (by first | omega | exact Nat.le_of_ble_eq_true rfl) (by first | omega | exact Nat.le_of_ble_eq_true rfl) (by first | omega | exact Nat.le_of_ble_eq_true rfl) (Nat.le_of_ble_eq_true rfl) (fun _ _ hu => hu.elim) (fun r u hu => ?_)
    obtain ⟨rfl, rfl⟩ := hu
    refine v_if_eq C 153 dL_moves_129 (by decide) (fun c129 => ?_) (fun c129 => ?_)
    · have hw := why_0 (m := m) (n := n) (fr := a) (to_ := P) (len := K) c129
      refine v_aload_n C dL_moves_153 rfl ?_
      refine v_iload_n C dL_moves_154 rfl ?_
      refine v_iload C dL_moves_155 rfl ?_
      refine v_iload C dL_moves_157 rfl ?_
      refine v_gVr (K := fun w => cS (xK X) g ((s, m), (sT, mT), rr, hh, sl, tx) ++ (w ++ dS (xK X) b (i + 1 + 1 + 1))) C (Cxt.l _ (Cxt.r _ Cxt.id)) 0 (c_X7_left hl h14 hw.1 hw.2.1 (by omega)) ym_X7_left ml_L_261 lm_0 rfl rfl rfl dL_moves_159 (by first | omega | exact Nat.le_of_ble_eq_true rfl) (by first | omega | exact Nat.le_of_ble_eq_true rfl) (by first | omega | exact Nat.le_of_ble_eq_true rfl) (Nat.le_of_ble_eq_true rfl) (fun _ _ hu => hu.elim) (fun q9 u hu => ?_)
      obtain rfl := hu
      by_cases hAP : a = P
      · rw [lf_A hw.1 hw.2.1 hKn.1 hAP]
        have hcp := hI.cop hk6 (show 0 < K by omega) hw.1 hw.2.1
        have hIc := hcp.1.im
        have hEc := hcp.1.ev
        have hmv := hI.mov hk6 (show 0 < K by omega) hw.1 hw.2.1
        have hmE : (movM n a P K m) = (copyM n a P K m) := if_pos hAP
        rw [hmE] at hmv
        refine v_astore C (lo2 := [some _, some _, some _, some _, some _, some _, some _, some _, none]) dL_moves_162 rfl (Nat.le_of_ble_eq_true rfl) rfl ?_
        refine v_aload_n C dL_moves_164 rfl ?_
        refine v_aload C dL_moves_165 rfl ?_
        refine v_iconst (v := nI 0) C dL_moves_167 (by decide) ?_
        refine v_gI (K := fun w => cS (xK X) g ((s, m), (sT, mT), rr, hh, sl, tx) ++ ((w ++ lmW (xK X) h n (m, e, m 6 0)) ++ dS (xK X) b (i + 1 + 1 + 1))) C (Cxt.l _ (Cxt.r _ (Cxt.r _ Cxt.id))) (x := (nI n)) 0 rfl (by first | decide | omega) 0 (rfl) ?_ rfl dL_moves_168 ?_
        · omega
        refine v_aload C dL_moves_169 rfl ?_
        refine v_iconst (v := nI 1) C dL_moves_171 (by decide) ?_
        refine v_gI (K := fun w => cS (xK X) g ((s, m), (sT, mT), rr, hh, sl, tx) ++ ((w ++ lmW (xK X) h n (m, e, m 6 0)) ++ dS (xK X) b (i + 1 + 1 + 1))) C (Cxt.l _ (Cxt.r _ (Cxt.r _ Cxt.id))) (x := (-1)) 0 rfl (by first | decide | omega) 1 (rfl) ?_ rfl dL_moves_172 ?_
        · omega
        refine v_gVi (K := fun w => cS (xK X) g ((s, m), (sT, mT), rr, hh, sl, tx) ++ (([cI (xK X) q9 2 (upd (upd (fun _ => 0) 0 (nI n)) 1 (-1))] ++ w) ++ dS (xK X) b (i + 1 + 1 + 1))) C (Cxt.l _ (Cxt.r _ (Cxt.l _ Cxt.id))) 0 (c_X7_isLocked0 hl h14) ym_X7_isLocked ml_L_265 lm_0 rfl rfl rfl dL_moves_173 (by first | omega | exact Nat.le_of_ble_eq_true rfl) (by first | omega | exact Nat.le_of_ble_eq_true rfl) (by first | omega | exact Nat.le_of_ble_eq_true rfl) (Nat.le_of_ble_eq_true rfl) (fun _ _ hu => hu.elim) (fun r u hu => ?_)
        obtain ⟨rfl, rfl⟩ := hu
        refine v_if_eq C 200 dL_moves_176 (by decide) (fun c176 => ?_) (fun c => absurd c (by decide))
        refine v_aload_n C dL_moves_200 rfl ?_
        refine v_iload_n C dL_moves_201 rfl ?_
        refine v_iload C dL_moves_202 rfl ?_
        refine v_iload C dL_moves_204 rfl ?_
        refine v_gVv (K := fun w => cS (xK X) g ((s, m), (sT, mT), rr, hh, sl, tx) ++ (([cI (xK X) q9 2 (upd (upd (fun _ => 0) 0 (nI n)) 1 (-1))] ++ w) ++ dS (xK X) b (i + 1 + 1 + 1))) C (Cxt.l _ (Cxt.r _ (Cxt.l _ Cxt.id))) 0 (c_X7_copy hl hIM h14 hE hset.1 hset.2.1 hset.2.2 hw.1 hw.2.1 (by omega) hI.2.2.1 rfl) ym_X7_copy ml_L_233 lm_0 rfl rfl rfl dL_moves_206 (by first | omega | exact Nat.le_of_ble_eq_true rfl) (by first | omega | exact Nat.le_of_ble_eq_true rfl) (by first | omega | exact Nat.le_of_ble_eq_true rfl) (Nat.le_of_ble_eq_true rfl) (fun _ _ hu => hu.elim) (fun r u hu => ?_)
        obtain ⟨e1, rfl⟩ := hu
        refine v_aload_n C dL_moves_209 rfl ?_
        refine v_aload C dL_moves_210 rfl ?_
        refine v_iconst (v := nI 0) C dL_moves_212 (by decide) ?_
        refine v_gI (K := fun w => cS (xK X) g ((s, m), (sT, mT), rr, hh, sl, tx) ++ ((w ++ lmW (xK X) h n ((copyM n a P K m), e1, (m 6 0 + nI 1))) ++ dS (xK X) b (i + 1 + 1 + 1))) C (Cxt.l _ (Cxt.r _ (Cxt.r _ Cxt.id))) (x := (nI n)) 0 rfl (by first | decide | omega) 0 (rfl) ?_ rfl dL_moves_213 ?_
        · omega
        refine v_aload C dL_moves_214 rfl ?_
        refine v_iconst (v := nI 1) C dL_moves_216 (by decide) ?_
        refine v_gI (K := fun w => cS (xK X) g ((s, m), (sT, mT), rr, hh, sl, tx) ++ ((w ++ lmW (xK X) h n ((copyM n a P K m), e1, (m 6 0 + nI 1))) ++ dS (xK X) b (i + 1 + 1 + 1))) C (Cxt.l _ (Cxt.r _ (Cxt.r _ Cxt.id))) (x := (-1)) 0 rfl (by first | decide | omega) 1 (rfl) ?_ rfl dL_moves_217 ?_
        · omega
        refine v_iconst (v := nI 0) C dL_moves_218 (by decide) ?_
        refine v_gVi (K := fun w => cS (xK X) g ((s, m), (sT, mT), rr, hh, sl, tx) ++ (([cI (xK X) q9 2 (upd (upd (fun _ => 0) 0 (nI n)) 1 (-1))] ++ w) ++ dS (xK X) b (i + 1 + 1 + 1))) C (Cxt.l _ (Cxt.r _ (Cxt.l _ Cxt.id))) 0 (c_X7_fill hl hIc h14 hEc (a := n) (c := 0) (Nat.le_refl _) (Nat.zero_le _) (by decide)) ym_X7_fill ml_L_239 lm_0 rfl rfl rfl dL_moves_219 (by first | omega | exact Nat.le_of_ble_eq_true rfl) (by first | omega | exact Nat.le_of_ble_eq_true rfl) (by first | omega | exact Nat.le_of_ble_eq_true rfl) (Nat.le_of_ble_eq_true rfl) (fun _ _ hu => hu.elim) (fun r u hu => ?_)
        obtain ⟨rfl, e2, rfl⟩ := hu
        rw [fillL_0]
        refine v_istore C (lo2 := [some _, some _, some _, some _, some _, some _, some _, some _, some _]) dL_moves_222 rfl (Nat.le_of_ble_eq_true rfl) rfl ?_
        refine v_aload_n C dL_moves_224 rfl ?_
        refine v_iload_n C dL_moves_225 rfl ?_
        refine v_iload C dL_moves_226 rfl ?_
        refine v_iload C dL_moves_228 rfl ?_
        refine v_kVi (K := fun w => w ++ (([cI (xK X) q9 2 (upd (upd (fun _ => 0) 0 (nI n)) 1 (-1))] ++ lmW (xK X) h n ((copyM n a P K m), e2, (m 6 0 + nI 1))) ++ dS (xK X) b (i + 1 + 1 + 1))) C (Cxt.r _ Cxt.id) (c_X5_move hl (c := cM) hW hH) ym_X5_move ml_L_127 fix_cS cS_0 rfl rfl rfl dL_moves_230 (by first | omega | exact Nat.le_of_ble_eq_true rfl) (by first | omega | exact Nat.le_of_ble_eq_true rfl) (by first | omega | exact Nat.le_of_ble_eq_true rfl) (Nat.le_of_ble_eq_true rfl) (fun _ _ hu => (noA (cd_v0 n1 hI.n7 hn96 hKn.1 hw (Or.inl hAP)) hu.1).elim) (fun r u hu => ?_)
        obtain ⟨⟨-, rfl⟩, s, ⟨sT, mT⟩, hh, rfl, hH⟩ := hu
        rw [tN_nI (show a < 2 ^ 31 by omega), tN_nI (show P < 2 ^ 31 by omega), tN_nI (show K < 2 ^ 31 by omega), hmE]
        refine v_aload_n C dL_moves_233 rfl ?_
        refine v_gFN (K := fun w => cS (xK X) g ((s, (copyM n a P K m)), (sT, mT), rr, hh, sl, tx) ++ (([cI (xK X) q9 2 (upd (upd (fun _ => 0) 0 (nI n)) 1 (-1))] ++ w) ++ dS (xK X) b (i + 1 + 1 + 1))) C (Cxt.l _ (Cxt.r _ (Cxt.l _ Cxt.id))) (v := .int (m 6 0 + nI 1)) 0 fln_L_236 lm_0 rfl dL_moves_234 ?_
        refine v_iconst (v := nI 1) C dL_moves_237 (by decide) ?_
        refine v_isub C dL_moves_238 ?_
        refine v_icmp_ne C 246 dL_moves_239 (by decide) (fun c239 => ?_) (fun c239 => ?_)
        · exact absurd p1_eq c239
        · refine v_iconst (v := nI 1) C dL_moves_242 (by decide) ?_
          refine v_goto C 247 dL_moves_243 (by decide) ?_
          refine V.drop (ws' := cS (xK X) g ((s, (copyM n a P K m)), (sT, mT), rr, hh, sl, tx) ++ (lmW (xK X) h n ((copyM n a P K m), e2, (m 6 0 + nI 1)) ++ dS (xK X) b (i + 1 + 1 + 1))) ((List.Sublist.refl _).append ((List.sublist_append_right _ _).append (List.Sublist.refl _))) ?_
          refine v_iretG C F (by first | rfl | exact bI_nar _) dL_moves_247 (by first | omega | exact Nat.le_of_ble_eq_true rfl) (by first | omega | exact Nat.le_of_ble_eq_true rfl) rfl (List.Perm.refl _) ?_
          exact ⟨rfl, (copyM n a P K m), e2, ((s, (copyM n a P K m)), (sT, mT), rr, hh, sl, tx), i + 1 + 1 + 1, ⟨s, (sT, mT), rr, hh, sl, tx, _, rfl, hH⟩, hmv.1, Or.inr hmv.2, by omega, by rw [hmv.2]⟩
      · rw [lf_B hw.1 hw.2.1 hKn.1 hAP]
        have hcp := hI.cop hk6 (show 0 < K by omega) hw.1 hw.2.1
        have hIc := hcp.1.im
        have hEc := hcp.1.ev
        have hmv := hI.mov hk6 (show 0 < K by omega) hw.1 hw.2.1
        have hlf := ((left_at hw.1 hw.2.1 (show 0 < K by omega)).2 hAP).2
        have hmE : (movM n a P K m) = (fillM n (lefA a P K) (lefZ a P K) (nI 0) (copyM n a P K m)).2 := if_neg hAP
        rw [hmE] at hmv
        refine v_astore C (lo2 := [some _, some _, some _, some _, some _, some _, some _, some _, none]) dL_moves_162 rfl (Nat.le_of_ble_eq_true rfl) rfl ?_
        refine v_aload_n C dL_moves_164 rfl ?_
        refine v_aload C dL_moves_165 rfl ?_
        refine v_iconst (v := nI 0) C dL_moves_167 (by decide) ?_
        refine v_gI (K := fun w => cS (xK X) g ((s, m), (sT, mT), rr, hh, sl, tx) ++ ((w ++ lmW (xK X) h n (m, e, m 6 0)) ++ dS (xK X) b (i + 1 + 1 + 1))) C (Cxt.l _ (Cxt.r _ (Cxt.r _ Cxt.id))) (x := (nI (lefA a P K))) 0 rfl (by first | decide | omega) 0 (rfl) ?_ rfl dL_moves_168 ?_
        · omega
        refine v_aload C dL_moves_169 rfl ?_
        refine v_iconst (v := nI 1) C dL_moves_171 (by decide) ?_
        refine v_gI (K := fun w => cS (xK X) g ((s, m), (sT, mT), rr, hh, sl, tx) ++ ((w ++ lmW (xK X) h n (m, e, m 6 0)) ++ dS (xK X) b (i + 1 + 1 + 1))) C (Cxt.l _ (Cxt.r _ (Cxt.r _ Cxt.id))) (x := (nI (lefZ a P K))) 0 rfl (by first | decide | omega) 1 (rfl) ?_ rfl dL_moves_172 ?_
        · omega
        refine v_gVi (K := fun w => cS (xK X) g ((s, m), (sT, mT), rr, hh, sl, tx) ++ (([cI (xK X) q9 2 (upd (upd (fun _ => 0) 0 (nI (lefA a P K))) 1 (nI (lefZ a P K)))] ++ w) ++ dS (xK X) b (i + 1 + 1 + 1))) C (Cxt.l _ (Cxt.r _ (Cxt.l _ Cxt.id))) 0 (c_X7_isLocked hl (a := lefA a P K) (c := lefZ a P K + 1) (by omega) (by rw [nI_toInt (by omega)]; omega) (by omega) h14 hI.lk) ym_X7_isLocked ml_L_265 lm_0 rfl rfl rfl dL_moves_173 (by first | omega | exact Nat.le_of_ble_eq_true rfl) (by first | omega | exact Nat.le_of_ble_eq_true rfl) (by first | omega | exact Nat.le_of_ble_eq_true rfl) (Nat.le_of_ble_eq_true rfl) (fun _ _ hu => hu.elim) (fun r u hu => ?_)
        obtain ⟨rfl, rfl⟩ := hu
        refine v_if_eqB C 200 dL_moves_176 (by decide) (fun c176 => ?_) (fun c176 => ?_)
        · refine v_aload_n C dL_moves_200 rfl ?_
          refine v_iload_n C dL_moves_201 rfl ?_
          refine v_iload C dL_moves_202 rfl ?_
          refine v_iload C dL_moves_204 rfl ?_
          refine v_gVv (K := fun w => cS (xK X) g ((s, m), (sT, mT), rr, hh, sl, tx) ++ (([cI (xK X) q9 2 (upd (upd (fun _ => 0) 0 (nI (lefA a P K))) 1 (nI (lefZ a P K)))] ++ w) ++ dS (xK X) b (i + 1 + 1 + 1))) C (Cxt.l _ (Cxt.r _ (Cxt.l _ Cxt.id))) 0 (c_X7_copy hl hIM h14 hE hset.1 hset.2.1 hset.2.2 hw.1 hw.2.1 (by omega) hI.2.2.1 rfl) ym_X7_copy ml_L_233 lm_0 rfl rfl rfl dL_moves_206 (by first | omega | exact Nat.le_of_ble_eq_true rfl) (by first | omega | exact Nat.le_of_ble_eq_true rfl) (by first | omega | exact Nat.le_of_ble_eq_true rfl) (Nat.le_of_ble_eq_true rfl) (fun _ _ hu => hu.elim) (fun r u hu => ?_)
          obtain ⟨e1, rfl⟩ := hu
          refine v_aload_n C dL_moves_209 rfl ?_
          refine v_aload C dL_moves_210 rfl ?_
          refine v_iconst (v := nI 0) C dL_moves_212 (by decide) ?_
          refine v_gI (K := fun w => cS (xK X) g ((s, m), (sT, mT), rr, hh, sl, tx) ++ ((w ++ lmW (xK X) h n ((copyM n a P K m), e1, (m 6 0 + nI 1))) ++ dS (xK X) b (i + 1 + 1 + 1))) C (Cxt.l _ (Cxt.r _ (Cxt.r _ Cxt.id))) (x := (nI (lefA a P K))) 0 rfl (by first | decide | omega) 0 (rfl) ?_ rfl dL_moves_213 ?_
          · omega
          refine v_aload C dL_moves_214 rfl ?_
          refine v_iconst (v := nI 1) C dL_moves_216 (by decide) ?_
          refine v_gI (K := fun w => cS (xK X) g ((s, m), (sT, mT), rr, hh, sl, tx) ++ ((w ++ lmW (xK X) h n ((copyM n a P K m), e1, (m 6 0 + nI 1))) ++ dS (xK X) b (i + 1 + 1 + 1))) C (Cxt.l _ (Cxt.r _ (Cxt.r _ Cxt.id))) (x := (nI (lefZ a P K))) 0 rfl (by first | decide | omega) 1 (rfl) ?_ rfl dL_moves_217 ?_
          · omega
          refine v_iconst (v := nI 0) C dL_moves_218 (by decide) ?_
          refine v_gVi (K := fun w => cS (xK X) g ((s, m), (sT, mT), rr, hh, sl, tx) ++ (([cI (xK X) q9 2 (upd (upd (fun _ => 0) 0 (nI (lefA a P K))) 1 (nI (lefZ a P K)))] ++ w) ++ dS (xK X) b (i + 1 + 1 + 1))) C (Cxt.l _ (Cxt.r _ (Cxt.l _ Cxt.id))) 0 (c_X7_fill hl hIc h14 hEc (a := lefA a P K) (c := lefZ a P K + 1) (by omega) (by omega) (by rw [nI_toInt (by omega)]; omega)) ym_X7_fill ml_L_239 lm_0 rfl rfl rfl dL_moves_219 (by first | omega | exact Nat.le_of_ble_eq_true rfl) (by first | omega | exact Nat.le_of_ble_eq_true rfl) (by first | omega | exact Nat.le_of_ble_eq_true rfl) (Nat.le_of_ble_eq_true rfl) (fun _ _ hu => hu.elim) (fun r u hu => ?_)
          obtain ⟨rfl, e2, rfl⟩ := hu
          rw [fillL_eq (by omega) (by omega)]
          refine v_istore C (lo2 := [some _, some _, some _, some _, some _, some _, some _, some _, some _]) dL_moves_222 rfl (Nat.le_of_ble_eq_true rfl) rfl ?_
          refine v_aload_n C dL_moves_224 rfl ?_
          refine v_iload_n C dL_moves_225 rfl ?_
          refine v_iload C dL_moves_226 rfl ?_
          refine v_iload C dL_moves_228 rfl ?_
          refine v_kVi (K := fun w => w ++ (([cI (xK X) q9 2 (upd (upd (fun _ => 0) 0 (nI (lefA a P K))) 1 (nI (lefZ a P K)))] ++ lmW (xK X) h n ((fillM n (lefA a P K) (lefZ a P K) (nI 0) (copyM n a P K m)).2, e2, (m 6 0 + nI 1))) ++ dS (xK X) b (i + 1 + 1 + 1))) C (Cxt.r _ Cxt.id) (c_X5_move hl (c := cM) hW hH) ym_X5_move ml_L_127 fix_cS cS_0 rfl rfl rfl dL_moves_230 (by first | omega | exact Nat.le_of_ble_eq_true rfl) (by first | omega | exact Nat.le_of_ble_eq_true rfl) (by first | omega | exact Nat.le_of_ble_eq_true rfl) (Nat.le_of_ble_eq_true rfl) (fun _ _ hu => (noA (cd_v0 n1 hI.n7 hn96 hKn.1 hw (Or.inr c176)) hu.1).elim) (fun r u hu => ?_)
          obtain ⟨⟨-, rfl⟩, s, ⟨sT, mT⟩, hh, rfl, hH⟩ := hu
          rw [tN_nI (show a < 2 ^ 31 by omega), tN_nI (show P < 2 ^ 31 by omega), tN_nI (show K < 2 ^ 31 by omega), hmE]
          refine v_aload_n C dL_moves_233 rfl ?_
          refine v_gFN (K := fun w => cS (xK X) g ((s, (fillM n (lefA a P K) (lefZ a P K) (nI 0) (copyM n a P K m)).2), (sT, mT), rr, hh, sl, tx) ++ (([cI (xK X) q9 2 (upd (upd (fun _ => 0) 0 (nI (lefA a P K))) 1 (nI (lefZ a P K)))] ++ w) ++ dS (xK X) b (i + 1 + 1 + 1))) C (Cxt.l _ (Cxt.r _ (Cxt.l _ Cxt.id))) (v := .int (m 6 0 + nI 1)) 0 fln_L_236 lm_0 rfl dL_moves_234 ?_
          refine v_iconst (v := nI 1) C dL_moves_237 (by decide) ?_
          refine v_isub C dL_moves_238 ?_
          refine v_icmp_ne C 246 dL_moves_239 (by decide) (fun c239 => ?_) (fun c239 => ?_)
          · exact absurd p1_eq c239
          · refine v_iconst (v := nI 1) C dL_moves_242 (by decide) ?_
            refine v_goto C 247 dL_moves_243 (by decide) ?_
            refine V.drop (ws' := cS (xK X) g ((s, (fillM n (lefA a P K) (lefZ a P K) (nI 0) (copyM n a P K m)).2), (sT, mT), rr, hh, sl, tx) ++ (lmW (xK X) h n ((fillM n (lefA a P K) (lefZ a P K) (nI 0) (copyM n a P K m)).2, e2, (m 6 0 + nI 1)) ++ dS (xK X) b (i + 1 + 1 + 1))) ((List.Sublist.refl _).append ((List.sublist_append_right _ _).append (List.Sublist.refl _))) ?_
            refine v_iretG C F (by first | rfl | exact bI_nar _) dL_moves_247 (by first | omega | exact Nat.le_of_ble_eq_true rfl) (by first | omega | exact Nat.le_of_ble_eq_true rfl) rfl (List.Perm.refl _) ?_
            exact ⟨rfl, (fillM n (lefA a P K) (lefZ a P K) (nI 0) (copyM n a P K m)).2, e2, ((s, (fillM n (lefA a P K) (lefZ a P K) (nI 0) (copyM n a P K m)).2), (sT, mT), rr, hh, sl, tx), i + 1 + 1 + 1, ⟨s, (sT, mT), rr, hh, sl, tx, _, rfl, hH⟩, hmv.1, Or.inr hmv.2, by omega, by rw [hmv.2]⟩
        · refine v_aload_n C dL_moves_179 rfl ?_
          refine v_bipush (v := nI 32) C dL_moves_180 (by decide) ?_
          refine v_iload_n C dL_moves_182 rfl ?_
          refine v_iload C dL_moves_183 rfl ?_
          refine v_iload C dL_moves_185 rfl ?_
          refine v_gSHi (K := fun w => w ++ (([cI (xK X) q9 2 (upd (upd (fun _ => 0) 0 (nI (lefA a P K))) 1 (nI (lefZ a P K)))] ++ lmW (xK X) h n (m, e, m 6 0)) ++ dS (xK X) b (i + 1 + 1 + 1))) C (Cxt.r _ Cxt.id) (c_thrown hl (Nat.le_of_ble_eq_true rfl) (Nat.le_of_ble_eq_true rfl) (c_calls_32 (b := _) (c := _) hl (by decide) (c_X5_move hl hW hH)) (fun _ _ hu => by
              obtain ⟨_, _, hz, _⟩ := hu
              have hy := hz.1.1
              rw [(cd_v2 n1 hI.n7 hn96 han hPn hKn (fun _ => ⟨hAP, c176⟩))] at hy
              exact absurd hy (by decide)) (fun _ _ hp => tA_E hp.1)) ysh_L_thrown ml_L_226 rfl rfl dL_moves_187 (Nat.le_of_ble_eq_true rfl) (by first | omega | exact Nat.le_of_ble_eq_true rfl) (by first | omega | exact Nat.le_of_ble_eq_true rfl) (Nat.le_of_ble_eq_true rfl) (fun _ _ hu => hu.elim) (fun r u hu => ?_)
          obtain ⟨e9, u9, hp, rfl, rfl⟩ := hu
          rw [show exN e9 = 3 from ex_A ((cd_v2 n1 hI.n7 hn96 han hPn hKn (fun _ => ⟨hAP, c176⟩))) hp.1]
          obtain ⟨s, ⟨sT, mT⟩, rfl⟩ := hp.2
          refine v_iconst (v := nI 3) C dL_moves_190 (by decide) ?_
          refine v_icmp_ne C 198 dL_moves_191 (by decide) (fun c => absurd c (by decide)) (fun c191 => ?_)
          refine v_iconst (v := nI 1) C dL_moves_194 (by decide) ?_
          refine v_goto C 199 dL_moves_195 (by decide) ?_
          refine V.drop (ws' := cS (xK X) g ((s, m), (sT, mT), rr, hh, sl, tx) ++ (lmW (xK X) h n (m, e, m 6 0) ++ dS (xK X) b (i + 1 + 1 + 1))) ((List.Sublist.refl _).append ((List.sublist_append_right _ _).append (List.Sublist.refl _))) ?_
          refine v_iretG C F (by first | rfl | exact bI_nar _) dL_moves_199 (by first | omega | exact Nat.le_of_ble_eq_true rfl) (by first | omega | exact Nat.le_of_ble_eq_true rfl) rfl (List.Perm.refl _) ?_
          exact ⟨rfl, m, e, ((s, m), (sT, mT), rr, hh, sl, tx), i + 1 + 1 + 1, ⟨s, (sT, mT), rr, hh, sl, tx, _, rfl, hH⟩, hI, Or.inl rfl, by omega, rfl⟩
    · have hvz : whyN m n a P K = 0 → ¬ a = P ∧ anyG (lockB m) (lefA a P K) (lefZ a P K + 1 - lefA a P K) = true := fun z => absurd (congrArg nI z) c129
      refine v_aload_n C dL_moves_132 rfl ?_
      refine v_bipush (v := nI 32) C dL_moves_133 (by decide) ?_
      refine v_iload_n C dL_moves_135 rfl ?_
      refine v_iload C dL_moves_136 rfl ?_
      refine v_iload C dL_moves_138 rfl ?_
      refine v_gSHi (K := fun w => w ++ (lmW (xK X) h n (m, e, m 6 0) ++ dS (xK X) b (i + 1 + 1 + 1))) C (Cxt.r _ Cxt.id) (c_thrown hl (Nat.le_of_ble_eq_true rfl) (Nat.le_of_ble_eq_true rfl) (c_calls_32 (b := _) (c := _) hl (by decide) (c_X5_move hl hW hH)) (fun _ _ hu => by
          obtain ⟨_, _, hz, _⟩ := hu
          have hy := hz.1.1
          rw [(cd_v2 n1 hI.n7 hn96 han hPn hKn hvz)] at hy
          exact absurd hy (by decide)) (fun _ _ hp => tA_E hp.1)) ysh_L_thrown ml_L_226 rfl rfl dL_moves_140 (Nat.le_of_ble_eq_true rfl) (by first | omega | exact Nat.le_of_ble_eq_true rfl) (by first | omega | exact Nat.le_of_ble_eq_true rfl) (Nat.le_of_ble_eq_true rfl) (fun _ _ hu => hu.elim) (fun r u hu => ?_)
      obtain ⟨e9, u9, hp, rfl, rfl⟩ := hu
      rw [show exN e9 = 3 from ex_A ((cd_v2 n1 hI.n7 hn96 han hPn hKn hvz)) hp.1]
      obtain ⟨s, ⟨sT, mT⟩, rfl⟩ := hp.2
      refine v_iconst (v := nI 3) C dL_moves_143 (by decide) ?_
      refine v_icmp_ne C 151 dL_moves_144 (by decide) (fun c => absurd c (by decide)) (fun c144 => ?_)
      refine v_iconst (v := nI 1) C dL_moves_147 (by decide) ?_
      refine v_goto C 152 dL_moves_148 (by decide) ?_
      refine v_iretG C F (by first | rfl | exact bI_nar _) dL_moves_152 (by first | omega | exact Nat.le_of_ble_eq_true rfl) (by first | omega | exact Nat.le_of_ble_eq_true rfl) rfl (List.Perm.refl _) ?_
      exact ⟨rfl, m, e, ((s, m), (sT, mT), rr, hh, sl, tx), i + 1 + 1 + 1, ⟨s, (sT, mT), rr, hh, sl, tx, _, rfl, hH⟩, hI, Or.inl rfl, by omega, rfl⟩
  · refine v_iload_n C dL_moves_36 rfl ?_
    refine v_iload C dL_moves_37 rfl ?_
    first | refine v_icmp_eqN C 67 dL_moves_39 (by decide) (by omega) (by omega) (fun c39 => ?_) (fun c39 => ?_) | refine v_icmp_eq C 67 dL_moves_39 (by decide) (fun c39 => ?_) (fun c39 => ?_)
    · have hxz : a = P ∨ lockB m a = true ∨ lockB m P = true := Or.inl (by omega)
      refine v_aload_n C dL_moves_67 rfl ?_
      refine v_bipush (v := nI 31) C dL_moves_68 (by decide) ?_
      refine v_iload_n C dL_moves_70 rfl ?_
      refine v_iload C dL_moves_71 rfl ?_
      refine v_iconst (v := nI 0) C dL_moves_73 (by decide) ?_
      refine v_gSHi (K := fun w => w ++ (lmW (xK X) h n (m, e, m 6 0) ++ dS (xK X) b (i + 1 + 1 + 1))) C (Cxt.r _ Cxt.id) (c_thrown hl (Nat.le_of_ble_eq_true rfl) (Nat.le_of_ble_eq_true rfl) (c_calls_31 (b := _) (c := _) hl (by decide) (c_X5_exchange hl hW hH)) (fun _ _ hu => by
          obtain ⟨_, _, hz, _⟩ := hu
          have hy := hz.1.1
          rw [(cd_x3 n1 han hPn hn31 hxz)] at hy
          exact absurd hy (by decide)) (fun _ _ hp => ts_E hp.1)) ysh_L_thrown ml_L_226 rfl rfl dL_moves_74 (Nat.le_of_ble_eq_true rfl) (by first | omega | exact Nat.le_of_ble_eq_true rfl) (by first | omega | exact Nat.le_of_ble_eq_true rfl) (Nat.le_of_ble_eq_true rfl) (fun _ _ hu => hu.elim) (fun r u hu => ?_)
      obtain ⟨e9, u9, hp, rfl, rfl⟩ := hu
      rw [show exN e9 = 3 from ex_3 ((cd_x3 n1 han hPn hn31 hxz)) hp.1]
      obtain ⟨s, ⟨sT, mT⟩, rfl⟩ := hp.2
      refine v_iconst (v := nI 3) C dL_moves_77 (by decide) ?_
      refine v_icmp_ne C 85 dL_moves_78 (by decide) (fun c => absurd c (by decide)) (fun c78 => ?_)
      refine v_iconst (v := nI 1) C dL_moves_81 (by decide) ?_
      refine v_goto C 86 dL_moves_82 (by decide) ?_
      refine v_iretG C F (by first | rfl | exact bI_nar _) dL_moves_86 (by first | omega | exact Nat.le_of_ble_eq_true rfl) (by first | omega | exact Nat.le_of_ble_eq_true rfl) rfl (List.Perm.refl _) ?_
      exact ⟨rfl, m, e, ((s, m), (sT, mT), rr, hh, sl, tx), i + 1 + 1 + 1, ⟨s, (sT, mT), rr, hh, sl, tx, _, rfl, hH⟩, hI, Or.inl rfl, by omega, rfl⟩
    · have hne : ¬ a = P := by omega
      refine v_aload_n C dL_moves_42 rfl ?_
      refine v_gFN (K := fun w => cS (xK X) g ((s, m), (sT, mT), rr, hh, sl, tx) ++ (w ++ dS (xK X) b (i + 1 + 1 + 1))) C (Cxt.l _ (Cxt.r _ Cxt.id)) (v := .ref (h 1)) 0 fln_L_154 lm_0 rfl dL_moves_43 ?_
      refine v_iload_n C dL_moves_46 rfl ?_
      refine v_gP (K := fun w => cS (xK X) g ((s, m), (sT, mT), rr, hh, sl, tx) ++ (w ++ dS (xK X) b (i + 1 + 1 + 1))) C (Cxt.l _ (Cxt.r _ Cxt.id)) (x := (some (h (8 + a)))) 1 lm_1 (by first | decide | omega) a (if_pos (by omega)) ?_ rfl dL_moves_47 ?_
      · omega
      refine v_gFN (K := fun w => cS (xK X) g ((s, m), (sT, mT), rr, hh, sl, tx) ++ (w ++ dS (xK X) b (i + 1 + 1 + 1))) C (Cxt.l _ (Cxt.r _ Cxt.id)) (v := .int (m 4 a)) (5 + a) fln_L_202 (plc_at han) rfl dL_moves_48 ?_
      refine v_if_ne C 67 dL_moves_51 (by decide) (fun c51 => ?_) (fun c51 => ?_)
      · have hxz : a = P ∨ lockB m a = true ∨ lockB m P = true := Or.inr (Or.inl (lk_t (hI.lk a han) c51))
        refine v_aload_n C dL_moves_67 rfl ?_
        refine v_bipush (v := nI 31) C dL_moves_68 (by decide) ?_
        refine v_iload_n C dL_moves_70 rfl ?_
        refine v_iload C dL_moves_71 rfl ?_
        refine v_iconst (v := nI 0) C dL_moves_73 (by decide) ?_
        refine v_gSHi (K := fun w => w ++ (lmW (xK X) h n (m, e, m 6 0) ++ dS (xK X) b (i + 1 + 1 + 1))) C (Cxt.r _ Cxt.id) (c_thrown hl (Nat.le_of_ble_eq_true rfl) (Nat.le_of_ble_eq_true rfl) (c_calls_31 (b := _) (c := _) hl (by decide) (c_X5_exchange hl hW hH)) (fun _ _ hu => by
            obtain ⟨_, _, hz, _⟩ := hu
            have hy := hz.1.1
            rw [(cd_x3 n1 han hPn hn31 hxz)] at hy
            exact absurd hy (by decide)) (fun _ _ hp => ts_E hp.1)) ysh_L_thrown ml_L_226 rfl rfl dL_moves_74 (Nat.le_of_ble_eq_true rfl) (by first | omega | exact Nat.le_of_ble_eq_true rfl) (by first | omega | exact Nat.le_of_ble_eq_true rfl) (Nat.le_of_ble_eq_true rfl) (fun _ _ hu => hu.elim) (fun r u hu => ?_)
        obtain ⟨e9, u9, hp, rfl, rfl⟩ := hu
        rw [show exN e9 = 3 from ex_3 ((cd_x3 n1 han hPn hn31 hxz)) hp.1]
        obtain ⟨s, ⟨sT, mT⟩, rfl⟩ := hp.2
        refine v_iconst (v := nI 3) C dL_moves_77 (by decide) ?_
        refine v_icmp_ne C 85 dL_moves_78 (by decide) (fun c => absurd c (by decide)) (fun c78 => ?_)
        refine v_iconst (v := nI 1) C dL_moves_81 (by decide) ?_
        refine v_goto C 86 dL_moves_82 (by decide) ?_
        refine v_iretG C F (by first | rfl | exact bI_nar _) dL_moves_86 (by first | omega | exact Nat.le_of_ble_eq_true rfl) (by first | omega | exact Nat.le_of_ble_eq_true rfl) rfl (List.Perm.refl _) ?_
        exact ⟨rfl, m, e, ((s, m), (sT, mT), rr, hh, sl, tx), i + 1 + 1 + 1, ⟨s, (sT, mT), rr, hh, sl, tx, _, rfl, hH⟩, hI, Or.inl rfl, by omega, rfl⟩
      · have hla : lockB m a = false := lk_f (hI.lk a han) c51
        refine v_aload_n C dL_moves_54 rfl ?_
        refine v_gFN (K := fun w => cS (xK X) g ((s, m), (sT, mT), rr, hh, sl, tx) ++ (w ++ dS (xK X) b (i + 1 + 1 + 1))) C (Cxt.l _ (Cxt.r _ Cxt.id)) (v := .ref (h 1)) 0 fln_L_154 lm_0 rfl dL_moves_55 ?_
        refine v_iload C dL_moves_58 rfl ?_
        refine v_gP (K := fun w => cS (xK X) g ((s, m), (sT, mT), rr, hh, sl, tx) ++ (w ++ dS (xK X) b (i + 1 + 1 + 1))) C (Cxt.l _ (Cxt.r _ Cxt.id)) (x := (some (h (8 + P)))) 1 lm_1 (by first | decide | omega) P (if_pos (by omega)) ?_ rfl dL_moves_60 ?_
        · omega
        refine v_gFN (K := fun w => cS (xK X) g ((s, m), (sT, mT), rr, hh, sl, tx) ++ (w ++ dS (xK X) b (i + 1 + 1 + 1))) C (Cxt.l _ (Cxt.r _ Cxt.id)) (v := .int (m 4 P)) (5 + P) fln_L_202 (plc_at hPn) rfl dL_moves_61 ?_
        refine v_if_eq C 87 dL_moves_64 (by decide) (fun c64 => ?_) (fun c64 => ?_)
        · have hlb : lockB m P = false := lk_f (hI.lk P hPn) c64
          refine v_aload_n C dL_moves_87 rfl ?_
          refine v_iload_n C dL_moves_88 rfl ?_
          refine v_iload C dL_moves_89 rfl ?_
          refine v_kVi (K := fun w => w ++ (lmW (xK X) h n (m, e, m 6 0) ++ dS (xK X) b (i + 1 + 1 + 1))) C (Cxt.r _ Cxt.id) (c_X5_exchange hl (c := cM) hW hH) ym_X5_exchange ml_L_124 fix_cS cS_0 rfl rfl rfl dL_moves_91 (by first | omega | exact Nat.le_of_ble_eq_true rfl) (by first | omega | exact Nat.le_of_ble_eq_true rfl) (by first | omega | exact Nat.le_of_ble_eq_true rfl) (Nat.le_of_ble_eq_true rfl) (fun _ _ hu => (no3 (cd_x0 n1 han hPn hn31 hne hla hlb) hu.1).elim) (fun r u hu => ?_)
          obtain ⟨⟨-, rfl⟩, s, ⟨sT, mT⟩, hh, rfl, hH⟩ := hu
          rw [tN_nI (show a < 2 ^ 31 by omega), tN_nI (show P < 2 ^ 31 by omega)]
          refine v_aload_n C dL_moves_94 rfl ?_
          refine v_aload_n C dL_moves_95 rfl ?_
          refine v_gFN (K := fun w => cS (xK X) g ((s, (swapM n a P m).2), (sT, mT), rr, hh, sl, tx) ++ (w ++ dS (xK X) b (i + 1 + 1 + 1))) C (Cxt.l _ (Cxt.r _ Cxt.id)) (v := .ref (h 1)) 0 fln_L_154 lm_0 rfl dL_moves_96 ?_
          refine v_iload_n C dL_moves_99 rfl ?_
          refine v_gP (K := fun w => cS (xK X) g ((s, (swapM n a P m).2), (sT, mT), rr, hh, sl, tx) ++ (w ++ dS (xK X) b (i + 1 + 1 + 1))) C (Cxt.l _ (Cxt.r _ Cxt.id)) (x := (some (h (8 + a)))) 1 lm_1 (by first | decide | omega) a (if_pos (by omega)) ?_ rfl dL_moves_100 ?_
          · omega
          refine v_aload_n C dL_moves_101 rfl ?_
          refine v_gFN (K := fun w => cS (xK X) g ((s, (swapM n a P m).2), (sT, mT), rr, hh, sl, tx) ++ (w ++ dS (xK X) b (i + 1 + 1 + 1))) C (Cxt.l _ (Cxt.r _ Cxt.id)) (v := .ref (h 1)) 0 fln_L_154 lm_0 rfl dL_moves_102 ?_
          refine v_iload C dL_moves_105 rfl ?_
          refine v_gP (K := fun w => cS (xK X) g ((s, (swapM n a P m).2), (sT, mT), rr, hh, sl, tx) ++ (w ++ dS (xK X) b (i + 1 + 1 + 1))) C (Cxt.l _ (Cxt.r _ Cxt.id)) (x := (some (h (8 + P)))) 1 lm_1 (by first | decide | omega) P (if_pos (by omega)) ?_ rfl dL_moves_107 ?_
          · omega
          refine v_gVi (K := fun w => cS (xK X) g ((s, (swapM n a P m).2), (sT, mT), rr, hh, sl, tx) ++ (w ++ dS (xK X) b (i + 1 + 1 + 1))) C (Cxt.l _ (Cxt.r _ Cxt.id)) 0 (c_X7_exchange hl hIM h14 hE han hPn hne) ym_X7_exchange ml_L_258 lm_0 rfl rfl rfl dL_moves_108 (by first | omega | exact Nat.le_of_ble_eq_true rfl) (by first | omega | exact Nat.le_of_ble_eq_true rfl) (by first | omega | exact Nat.le_of_ble_eq_true rfl) (Nat.le_of_ble_eq_true rfl) (fun _ _ hu => hu.elim) (fun r u hu => ?_)
          obtain ⟨rfl, e1, rfl⟩ := hu
          refine v_icmp_ne C 118 dL_moves_111 (by decide) (fun c111 => ?_) (fun c111 => ?_)
          · exact absurd rfl c111
          · refine v_iconst (v := nI 1) C dL_moves_114 (by decide) ?_
            refine v_goto C 119 dL_moves_115 (by decide) ?_
            refine v_iretG C F (by first | rfl | exact bI_nar _) dL_moves_119 (by first | omega | exact Nat.le_of_ble_eq_true rfl) (by first | omega | exact Nat.le_of_ble_eq_true rfl) rfl (List.Perm.refl _) ?_
            exact ⟨rfl, (swapM n a P m).2, e1, ((s, (swapM n a P m).2), (sT, mT), rr, hh, sl, tx), i + 1 + 1 + 1, ⟨s, (sT, mT), rr, hh, sl, tx, _, rfl, hH⟩, hI.swap han hPn, Or.inl (swap_5 hIM).2, by omega, by rw [(swap_5 hIM).2]⟩
        · have hxz : a = P ∨ lockB m a = true ∨ lockB m P = true := Or.inr (Or.inr (lk_t (hI.lk P hPn) c64))
          refine v_aload_n C dL_moves_67 rfl ?_
          refine v_bipush (v := nI 31) C dL_moves_68 (by decide) ?_
          refine v_iload_n C dL_moves_70 rfl ?_
          refine v_iload C dL_moves_71 rfl ?_
          refine v_iconst (v := nI 0) C dL_moves_73 (by decide) ?_
          refine v_gSHi (K := fun w => w ++ (lmW (xK X) h n (m, e, m 6 0) ++ dS (xK X) b (i + 1 + 1 + 1))) C (Cxt.r _ Cxt.id) (c_thrown hl (Nat.le_of_ble_eq_true rfl) (Nat.le_of_ble_eq_true rfl) (c_calls_31 (b := _) (c := _) hl (by decide) (c_X5_exchange hl hW hH)) (fun _ _ hu => by
              obtain ⟨_, _, hz, _⟩ := hu
              have hy := hz.1.1
              rw [(cd_x3 n1 han hPn hn31 hxz)] at hy
              exact absurd hy (by decide)) (fun _ _ hp => ts_E hp.1)) ysh_L_thrown ml_L_226 rfl rfl dL_moves_74 (Nat.le_of_ble_eq_true rfl) (by first | omega | exact Nat.le_of_ble_eq_true rfl) (by first | omega | exact Nat.le_of_ble_eq_true rfl) (Nat.le_of_ble_eq_true rfl) (fun _ _ hu => hu.elim) (fun r u hu => ?_)
          obtain ⟨e9, u9, hp, rfl, rfl⟩ := hu
          rw [show exN e9 = 3 from ex_3 ((cd_x3 n1 han hPn hn31 hxz)) hp.1]
          obtain ⟨s, ⟨sT, mT⟩, rfl⟩ := hp.2
          refine v_iconst (v := nI 3) C dL_moves_77 (by decide) ?_
          refine v_icmp_ne C 85 dL_moves_78 (by decide) (fun c => absurd c (by decide)) (fun c78 => ?_)
          refine v_iconst (v := nI 1) C dL_moves_81 (by decide) ?_
          refine v_goto C 86 dL_moves_82 (by decide) ?_
          refine v_iretG C F (by first | rfl | exact bI_nar _) dL_moves_86 (by first | omega | exact Nat.le_of_ble_eq_true rfl) (by first | omega | exact Nat.le_of_ble_eq_true rfl) rfl (List.Perm.refl _) ?_
          exact ⟨rfl, m, e, ((s, m), (sT, mT), rr, hh, sl, tx), i + 1 + 1 + 1, ⟨s, (sT, mT), rr, hh, sl, tx, _, rfl, hH⟩, hI, Or.inl rfl, by omega, rfl⟩

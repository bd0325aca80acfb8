theorem lw_loop {X : Cx} {g h : Nat → Nat} {n bs d : Nat} (hl : (xl X).stackTraces = false) (C : Ok SS MM X RL cL_law 5 30 600086 7301442) (F : FinL X bs) (h31 : (xK X).2.2.2 999 < 2 ^ 20) : ∀ (t T : Nat) (m : Mg) (e : Nat → Nat) (u : Cg) (i K0 N0 : Nat), T + t ≤ 16 → LI n m → GU m u → (∃ j, j ≤ 10 + T ∧ m 6 0 = nI j) → i ≤ 200 + 30 * T → K0 ≤ 4000 + 10300 * T → N0 ≤ 200000 + 216500 * T → V X iW 153 [some (.ref bs), some (.ref d), some (.ref (h 0)), some (.ref (g 0)), some (.int (nI t))] [] (cS (xK X) g u ++ (lmW (xK X) h n (m, e, m 6 0) ++ dS (xK X) d i)) K0 N0
  | 0, T, m, e, u, i, K0, N0, hT, hI, hG, hk, hi, hK, hN => by
    refine v_iload C dL_law_153 rfl ?_
    refine v_if_le C 200 dL_law_155 (by decide) (fun _ => ?_) (fun c => absurd (show (nI 0).toInt ≤ 0 by decide) c)
    refine V.sub (lo2 := [some _, some _, some _, some _, none]) ⟨rfl, rfl, rfl, rfl, trivial⟩ ?_
    exact lw_end hl C F hG hI (by omega) (by omega)
  | t + 1, T, m, e, u, i, K0, N0, hT, hI, hG, hk, hi, hK, hN => lw_step (r := t) hl C F hG hI hK hN rfl (by omega) hT h31 hi hk (fun hI2 hG2 hk2 hi2 hK2 hN2 => lw_loop hl C F h31 t (T + 1) _ _ _ _ _ _ (by omega) hI2 hG2 hk2 hi2 hK2 hN2)
set_option maxHeartbeats 2000000 in
theorem lw_a {X : Cx} {g h e : Nat → Nat} {n bs d i a0 b0 c0 v N K0 N0 : Nat} {L : List Q4} {m : Mg} {kk : Cnt} {s sT rb sr : G} {mT mr : Mg} {hh : Hg} {sl : Nat → Mg} {tx : G} (hl : (xl X).stackTraces = false) (C : Ok SS MM X RL cL_law 5 30 600086 7301442) (F : FinL X bs) (h31 : (xK X).2.2.2 999 < 2 ^ 20) (hZ : Sof (xK X) n a0 b0 c0 L m kk N 300) (hH : HS [] hh) (hX : TX [] tx) (hF0 : Fed (txtL n a0 b0 c0 L) 0 rb) (hmr : mr 7 = fun _ => 0) (hi : i ≤ 100) (hK0 : K0 ≤ 1000) (hN0 : N0 ≤ 90000) : V X iW 26 [some (.ref bs), some (.ref d), some (.ref (h 0)), some (.ref (g 0)), none] [] (cS (xK X) g ((s, m0), (sT, mT), (rb, sr, mr), hh, sl, tx) ++ (lmW (xK X) h n (m, e, nI kk.2.2.1) ++ (sbW (xK X) (h 5) v N (txtL n a0 b0 c0 L) ++ dS (xK X) d i))) K0 N0 := by
  obtain ⟨⟨-, h14, -, -, -⟩, -, hI, ⟨hp6, hk4⟩, hS, -⟩ := id hZ
  rw [← hp6]
  obtain ⟨cM, hW⟩ := hI.wm
  have n1 := hI.n1
  have hIM := hI.im
  have hn31 : n < 2 ^ 31 := by omega
  refine v_aload_n C dL_law_26 rfl ?_
  refine v_bipush (v := nI 29) C dL_law_27 (by decide) ?_
  refine v_iconst (v := nI 0) C dL_law_29 (by decide) ?_
  refine v_iconst (v := nI 0) C dL_law_30 (by decide) ?_
  refine v_iconst (v := nI 0) C dL_law_31 (by decide) ?_
  refine v_gSHi (K := fun w => w ++ (lmW (xK X) h n (m, e, m 6 0) ++ (sbW (xK X) (h 5) v N (txtL n a0 b0 c0 L) ++ dS (xK X) d (i)))) C (Cxt.r _ Cxt.id) (c_thrown hl (Nat.le_of_ble_eq_true rfl) (Nat.le_of_ble_eq_true rfl) (c_calls_29 (b := _) (c := _) hl (by decide) (c_X5_owed hl WM_0)) (fun _ _ hu => by
      obtain ⟨_, _, hz, _⟩ := hu
      have hy := hz.1.1
      rw [cd_z1] at hy
      exact absurd hy (by decide)) (fun _ _ hp => tU_E hp.1)) ysh_L_thrown ml_L_226 rfl rfl dL_law_32 (Nat.le_of_ble_eq_true rfl) (by first | omega | exact Nat.le_of_ble_eq_true rfl) (by first | omega | exact Nat.le_of_ble_eq_true rfl) (Nat.le_of_ble_eq_true rfl) (fun _ _ hu => hu.elim) (fun r u hu => ?_)
  obtain ⟨e9, u9, hp, rfl, rfl⟩ := hu
  rw [show exN e9 = 1 from ex_U hp.1]
  obtain ⟨s, ⟨sT, mT⟩, rfl⟩ := hp.2
  refine v_iconst (v := nI 1) C dL_law_35 (by decide) ?_
  refine v_icmp_ne C 98 dL_law_36 (by decide) (fun c => absurd c (by decide)) (fun c36 => ?_)
  refine v_aload_n C dL_law_39 rfl ?_
  refine v_iconst (v := nI 1) C dL_law_40 (by decide) ?_
  refine v_iconst (v := nI 0) C dL_law_41 (by decide) ?_
  refine v_iconst (v := nI 0) C dL_law_42 (by decide) ?_
  refine v_iconst (v := nI 0) C dL_law_43 (by decide) ?_
  refine v_gSHi (K := fun w => w ++ (lmW (xK X) h n (m, e, m 6 0) ++ (sbW (xK X) (h 5) v N (txtL n a0 b0 c0 L) ++ dS (xK X) d (i)))) C (Cxt.r _ Cxt.id) (c_thrown hl (Nat.le_of_ble_eq_true rfl) (Nat.le_of_ble_eq_true rfl) (c_calls_1 (b := _) (c := _) hl (by decide) (c_X5_value hl WM_0)) (fun _ _ hu => by
      obtain ⟨_, _, hz, _⟩ := hu
      have hy := hz.1.1
      rw [cd_z1] at hy
      exact absurd hy (by decide)) (fun _ _ hp => ts_E hp.1)) ysh_L_thrown ml_L_226 rfl rfl dL_law_44 (Nat.le_of_ble_eq_true rfl) (by first | omega | exact Nat.le_of_ble_eq_true rfl) (by first | omega | exact Nat.le_of_ble_eq_true rfl) (Nat.le_of_ble_eq_true rfl) (fun _ _ hu => hu.elim) (fun r u hu => ?_)
  obtain ⟨e9, u9, hp, rfl, rfl⟩ := hu
  rw [show exN e9 = 1 from ex_3 (cd_z1) hp.1]
  obtain ⟨s, ⟨sT, mT⟩, rfl⟩ := hp.2
  refine v_iconst (v := nI 1) C dL_law_47 (by decide) ?_
  refine v_icmp_ne C 98 dL_law_48 (by decide) (fun c => absurd c (by decide)) (fun c48 => ?_)
  refine v_aload_n C dL_law_51 rfl ?_
  refine v_bipush (v := nI 23) C dL_law_52 (by decide) ?_
  refine v_iconst (v := nI 0) C dL_law_54 (by decide) ?_
  refine v_iconst (v := nI 0) C dL_law_55 (by decide) ?_
  refine v_iconst (v := nI 0) C dL_law_56 (by decide) ?_
  refine v_gSHi (K := fun w => w ++ (lmW (xK X) h n (m, e, m 6 0) ++ (sbW (xK X) (h 5) v N (txtL n a0 b0 c0 L) ++ dS (xK X) d (i)))) C (Cxt.r _ Cxt.id) (c_thrown hl (Nat.le_of_ble_eq_true rfl) (Nat.le_of_ble_eq_true rfl) (c_calls_23 (b := _) (c := _) hl (by decide) (c_X5_undo hl hH (fun x hx => by cases hx))) (fun _ _ hu => by
      obtain ⟨_, _, hz, _⟩ := hu
      have hy := hz.1.1
      rw [cd_un] at hy
      exact absurd hy (by decide)) (fun _ _ hp => tU_E hp.1)) ysh_L_thrown ml_L_226 rfl rfl dL_law_57 (Nat.le_of_ble_eq_true rfl) (by first | omega | exact Nat.le_of_ble_eq_true rfl) (by first | omega | exact Nat.le_of_ble_eq_true rfl) (Nat.le_of_ble_eq_true rfl) (fun _ _ hu => hu.elim) (fun r u hu => ?_)
  obtain ⟨e9, u9, hp, rfl, rfl⟩ := hu
  rw [show exN e9 = 1 from ex_U hp.1]
  obtain ⟨s, ⟨sT, mT⟩, rfl⟩ := hp.2
  refine v_iconst (v := nI 1) C dL_law_60 (by decide) ?_
  refine v_icmp_ne C 98 dL_law_61 (by decide) (fun c => absurd c (by decide)) (fun c61 => ?_)
  refine v_aload_n C dL_law_64 rfl ?_
  refine v_bipush (v := nI 14) C dL_law_65 (by decide) ?_
  refine v_iconst (v := nI 0) C dL_law_67 (by decide) ?_
  refine v_iconst (v := nI 0) C dL_law_68 (by decide) ?_
  refine v_iconst (v := nI 0) C dL_law_69 (by decide) ?_
  refine v_gSHi (K := fun w => w ++ (lmW (xK X) h n (m, e, m 6 0) ++ (sbW (xK X) (h 5) v N (txtL n a0 b0 c0 L) ++ dS (xK X) d (i)))) C (Cxt.r _ Cxt.id) (c_thrown hl (Nat.le_of_ble_eq_true rfl) (Nat.le_of_ble_eq_true rfl) (c_calls_14 (b := _) (c := _) hl (by decide) (c_X5_textByte hl hX (by decide))) (fun _ _ hu => by
      obtain ⟨_, _, hz, _⟩ := hu
      have hy := hz.1.1
      rw [cd_tx] at hy
      exact absurd hy (by decide)) (fun _ _ hp => tO_E hp.1)) ysh_L_thrown ml_L_226 rfl rfl dL_law_70 (Nat.le_of_ble_eq_true rfl) (by first | omega | exact Nat.le_of_ble_eq_true rfl) (by first | omega | exact Nat.le_of_ble_eq_true rfl) (Nat.le_of_ble_eq_true rfl) (fun _ _ hu => hu.elim) (fun r u hu => ?_)
  obtain ⟨e9, u9, hp, rfl, rfl⟩ := hu
  rw [show exN e9 = 2 from ex_O hp.1]
  obtain rfl := hp.2
  refine v_iconst (v := nI 2) C dL_law_73 (by decide) ?_
  refine v_icmp_ne C 98 dL_law_74 (by decide) (fun c => absurd c (by decide)) (fun c74 => ?_)
  refine v_aload_n C dL_law_77 rfl ?_
  refine v_kVi (K := fun w => w ++ (lmW (xK X) h n (m, e, m 6 0) ++ (sbW (xK X) (h 5) v N (txtL n a0 b0 c0 L) ++ dS (xK X) d (i)))) C (Cxt.r _ Cxt.id) (c_X5_size hl) ym_X5_size ml_L_151 fix_cS cS_0 rfl rfl rfl dL_law_78 (by first | omega | exact Nat.le_of_ble_eq_true rfl) (by first | omega | exact Nat.le_of_ble_eq_true rfl) (by first | omega | exact Nat.le_of_ble_eq_true rfl) (Nat.le_of_ble_eq_true rfl) (fun _ _ hu => hu.elim) (fun r u hu => ?_)
  obtain ⟨rfl, rfl⟩ := hu
  refine v_if_ne C 98 dL_law_81 (by decide) (fun c81 => ?_) (fun c81 => ?_)
  · exact absurd rfl c81
  · refine v_aload_n C dL_law_84 rfl ?_
    refine v_kVi (K := fun w => w ++ (lmW (xK X) h n (m, e, m 6 0) ++ (sbW (xK X) (h 5) v N (txtL n a0 b0 c0 L) ++ dS (xK X) d (i)))) C (Cxt.r _ Cxt.id) (c_X5_events hl) ym_X5_events ml_L_161 fix_cS cS_0 rfl rfl rfl dL_law_85 (by first | omega | exact Nat.le_of_ble_eq_true rfl) (by first | omega | exact Nat.le_of_ble_eq_true rfl) (by first | omega | exact Nat.le_of_ble_eq_true rfl) (Nat.le_of_ble_eq_true rfl) (fun _ _ hu => hu.elim) (fun r u hu => ?_)
    obtain ⟨rfl, rfl⟩ := hu
    refine v_if_ne C 98 dL_law_88 (by decide) (fun c88 => ?_) (fun c88 => ?_)
    · exact absurd rfl c88
    · refine v_aload_n C dL_law_91 rfl ?_
      refine v_kVi (K := fun w => w ++ (lmW (xK X) h n (m, e, m 6 0) ++ (sbW (xK X) (h 5) v N (txtL n a0 b0 c0 L) ++ dS (xK X) d (i)))) C (Cxt.r _ Cxt.id) (c_X5_undoable hl hH) ym_X5_undoable ml_L_347 fix_cS cS_0 rfl rfl rfl dL_law_92 (by first | omega | exact Nat.le_of_ble_eq_true rfl) (by first | omega | exact Nat.le_of_ble_eq_true rfl) (by first | omega | exact Nat.le_of_ble_eq_true rfl) (Nat.le_of_ble_eq_true rfl) (fun _ _ hu => hu.elim) (fun r u hu => ?_)
      obtain ⟨rfl, rfl⟩ := hu
      refine v_if_eq C 100 dL_law_95 (by decide) (fun c95 => ?_) (fun c95 => ?_)
      · refine v_aload_n C dL_law_100 rfl ?_
        refine v_aload_n C dL_law_101 rfl ?_
        refine v_gFN (K := fun w => cS (xK X) g ((s, m0), (sT, mT), (rb, sr, mr), hh, sl, tx) ++ (w ++ (sbW (xK X) (h 5) v N (txtL n a0 b0 c0 L) ++ dS (xK X) d (i)))) C (Cxt.l _ (Cxt.r _ Cxt.id)) (v := .ref (h 5)) 0 fln_L_350 lm_0 rfl dL_law_102 ?_
        refine v_gVr (K := fun w => cS (xK X) g ((s, m0), (sT, mT), (rb, sr, mr), hh, sl, tx) ++ (lmW (xK X) h n (m, e, m 6 0) ++ (w ++ dS (xK X) d (i)))) C (Cxt.l _ (Cxt.l _ (Cxt.r _ Cxt.id))) 0 (c_J4_toString_0e30d hl hS) ym_J4_toString_0e30d ml_L_354 rfl rfl rfl rfl dL_law_105 (by first | omega | exact Nat.le_of_ble_eq_true rfl) (by first | omega | exact Nat.le_of_ble_eq_true rfl) (by first | omega | exact Nat.le_of_ble_eq_true rfl) (Nat.le_of_ble_eq_true rfl) (fun _ _ hu => hu.elim) (fun q9 u hu => ?_)
        obtain ⟨v2, rfl⟩ := hu
        refine V.drop (ws' := cS (xK X) g ((s, m0), (sT, mT), (rb, sr, mr), hh, sl, tx) ++ (lmW (xK X) h n (m, e, m 6 0) ++ (strW (xK X) q9 v2 (txtL n a0 b0 c0 L) ++ dS (xK X) d i))) ((List.Sublist.refl _).append ((List.Sublist.refl _).append ((List.sublist_append_left _ _).append (List.Sublist.refl _)))) ?_
        refine V.perm (ws' := (cS (xK X) g ((s, m0), (sT, mT), (rb, sr, mr), hh, sl, tx) ++ strW (xK X) q9 v2 (txtL n a0 b0 c0 L)) ++ (lmW (xK X) h n (m, e, m 6 0) ++ dS (xK X) d i)) (by rw [List.append_assoc]; exact List.Perm.append_left _ perm_in) ?_
        refine v_gSi (K := fun w => w ++ (lmW (xK X) h n (m, e, m 6 0) ++ dS (xK X) d i)) C (Cxt.r _ Cxt.id) (c_L_tell hl hZ (Nat.le_refl _) hF0 hmr hH) ys_L_tell ml_L_358 rfl rfl dL_law_108 (by first | omega | exact Nat.le_of_ble_eq_true rfl) (by first | omega | exact Nat.le_of_ble_eq_true rfl) (by first | omega | exact Nat.le_of_ble_eq_true rfl) (Nat.le_of_ble_eq_true rfl) (fun _ _ hu => hu.elim) (fun r u hu => ?_)
        obtain ⟨rfl, ru, hh2, sl2, hr3, hr4, hH2, rfl⟩ := hu
        obtain ⟨rb, sr, mr⟩ := ru
        refine V.drop (ws' := cS (xK X) g ((s, m), (sT, mT), (rb, sr, mr), hh2, sl2, tx) ++ (lmW (xK X) h n (m, e, m 6 0) ++ dS (xK X) d i)) ((List.sublist_append_left _ _).append (List.Sublist.refl _)) ?_
        refine v_aload_n C dL_law_111 rfl ?_
        refine v_gFN (K := fun w => cS (xK X) g ((s, m), (sT, mT), (rb, sr, mr), hh2, sl2, tx) ++ (w ++ dS (xK X) d (i))) C (Cxt.l _ (Cxt.r _ Cxt.id)) (v := .ref (h 1)) 0 fln_L_154 lm_0 rfl dL_law_112 ?_
        refine v_lenA (K := fun w => cS (xK X) g ((s, m), (sT, mT), (rb, sr, mr), hh2, sl2, tx) ++ (w ++ dS (xK X) d (i))) C (Cxt.l _ (Cxt.r _ Cxt.id)) (N := n) 3 1 rfl lm_1 rfl dL_law_115 ?_
        first | refine v_icmp_neN C 142 dL_law_116 (by decide) (by omega) (by omega) (fun c116 => ?_) (fun c116 => ?_) | refine v_icmp_ne C 142 dL_law_116 (by decide) (fun c116 => ?_) (fun c116 => ?_)
        · exact absurd rfl c116
        · refine v_aload_n C dL_law_119 rfl ?_
          refine v_kVi (K := fun w => w ++ (lmW (xK X) h n (m, e, m 6 0) ++ dS (xK X) d (i))) C (Cxt.r _ Cxt.id) (c_X5_parseError hl) ym_X5_parseError ml_L_362 fix_cS cS_0 rfl rfl rfl dL_law_120 (by first | omega | exact Nat.le_of_ble_eq_true rfl) (by first | omega | exact Nat.le_of_ble_eq_true rfl) (by first | omega | exact Nat.le_of_ble_eq_true rfl) (Nat.le_of_ble_eq_true rfl) (fun _ _ hu => hu.elim) (fun r u hu => ?_)
          obtain ⟨rfl, rfl⟩ := hu
          rw [show rb 0 3 = nI 0 from hr3]
          refine v_if_ne C 142 dL_law_123 (by decide) (fun c123 => ?_) (fun c123 => ?_)
          · exact absurd rfl c123
          · refine v_aload_n C dL_law_126 rfl ?_
            refine v_kVi (K := fun w => w ++ (lmW (xK X) h n (m, e, m 6 0) ++ dS (xK X) d (i))) C (Cxt.r _ Cxt.id) (c_X5_errorPosition hl) ym_X5_errorPosition ml_L_365 fix_cS cS_0 rfl rfl rfl dL_law_127 (by first | omega | exact Nat.le_of_ble_eq_true rfl) (by first | omega | exact Nat.le_of_ble_eq_true rfl) (by first | omega | exact Nat.le_of_ble_eq_true rfl) (Nat.le_of_ble_eq_true rfl) (fun _ _ hu => hu.elim) (fun r u hu => ?_)
            obtain ⟨rfl, rfl⟩ := hu
            rw [show rb 0 4 = -1 from hr4]
            refine v_iconst (v := (-1)) C dL_law_130 (by decide) ?_
            refine v_icmp_ne C 142 dL_law_131 (by decide) (fun c131 => ?_) (fun c131 => ?_)
            · exact absurd rfl c131
            · refine v_aload_n C dL_law_134 rfl ?_
              refine v_aload_n C dL_law_135 rfl ?_
              refine V.stt (g2 := (cS (xK X) g ((s, m), (sT, mT), (rb, sr, mr), hh2, sl2, tx) ++ lmW (xK X) h n (m, e, m 6 0)) ++ dS (xK X) d i) (List.append_assoc _ _ _).symm ?_
              refine v_gSi (K := fun w => w ++ dS (xK X) d i) C (Cxt.r _ Cxt.id) (c_L_isLike hl ⟨s, (sT, mT), (rb, sr, mr), hh2, sl2, tx, _, rfl, hH2⟩ hW hI n1) ys_L_isLike ml_L_368 rfl rfl dL_law_136 (by first | omega | exact Nat.le_of_ble_eq_true rfl) (by first | omega | exact Nat.le_of_ble_eq_true rfl) (by first | omega | exact Nat.le_of_ble_eq_true rfl) (Nat.le_of_ble_eq_true rfl) (fun _ _ hu => hu.elim) (fun r u hu => ?_)
              obtain ⟨rfl, u, hG, rfl⟩ := hu
              obtain ⟨s, ⟨sT, mT⟩, rr, hh, sl, tx, L0, rfl, hH⟩ := hG
              rw [List.append_assoc]
              refine v_if_ne C 144 dL_law_139 (by decide) (fun c139 => ?_) (fun c => absurd c (by decide))
              refine v_aload_n C dL_law_144 rfl ?_
              refine v_iconst (v := nI 1) C dL_law_145 (by decide) ?_
              refine v_bipush (v := nI 16) C dL_law_146 (by decide) ?_
              refine v_gVi (K := fun w => cS (xK X) g ((s, m), (sT, mT), rr, hh, sl, tx) ++ (lmW (xK X) h n (m, e, m 6 0) ++ w)) C (Cxt.l _ (Cxt.l _ Cxt.id)) 0 (c_X6_next hl (i := i) (lo := 1) (hi := 16) (by omega) (by omega) (by omega) h31) ym_X6_next ml_L_217 rfl rfl rfl rfl dL_law_148 (by first | omega | exact Nat.le_of_ble_eq_true rfl) (by first | omega | exact Nat.le_of_ble_eq_true rfl) (by first | omega | exact Nat.le_of_ble_eq_true rfl) (Nat.le_of_ble_eq_true rfl) (fun _ _ hu => hu.elim) (fun r u hu => ?_)
              obtain ⟨rfl, rfl⟩ := hu
              have hbt := drw_in (κ := (xK X)) (i := i) (a := 1) (b := 16) (by omega)
              generalize drw (xK X) i 1 16 = t at hbt ⊢
              refine v_istore C (lo2 := [some _, some _, some _, some _, some _]) dL_law_151 rfl (Nat.le_of_ble_eq_true rfl) rfl ?_
              exact lw_loop hl C F h31 t 0 m e _ _ _ _ (by omega) hI ⟨s, (sT, mT), rr, hh, sl, tx, _, rfl, hH⟩ ⟨kk.2.2.1, by omega, hp6⟩ (by omega) (by omega) (by omega)
      · exact absurd rfl c95
set_option maxHeartbeats 2000000 in
theorem law_init {X : Cx} (hl : (xl X).stackTraces = false) (C : Ok SS MM X RL cL_law 5 30 600086 7301442) (hO : EN (xs X)) {bs : Nat} (hbs : bs = (xK X).2.2.1 102) (F : FinL X bs) (h31 : (xK X).2.2.2 999 < 2 ^ 20) : V X iW 0 [some (.ref bs), none, none, none, none] [] [] 0 0 := by
  refine v_new C nw_L_218 dL_law_0 (Nat.le_of_ble_eq_true rfl) (Nat.le_of_ble_eq_true rfl) (fun q1 => ?_)
  refine v_dup C dL_law_3 rfl ?_
  refine v_aload_n C dL_law_4 rfl ?_
  refine v_gNv (K := fun w => w) C Cxt.id (c_X6_init hl (b := q1) (a := bs) hbs) yc_X6_init ml_L_340 rfl rfl dL_law_5 (Nat.le_of_ble_eq_true rfl) (Nat.le_of_ble_eq_true rfl) (Nat.le_of_ble_eq_true rfl) (Nat.le_of_ble_eq_true rfl) (fun _ _ hu => hu.elim) (fun r u hu => ?_)
  obtain rfl := hu
  refine v_astore_n C (lo2 := [some _, some _, none, none, none]) dL_law_8 rfl (Nat.le_of_ble_eq_true rfl) rfl ?_
  refine v_new C nw_L_155 dL_law_9 (Nat.le_of_ble_eq_true rfl) (Nat.le_of_ble_eq_true rfl) (fun q2 => ?_)
  refine v_dup C dL_law_12 rfl ?_
  refine v_aload_n C dL_law_13 rfl ?_
  refine v_gNv (K := fun w => w) C Cxt.id (c_X7_init hl (b := q2) (d := q1) h31) yc_X7_init ml_L_343 rfl rfl dL_law_14 (Nat.le_of_ble_eq_true rfl) (Nat.le_of_ble_eq_true rfl) (Nat.le_of_ble_eq_true rfl) (Nat.le_of_ble_eq_true rfl) (fun _ _ hu => hu.elim) (fun r u hu => ?_)
  obtain ⟨h, n, a0, b0, d0, L, m, e, v, N, i, kk, hb, hZ, hi, rfl⟩ := hu
  subst hb
  refine v_astore_n C (lo2 := [some _, some _, some _, none, none]) dL_law_17 rfl (Nat.le_of_ble_eq_true rfl) rfl ?_
  refine v_new C nw_L_18 dL_law_18 (Nat.le_of_ble_eq_true rfl) (Nat.le_of_ble_eq_true rfl) (fun q3 => ?_)
  refine v_dup C dL_law_21 rfl ?_
  refine v_callL C hO (c_X5_init hl q3) yi_X5 ml_L_346 rfl dL_law_22 (by decide) (Nat.le_of_ble_eq_true rfl) (Nat.le_of_ble_eq_true rfl) (Nat.le_of_ble_eq_true rfl) (fun g hb1 => ?_)
  subst hb1
  refine v_astore_n C (lo2 := [some _, some _, some _, some _, none]) dL_law_25 rfl (Nat.le_of_ble_eq_true rfl) rfl ?_
  exact lw_a (s := m0) (sT := m0) (mT := m0) (rb := r0.1) (sr := m0) (mr := m0) (hh := h0g) (sl := fun _ => m0) (tx := m0) hl C F h31 hZ HS_0 TX_0 ⟨rfl, fun j hj => absurd hj (Nat.not_lt_zero j)⟩ rfl hi (Nat.le_of_ble_eq_true rfl) (Nat.le_of_ble_eq_true rfl)

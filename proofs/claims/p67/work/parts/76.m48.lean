set_option maxHeartbeats 1000000 in
theorem c_L_feeds {l : Launch} (hl : l.stackTraces = false) {κ : Kp} {g : Nat → Nat} {a v : Nat} {T : List Nat} {s sT rb sr : G} {m mT mr : Mg} {hh : Hg} {sl : Nat → Mg} {tx : G} (hT : Lat T) (hl3 : T.length ≤ 300) (hF0 : Fed T 0 rb) : CtG SS MM l κ yL_feeds cL_feeds 5 (some FieldType.boolean) 4 330 1650 [.ref (g 0), .ref a] (cS κ g ((s, m), (sT, mT), (rb, sr, mr), hh, sl, tx) ++ strW κ a v T) ri (fun r w => r = nI 1 ∧ ∃ i rb', T.length ≤ i ∧ i ≤ 700 ∧ Fed T i rb' ∧ w = cS κ g ((s, m), (sT, mT), (rb', sr, mr), hh, sl, tx) ++ strW κ a v T) (fun _ _ => False) := by
  refine CtG.of (own := RL) (by decide) rfl hl (by intro v hv; simp only [List.mem_cons, List.not_mem_nil, or_false] at hv; first | (rcases hv with rfl | rfl | rfl | rfl | rfl | rfl <;> rfl) | (rcases hv with rfl | rfl | rfl | rfl | rfl <;> rfl) | (rcases hv with rfl | rfl | rfl | rfl <;> rfl) | (rcases hv with rfl | rfl | rfl <;> rfl) | (rcases hv with rfl | rfl <;> rfl) | (subst hv; rfl) | exact hv.elim) (Nat.le_of_ble_eq_true rfl) (fun X hxl hxk C F NH hnm => ?_)
  subst hxl hxk
  show V X iW 0 [some (.ref (g 0)), some (.ref a), none, none, none] [] (cS (xK X) g ((s, m), (sT, mT), (rb, sr, mr), hh, sl, tx) ++ strW (xK X) a v T) 0 0
  refine v_iconst (v := nI 0) C dL_feeds_0 (by decide) ?_
  refine v_istore_n C (lo2 := [some _, some _, some _, none, none]) dL_feeds_1 rfl (Nat.le_of_ble_eq_true rfl) rfl ?_
  have L2 : ∀ (t : Nat × G), (fun t => t.1 ≤ T.length + 19 ∧ Fed T t.1 t.2) t → (fun t : Nat × G => V X iW 2 [some (.ref (g 0)), some (.ref a), some (.int (nI t.1)), none, none] [] (cS (xK X) g ((s, m), (sT, mT), (t.2, sr, mr), hh, sl, tx) ++ strW (xK X) a v T) t.1 (5 * t.1)) t := by
    refine v_ind (fun t : Nat × G => T.length + 20 - t.1) ?_
    rintro ⟨i, rb⟩ ih2 hI2
    try dsimp only at hI2 ⊢
    obtain ⟨i1, hF⟩ := hI2
    refine v_iload_n C dL_feeds_2 rfl ?_
    refine v_aload_n C dL_feeds_3 rfl ?_
    refine v_gVi (K := fun w => cS (xK X) g ((s, m), (sT, mT), (rb, sr, mr), hh, sl, tx) ++ w) C (Cxt.l _ Cxt.id) 0 (c_str_length hl) ym_J0_length_8abf5 ml_L_7 rfl rfl rfl rfl dL_feeds_4 (by first | omega | exact Nat.le_of_ble_eq_true rfl) (by first | omega | exact Nat.le_of_ble_eq_true rfl) (by first | omega | exact Nat.le_of_ble_eq_true rfl) (Nat.le_of_ble_eq_true rfl) (fun _ _ hu => hu.elim) (fun r u hu => ?_)
    obtain ⟨rfl, rfl⟩ := hu
    first | refine v_icmp_geN C 100 dL_feeds_7 (by decide) (by omega) (by omega) (fun c7 => ?_) (fun c7 => ?_) | refine v_icmp_ge C 100 dL_feeds_7 (by decide) (fun c7 => ?_) (fun c7 => ?_)
    · refine v_iconst (v := nI 1) C dL_feeds_100 (by decide) ?_
      refine v_iretG C F (by first | rfl | exact bI_nar _) dL_feeds_101 (by first | omega | exact Nat.le_of_ble_eq_true rfl) (by first | omega | exact Nat.le_of_ble_eq_true rfl) rfl (List.Perm.refl _) ?_
      exact ⟨rfl, i, rb, by omega, by omega, hF, rfl⟩
    · refine v_iconst (v := nI 5) C dL_feeds_10 (by decide) ?_
      refine v_newI C 5 rfl (by omega) dL_feeds_11 (by omega) (by omega) (fun q => ?_)
      refine V.stt (g2 := cI (xK X) q 5 (wdsF T i (0)) :: (cS (xK X) g ((s, m), (sT, mT), (rb, sr, mr), hh, sl, tx) ++ strW (xK X) a v T)) (by rw [← wdsF_0]) ?_
      refine v_astore_n C (lo2 := [some _, some _, some _, some _, none]) dL_feeds_13 rfl (Nat.le_of_ble_eq_true rfl) rfl ?_
      refine v_iconst (v := nI 0) C dL_feeds_14 (by decide) ?_
      refine v_istore C (lo2 := [some _, some _, some _, some _, some _]) dL_feeds_15 rfl (Nat.le_of_ble_eq_true rfl) rfl ?_
      have L17 : ∀ (t : Nat), (fun t => t ≤ 20) t → (fun t : Nat => V X iW 17 [some (.ref (g 0)), some (.ref a), some (.int (nI i)), some (.ref q), some (.int (nI t))] [] (cI (xK X) q 5 (wdsF T i (t)) :: (cS (xK X) g ((s, m), (sT, mT), (rb, sr, mr), hh, sl, tx) ++ strW (xK X) a v T)) (i + 1) (5 * (i + 1))) t := by
        refine v_ind (fun t : Nat => 20 - t) ?_
        rintro k ih17 hI17
        try dsimp only at hI17 ⊢
        refine v_iload C dL_feeds_17 rfl ?_
        refine v_bipush (v := nI 20) C dL_feeds_19 (by decide) ?_
        first | refine v_icmp_geN C 70 dL_feeds_21 (by decide) (by omega) (by omega) (fun c21 => ?_) (fun c21 => ?_) | refine v_icmp_ge C 70 dL_feeds_21 (by decide) (fun c21 => ?_) (fun c21 => ?_)
        · obtain rfl : k = 20 := by omega
          refine v_aload_n C dL_feeds_70 rfl ?_
          refine v_aload_n C dL_feeds_71 rfl ?_
          refine v_iconst (v := nI 0) C dL_feeds_72 (by decide) ?_
          refine v_gI (K := fun w => w) C Cxt.id (x := (wdsF T i 20 0)) 0 rfl (by first | decide | omega) 0 (rfl) ?_ rfl dL_feeds_73 ?_
          · omega
          refine v_aload_n C dL_feeds_74 rfl ?_
          refine v_iconst (v := nI 1) C dL_feeds_75 (by decide) ?_
          refine v_gI (K := fun w => w) C Cxt.id (x := (wdsF T i 20 1)) 0 rfl (by first | decide | omega) 1 (rfl) ?_ rfl dL_feeds_76 ?_
          · omega
          refine v_aload_n C dL_feeds_77 rfl ?_
          refine v_iconst (v := nI 2) C dL_feeds_78 (by decide) ?_
          refine v_gI (K := fun w => w) C Cxt.id (x := (wdsF T i 20 2)) 0 rfl (by first | decide | omega) 2 (rfl) ?_ rfl dL_feeds_79 ?_
          · omega
          refine v_aload_n C dL_feeds_80 rfl ?_
          refine v_iconst (v := nI 3) C dL_feeds_81 (by decide) ?_
          refine v_gI (K := fun w => w) C Cxt.id (x := (wdsF T i 20 3)) 0 rfl (by first | decide | omega) 3 (rfl) ?_ rfl dL_feeds_82 ?_
          · omega
          refine v_aload_n C dL_feeds_83 rfl ?_
          refine v_iconst (v := nI 4) C dL_feeds_84 (by decide) ?_
          refine v_gI (K := fun w => w) C Cxt.id (x := (wdsF T i 20 4)) 0 rfl (by first | decide | omega) 4 (rfl) ?_ rfl dL_feeds_85 ?_
          · omega
          refine v_kVi (K := fun w => cI (xK X) q 5 (wdsF T i (20)) :: (w ++ strW (xK X) a v T)) C (Cxt.c _ (Cxt.r _ Cxt.id)) (c_X5_append hl hF.1 (by omega)) ym_X5_append ml_L_17 fix_cS cS_0 rfl rfl rfl dL_feeds_86 (by first | omega | exact Nat.le_of_ble_eq_true rfl) (by first | omega | exact Nat.le_of_ble_eq_true rfl) (by first | omega | exact Nat.le_of_ble_eq_true rfl) (Nat.le_of_ble_eq_true rfl) (fun _ _ hu => hu.elim) (fun r u hu => ?_)
          rcases hu with ⟨z, -⟩ | ⟨-, rfl, rfl⟩
          · omega
          refine V.drop (ws' := cS (xK X) g ((s, m), (sT, mT), (ap5 rb i (wdsF T i 20 0) (wdsF T i 20 1) (wdsF T i 20 2) (wdsF T i 20 3) (wdsF T i 20 4), sr, mr), hh, sl, tx) ++ strW (xK X) a v T) (List.sublist_cons_self _ _) ?_
          refine v_if_ge C 94 dL_feeds_89 (by decide) (fun c89 => ?_) (fun c89 => ?_)
          · refine v_iinc (v := nI (i + 20)) C (lo2 := [some _, some _, some _, some _, some _]) dL_feeds_94 rfl (nI_add i 20) rfl rfl ?_
            refine v_goto C 2 dL_feeds_97 (by decide) ?_
            refine V.sub (lo2 := [some _, some _, some _, none, none]) ⟨rfl, rfl, rfl, trivial⟩ ?_
            refine V.wid (k2 := i + 20) (n2 := 5 * (i + 20)) (by omega) (by omega) ?_
            exact ih2 (i + 20, ap5 rb i (wdsF T i 20 0) (wdsF T i 20 1) (wdsF T i 20 2) (wdsF T i 20 3) (wdsF T i 20 4)) (by show T.length + 20 - (i + 20) < T.length + 20 - i; omega) ⟨by show i + 20 ≤ T.length + 19; omega, ap5_fed hT hF⟩
          · exact absurd (show 0 ≤ (nI (i + 20)).toInt by rw [nI_toInt (by omega)]; omega) c89
        · refine v_aload_n C dL_feeds_24 rfl ?_
          refine v_iload C dL_feeds_25 rfl ?_
          refine v_iconst (v := nI 4) C dL_feeds_27 (by decide) ?_
          refine v_idivN C dL_feeds_28 (by omega) (by omega) (by omega) ?_
          refine v_aload_n C dL_feeds_29 rfl ?_
          refine v_iload C dL_feeds_30 rfl ?_
          refine v_iconst (v := nI 4) C dL_feeds_32 (by decide) ?_
          refine v_idivN C dL_feeds_33 (by omega) (by omega) (by omega) ?_
          refine v_gI (K := fun w => w) C Cxt.id (x := (wdsF T i k (k / 4))) 0 rfl (by first | decide | omega) (k / 4) (rfl) ?_ rfl dL_feeds_34 ?_
          · omega
          refine v_bipush (v := nI 8) C dL_feeds_35 (by decide) ?_
          refine v_ishl C dL_feeds_37 ?_
          refine v_iload_n C dL_feeds_38 rfl ?_
          refine v_iload C dL_feeds_39 rfl ?_
          first | refine v_iaddN C dL_feeds_41 ?_ | refine v_iadd C dL_feeds_41 ?_
          refine v_aload_n C dL_feeds_42 rfl ?_
          refine v_gVi (K := fun w => cI (xK X) q 5 (wdsF T i (k)) :: (cS (xK X) g ((s, m), (sT, mT), (rb, sr, mr), hh, sl, tx) ++ w)) C (Cxt.c _ (Cxt.l _ Cxt.id)) 0 (c_str_length hl) ym_J0_length_8abf5 ml_L_7 rfl rfl rfl rfl dL_feeds_43 (by first | omega | exact Nat.le_of_ble_eq_true rfl) (by first | omega | exact Nat.le_of_ble_eq_true rfl) (by first | omega | exact Nat.le_of_ble_eq_true rfl) (Nat.le_of_ble_eq_true rfl) (fun _ _ hu => hu.elim) (fun r u hu => ?_)
          obtain ⟨rfl, rfl⟩ := hu
          first | refine v_icmp_geN C 60 dL_feeds_46 (by decide) (by omega) (by omega) (fun c46 => ?_) (fun c46 => ?_) | refine v_icmp_ge C 60 dL_feeds_46 (by decide) (fun c46 => ?_) (fun c46 => ?_)
          · refine v_bipush (v := nI 32) C dL_feeds_60 (by decide) ?_
            refine v_ior C dL_feeds_62 ?_
            refine V_stk (st2 := [.int ((wdsF T i k (k / 4) <<< (nI 8 &&& 31)) ||| nI (chT T (i + k))), .int (nI (k / 4)), .ref q]) (by unfold chT; first | rw [if_pos c46] | rw [if_neg (by omega)]) ?_
            refine v_sI (K := fun w => w) C Cxt.id 0 rfl (by first | decide | omega) (k / 4) ?_ rfl rfl dL_feeds_63 ?_
            · first | decide | omega
            refine V.stt (g2 := cI (xK X) q 5 (wdsF T i (k + 1)) :: (cS (xK X) g ((s, m), (sT, mT), (rb, sr, mr), hh, sl, tx) ++ strW (xK X) a v T)) (by rw [← wdsF_s hT c21]; rfl) ?_
            first | refine v_iinc1 C (lo2 := [some _, some _, some _, some _, some _]) dL_feeds_64 rfl rfl rfl ?_ | refine v_iinc C (lo2 := [some _, some _, some _, some _, some _]) dL_feeds_64 rfl rfl rfl rfl ?_
            refine v_goto C 17 dL_feeds_67 (by decide) ?_
            exact ih17 (k + 1) (by show 20 - (k + 1) < 20 - k; omega) (by show k + 1 ≤ 20; omega)
          · refine v_aload_n C dL_feeds_49 rfl ?_
            refine v_iload_n C dL_feeds_50 rfl ?_
            refine v_iload C dL_feeds_51 rfl ?_
            first | refine v_iaddN C dL_feeds_53 ?_ | refine v_iadd C dL_feeds_53 ?_
            refine v_gVi (K := fun w => cI (xK X) q 5 (wdsF T i (k)) :: (cS (xK X) g ((s, m), (sT, mT), (rb, sr, mr), hh, sl, tx) ++ w)) C (Cxt.c _ (Cxt.l _ Cxt.id)) 0 (c_str_charAt hl hT c46 (by omega)) ym_J0_charAt_5068e ml_L_13 rfl rfl rfl rfl dL_feeds_54 (by first | omega | exact Nat.le_of_ble_eq_true rfl) (by first | omega | exact Nat.le_of_ble_eq_true rfl) (by first | omega | exact Nat.le_of_ble_eq_true rfl) (Nat.le_of_ble_eq_true rfl) (fun _ _ hu => hu.elim) (fun r u hu => ?_)
            obtain ⟨rfl, rfl⟩ := hu
            refine v_goto C 62 dL_feeds_57 (by decide) ?_
            refine v_ior C dL_feeds_62 ?_
            refine V_stk (st2 := [.int ((wdsF T i k (k / 4) <<< (nI 8 &&& 31)) ||| nI (chT T (i + k))), .int (nI (k / 4)), .ref q]) (by unfold chT; first | rw [if_pos c46] | rw [if_neg (by omega)]) ?_
            refine v_sI (K := fun w => w) C Cxt.id 0 rfl (by first | decide | omega) (k / 4) ?_ rfl rfl dL_feeds_63 ?_
            · first | decide | omega
            refine V.stt (g2 := cI (xK X) q 5 (wdsF T i (k + 1)) :: (cS (xK X) g ((s, m), (sT, mT), (rb, sr, mr), hh, sl, tx) ++ strW (xK X) a v T)) (by rw [← wdsF_s hT c21]; rfl) ?_
            first | refine v_iinc1 C (lo2 := [some _, some _, some _, some _, some _]) dL_feeds_64 rfl rfl rfl ?_ | refine v_iinc C (lo2 := [some _, some _, some _, some _, some _]) dL_feeds_64 rfl rfl rfl rfl ?_
            refine v_goto C 17 dL_feeds_67 (by decide) ?_
            exact ih17 (k + 1) (by show 20 - (k + 1) < 20 - k; omega) (by show k + 1 ≤ 20; omega)
      refine V.wid (k2 := i + 1) (n2 := 5 * (i + 1)) (by omega) (by omega) ?_
      exact L17 0 (Nat.zero_le _)
  exact L2 (0, rb) ⟨Nat.zero_le _, hF0⟩
set_option maxHeartbeats 1000000 in
theorem c_L_tell {l : Launch} (hl : l.stackTraces = false) {κ : Kp} {g : Nat → Nat} {a v n a0 b0 c0 B N : Nat} {L : List Q4} {m m0 : Mg} {kk : Cnt} {s sT rb sr : G} {mT mr : Mg} {hh : Hg} {sl : Nat → Mg} {tx : G} {L0 : List Mg} (hZ : Sof κ n a0 b0 c0 L m kk N B) (hB : B ≤ 300) (hF0 : Fed (txtL n a0 b0 c0 L) 0 rb) (hmr : mr 7 = fun _ => 0) (hH : HS L0 hh) : CtG SS MM l κ yL_tell cL_tell 2 (some FieldType.int) 9 340 1700 [.ref (g 0), .ref a] (cS κ g ((s, m0), (sT, mT), (rb, sr, mr), hh, sl, tx) ++ strW κ a v (txtL n a0 b0 c0 L)) ri (fun r w => r = nI n ∧ ∃ (ru : Rg) (hh2 : Hg) (sl2 : Nat → Mg), ru.1 0 3 = nI 0 ∧ ru.1 0 4 = -1 ∧ HS [] hh2 ∧ w = cS κ g ((s, m), (sT, mT), ru, hh2, sl2, tx) ++ strW κ a v (txtL n a0 b0 c0 L)) (fun _ _ => False) := by
  refine CtG.of (own := RL) (by decide) rfl hl (by intro v hv; simp only [List.mem_cons, List.not_mem_nil, or_false] at hv; first | (rcases hv with rfl | rfl | rfl | rfl | rfl | rfl <;> rfl) | (rcases hv with rfl | rfl | rfl | rfl | rfl <;> rfl) | (rcases hv with rfl | rfl | rfl | rfl <;> rfl) | (rcases hv with rfl | rfl | rfl <;> rfl) | (rcases hv with rfl | rfl <;> rfl) | (subst hv; rfl) | exact hv.elim) (Nat.le_of_ble_eq_true rfl) (fun X hxl hxk C F NH hnm => ?_)
  subst hxl hxk
  show V X iW 0 [some (.ref (g 0)), some (.ref a)] [] (cS (xK X) g ((s, m0), (sT, mT), (rb, sr, mr), hh, sl, tx) ++ strW (xK X) a v (txtL n a0 b0 c0 L)) 0 0
  obtain ⟨⟨n1, h14, ha0, hb0, hc0⟩, hR, hI, ⟨hp6, hk4⟩, hS, hL⟩ := id hZ
  have hlat := hS.2.2
  have hLl : L.length < 301 := by have := bd_len hL; omega
  refine v_aload_n C dL_tell_0 rfl ?_
  refine v_aload_n C dL_tell_1 rfl ?_
  refine v_gSi (K := fun w => w) C Cxt.id (c_L_feeds hl hlat (by omega) hF0) ys_L_feeds ml_L_23 rfl rfl dL_tell_2 (by first | omega | exact Nat.le_of_ble_eq_true rfl) (by first | omega | exact Nat.le_of_ble_eq_true rfl) (by first | omega | exact Nat.le_of_ble_eq_true rfl) (Nat.le_of_ble_eq_true rfl) (fun _ _ hu => hu.elim) (fun r u hu => ?_)
  obtain ⟨rfl, i, rb, hTi, hi7, hF, rfl⟩ := hu
  refine v_if_eq C 19 dL_tell_5 (by decide) (fun c => absurd c (by decide)) (fun c5 => ?_)
  refine v_aload_n C dL_tell_8 rfl ?_
  refine v_aload_n C dL_tell_9 rfl ?_
  refine v_gVi (K := fun w => cS (xK X) g ((s, m0), (sT, mT), (rb, sr, mr), hh, sl, tx) ++ w) C (Cxt.l _ Cxt.id) 0 (c_str_length hl) ym_J0_length_8abf5 ml_L_7 rfl rfl rfl rfl dL_tell_10 (by first | omega | exact Nat.le_of_ble_eq_true rfl) (by first | omega | exact Nat.le_of_ble_eq_true rfl) (by first | omega | exact Nat.le_of_ble_eq_true rfl) (Nat.le_of_ble_eq_true rfl) (fun _ _ hu => hu.elim) (fun r u hu => ?_)
  obtain ⟨rfl, rfl⟩ := hu
  obtain ⟨-, t9, hP9⟩ := par_at n1 h14 ha0 hb0 hc0 hR (hF.bt hTi) hlat hLl
  have hP0 : parS (rb 13) (tN (nI (txtL n a0 b0 c0 L).length)) (mr 7) = (Z0 t9, m, kk) := by rw [tN_nI (by omega), hmr]; exact hP9
  refine v_kVi (K := fun w => w ++ strW (xK X) a v (txtL n a0 b0 c0 L)) C (Cxt.r _ Cxt.id) (c_X5_load (P := (Z0 t9, m, kk)) hl hF.1 hi7 hP0 hI.lkk hH) ym_X5_load ml_L_29 fix_cS cS_0 rfl rfl rfl dL_tell_13 (by first | omega | exact Nat.le_of_ble_eq_true rfl) (by first | omega | exact Nat.le_of_ble_eq_true rfl) (by first | omega | exact Nat.le_of_ble_eq_true rfl) (Nat.le_of_ble_eq_true rfl) (fun _ _ hu => by
      rcases hu with ⟨-, hz, -⟩ | ⟨-, -, hz, -⟩
      · rw [inB_n (by omega) (by omega) (by omega)] at hz; cases hz
      · exact absurd (hz.symm.trans (ok_Z (t := t9))) Bool.false_ne_true) (fun r u hu => ?_)
  obtain ⟨ru, hh2, sl2, -, -, hX, hH2, -, -, rfl, rfl⟩ := hu
  refine v_goto C 21 dL_tell_16 (by decide) ?_
  refine v_iretG C F (by first | rfl | exact bI_nar _) dL_tell_21 (by first | omega | exact Nat.le_of_ble_eq_true rfl) (by first | omega | exact Nat.le_of_ble_eq_true rfl) rfl (List.Perm.refl _) ?_
  have hn7 : m 0 7 = nI n := by obtain ⟨-, ⟨c, hM, -⟩, -⟩ := hI; exact hM.1.1
  exact ⟨hn7, ru, hh2, sl2, hX.1.2.2.2.1.2.2.1, hX.1.2.2.2.1.2.2.2, hH2, rfl⟩

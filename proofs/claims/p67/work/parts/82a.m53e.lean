set_option maxHeartbeats 2000000 in
theorem vl_E {X : Cx} {g h e : Nat → Nat} {n cM : Nat} {m : Mg} {u : Cg} {b i a c Q K0 N0 : Nat}  (hl : (xl X).stackTraces = false) (C : Ok SS MM X RL cL_values 25 17 5000 70000) (F : FinG X (some FieldType.boolean) ri (fun r w => r = nI 1 ∧ ∃ u' i', GU m u' ∧ i' ≤ i + 10 ∧ w = cS (xK X) g u' ++ (lmW (xK X) h n (m, e, m 6 0) ++ dS (xK X) b i')) (fun _ _ => False) 5000 70000) (hG : GU m u) (hW : WM n cM m) (hI : LI n m) (n1 : ¬ n = 0) (hac : a ≤ c ∧ c < n) (hQ : Q < n) (hK0 : K0 ≤ 3300) (hN0 : N0 ≤ 56000)  : V X iW 793 [some (.ref (g 0)), some (.ref (h 0)), none, none, none, none, none, none, none, none, none, none, none, none, none, none, none, none, none, none, none, none, none, none, none] [] (cS (xK X) g u ++ (lmW (xK X) h n (m, e, m 6 0) ++ dS (xK X) b (i + 1 + 1 + 1 + 1))) K0 N0 := by
  obtain ⟨s, ⟨sT, mT⟩, rr, hh, sl, tx, L0, rfl, hH⟩ := hG
  have h14 := hI.1
  have hIM := hI.im
  have hE := hI.ev
  have hset := hI.set
  have hn31 : n < 2 ^ 31 := by omega
  have hn96 : n ≤ 96 := by omega
  have hev := ev_80 hE
  refine v_iconst (v := nI 0) C dL_values_793 (by decide) ?_
  refine v_istore C (lo2 := [some _, some _, none, none, none, none, none, none, none, none, none, none, none, none, none, none, none, none, none, none, none, some _, none, none, none]) dL_values_794 rfl (Nat.le_of_ble_eq_true rfl) rfl ?_
  have L796 : ∀ (t : Nat × G × G × Mg), (fun t => t.1 ≤ evN m) t → (fun t : Nat × G × G × Mg => V X iW 796 [some (.ref (g 0)), some (.ref (h 0)), none, none, none, none, none, none, none, none, none, none, none, none, none, none, none, none, none, none, none, some (.int (nI t.1)), none, none, none] [] (cS (xK X) g ((t.2.1, m), (t.2.2.1, t.2.2.2), rr, hh, sl, tx) ++ (lmW (xK X) h n (m, e, m 6 0) ++ dS (xK X) b (i + 1 + 1 + 1 + 1))) (3300 + 18 * t.1) (56000 + 108 * t.1)) t := by
    refine v_ind (fun t : Nat × G × G × Mg => evN m - t.1) ?_
    rintro ⟨k, s, sT, mT⟩ ih796 hI796
    try dsimp only at hI796 ⊢
    refine v_iload C dL_values_796 rfl ?_
    refine v_aload_n C dL_values_798 rfl ?_
    refine v_gFN (K := fun w => cS (xK X) g ((s, m), (sT, mT), rr, hh, sl, tx) ++ (w ++ dS (xK X) b (i + 1 + 1 + 1 + 1))) C (Cxt.l _ (Cxt.r _ Cxt.id)) (v := .int (m 0 8)) 0 fln_L_164 lm_0 rfl dL_values_799 ?_
    rw [hev.2]
    first | refine v_icmp_geN C 849 dL_values_802 (by decide) (by omega) (by omega) (fun c802 => ?_) (fun c802 => ?_) | refine v_icmp_ge C 849 dL_values_802 (by decide) (fun c802 => ?_) (fun c802 => ?_)
    · refine v_aload_n C dL_values_849 rfl ?_
      refine v_gFN (K := fun w => cS (xK X) g ((s, m), (sT, mT), rr, hh, sl, tx) ++ (w ++ dS (xK X) b (i + 1 + 1 + 1 + 1))) C (Cxt.l _ (Cxt.r _ Cxt.id)) (v := .ref (h 3)) 0 fln_L_172 lm_0 rfl dL_values_850 ?_
      refine v_iconst (v := nI 2) C dL_values_853 (by decide) ?_
      refine v_gI (K := fun w => cS (xK X) g ((s, m), (sT, mT), rr, hh, sl, tx) ++ (w ++ dS (xK X) b (i + 1 + 1 + 1 + 1))) C (Cxt.l _ (Cxt.r _ Cxt.id)) (x := (m 6 2)) 3 lm_3 (by first | decide | omega) 2 (rfl) ?_ rfl dL_values_854 ?_
      · omega
      refine v_aload_n C dL_values_855 rfl ?_
      refine v_gFN (K := fun w => cS (xK X) g ((s, m), (sT, mT), rr, hh, sl, tx) ++ (w ++ dS (xK X) b (i + 1 + 1 + 1 + 1))) C (Cxt.l _ (Cxt.r _ Cxt.id)) (v := .ref (h 3)) 0 fln_L_172 lm_0 rfl dL_values_856 ?_
      refine v_iconst (v := nI 3) C dL_values_859 (by decide) ?_
      refine v_gI (K := fun w => cS (xK X) g ((s, m), (sT, mT), rr, hh, sl, tx) ++ (w ++ dS (xK X) b (i + 1 + 1 + 1 + 1))) C (Cxt.l _ (Cxt.r _ Cxt.id)) (x := (m 6 3)) 3 lm_3 (by first | decide | omega) 3 (rfl) ?_ rfl dL_values_860 ?_
      · omega
      first | refine v_iaddN C dL_values_861 ?_ | refine v_iadd C dL_values_861 ?_
      refine v_aload_n C dL_values_862 rfl ?_
      refine v_gFN (K := fun w => cS (xK X) g ((s, m), (sT, mT), rr, hh, sl, tx) ++ (w ++ dS (xK X) b (i + 1 + 1 + 1 + 1))) C (Cxt.l _ (Cxt.r _ Cxt.id)) (v := .ref (h 3)) 0 fln_L_172 lm_0 rfl dL_values_863 ?_
      refine v_iconst (v := nI 4) C dL_values_866 (by decide) ?_
      refine v_gI (K := fun w => cS (xK X) g ((s, m), (sT, mT), rr, hh, sl, tx) ++ (w ++ dS (xK X) b (i + 1 + 1 + 1 + 1))) C (Cxt.l _ (Cxt.r _ Cxt.id)) (x := (m 6 4)) 3 lm_3 (by first | decide | omega) 4 (rfl) ?_ rfl dL_values_867 ?_
      · omega
      first | refine v_iaddN C dL_values_868 ?_ | refine v_iadd C dL_values_868 ?_
      refine V_stk (st2 := [.int (isA m)]) rfl ?_
      refine v_istore C (lo2 := [some _, some _, none, none, none, none, none, none, none, none, none, none, none, none, none, none, none, none, none, none, none, some _, none, none, none]) dL_values_869 rfl (Nat.le_of_ble_eq_true rfl) rfl ?_
      refine v_iload C dL_values_871 rfl ?_
      refine v_if_ne C 880 dL_values_873 (by decide) (fun c873 => ?_) (fun c873 => ?_)
      · refine v_aload_n C dL_values_880 rfl ?_
        refine v_gFN (K := fun w => cS (xK X) g ((s, m), (sT, mT), rr, hh, sl, tx) ++ (w ++ dS (xK X) b (i + 1 + 1 + 1 + 1))) C (Cxt.l _ (Cxt.r _ Cxt.id)) (v := .ref (h 3)) 0 fln_L_172 lm_0 rfl dL_values_881 ?_
        refine v_iconst (v := nI 2) C dL_values_884 (by decide) ?_
        refine v_gI (K := fun w => cS (xK X) g ((s, m), (sT, mT), rr, hh, sl, tx) ++ (w ++ dS (xK X) b (i + 1 + 1 + 1 + 1))) C (Cxt.l _ (Cxt.r _ Cxt.id)) (x := (m 6 2)) 3 lm_3 (by first | decide | omega) 2 (rfl) ?_ rfl dL_values_885 ?_
        · omega
        refine v_i2f C dL_values_886 ?_
        refine v_iload C dL_values_887 rfl ?_
        refine v_i2f C dL_values_889 ?_
        refine v_fdiv C dL_values_890 ?_ ?_
        · exact fp_f c873
        refine v_fstore C (lo2 := [some _, some _, none, none, none, none, none, none, none, none, none, none, none, none, none, none, none, none, none, none, none, some _, some _, none, none]) dL_values_891 rfl (Nat.le_of_ble_eq_true rfl) rfl ?_
        refine v_aload_n C dL_values_893 rfl ?_
        refine v_gFN (K := fun w => cS (xK X) g ((s, m), (sT, mT), rr, hh, sl, tx) ++ (w ++ dS (xK X) b (i + 1 + 1 + 1 + 1))) C (Cxt.l _ (Cxt.r _ Cxt.id)) (v := .ref (h 3)) 0 fln_L_172 lm_0 rfl dL_values_894 ?_
        refine v_bipush (v := nI 8) C dL_values_897 (by decide) ?_
        refine v_gI (K := fun w => cS (xK X) g ((s, m), (sT, mT), rr, hh, sl, tx) ++ (w ++ dS (xK X) b (i + 1 + 1 + 1 + 1))) C (Cxt.l _ (Cxt.r _ Cxt.id)) (x := (m 6 8)) 3 lm_3 (by first | decide | omega) 8 (rfl) ?_ rfl dL_values_899 ?_
        · omega
        refine v_if_ne C 907 dL_values_900 (by decide) (fun c900 => ?_) (fun c900 => ?_)
        · refine v_aload_n C dL_values_907 rfl ?_
          refine v_gFN (K := fun w => cS (xK X) g ((s, m), (sT, mT), rr, hh, sl, tx) ++ (w ++ dS (xK X) b (i + 1 + 1 + 1 + 1))) C (Cxt.l _ (Cxt.r _ Cxt.id)) (v := .ref (h 3)) 0 fln_L_172 lm_0 rfl dL_values_908 ?_
          refine v_bipush (v := nI 6) C dL_values_911 (by decide) ?_
          refine v_gI (K := fun w => cS (xK X) g ((s, m), (sT, mT), rr, hh, sl, tx) ++ (w ++ dS (xK X) b (i + 1 + 1 + 1 + 1))) C (Cxt.l _ (Cxt.r _ Cxt.id)) (x := (m 6 6)) 3 lm_3 (by first | decide | omega) 6 (rfl) ?_ rfl dL_values_913 ?_
          · omega
          refine v_i2d C dL_values_914 ?_
          refine v_aload_n C dL_values_915 rfl ?_
          refine v_gFN (K := fun w => cS (xK X) g ((s, m), (sT, mT), rr, hh, sl, tx) ++ (w ++ dS (xK X) b (i + 1 + 1 + 1 + 1))) C (Cxt.l _ (Cxt.r _ Cxt.id)) (v := .ref (h 3)) 0 fln_L_172 lm_0 rfl dL_values_916 ?_
          refine v_bipush (v := nI 8) C dL_values_919 (by decide) ?_
          refine v_gI (K := fun w => cS (xK X) g ((s, m), (sT, mT), rr, hh, sl, tx) ++ (w ++ dS (xK X) b (i + 1 + 1 + 1 + 1))) C (Cxt.l _ (Cxt.r _ Cxt.id)) (x := (m 6 8)) 3 lm_3 (by first | decide | omega) 8 (rfl) ?_ rfl dL_values_921 ?_
          · omega
          refine v_i2d C dL_values_922 ?_
          refine v_ddiv C dL_values_923 ?_ ?_
          · exact fp_d c900
          refine v_dstore C (lo2 := [some _, some _, none, none, none, none, none, none, none, none, none, none, none, none, none, none, none, none, none, none, none, some _, some _, some _, none]) dL_values_924 rfl (Nat.le_of_ble_eq_true rfl) rfl ?_
          refine v_aload_n C dL_values_926 rfl ?_
          refine v_kVf (K := fun w => w ++ (lmW (xK X) h n (m, e, m 6 0) ++ dS (xK X) b (i + 1 + 1 + 1 + 1))) C (Cxt.r _ Cxt.id) (c_X5_idleShare hl (c := cM) hW) ym_X5_idleShare ml_L_332 fix_cS cS_0 rfl rfl rfl dL_values_927 (by first | omega | exact Nat.le_of_ble_eq_true rfl) (by first | omega | exact Nat.le_of_ble_eq_true rfl) (by first | omega | exact Nat.le_of_ble_eq_true rfl) (Nat.le_of_ble_eq_true rfl) (fun _ _ hu => (noU (cd_0 n1) hu.1).elim) (fun r u hu => ?_)
          obtain ⟨⟨-, rfl⟩, s, ⟨sT, mT⟩, rfl⟩ := hu
          refine v_fload C dL_values_930 rfl ?_
          refine v_fcmp C dL_values_932 ?_
          refine v_if_ne C 966 dL_values_933 (by decide) (fun c933 => ?_) (fun c933 => ?_)
          · exact absurd (isv_d c873) c933
          · refine v_aload_n C dL_values_936 rfl ?_
            refine v_kVd (K := fun w => w ++ (lmW (xK X) h n (m, e, m 6 0) ++ dS (xK X) b (i + 1 + 1 + 1 + 1))) C (Cxt.r _ Cxt.id) (c_X5_meanHops hl (c := cM) hW) ym_X5_meanHops ml_L_336 fix_cS cS_0 rfl rfl rfl dL_values_937 (by first | omega | exact Nat.le_of_ble_eq_true rfl) (by first | omega | exact Nat.le_of_ble_eq_true rfl) (by first | omega | exact Nat.le_of_ble_eq_true rfl) (Nat.le_of_ble_eq_true rfl) (fun _ _ hu => (noU (cd_0 n1) hu.1).elim) (fun r u hu => ?_)
            obtain ⟨⟨-, rfl⟩, s, ⟨sT, mT⟩, rfl⟩ := hu
            refine v_dload C dL_values_940 rfl ?_
            refine v_dcmp C dL_values_942 ?_
            refine v_if_ne C 966 dL_values_943 (by decide) (fun c943 => ?_) (fun c943 => ?_)
            · exact absurd (mhv_d c900) c943
            · refine v_aload_n C dL_values_946 rfl ?_
              refine v_bipush (v := nI 12) C dL_values_947 (by decide) ?_
              refine v_aload_n C dL_values_949 rfl ?_
              refine v_gFN (K := fun w => cS (xK X) g ((s, m), (sT, mT), rr, hh, sl, tx) ++ (w ++ dS (xK X) b (i + 1 + 1 + 1 + 1))) C (Cxt.l _ (Cxt.r _ Cxt.id)) (v := .int (m 0 8)) 0 fln_L_164 lm_0 rfl dL_values_950 ?_
              rw [hev.2]
              refine v_iconst (v := nI 0) C dL_values_953 (by decide) ?_
              refine v_iconst (v := nI 0) C dL_values_954 (by decide) ?_
              refine v_gSHi (K := fun w => w ++ (lmW (xK X) h n (m, e, m 6 0) ++ dS (xK X) b (i + 1 + 1 + 1 + 1))) C (Cxt.r _ Cxt.id) (c_thrown hl (Nat.le_of_ble_eq_true rfl) (Nat.le_of_ble_eq_true rfl) (c_calls_12 (b := _) (c := _) hl (by decide) (c_X5_event hl hW)) (fun _ _ hu => by
                  obtain ⟨_, _, hz, _⟩ := hu
                  have hy := hz.1.1
                  rw [(cd_ev2 n1 hev.1)] at hy
                  exact absurd hy (by decide)) (fun _ _ hp => ts_E hp.1)) ysh_L_thrown ml_L_226 rfl rfl dL_values_955 (Nat.le_of_ble_eq_true rfl) (by first | omega | exact Nat.le_of_ble_eq_true rfl) (by first | omega | exact Nat.le_of_ble_eq_true rfl) (Nat.le_of_ble_eq_true rfl) (fun _ _ hu => hu.elim) (fun r u hu => ?_)
              obtain ⟨e9, u9, hp, rfl, rfl⟩ := hu
              rw [show exN e9 = 2 from ex_3 ((cd_ev2 n1 hev.1)) hp.1]
              obtain ⟨s, ⟨sT, mT⟩, rfl⟩ := hp.2
              refine v_iconst (v := nI 2) C dL_values_958 (by decide) ?_
              refine v_icmp_ne C 966 dL_values_959 (by decide) (fun c => absurd c (by decide)) (fun c959 => ?_)
              refine v_iconst (v := nI 1) C dL_values_962 (by decide) ?_
              refine v_goto C 967 dL_values_963 (by decide) ?_
              refine v_iretG C F (by first | rfl | exact bI_nar _) dL_values_967 (by first | omega | exact Nat.le_of_ble_eq_true rfl) (by first | omega | exact Nat.le_of_ble_eq_true rfl) rfl (List.Perm.refl _) ?_
              exact ⟨rfl, ((s, m), (sT, mT), rr, hh, sl, tx), i + 1 + 1 + 1 + 1, ⟨s, (sT, mT), rr, hh, sl, tx, _, rfl, hH⟩, by omega, rfl⟩
        · refine v_dconst0 C dL_values_903 ?_
          refine v_goto C 924 dL_values_904 (by decide) ?_
          refine v_dstore C (lo2 := [some _, some _, none, none, none, none, none, none, none, none, none, none, none, none, none, none, none, none, none, none, none, some _, some _, some _, none]) dL_values_924 rfl (Nat.le_of_ble_eq_true rfl) rfl ?_
          refine v_aload_n C dL_values_926 rfl ?_
          refine v_kVf (K := fun w => w ++ (lmW (xK X) h n (m, e, m 6 0) ++ dS (xK X) b (i + 1 + 1 + 1 + 1))) C (Cxt.r _ Cxt.id) (c_X5_idleShare hl (c := cM) hW) ym_X5_idleShare ml_L_332 fix_cS cS_0 rfl rfl rfl dL_values_927 (by first | omega | exact Nat.le_of_ble_eq_true rfl) (by first | omega | exact Nat.le_of_ble_eq_true rfl) (by first | omega | exact Nat.le_of_ble_eq_true rfl) (Nat.le_of_ble_eq_true rfl) (fun _ _ hu => (noU (cd_0 n1) hu.1).elim) (fun r u hu => ?_)
          obtain ⟨⟨-, rfl⟩, s, ⟨sT, mT⟩, rfl⟩ := hu
          refine v_fload C dL_values_930 rfl ?_
          refine v_fcmp C dL_values_932 ?_
          refine v_if_ne C 966 dL_values_933 (by decide) (fun c933 => ?_) (fun c933 => ?_)
          · exact absurd (isv_d c873) c933
          · refine v_aload_n C dL_values_936 rfl ?_
            refine v_kVd (K := fun w => w ++ (lmW (xK X) h n (m, e, m 6 0) ++ dS (xK X) b (i + 1 + 1 + 1 + 1))) C (Cxt.r _ Cxt.id) (c_X5_meanHops hl (c := cM) hW) ym_X5_meanHops ml_L_336 fix_cS cS_0 rfl rfl rfl dL_values_937 (by first | omega | exact Nat.le_of_ble_eq_true rfl) (by first | omega | exact Nat.le_of_ble_eq_true rfl) (by first | omega | exact Nat.le_of_ble_eq_true rfl) (Nat.le_of_ble_eq_true rfl) (fun _ _ hu => (noU (cd_0 n1) hu.1).elim) (fun r u hu => ?_)
            obtain ⟨⟨-, rfl⟩, s, ⟨sT, mT⟩, rfl⟩ := hu
            refine v_dload C dL_values_940 rfl ?_
            refine v_dcmp C dL_values_942 ?_
            refine v_if_ne C 966 dL_values_943 (by decide) (fun c943 => ?_) (fun c943 => ?_)
            · exact absurd (mhv_0 c900) c943
            · refine v_aload_n C dL_values_946 rfl ?_
              refine v_bipush (v := nI 12) C dL_values_947 (by decide) ?_
              refine v_aload_n C dL_values_949 rfl ?_
              refine v_gFN (K := fun w => cS (xK X) g ((s, m), (sT, mT), rr, hh, sl, tx) ++ (w ++ dS (xK X) b (i + 1 + 1 + 1 + 1))) C (Cxt.l _ (Cxt.r _ Cxt.id)) (v := .int (m 0 8)) 0 fln_L_164 lm_0 rfl dL_values_950 ?_
              rw [hev.2]
              refine v_iconst (v := nI 0) C dL_values_953 (by decide) ?_
              refine v_iconst (v := nI 0) C dL_values_954 (by decide) ?_
              refine v_gSHi (K := fun w => w ++ (lmW (xK X) h n (m, e, m 6 0) ++ dS (xK X) b (i + 1 + 1 + 1 + 1))) C (Cxt.r _ Cxt.id) (c_thrown hl (Nat.le_of_ble_eq_true rfl) (Nat.le_of_ble_eq_true rfl) (c_calls_12 (b := _) (c := _) hl (by decide) (c_X5_event hl hW)) (fun _ _ hu => by
                  obtain ⟨_, _, hz, _⟩ := hu
                  have hy := hz.1.1
                  rw [(cd_ev2 n1 hev.1)] at hy
                  exact absurd hy (by decide)) (fun _ _ hp => ts_E hp.1)) ysh_L_thrown ml_L_226 rfl rfl dL_values_955 (Nat.le_of_ble_eq_true rfl) (by first | omega | exact Nat.le_of_ble_eq_true rfl) (by first | omega | exact Nat.le_of_ble_eq_true rfl) (Nat.le_of_ble_eq_true rfl) (fun _ _ hu => hu.elim) (fun r u hu => ?_)
              obtain ⟨e9, u9, hp, rfl, rfl⟩ := hu
              rw [show exN e9 = 2 from ex_3 ((cd_ev2 n1 hev.1)) hp.1]
              obtain ⟨s, ⟨sT, mT⟩, rfl⟩ := hp.2
              refine v_iconst (v := nI 2) C dL_values_958 (by decide) ?_
              refine v_icmp_ne C 966 dL_values_959 (by decide) (fun c => absurd c (by decide)) (fun c959 => ?_)
              refine v_iconst (v := nI 1) C dL_values_962 (by decide) ?_
              refine v_goto C 967 dL_values_963 (by decide) ?_
              refine v_iretG C F (by first | rfl | exact bI_nar _) dL_values_967 (by first | omega | exact Nat.le_of_ble_eq_true rfl) (by first | omega | exact Nat.le_of_ble_eq_true rfl) rfl (List.Perm.refl _) ?_
              exact ⟨rfl, ((s, m), (sT, mT), rr, hh, sl, tx), i + 1 + 1 + 1 + 1, ⟨s, (sT, mT), rr, hh, sl, tx, _, rfl, hH⟩, by omega, rfl⟩
      · refine v_fconst0 C dL_values_876 ?_
        refine v_goto C 891 dL_values_877 (by decide) ?_
        refine v_fstore C (lo2 := [some _, some _, none, none, none, none, none, none, none, none, none, none, none, none, none, none, none, none, none, none, none, some _, some _, none, none]) dL_values_891 rfl (Nat.le_of_ble_eq_true rfl) rfl ?_
        refine v_aload_n C dL_values_893 rfl ?_
        refine v_gFN (K := fun w => cS (xK X) g ((s, m), (sT, mT), rr, hh, sl, tx) ++ (w ++ dS (xK X) b (i + 1 + 1 + 1 + 1))) C (Cxt.l _ (Cxt.r _ Cxt.id)) (v := .ref (h 3)) 0 fln_L_172 lm_0 rfl dL_values_894 ?_
        refine v_bipush (v := nI 8) C dL_values_897 (by decide) ?_
        refine v_gI (K := fun w => cS (xK X) g ((s, m), (sT, mT), rr, hh, sl, tx) ++ (w ++ dS (xK X) b (i + 1 + 1 + 1 + 1))) C (Cxt.l _ (Cxt.r _ Cxt.id)) (x := (m 6 8)) 3 lm_3 (by first | decide | omega) 8 (rfl) ?_ rfl dL_values_899 ?_
        · omega
        refine v_if_ne C 907 dL_values_900 (by decide) (fun c900 => ?_) (fun c900 => ?_)
        · refine v_aload_n C dL_values_907 rfl ?_
          refine v_gFN (K := fun w => cS (xK X) g ((s, m), (sT, mT), rr, hh, sl, tx) ++ (w ++ dS (xK X) b (i + 1 + 1 + 1 + 1))) C (Cxt.l _ (Cxt.r _ Cxt.id)) (v := .ref (h 3)) 0 fln_L_172 lm_0 rfl dL_values_908 ?_
          refine v_bipush (v := nI 6) C dL_values_911 (by decide) ?_
          refine v_gI (K := fun w => cS (xK X) g ((s, m), (sT, mT), rr, hh, sl, tx) ++ (w ++ dS (xK X) b (i + 1 + 1 + 1 + 1))) C (Cxt.l _ (Cxt.r _ Cxt.id)) (x := (m 6 6)) 3 lm_3 (by first | decide | omega) 6 (rfl) ?_ rfl dL_values_913 ?_
          · omega
          refine v_i2d C dL_values_914 ?_
          refine v_aload_n C dL_values_915 rfl ?_
          refine v_gFN (K := fun w => cS (xK X) g ((s, m), (sT, mT), rr, hh, sl, tx) ++ (w ++ dS (xK X) b (i + 1 + 1 + 1 + 1))) C (Cxt.l _ (Cxt.r _ Cxt.id)) (v := .ref (h 3)) 0 fln_L_172 lm_0 rfl dL_values_916 ?_
          refine v_bipush (v := nI 8) C dL_values_919 (by decide) ?_
          refine v_gI (K := fun w => cS (xK X) g ((s, m), (sT, mT), rr, hh, sl, tx) ++ (w ++ dS (xK X) b (i + 1 + 1 + 1 + 1))) C (Cxt.l _ (Cxt.r _ Cxt.id)) (x := (m 6 8)) 3 lm_3 (by first | decide | omega) 8 (rfl) ?_ rfl dL_values_921 ?_
          · omega
          refine v_i2d C dL_values_922 ?_
          refine v_ddiv C dL_values_923 ?_ ?_
          · exact fp_d c900
          refine v_dstore C (lo2 := [some _, some _, none, none, none, none, none, none, none, none, none, none, none, none, none, none, none, none, none, none, none, some _, some _, some _, none]) dL_values_924 rfl (Nat.le_of_ble_eq_true rfl) rfl ?_
          refine v_aload_n C dL_values_926 rfl ?_
          refine v_kVf (K := fun w => w ++ (lmW (xK X) h n (m, e, m 6 0) ++ dS (xK X) b (i + 1 + 1 + 1 + 1))) C (Cxt.r _ Cxt.id) (c_X5_idleShare hl (c := cM) hW) ym_X5_idleShare ml_L_332 fix_cS cS_0 rfl rfl rfl dL_values_927 (by first | omega | exact Nat.le_of_ble_eq_true rfl) (by first | omega | exact Nat.le_of_ble_eq_true rfl) (by first | omega | exact Nat.le_of_ble_eq_true rfl) (Nat.le_of_ble_eq_true rfl) (fun _ _ hu => (noU (cd_0 n1) hu.1).elim) (fun r u hu => ?_)
          obtain ⟨⟨-, rfl⟩, s, ⟨sT, mT⟩, rfl⟩ := hu
          refine v_fload C dL_values_930 rfl ?_
          refine v_fcmp C dL_values_932 ?_
          refine v_if_ne C 966 dL_values_933 (by decide) (fun c933 => ?_) (fun c933 => ?_)
          · exact absurd (isv_0 c873) c933
          · refine v_aload_n C dL_values_936 rfl ?_
            refine v_kVd (K := fun w => w ++ (lmW (xK X) h n (m, e, m 6 0) ++ dS (xK X) b (i + 1 + 1 + 1 + 1))) C (Cxt.r _ Cxt.id) (c_X5_meanHops hl (c := cM) hW) ym_X5_meanHops ml_L_336 fix_cS cS_0 rfl rfl rfl dL_values_937 (by first | omega | exact Nat.le_of_ble_eq_true rfl) (by first | omega | exact Nat.le_of_ble_eq_true rfl) (by first | omega | exact Nat.le_of_ble_eq_true rfl) (Nat.le_of_ble_eq_true rfl) (fun _ _ hu => (noU (cd_0 n1) hu.1).elim) (fun r u hu => ?_)
            obtain ⟨⟨-, rfl⟩, s, ⟨sT, mT⟩, rfl⟩ := hu
            refine v_dload C dL_values_940 rfl ?_
            refine v_dcmp C dL_values_942 ?_
            refine v_if_ne C 966 dL_values_943 (by decide) (fun c943 => ?_) (fun c943 => ?_)
            · exact absurd (mhv_d c900) c943
            · refine v_aload_n C dL_values_946 rfl ?_
              refine v_bipush (v := nI 12) C dL_values_947 (by decide) ?_
              refine v_aload_n C dL_values_949 rfl ?_
              refine v_gFN (K := fun w => cS (xK X) g ((s, m), (sT, mT), rr, hh, sl, tx) ++ (w ++ dS (xK X) b (i + 1 + 1 + 1 + 1))) C (Cxt.l _ (Cxt.r _ Cxt.id)) (v := .int (m 0 8)) 0 fln_L_164 lm_0 rfl dL_values_950 ?_
              rw [hev.2]
              refine v_iconst (v := nI 0) C dL_values_953 (by decide) ?_
              refine v_iconst (v := nI 0) C dL_values_954 (by decide) ?_
              refine v_gSHi (K := fun w => w ++ (lmW (xK X) h n (m, e, m 6 0) ++ dS (xK X) b (i + 1 + 1 + 1 + 1))) C (Cxt.r _ Cxt.id) (c_thrown hl (Nat.le_of_ble_eq_true rfl) (Nat.le_of_ble_eq_true rfl) (c_calls_12 (b := _) (c := _) hl (by decide) (c_X5_event hl hW)) (fun _ _ hu => by
                  obtain ⟨_, _, hz, _⟩ := hu
                  have hy := hz.1.1
                  rw [(cd_ev2 n1 hev.1)] at hy
                  exact absurd hy (by decide)) (fun _ _ hp => ts_E hp.1)) ysh_L_thrown ml_L_226 rfl rfl dL_values_955 (Nat.le_of_ble_eq_true rfl) (by first | omega | exact Nat.le_of_ble_eq_true rfl) (by first | omega | exact Nat.le_of_ble_eq_true rfl) (Nat.le_of_ble_eq_true rfl) (fun _ _ hu => hu.elim) (fun r u hu => ?_)
              obtain ⟨e9, u9, hp, rfl, rfl⟩ := hu
              rw [show exN e9 = 2 from ex_3 ((cd_ev2 n1 hev.1)) hp.1]
              obtain ⟨s, ⟨sT, mT⟩, rfl⟩ := hp.2
              refine v_iconst (v := nI 2) C dL_values_958 (by decide) ?_
              refine v_icmp_ne C 966 dL_values_959 (by decide) (fun c => absurd c (by decide)) (fun c959 => ?_)
              refine v_iconst (v := nI 1) C dL_values_962 (by decide) ?_
              refine v_goto C 967 dL_values_963 (by decide) ?_
              refine v_iretG C F (by first | rfl | exact bI_nar _) dL_values_967 (by first | omega | exact Nat.le_of_ble_eq_true rfl) (by first | omega | exact Nat.le_of_ble_eq_true rfl) rfl (List.Perm.refl _) ?_
              exact ⟨rfl, ((s, m), (sT, mT), rr, hh, sl, tx), i + 1 + 1 + 1 + 1, ⟨s, (sT, mT), rr, hh, sl, tx, _, rfl, hH⟩, by omega, rfl⟩
        · refine v_dconst0 C dL_values_903 ?_
          refine v_goto C 924 dL_values_904 (by decide) ?_
          refine v_dstore C (lo2 := [some _, some _, none, none, none, none, none, none, none, none, none, none, none, none, none, none, none, none, none, none, none, some _, some _, some _, none]) dL_values_924 rfl (Nat.le_of_ble_eq_true rfl) rfl ?_
          refine v_aload_n C dL_values_926 rfl ?_
          refine v_kVf (K := fun w => w ++ (lmW (xK X) h n (m, e, m 6 0) ++ dS (xK X) b (i + 1 + 1 + 1 + 1))) C (Cxt.r _ Cxt.id) (c_X5_idleShare hl (c := cM) hW) ym_X5_idleShare ml_L_332 fix_cS cS_0 rfl rfl rfl dL_values_927 (by first | omega | exact Nat.le_of_ble_eq_true rfl) (by first | omega | exact Nat.le_of_ble_eq_true rfl) (by first | omega | exact Nat.le_of_ble_eq_true rfl) (Nat.le_of_ble_eq_true rfl) (fun _ _ hu => (noU (cd_0 n1) hu.1).elim) (fun r u hu => ?_)
          obtain ⟨⟨-, rfl⟩, s, ⟨sT, mT⟩, rfl⟩ := hu
          refine v_fload C dL_values_930 rfl ?_
          refine v_fcmp C dL_values_932 ?_
          refine v_if_ne C 966 dL_values_933 (by decide) (fun c933 => ?_) (fun c933 => ?_)
          · exact absurd (isv_0 c873) c933
          · refine v_aload_n C dL_values_936 rfl ?_
            refine v_kVd (K := fun w => w ++ (lmW (xK X) h n (m, e, m 6 0) ++ dS (xK X) b (i + 1 + 1 + 1 + 1))) C (Cxt.r _ Cxt.id) (c_X5_meanHops hl (c := cM) hW) ym_X5_meanHops ml_L_336 fix_cS cS_0 rfl rfl rfl dL_values_937 (by first | omega | exact Nat.le_of_ble_eq_true rfl) (by first | omega | exact Nat.le_of_ble_eq_true rfl) (by first | omega | exact Nat.le_of_ble_eq_true rfl) (Nat.le_of_ble_eq_true rfl) (fun _ _ hu => (noU (cd_0 n1) hu.1).elim) (fun r u hu => ?_)
            obtain ⟨⟨-, rfl⟩, s, ⟨sT, mT⟩, rfl⟩ := hu
            refine v_dload C dL_values_940 rfl ?_
            refine v_dcmp C dL_values_942 ?_
            refine v_if_ne C 966 dL_values_943 (by decide) (fun c943 => ?_) (fun c943 => ?_)
            · exact absurd (mhv_0 c900) c943
            · refine v_aload_n C dL_values_946 rfl ?_
              refine v_bipush (v := nI 12) C dL_values_947 (by decide) ?_
              refine v_aload_n C dL_values_949 rfl ?_
              refine v_gFN (K := fun w => cS (xK X) g ((s, m), (sT, mT), rr, hh, sl, tx) ++ (w ++ dS (xK X) b (i + 1 + 1 + 1 + 1))) C (Cxt.l _ (Cxt.r _ Cxt.id)) (v := .int (m 0 8)) 0 fln_L_164 lm_0 rfl dL_values_950 ?_
              rw [hev.2]
              refine v_iconst (v := nI 0) C dL_values_953 (by decide) ?_
              refine v_iconst (v := nI 0) C dL_values_954 (by decide) ?_
              refine v_gSHi (K := fun w => w ++ (lmW (xK X) h n (m, e, m 6 0) ++ dS (xK X) b (i + 1 + 1 + 1 + 1))) C (Cxt.r _ Cxt.id) (c_thrown hl (Nat.le_of_ble_eq_true rfl) (Nat.le_of_ble_eq_true rfl) (c_calls_12 (b := _) (c := _) hl (by decide) (c_X5_event hl hW)) (fun _ _ hu => by
                  obtain ⟨_, _, hz, _⟩ := hu
                  have hy := hz.1.1
                  rw [(cd_ev2 n1 hev.1)] at hy
                  exact absurd hy (by decide)) (fun _ _ hp => ts_E hp.1)) ysh_L_thrown ml_L_226 rfl rfl dL_values_955 (Nat.le_of_ble_eq_true rfl) (by first | omega | exact Nat.le_of_ble_eq_true rfl) (by first | omega | exact Nat.le_of_ble_eq_true rfl) (Nat.le_of_ble_eq_true rfl) (fun _ _ hu => hu.elim) (fun r u hu => ?_)
              obtain ⟨e9, u9, hp, rfl, rfl⟩ := hu
              rw [show exN e9 = 2 from ex_3 ((cd_ev2 n1 hev.1)) hp.1]
              obtain ⟨s, ⟨sT, mT⟩, rfl⟩ := hp.2
              refine v_iconst (v := nI 2) C dL_values_958 (by decide) ?_
              refine v_icmp_ne C 966 dL_values_959 (by decide) (fun c => absurd c (by decide)) (fun c959 => ?_)
              refine v_iconst (v := nI 1) C dL_values_962 (by decide) ?_
              refine v_goto C 967 dL_values_963 (by decide) ?_
              refine v_iretG C F (by first | rfl | exact bI_nar _) dL_values_967 (by first | omega | exact Nat.le_of_ble_eq_true rfl) (by first | omega | exact Nat.le_of_ble_eq_true rfl) rfl (List.Perm.refl _) ?_
              exact ⟨rfl, ((s, m), (sT, mT), rr, hh, sl, tx), i + 1 + 1 + 1 + 1, ⟨s, (sT, mT), rr, hh, sl, tx, _, rfl, hH⟩, by omega, rfl⟩
    · have hk : k < evN m := by omega
      refine v_iconst (v := nI 0) C dL_values_805 (by decide) ?_
      refine v_istore C (lo2 := [some _, some _, none, none, none, none, none, none, none, none, none, none, none, none, none, none, none, none, none, none, none, some _, some _, none, none]) dL_values_806 rfl (Nat.le_of_ble_eq_true rfl) rfl ?_
      refine v_iload C dL_values_808 rfl ?_
      refine v_iconst (v := nI 3) C dL_values_810 (by decide) ?_
      refine v_icmp_ge C 843 dL_values_811 (by decide) (fun c => absurd c (by decide)) (fun c811 => ?_)
      refine v_aload_n C dL_values_814 rfl ?_
      refine v_iload C dL_values_815 rfl ?_
      refine v_iload C dL_values_817 rfl ?_
      refine v_kVi (K := fun w => w ++ (lmW (xK X) h n (m, e, m 6 0) ++ dS (xK X) b (i + 1 + 1 + 1 + 1))) C (Cxt.r _ Cxt.id) (c_X5_event hl (c := cM) hW) ym_X5_event ml_L_73 fix_cS cS_0 rfl rfl rfl dL_values_819 (by first | omega | exact Nat.le_of_ble_eq_true rfl) (by first | omega | exact Nat.le_of_ble_eq_true rfl) (by first | omega | exact Nat.le_of_ble_eq_true rfl) (Nat.le_of_ble_eq_true rfl) (fun _ _ hu => (no3 (cd_ev0 n1 hk hev.1 (by omega)) hu.1).elim) (fun r u hu => ?_)
      obtain ⟨⟨-, rfl⟩, s, ⟨sT, mT⟩, rfl⟩ := hu
      rw [tN_nI (by omega), tN_nI (by omega)]
      refine v_aload_n C dL_values_822 rfl ?_
      refine v_gFN (K := fun w => cS (xK X) g ((s, m), (sT, mT), rr, hh, sl, tx) ++ (w ++ dS (xK X) b (i + 1 + 1 + 1 + 1))) C (Cxt.l _ (Cxt.r _ Cxt.id)) (v := .ref (h 4)) 0 fln_L_329 lm_0 rfl dL_values_823 ?_
      refine v_iload C dL_values_826 rfl ?_
      refine v_gE (K := fun w => cS (xK X) g ((s, m), (sT, mT), rr, hh, sl, tx) ++ (w ++ dS (xK X) b (i + 1 + 1 + 1 + 1))) C (Cxt.l _ (Cxt.r _ Cxt.id)) (x := (some (e k))) 4 lm_4 (by first | decide | omega) k (if_pos hk) ?_ rfl dL_values_828 ?_
      · omega
      refine v_iload C dL_values_829 rfl ?_
      refine v_gI (K := fun w => cS (xK X) g ((s, m), (sT, mT), rr, hh, sl, tx) ++ (w ++ dS (xK X) b (i + 1 + 1 + 1 + 1))) C (Cxt.l _ (Cxt.r _ Cxt.id)) (x := (m 7 (k * 3 + 0))) (5 + (n + k)) (ev_at hk) (by first | decide | omega) 0 (ev_get (by decide)) ?_ rfl dL_values_831 ?_
      · omega
      refine v_icmp_eq C 837 dL_values_832 (by decide) (fun c832 => ?_) (fun c832 => ?_)
      · first | refine v_iinc1 C (lo2 := [some _, some _, none, none, none, none, none, none, none, none, none, none, none, none, none, none, none, none, none, none, none, some _, some _, none, none]) dL_values_837 rfl rfl rfl ?_ | refine v_iinc C (lo2 := [some _, some _, none, none, none, none, none, none, none, none, none, none, none, none, none, none, none, none, none, none, none, some _, some _, none, none]) dL_values_837 rfl rfl rfl rfl ?_
        refine v_goto C 808 dL_values_840 (by decide) ?_
        refine v_iload C dL_values_808 rfl ?_
        refine v_iconst (v := nI 3) C dL_values_810 (by decide) ?_
        refine v_icmp_ge C 843 dL_values_811 (by decide) (fun c => absurd c (by decide)) (fun c811 => ?_)
        refine v_aload_n C dL_values_814 rfl ?_
        refine v_iload C dL_values_815 rfl ?_
        refine v_iload C dL_values_817 rfl ?_
        refine v_kVi (K := fun w => w ++ (lmW (xK X) h n (m, e, m 6 0) ++ dS (xK X) b (i + 1 + 1 + 1 + 1))) C (Cxt.r _ Cxt.id) (c_X5_event hl (c := cM) hW) ym_X5_event ml_L_73 fix_cS cS_0 rfl rfl rfl dL_values_819 (by first | omega | exact Nat.le_of_ble_eq_true rfl) (by first | omega | exact Nat.le_of_ble_eq_true rfl) (by first | omega | exact Nat.le_of_ble_eq_true rfl) (Nat.le_of_ble_eq_true rfl) (fun _ _ hu => (no3 (cd_ev0 n1 hk hev.1 (by omega)) hu.1).elim) (fun r u hu => ?_)
        obtain ⟨⟨-, rfl⟩, s, ⟨sT, mT⟩, rfl⟩ := hu
        rw [tN_nI (by omega), tN_nI (by omega)]
        refine v_aload_n C dL_values_822 rfl ?_
        refine v_gFN (K := fun w => cS (xK X) g ((s, m), (sT, mT), rr, hh, sl, tx) ++ (w ++ dS (xK X) b (i + 1 + 1 + 1 + 1))) C (Cxt.l _ (Cxt.r _ Cxt.id)) (v := .ref (h 4)) 0 fln_L_329 lm_0 rfl dL_values_823 ?_
        refine v_iload C dL_values_826 rfl ?_
        refine v_gE (K := fun w => cS (xK X) g ((s, m), (sT, mT), rr, hh, sl, tx) ++ (w ++ dS (xK X) b (i + 1 + 1 + 1 + 1))) C (Cxt.l _ (Cxt.r _ Cxt.id)) (x := (some (e k))) 4 lm_4 (by first | decide | omega) k (if_pos hk) ?_ rfl dL_values_828 ?_
        · omega
        refine v_iload C dL_values_829 rfl ?_
        refine v_gI (K := fun w => cS (xK X) g ((s, m), (sT, mT), rr, hh, sl, tx) ++ (w ++ dS (xK X) b (i + 1 + 1 + 1 + 1))) C (Cxt.l _ (Cxt.r _ Cxt.id)) (x := (m 7 (k * 3 + 1))) (5 + (n + k)) (ev_at hk) (by first | decide | omega) 1 (ev_get (by decide)) ?_ rfl dL_values_831 ?_
        · omega
        refine v_icmp_eq C 837 dL_values_832 (by decide) (fun c832 => ?_) (fun c832 => ?_)
        · first | refine v_iinc1 C (lo2 := [some _, some _, none, none, none, none, none, none, none, none, none, none, none, none, none, none, none, none, none, none, none, some _, some _, none, none]) dL_values_837 rfl rfl rfl ?_ | refine v_iinc C (lo2 := [some _, some _, none, none, none, none, none, none, none, none, none, none, none, none, none, none, none, none, none, none, none, some _, some _, none, none]) dL_values_837 rfl rfl rfl rfl ?_
          refine v_goto C 808 dL_values_840 (by decide) ?_
          refine v_iload C dL_values_808 rfl ?_
          refine v_iconst (v := nI 3) C dL_values_810 (by decide) ?_
          refine v_icmp_ge C 843 dL_values_811 (by decide) (fun c => absurd c (by decide)) (fun c811 => ?_)
          refine v_aload_n C dL_values_814 rfl ?_
          refine v_iload C dL_values_815 rfl ?_
          refine v_iload C dL_values_817 rfl ?_
          refine v_kVi (K := fun w => w ++ (lmW (xK X) h n (m, e, m 6 0) ++ dS (xK X) b (i + 1 + 1 + 1 + 1))) C (Cxt.r _ Cxt.id) (c_X5_event hl (c := cM) hW) ym_X5_event ml_L_73 fix_cS cS_0 rfl rfl rfl dL_values_819 (by first | omega | exact Nat.le_of_ble_eq_true rfl) (by first | omega | exact Nat.le_of_ble_eq_true rfl) (by first | omega | exact Nat.le_of_ble_eq_true rfl) (Nat.le_of_ble_eq_true rfl) (fun _ _ hu => (no3 (cd_ev0 n1 hk hev.1 (by omega)) hu.1).elim) (fun r u hu => ?_)
          obtain ⟨⟨-, rfl⟩, s, ⟨sT, mT⟩, rfl⟩ := hu
          rw [tN_nI (by omega), tN_nI (by omega)]
          refine v_aload_n C dL_values_822 rfl ?_
          refine v_gFN (K := fun w => cS (xK X) g ((s, m), (sT, mT), rr, hh, sl, tx) ++ (w ++ dS (xK X) b (i + 1 + 1 + 1 + 1))) C (Cxt.l _ (Cxt.r _ Cxt.id)) (v := .ref (h 4)) 0 fln_L_329 lm_0 rfl dL_values_823 ?_
          refine v_iload C dL_values_826 rfl ?_
          refine v_gE (K := fun w => cS (xK X) g ((s, m), (sT, mT), rr, hh, sl, tx) ++ (w ++ dS (xK X) b (i + 1 + 1 + 1 + 1))) C (Cxt.l _ (Cxt.r _ Cxt.id)) (x := (some (e k))) 4 lm_4 (by first | decide | omega) k (if_pos hk) ?_ rfl dL_values_828 ?_
          · omega
          refine v_iload C dL_values_829 rfl ?_
          refine v_gI (K := fun w => cS (xK X) g ((s, m), (sT, mT), rr, hh, sl, tx) ++ (w ++ dS (xK X) b (i + 1 + 1 + 1 + 1))) C (Cxt.l _ (Cxt.r _ Cxt.id)) (x := (m 7 (k * 3 + 2))) (5 + (n + k)) (ev_at hk) (by first | decide | omega) 2 (ev_get (by decide)) ?_ rfl dL_values_831 ?_
          · omega
          refine v_icmp_eq C 837 dL_values_832 (by decide) (fun c832 => ?_) (fun c832 => ?_)
          · first | refine v_iinc1 C (lo2 := [some _, some _, none, none, none, none, none, none, none, none, none, none, none, none, none, none, none, none, none, none, none, some _, some _, none, none]) dL_values_837 rfl rfl rfl ?_ | refine v_iinc C (lo2 := [some _, some _, none, none, none, none, none, none, none, none, none, none, none, none, none, none, none, none, none, none, none, some _, some _, none, none]) dL_values_837 rfl rfl rfl rfl ?_
            refine v_goto C 808 dL_values_840 (by decide) ?_
            refine v_iload C dL_values_808 rfl ?_
            refine v_iconst (v := nI 3) C dL_values_810 (by decide) ?_
            refine v_icmp_ge C 843 dL_values_811 (by decide) (fun c811 => ?_) (fun c => absurd c (by decide))
            first | refine v_iinc1 C (lo2 := [some _, some _, none, none, none, none, none, none, none, none, none, none, none, none, none, none, none, none, none, none, none, some _, some _, none, none]) dL_values_843 rfl rfl rfl ?_ | refine v_iinc C (lo2 := [some _, some _, none, none, none, none, none, none, none, none, none, none, none, none, none, none, none, none, none, none, none, some _, some _, none, none]) dL_values_843 rfl rfl rfl rfl ?_
            refine v_goto C 796 dL_values_846 (by decide) ?_
            refine V.sub (lo2 := [some _, some _, none, none, none, none, none, none, none, none, none, none, none, none, none, none, none, none, none, none, none, some _, none, none, none]) ⟨rfl, rfl, rfl, trivial⟩ ?_
            refine V.wid (k2 := 3300 + 18 * (k + 1)) (n2 := 56000 + 108 * (k + 1)) (by omega) (by omega) ?_
            exact ih796 (k + 1, s, sT, mT) (by show evN m - (k + 1) < evN m - k; omega) (by show k + 1 ≤ evN m; omega)
          · exact absurd rfl c832
        · exact absurd rfl c832
      · exact absurd rfl c832
  refine V.wid (k2 := 3300 + 18 * 0) (n2 := 56000 + 108 * 0) (by omega) (by omega) ?_
  exact L796 (0, s, sT, mT) (Nat.zero_le _)

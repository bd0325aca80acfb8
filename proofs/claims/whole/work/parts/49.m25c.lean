theorem tg_id {g : G} (h : g 0 0 = nI 0) : tg g 0 = g := by
  unfold tg
  refine sG_id (funext fun i => ?_)
  by_cases e : i = 0
  · subst e; rw [upd_s, h]
  · rw [upd_o e]
/-- what a load that fails leaves -/
def LDf (g : G) (P : RX) (u : G) : Prop := (u 0 0 = nI 2 ∧ u 0 1 = g 0 1 ∧ u 0 2 = g 0 2 ∧ u 0 5 = g 0 5 ∧ u 0 8 = nI 0 ∧ u 0 9 = nI P.1.2.1 ∧ u 0 10 = (if P.1.2.1 = 0 then -1 else nI P.1.2.2) ∧ u 0 24 = g 0 24) ∧ (∀ k, k < 640 → u 1 k = g 1 k) ∧ (∀ k, 640 ≤ k → u 2 k = g 2 k) ∧ u 3 = g 3 ∧ u 4 = g 4 ∧ u 6 = g 6
/-- what a load leaves -/
def LDo (g : G) (P : RX) (n : Nat) (u : G) : Prop := (u 0 0 = nI 0 ∧ u 0 1 = nI 1 ∧ u 0 2 = nI n ∧ u 0 5 = nI 0 ∧ u 0 8 = nI 0 ∧ u 0 9 = nI P.1.2.1 ∧ u 0 10 = (if P.1.2.1 = 0 then -1 else nI P.1.2.2) ∧ u 0 24 = g 0 24) ∧ RowR P.2.1 (u 1) ∧ (∀ k, 640 ≤ k → u 2 k = g 2 k) ∧ (u 3 0 = nI 0 ∧ u 3 1 = nI 0) ∧ u 4 = g 4 ∧ u 6 = g 6
theorem u2_o {f : Nat → Int32} {x y : Int32} {k : Nat} (h1 : ¬ k = 9) (h2 : ¬ k = 10) : upd (upd f 9 x) 10 y k = f k := by rw [upd_o h2, upd_o h1]
set_option maxHeartbeats 800000 in
theorem c_X6_load {l : Launch} (hl : l.stackTraces = false) {κ : Kp} {h : Nat → Nat} {g : G} {f : Nat} {v z : Int32} {ev : Nat → Int32} {P : RX} (hf : g 0 8 = nI f) (h7 : f ≤ 700) (hb : BN0 (g 4)) (hz : g 0 2 = z) (hP : parS (g 4) (tN v) ev = P) : Ct SS MM l κ yX6_load cX6_load 3 (some FieldType.int) 9 0 0 [.ref (h 0), .int v] (qS κ h) g ri (fun r u => (inB v 0 f = false ∧ u = tg g 1) ∨ (inB v 0 f = true ∧ ok P.1 = false ∧ LDf g P u) ∨ (inB v 0 f = true ∧ ok P.1 = true ∧ ∃ n, r = nI n ∧ LDo g P n u ∧ PI n P)) (fun _ _ => False) := by
  refine Ct.of (own := RX6) (by decide) rfl hl (by intro v hv; simp only [List.mem_cons, List.not_mem_nil, or_false] at hv; first | (rcases hv with rfl | rfl | rfl | rfl | rfl | rfl <;> rfl) | (rcases hv with rfl | rfl | rfl | rfl | rfl <;> rfl) | (rcases hv with rfl | rfl | rfl | rfl <;> rfl) | (rcases hv with rfl | rfl | rfl <;> rfl) | (rcases hv with rfl | rfl <;> rfl) | (subst hv; rfl) | exact hv.elim) (Nat.le_of_ble_eq_true rfl) (fun X hxl hxk C F N => ?_)
  subst hxl hxk
  show V X (qS (xK X) h) 0 [some (.ref (h 0)), some (.int v), none] [] g 0 0
  have e7 := nI_toInt (n := f) (by omega)
  refine v_aload_n C dX6_load_0 rfl ?_
  refine v_iconst (v := nI 0) C dX6_load_1 (by decide) ?_
  refine v_puti C fl_X6_33 fw_X6_0 oi_qS_0_0 ⟨rfl, rfl⟩ dX6_load_2 ?_
  refine V.stt (g2 := tg g 0) (rfl) ?_
  refine v_aload_n C dX6_load_5 rfl ?_
  refine v_iload_n C dX6_load_6 rfl ?_
  refine v_iconst (v := nI 0) C dX6_load_7 (by decide) ?_
  refine v_aload_n C dX6_load_8 rfl ?_
  refine v_getiQ (x := nI f) C fl_X6_44 oi_qS_0_8 (hf) dX6_load_9 ?_
  refine v_callSi C (c_X6_in hl (v := v) (a := 0) (b := (f : Int)) (by decide) e7) ys_X6_in rfl ml_X6_98 (emb_n fix_qS) rfl rfl rfl dX6_load_12 (Nat.le_of_ble_eq_true rfl) (Nat.le_of_ble_eq_true rfl) (Nat.le_of_ble_eq_true rfl) (Nat.le_of_ble_eq_true rfl) (fun _ _ hu => hu.elim) (fun r u hu => ?_)
  subst r
  refine V.stt (g2 := tg g 0) (rfl) ?_
  refine v_if_neB C 22 dX6_load_15 (by decide) (fun c15 => ?_) (fun c15 => ?_)
  · refine v_iconst (v := nI 0) C dX6_load_22 (by decide) ?_
    refine V.eqs (st2 := [.int (bI (!inB v 0 f)), .ref (h 0)]) ?_ (congrArg (fun z => [Value.int z, Value.ref (h 0)]) (by first | exact bI_t (by simp [c15]) | exact bI_f (by simp [c15])))
    refine v_iconst (v := nI 1) C dX6_load_23 (by decide) ?_
    refine v_callVi C (c_X6_refuse hl (b := !inB v 0 f) (k := 1) (by decide) (by decide)) ym_X6_refuse ml_X6_40 emb_id_qS rfl rfl rfl rfl rfl dX6_load_24 (Nat.le_of_ble_eq_true rfl) (Nat.le_of_ble_eq_true rfl) (Nat.le_of_ble_eq_true rfl) (Nat.le_of_ble_eq_true rfl) (fun _ _ hu => hu.elim) (fun r u hu => ?_)
    obtain ⟨rfl, hu⟩ := hu
    subst u
    refine v_if_eqB C 32 dX6_load_27 (by decide) (fun c27 => ?_) (fun c27 => ?_)
    · refine V.stt (g2 := tg g 0) (by rw [c27]; rfl) ?_
      have hin : inB v 0 f = true := by simpa using c27
      obtain ⟨k, -, hkf, hk31, ek⟩ := in_at (a := 0) hin
      subst ek
      have t_k : tN (nI k) = k := tN_nI hk31
      rw [t_k] at hP
      refine v_aload_n C dX6_load_32 rfl ?_
      refine v_iconst (v := nI 0) C dX6_load_33 (by decide) ?_
      refine v_puti C fl_X6_44 fw_X6_8 oi_qS_0_8 ⟨rfl, rfl⟩ dX6_load_34 ?_
      refine v_aload_n C dX6_load_37 rfl ?_
      refine v_getiQ (x := z) C fl_X6_126 oi_qS_0_2 (hz) dX6_load_38 ?_
      refine v_istore_n C (lo2 := [some _, some _, some _]) dX6_load_41 rfl (Nat.le_of_ble_eq_true rfl) rfl ?_
      refine v_aload_n C dX6_load_42 rfl ?_
      refine v_iconst (v := nI 0) C dX6_load_43 (by decide) ?_
      refine v_callVv C (c_X6_keeps hl (g := sG (tg g 0) 0 (upd (tg g 0 0) 8 (nI 0))) (j := 0) (by omega)) ym_X6_keeps ml_X6_195 emb_id_qS rfl rfl rfl rfl rfl dX6_load_44 (Nat.le_of_ble_eq_true rfl) (Nat.le_of_ble_eq_true rfl) (Nat.le_of_ble_eq_true rfl) (Nat.le_of_ble_eq_true rfl) (fun _ _ hu => hu.elim) (fun r u hu => ?_)
      subst u
      obtain ⟨g1, eg1⟩ : ∃ x, x = sG (sG (tg g 0) 0 (upd (tg g 0 0) 8 (nI 0))) 2 (kpP (g 2) (g 1) 0 640) := ⟨_, rfl⟩
      refine V.stt (g2 := g1) eg1.symm ?_
      refine v_aload_n C dX6_load_47 rfl ?_
      refine v_iload_n C dX6_load_48 rfl ?_
      refine v_callVv C (c_X6_reads hl (g := g1) (b := g 4) (len := k) (ev := ev) (P := P) (by rw [eg1]; rfl) (by omega) hb hP) ym_X6_reads ml_X6_198 emb_id_qS rfl rfl rfl rfl rfl dX6_load_49 (Nat.le_of_ble_eq_true rfl) (Nat.le_of_ble_eq_true rfl) (Nat.le_of_ble_eq_true rfl) (Nat.le_of_ble_eq_true rfl) (fun _ _ hu => hu.elim) (fun r u hu => ?_)
      obtain ⟨hE2, hE3, hE4, hW2⟩ := hu
      obtain ⟨gr, egr⟩ : ∃ x, x = u := ⟨u, rfl⟩
      subst egr
      refine v_aload_n C dX6_load_52 rfl ?_
      refine v_aload_n C dX6_load_53 rfl ?_
      refine v_getiQ (x := nI P.1.2.1) C fl_X6_76 oi_qS_0_16 (hE2.1) dX6_load_54 ?_
      refine v_puti C fl_X6_47 fw_X6_9 oi_qS_0_9 ⟨rfl, rfl⟩ dX6_load_57 ?_
      refine v_aload_n C dX6_load_60 rfl ?_
      refine v_aload_n C dX6_load_61 rfl ?_
      refine v_getiQ (x := nI P.1.2.1) C fl_X6_76 oi_qS_0_16 (hE2.1) dX6_load_62 ?_
      refine v_if_ne C 72 dX6_load_65 (by decide) (fun c65 => ?_) (fun c65 => ?_)
      · refine v_aload_n C dX6_load_72 rfl ?_
        refine v_getiQ (x := (if P.1.2.1 = 0 then -1 else nI P.1.2.2)) C fl_X6_79 oi_qS_0_17 (hE2.2) dX6_load_73 ?_
        refine V.eqs (st2 := [.int (if P.1.2.1 = 0 then -1 else nI P.1.2.2), .ref (h 0)]) ?_ (congrArg (fun z => [Value.int z, Value.ref (h 0)]) (by first | rfl | exact (if_pos hp0).symm))
        refine v_puti C fl_X6_23 fw_X6_10 oi_qS_0_10 ⟨rfl, rfl⟩ dX6_load_76 ?_
        obtain ⟨g3, eg3⟩ : ∃ x, x = sG gr 0 (upd (upd (gr 0) 9 (nI P.1.2.1)) 10 (if P.1.2.1 = 0 then -1 else nI P.1.2.2)) := ⟨_, rfl⟩
        refine V.stt (g2 := g3) (by rw [eg3, sG_sG]; rfl) ?_
        have wk : ∀ k, ¬ k = 9 → ¬ k = 10 → g3 0 k = gr 0 k := fun k a b => by rw [eg3]; exact u2_o a b
        have wa : ∀ k, k ≤ 10 ∧ ¬ k = 2 ∨ k = 24 → gr 0 k = g1 0 k := hW2.2
        have w16 : g3 0 16 = nI P.1.2.1 := (wk 16 (by decide) (by decide)).trans hE2.1
        have w0 : g3 0 0 = nI 0 := (wk 0 (by decide) (by decide)).trans ((wa 0 (by decide)).trans (by rw [eg1]; rfl))
        have wf1 : g3 0 1 = g 0 1 := (wk 1 (by decide) (by decide)).trans ((wa 1 (by decide)).trans (by rw [eg1]; rfl))
        have wf5 : g3 0 5 = g 0 5 := (wk 5 (by decide) (by decide)).trans ((wa 5 (by decide)).trans (by rw [eg1]; rfl))
        have wf8 : g3 0 8 = nI 0 := (wk 8 (by decide) (by decide)).trans ((wa 8 (by decide)).trans (by rw [eg1]; rfl))
        have wf9 : g3 0 9 = nI P.1.2.1 := by rw [eg3]; rfl
        have wf10 : g3 0 10 = (if P.1.2.1 = 0 then -1 else nI P.1.2.2) := by rw [eg3]; rfl
        have wf24 : g3 0 24 = g 0 24 := (wk 24 (by decide) (by decide)).trans ((wa 24 (by decide)).trans (by rw [eg1]; rfl))
        have wc2 : g3 2 = kpP (g 2) (g 1) 0 640 := by rw [eg3]; exact hW2.1.1.trans (by rw [eg1]; rfl)
        have wc3 : g3 3 = g 3 := by rw [eg3]; exact hW2.1.2.1.trans (by rw [eg1]; rfl)
        have wc4 : g3 4 = g 4 := by rw [eg3]; exact hW2.1.2.2.1.trans (by rw [eg1]; rfl)
        have wc6 : g3 6 = g 6 := by rw [eg3]; exact hW2.1.2.2.2.trans (by rw [eg1]; rfl)
        have w1 : ok P.1 = true → RowR P.2.1 (g3 1) ∧ ∃ n, g3 0 2 = nI n ∧ PI n P := by rw [eg3]; exact hE4
        have wko : ∀ k, 640 ≤ k → g3 2 k = g 2 k := fun k hk => by rw [wc2]; exact kpP_out (by omega)
        have wki : ∀ k, k < 640 → g3 2 (640 * 0 + k) = g 1 k := fun k hk => by rw [wc2]; exact kpP_in (j := 0) hk
        refine v_aload_n C dX6_load_79 rfl ?_
        refine v_aload_n C dX6_load_80 rfl ?_
        refine v_getiQ (x := nI P.1.2.1) C fl_X6_76 oi_qS_0_16 (w16) dX6_load_81 ?_
        refine v_if_eq C 91 dX6_load_84 (by decide) (fun c84 => ?_) (fun c84 => ?_)
        · have hq0 : P.1.2.1 = 0 := nI_inj (b := 0) (by omega) (by omega) c84
          refine v_iconst (v := nI 0) C dX6_load_91 (by decide) ?_
          refine V.eqs (st2 := [.int (bI (!ok P.1)), .ref (h 0)]) ?_ (congrArg (fun z => [Value.int z, Value.ref (h 0)]) (by first | exact bI_f (by rw [ok_gz hq0]; rfl) | exact bI_t (by rw [ok_b hq0]; rfl)))
          refine V.stt (g2 := tg g3 0) (tg_id w0).symm ?_
          refine v_iconst (v := nI 2) C dX6_load_92 (by decide) ?_
          refine v_callVi C (c_X6_refuse hl (g := g3) (b := !ok P.1) (k := 2) (by decide) (by decide)) ym_X6_refuse ml_X6_40 emb_id_qS rfl rfl rfl rfl rfl dX6_load_93 (Nat.le_of_ble_eq_true rfl) (Nat.le_of_ble_eq_true rfl) (Nat.le_of_ble_eq_true rfl) (Nat.le_of_ble_eq_true rfl) (fun _ _ hu => hu.elim) (fun r u hu => ?_)
          obtain ⟨rfl, hu⟩ := hu
          subst u
          refine v_if_eqB C 111 dX6_load_96 (by decide) (fun c96 => ?_) (fun c96 => ?_)
          · have hok : ok P.1 = true := by simpa using c96
            refine V.stt (g2 := g3) (by rw [c96]; exact tg_id w0) ?_
            obtain ⟨hRw, n, hn2, hPI⟩ := w1 hok
            refine v_aload_n C dX6_load_111 rfl ?_
            refine v_iconst (v := nI 1) C dX6_load_112 (by decide) ?_
            refine v_puti C fl_X6_36 fw_X6_1 oi_qS_0_1 (by first | exact ⟨rfl, rfl⟩ | exact ⟨bI_nar _, bI_fit _⟩) dX6_load_113 ?_
            refine v_aload_n C dX6_load_116 rfl ?_
            refine v_iconst (v := nI 0) C dX6_load_117 (by decide) ?_
            refine v_puti C fl_X6_204 fw_X6_5 oi_qS_0_5 ⟨rfl, rfl⟩ dX6_load_118 ?_
            refine v_aload_n C dX6_load_121 rfl ?_
            refine v_getr C fl_X6_16 or_qS_0_6 dX6_load_122 ?_
            refine v_iconst (v := nI 0) C dX6_load_125 (by decide) ?_
            refine v_iconst (v := nI 0) C dX6_load_126 (by decide) ?_
            refine v_zast C ar_qS_3 (by decide) _ ?_ rfl (by first | rfl | exact bI_vp _) dX6_load_127 ?_
            · omega
            refine v_aload_n C dX6_load_128 rfl ?_
            refine v_getr C fl_X6_16 or_qS_0_6 dX6_load_129 ?_
            refine v_iconst (v := nI 1) C dX6_load_132 (by decide) ?_
            refine v_iconst (v := nI 0) C dX6_load_133 (by decide) ?_
            refine v_zast C ar_qS_3 (by decide) _ ?_ rfl (by first | rfl | exact bI_vp _) dX6_load_134 ?_
            · omega
            refine v_aload_n C dX6_load_135 rfl ?_
            refine v_getiQ (x := nI n) C fl_X6_126 oi_qS_0_2 (hn2) dX6_load_136 ?_
            refine v_iret C F (by first | rfl | exact bI_nar _) dX6_load_139 (Nat.le_of_ble_eq_true rfl) (Nat.le_of_ble_eq_true rfl) ?_
            exact Or.inr (Or.inr ⟨hin, hok, n, rfl, ⟨⟨w0, rfl, hn2, rfl, wf8, wf9, wf10, wf24⟩, hRw, wko, ⟨rfl, rfl⟩, wc4, wc6⟩, hPI⟩)
          · have hok : ok P.1 = false := by simpa using c96
            refine V.stt (g2 := tg g3 2) (by rw [c96]; rfl) ?_
            refine v_aload_n C dX6_load_99 rfl ?_
            refine v_iload_n C dX6_load_100 rfl ?_
            refine v_puti C fl_X6_126 fw_X6_2 oi_qS_0_2 ⟨rfl, rfl⟩ dX6_load_101 ?_
            refine v_aload_n C dX6_load_104 rfl ?_
            refine v_iconst (v := nI 0) C dX6_load_105 (by decide) ?_
            refine v_callVv C (c_X6_fetches hl (g := sG (tg g3 2) 0 (upd (tg g3 2 0) 2 z)) (j := 0) (by omega)) ym_X6_fetches ml_X6_201 emb_id_qS rfl rfl rfl rfl rfl dX6_load_106 (Nat.le_of_ble_eq_true rfl) (Nat.le_of_ble_eq_true rfl) (Nat.le_of_ble_eq_true rfl) (Nat.le_of_ble_eq_true rfl) (fun _ _ hu => hu.elim) (fun r u hu => ?_)
            subst u
            refine v_iconst (v := nI 0) C dX6_load_109 (by decide) ?_
            refine v_iret C F (by first | rfl | exact bI_nar _) dX6_load_110 (Nat.le_of_ble_eq_true rfl) (Nat.le_of_ble_eq_true rfl) ?_
            refine Or.inr (Or.inl ⟨by first | exact hin | (rw [t_k]; exact hin), hok, ⟨rfl, wf1, hz.symm, wf5, wf8, wf9, wf10, wf24⟩, fun k hk => ?_, wko, wc3, wc4, wc6⟩)
            rw [sG_at, mix_in hk]
            exact wki k hk
        · have hq0 : ¬ P.1.2.1 = 0 := fun w => c84 (by rw [w]; rfl)
          refine v_iconst (v := nI 1) C dX6_load_87 (by decide) ?_
          refine v_goto C 92 dX6_load_88 (by decide) ?_
          refine V.eqs (st2 := [.int (bI (!ok P.1)), .ref (h 0)]) ?_ (congrArg (fun z => [Value.int z, Value.ref (h 0)]) (by first | exact bI_f (by rw [ok_gz hq0]; rfl) | exact bI_t (by rw [ok_b hq0]; rfl)))
          refine V.stt (g2 := tg g3 0) (tg_id w0).symm ?_
          refine v_iconst (v := nI 2) C dX6_load_92 (by decide) ?_
          refine v_callVi C (c_X6_refuse hl (g := g3) (b := !ok P.1) (k := 2) (by decide) (by decide)) ym_X6_refuse ml_X6_40 emb_id_qS rfl rfl rfl rfl rfl dX6_load_93 (Nat.le_of_ble_eq_true rfl) (Nat.le_of_ble_eq_true rfl) (Nat.le_of_ble_eq_true rfl) (Nat.le_of_ble_eq_true rfl) (fun _ _ hu => hu.elim) (fun r u hu => ?_)
          obtain ⟨rfl, hu⟩ := hu
          subst u
          refine v_if_eqB C 111 dX6_load_96 (by decide) (fun c96 => ?_) (fun c96 => ?_)
          · have hok : ok P.1 = true := by simpa using c96
            refine V.stt (g2 := g3) (by rw [c96]; exact tg_id w0) ?_
            obtain ⟨hRw, n, hn2, hPI⟩ := w1 hok
            refine v_aload_n C dX6_load_111 rfl ?_
            refine v_iconst (v := nI 1) C dX6_load_112 (by decide) ?_
            refine v_puti C fl_X6_36 fw_X6_1 oi_qS_0_1 (by first | exact ⟨rfl, rfl⟩ | exact ⟨bI_nar _, bI_fit _⟩) dX6_load_113 ?_
            refine v_aload_n C dX6_load_116 rfl ?_
            refine v_iconst (v := nI 0) C dX6_load_117 (by decide) ?_
            refine v_puti C fl_X6_204 fw_X6_5 oi_qS_0_5 ⟨rfl, rfl⟩ dX6_load_118 ?_
            refine v_aload_n C dX6_load_121 rfl ?_
            refine v_getr C fl_X6_16 or_qS_0_6 dX6_load_122 ?_
            refine v_iconst (v := nI 0) C dX6_load_125 (by decide) ?_
            refine v_iconst (v := nI 0) C dX6_load_126 (by decide) ?_
            refine v_zast C ar_qS_3 (by decide) _ ?_ rfl (by first | rfl | exact bI_vp _) dX6_load_127 ?_
            · omega
            refine v_aload_n C dX6_load_128 rfl ?_
            refine v_getr C fl_X6_16 or_qS_0_6 dX6_load_129 ?_
            refine v_iconst (v := nI 1) C dX6_load_132 (by decide) ?_
            refine v_iconst (v := nI 0) C dX6_load_133 (by decide) ?_
            refine v_zast C ar_qS_3 (by decide) _ ?_ rfl (by first | rfl | exact bI_vp _) dX6_load_134 ?_
            · omega
            refine v_aload_n C dX6_load_135 rfl ?_
            refine v_getiQ (x := nI n) C fl_X6_126 oi_qS_0_2 (hn2) dX6_load_136 ?_
            refine v_iret C F (by first | rfl | exact bI_nar _) dX6_load_139 (Nat.le_of_ble_eq_true rfl) (Nat.le_of_ble_eq_true rfl) ?_
            exact Or.inr (Or.inr ⟨hin, hok, n, rfl, ⟨⟨w0, rfl, hn2, rfl, wf8, wf9, wf10, wf24⟩, hRw, wko, ⟨rfl, rfl⟩, wc4, wc6⟩, hPI⟩)
          · have hok : ok P.1 = false := by simpa using c96
            refine V.stt (g2 := tg g3 2) (by rw [c96]; rfl) ?_
            refine v_aload_n C dX6_load_99 rfl ?_
            refine v_iload_n C dX6_load_100 rfl ?_
            refine v_puti C fl_X6_126 fw_X6_2 oi_qS_0_2 ⟨rfl, rfl⟩ dX6_load_101 ?_
            refine v_aload_n C dX6_load_104 rfl ?_
            refine v_iconst (v := nI 0) C dX6_load_105 (by decide) ?_
            refine v_callVv C (c_X6_fetches hl (g := sG (tg g3 2) 0 (upd (tg g3 2 0) 2 z)) (j := 0) (by omega)) ym_X6_fetches ml_X6_201 emb_id_qS rfl rfl rfl rfl rfl dX6_load_106 (Nat.le_of_ble_eq_true rfl) (Nat.le_of_ble_eq_true rfl) (Nat.le_of_ble_eq_true rfl) (Nat.le_of_ble_eq_true rfl) (fun _ _ hu => hu.elim) (fun r u hu => ?_)
            subst u
            refine v_iconst (v := nI 0) C dX6_load_109 (by decide) ?_
            refine v_iret C F (by first | rfl | exact bI_nar _) dX6_load_110 (Nat.le_of_ble_eq_true rfl) (Nat.le_of_ble_eq_true rfl) ?_
            refine Or.inr (Or.inl ⟨by first | exact hin | (rw [t_k]; exact hin), hok, ⟨rfl, wf1, hz.symm, wf5, wf8, wf9, wf10, wf24⟩, fun k hk => ?_, wko, wc3, wc4, wc6⟩)
            rw [sG_at, mix_in hk]
            exact wki k hk
      · have hp0 : P.1.2.1 = 0 := nI_inj (b := 0) (by omega) (by omega) c65
        refine v_iconst (v := (-1)) C dX6_load_68 (by decide) ?_
        refine v_goto C 76 dX6_load_69 (by decide) ?_
        refine V.eqs (st2 := [.int (if P.1.2.1 = 0 then -1 else nI P.1.2.2), .ref (h 0)]) ?_ (congrArg (fun z => [Value.int z, Value.ref (h 0)]) (by first | rfl | exact (if_pos hp0).symm))
        refine v_puti C fl_X6_23 fw_X6_10 oi_qS_0_10 ⟨rfl, rfl⟩ dX6_load_76 ?_
        obtain ⟨g3, eg3⟩ : ∃ x, x = sG gr 0 (upd (upd (gr 0) 9 (nI P.1.2.1)) 10 (if P.1.2.1 = 0 then -1 else nI P.1.2.2)) := ⟨_, rfl⟩
        refine V.stt (g2 := g3) (by rw [eg3, sG_sG]; rfl) ?_
        have wk : ∀ k, ¬ k = 9 → ¬ k = 10 → g3 0 k = gr 0 k := fun k a b => by rw [eg3]; exact u2_o a b
        have wa : ∀ k, k ≤ 10 ∧ ¬ k = 2 ∨ k = 24 → gr 0 k = g1 0 k := hW2.2
        have w16 : g3 0 16 = nI P.1.2.1 := (wk 16 (by decide) (by decide)).trans hE2.1
        have w0 : g3 0 0 = nI 0 := (wk 0 (by decide) (by decide)).trans ((wa 0 (by decide)).trans (by rw [eg1]; rfl))
        have wf1 : g3 0 1 = g 0 1 := (wk 1 (by decide) (by decide)).trans ((wa 1 (by decide)).trans (by rw [eg1]; rfl))
        have wf5 : g3 0 5 = g 0 5 := (wk 5 (by decide) (by decide)).trans ((wa 5 (by decide)).trans (by rw [eg1]; rfl))
        have wf8 : g3 0 8 = nI 0 := (wk 8 (by decide) (by decide)).trans ((wa 8 (by decide)).trans (by rw [eg1]; rfl))
        have wf9 : g3 0 9 = nI P.1.2.1 := by rw [eg3]; rfl
        have wf10 : g3 0 10 = (if P.1.2.1 = 0 then -1 else nI P.1.2.2) := by rw [eg3]; rfl
        have wf24 : g3 0 24 = g 0 24 := (wk 24 (by decide) (by decide)).trans ((wa 24 (by decide)).trans (by rw [eg1]; rfl))
        have wc2 : g3 2 = kpP (g 2) (g 1) 0 640 := by rw [eg3]; exact hW2.1.1.trans (by rw [eg1]; rfl)
        have wc3 : g3 3 = g 3 := by rw [eg3]; exact hW2.1.2.1.trans (by rw [eg1]; rfl)
        have wc4 : g3 4 = g 4 := by rw [eg3]; exact hW2.1.2.2.1.trans (by rw [eg1]; rfl)
        have wc6 : g3 6 = g 6 := by rw [eg3]; exact hW2.1.2.2.2.trans (by rw [eg1]; rfl)
        have w1 : ok P.1 = true → RowR P.2.1 (g3 1) ∧ ∃ n, g3 0 2 = nI n ∧ PI n P := by rw [eg3]; exact hE4
        have wko : ∀ k, 640 ≤ k → g3 2 k = g 2 k := fun k hk => by rw [wc2]; exact kpP_out (by omega)
        have wki : ∀ k, k < 640 → g3 2 (640 * 0 + k) = g 1 k := fun k hk => by rw [wc2]; exact kpP_in (j := 0) hk
        refine v_aload_n C dX6_load_79 rfl ?_
        refine v_aload_n C dX6_load_80 rfl ?_
        refine v_getiQ (x := nI P.1.2.1) C fl_X6_76 oi_qS_0_16 (w16) dX6_load_81 ?_
        refine v_if_eq C 91 dX6_load_84 (by decide) (fun c84 => ?_) (fun c84 => ?_)
        · have hq0 : P.1.2.1 = 0 := nI_inj (b := 0) (by omega) (by omega) c84
          refine v_iconst (v := nI 0) C dX6_load_91 (by decide) ?_
          refine V.eqs (st2 := [.int (bI (!ok P.1)), .ref (h 0)]) ?_ (congrArg (fun z => [Value.int z, Value.ref (h 0)]) (by first | exact bI_f (by rw [ok_gz hq0]; rfl) | exact bI_t (by rw [ok_b hq0]; rfl)))
          refine V.stt (g2 := tg g3 0) (tg_id w0).symm ?_
          refine v_iconst (v := nI 2) C dX6_load_92 (by decide) ?_
          refine v_callVi C (c_X6_refuse hl (g := g3) (b := !ok P.1) (k := 2) (by decide) (by decide)) ym_X6_refuse ml_X6_40 emb_id_qS rfl rfl rfl rfl rfl dX6_load_93 (Nat.le_of_ble_eq_true rfl) (Nat.le_of_ble_eq_true rfl) (Nat.le_of_ble_eq_true rfl) (Nat.le_of_ble_eq_true rfl) (fun _ _ hu => hu.elim) (fun r u hu => ?_)
          obtain ⟨rfl, hu⟩ := hu
          subst u
          refine v_if_eqB C 111 dX6_load_96 (by decide) (fun c96 => ?_) (fun c96 => ?_)
          · have hok : ok P.1 = true := by simpa using c96
            refine V.stt (g2 := g3) (by rw [c96]; exact tg_id w0) ?_
            obtain ⟨hRw, n, hn2, hPI⟩ := w1 hok
            refine v_aload_n C dX6_load_111 rfl ?_
            refine v_iconst (v := nI 1) C dX6_load_112 (by decide) ?_
            refine v_puti C fl_X6_36 fw_X6_1 oi_qS_0_1 (by first | exact ⟨rfl, rfl⟩ | exact ⟨bI_nar _, bI_fit _⟩) dX6_load_113 ?_
            refine v_aload_n C dX6_load_116 rfl ?_
            refine v_iconst (v := nI 0) C dX6_load_117 (by decide) ?_
            refine v_puti C fl_X6_204 fw_X6_5 oi_qS_0_5 ⟨rfl, rfl⟩ dX6_load_118 ?_
            refine v_aload_n C dX6_load_121 rfl ?_
            refine v_getr C fl_X6_16 or_qS_0_6 dX6_load_122 ?_
            refine v_iconst (v := nI 0) C dX6_load_125 (by decide) ?_
            refine v_iconst (v := nI 0) C dX6_load_126 (by decide) ?_
            refine v_zast C ar_qS_3 (by decide) _ ?_ rfl (by first | rfl | exact bI_vp _) dX6_load_127 ?_
            · omega
            refine v_aload_n C dX6_load_128 rfl ?_
            refine v_getr C fl_X6_16 or_qS_0_6 dX6_load_129 ?_
            refine v_iconst (v := nI 1) C dX6_load_132 (by decide) ?_
            refine v_iconst (v := nI 0) C dX6_load_133 (by decide) ?_
            refine v_zast C ar_qS_3 (by decide) _ ?_ rfl (by first | rfl | exact bI_vp _) dX6_load_134 ?_
            · omega
            refine v_aload_n C dX6_load_135 rfl ?_
            refine v_getiQ (x := nI n) C fl_X6_126 oi_qS_0_2 (hn2) dX6_load_136 ?_
            refine v_iret C F (by first | rfl | exact bI_nar _) dX6_load_139 (Nat.le_of_ble_eq_true rfl) (Nat.le_of_ble_eq_true rfl) ?_
            exact Or.inr (Or.inr ⟨hin, hok, n, rfl, ⟨⟨w0, rfl, hn2, rfl, wf8, wf9, wf10, wf24⟩, hRw, wko, ⟨rfl, rfl⟩, wc4, wc6⟩, hPI⟩)
          · have hok : ok P.1 = false := by simpa using c96
            refine V.stt (g2 := tg g3 2) (by rw [c96]; rfl) ?_
            refine v_aload_n C dX6_load_99 rfl ?_
            refine v_iload_n C dX6_load_100 rfl ?_
            refine v_puti C fl_X6_126 fw_X6_2 oi_qS_0_2 ⟨rfl, rfl⟩ dX6_load_101 ?_
            refine v_aload_n C dX6_load_104 rfl ?_
            refine v_iconst (v := nI 0) C dX6_load_105 (by decide) ?_
            refine v_callVv C (c_X6_fetches hl (g := sG (tg g3 2) 0 (upd (tg g3 2 0) 2 z)) (j := 0) (by omega)) ym_X6_fetches ml_X6_201 emb_id_qS rfl rfl rfl rfl rfl dX6_load_106 (Nat.le_of_ble_eq_true rfl) (Nat.le_of_ble_eq_true rfl) (Nat.le_of_ble_eq_true rfl) (Nat.le_of_ble_eq_true rfl) (fun _ _ hu => hu.elim) (fun r u hu => ?_)
            subst u
            refine v_iconst (v := nI 0) C dX6_load_109 (by decide) ?_
            refine v_iret C F (by first | rfl | exact bI_nar _) dX6_load_110 (Nat.le_of_ble_eq_true rfl) (Nat.le_of_ble_eq_true rfl) ?_
            refine Or.inr (Or.inl ⟨by first | exact hin | (rw [t_k]; exact hin), hok, ⟨rfl, wf1, hz.symm, wf5, wf8, wf9, wf10, wf24⟩, fun k hk => ?_, wko, wc3, wc4, wc6⟩)
            rw [sG_at, mix_in hk]
            exact wki k hk
        · have hq0 : ¬ P.1.2.1 = 0 := fun w => c84 (by rw [w]; rfl)
          refine v_iconst (v := nI 1) C dX6_load_87 (by decide) ?_
          refine v_goto C 92 dX6_load_88 (by decide) ?_
          refine V.eqs (st2 := [.int (bI (!ok P.1)), .ref (h 0)]) ?_ (congrArg (fun z => [Value.int z, Value.ref (h 0)]) (by first | exact bI_f (by rw [ok_gz hq0]; rfl) | exact bI_t (by rw [ok_b hq0]; rfl)))
          refine V.stt (g2 := tg g3 0) (tg_id w0).symm ?_
          refine v_iconst (v := nI 2) C dX6_load_92 (by decide) ?_
          refine v_callVi C (c_X6_refuse hl (g := g3) (b := !ok P.1) (k := 2) (by decide) (by decide)) ym_X6_refuse ml_X6_40 emb_id_qS rfl rfl rfl rfl rfl dX6_load_93 (Nat.le_of_ble_eq_true rfl) (Nat.le_of_ble_eq_true rfl) (Nat.le_of_ble_eq_true rfl) (Nat.le_of_ble_eq_true rfl) (fun _ _ hu => hu.elim) (fun r u hu => ?_)
          obtain ⟨rfl, hu⟩ := hu
          subst u
          refine v_if_eqB C 111 dX6_load_96 (by decide) (fun c96 => ?_) (fun c96 => ?_)
          · have hok : ok P.1 = true := by simpa using c96
            refine V.stt (g2 := g3) (by rw [c96]; exact tg_id w0) ?_
            obtain ⟨hRw, n, hn2, hPI⟩ := w1 hok
            refine v_aload_n C dX6_load_111 rfl ?_
            refine v_iconst (v := nI 1) C dX6_load_112 (by decide) ?_
            refine v_puti C fl_X6_36 fw_X6_1 oi_qS_0_1 (by first | exact ⟨rfl, rfl⟩ | exact ⟨bI_nar _, bI_fit _⟩) dX6_load_113 ?_
            refine v_aload_n C dX6_load_116 rfl ?_
            refine v_iconst (v := nI 0) C dX6_load_117 (by decide) ?_
            refine v_puti C fl_X6_204 fw_X6_5 oi_qS_0_5 ⟨rfl, rfl⟩ dX6_load_118 ?_
            refine v_aload_n C dX6_load_121 rfl ?_
            refine v_getr C fl_X6_16 or_qS_0_6 dX6_load_122 ?_
            refine v_iconst (v := nI 0) C dX6_load_125 (by decide) ?_
            refine v_iconst (v := nI 0) C dX6_load_126 (by decide) ?_
            refine v_zast C ar_qS_3 (by decide) _ ?_ rfl (by first | rfl | exact bI_vp _) dX6_load_127 ?_
            · omega
            refine v_aload_n C dX6_load_128 rfl ?_
            refine v_getr C fl_X6_16 or_qS_0_6 dX6_load_129 ?_
            refine v_iconst (v := nI 1) C dX6_load_132 (by decide) ?_
            refine v_iconst (v := nI 0) C dX6_load_133 (by decide) ?_
            refine v_zast C ar_qS_3 (by decide) _ ?_ rfl (by first | rfl | exact bI_vp _) dX6_load_134 ?_
            · omega
            refine v_aload_n C dX6_load_135 rfl ?_
            refine v_getiQ (x := nI n) C fl_X6_126 oi_qS_0_2 (hn2) dX6_load_136 ?_
            refine v_iret C F (by first | rfl | exact bI_nar _) dX6_load_139 (Nat.le_of_ble_eq_true rfl) (Nat.le_of_ble_eq_true rfl) ?_
            exact Or.inr (Or.inr ⟨hin, hok, n, rfl, ⟨⟨w0, rfl, hn2, rfl, wf8, wf9, wf10, wf24⟩, hRw, wko, ⟨rfl, rfl⟩, wc4, wc6⟩, hPI⟩)
          · have hok : ok P.1 = false := by simpa using c96
            refine V.stt (g2 := tg g3 2) (by rw [c96]; rfl) ?_
            refine v_aload_n C dX6_load_99 rfl ?_
            refine v_iload_n C dX6_load_100 rfl ?_
            refine v_puti C fl_X6_126 fw_X6_2 oi_qS_0_2 ⟨rfl, rfl⟩ dX6_load_101 ?_
            refine v_aload_n C dX6_load_104 rfl ?_
            refine v_iconst (v := nI 0) C dX6_load_105 (by decide) ?_
            refine v_callVv C (c_X6_fetches hl (g := sG (tg g3 2) 0 (upd (tg g3 2 0) 2 z)) (j := 0) (by omega)) ym_X6_fetches ml_X6_201 emb_id_qS rfl rfl rfl rfl rfl dX6_load_106 (Nat.le_of_ble_eq_true rfl) (Nat.le_of_ble_eq_true rfl) (Nat.le_of_ble_eq_true rfl) (Nat.le_of_ble_eq_true rfl) (fun _ _ hu => hu.elim) (fun r u hu => ?_)
            subst u
            refine v_iconst (v := nI 0) C dX6_load_109 (by decide) ?_
            refine v_iret C F (by first | rfl | exact bI_nar _) dX6_load_110 (Nat.le_of_ble_eq_true rfl) (Nat.le_of_ble_eq_true rfl) ?_
            refine Or.inr (Or.inl ⟨by first | exact hin | (rw [t_k]; exact hin), hok, ⟨rfl, wf1, hz.symm, wf5, wf8, wf9, wf10, wf24⟩, fun k hk => ?_, wko, wc3, wc4, wc6⟩)
            rw [sG_at, mix_in hk]
            exact wki k hk
    · refine V.stt (g2 := tg g 1) (by rw [c27]; rfl) ?_
      refine v_iconst (v := nI 0) C dX6_load_30 (by decide) ?_
      refine v_iret C F (by first | rfl | exact bI_nar _) dX6_load_31 (Nat.le_of_ble_eq_true rfl) (Nat.le_of_ble_eq_true rfl) ?_
      exact Or.inl ⟨by simpa using c27, rfl⟩
  · refine v_iconst (v := nI 1) C dX6_load_18 (by decide) ?_
    refine v_goto C 23 dX6_load_19 (by decide) ?_
    refine V.eqs (st2 := [.int (bI (!inB v 0 f)), .ref (h 0)]) ?_ (congrArg (fun z => [Value.int z, Value.ref (h 0)]) (by first | exact bI_t (by simp [c15]) | exact bI_f (by simp [c15])))
    refine v_iconst (v := nI 1) C dX6_load_23 (by decide) ?_
    refine v_callVi C (c_X6_refuse hl (b := !inB v 0 f) (k := 1) (by decide) (by decide)) ym_X6_refuse ml_X6_40 emb_id_qS rfl rfl rfl rfl rfl dX6_load_24 (Nat.le_of_ble_eq_true rfl) (Nat.le_of_ble_eq_true rfl) (Nat.le_of_ble_eq_true rfl) (Nat.le_of_ble_eq_true rfl) (fun _ _ hu => hu.elim) (fun r u hu => ?_)
    obtain ⟨rfl, hu⟩ := hu
    subst u
    refine v_if_eqB C 32 dX6_load_27 (by decide) (fun c27 => ?_) (fun c27 => ?_)
    · refine V.stt (g2 := tg g 0) (by rw [c27]; rfl) ?_
      have hin : inB v 0 f = true := by simpa using c27
      obtain ⟨k, -, hkf, hk31, ek⟩ := in_at (a := 0) hin
      subst ek
      have t_k : tN (nI k) = k := tN_nI hk31
      rw [t_k] at hP
      refine v_aload_n C dX6_load_32 rfl ?_
      refine v_iconst (v := nI 0) C dX6_load_33 (by decide) ?_
      refine v_puti C fl_X6_44 fw_X6_8 oi_qS_0_8 ⟨rfl, rfl⟩ dX6_load_34 ?_
      refine v_aload_n C dX6_load_37 rfl ?_
      refine v_getiQ (x := z) C fl_X6_126 oi_qS_0_2 (hz) dX6_load_38 ?_
      refine v_istore_n C (lo2 := [some _, some _, some _]) dX6_load_41 rfl (Nat.le_of_ble_eq_true rfl) rfl ?_
      refine v_aload_n C dX6_load_42 rfl ?_
      refine v_iconst (v := nI 0) C dX6_load_43 (by decide) ?_
      refine v_callVv C (c_X6_keeps hl (g := sG (tg g 0) 0 (upd (tg g 0 0) 8 (nI 0))) (j := 0) (by omega)) ym_X6_keeps ml_X6_195 emb_id_qS rfl rfl rfl rfl rfl dX6_load_44 (Nat.le_of_ble_eq_true rfl) (Nat.le_of_ble_eq_true rfl) (Nat.le_of_ble_eq_true rfl) (Nat.le_of_ble_eq_true rfl) (fun _ _ hu => hu.elim) (fun r u hu => ?_)
      subst u
      obtain ⟨g1, eg1⟩ : ∃ x, x = sG (sG (tg g 0) 0 (upd (tg g 0 0) 8 (nI 0))) 2 (kpP (g 2) (g 1) 0 640) := ⟨_, rfl⟩
      refine V.stt (g2 := g1) eg1.symm ?_
      refine v_aload_n C dX6_load_47 rfl ?_
      refine v_iload_n C dX6_load_48 rfl ?_
      refine v_callVv C (c_X6_reads hl (g := g1) (b := g 4) (len := k) (ev := ev) (P := P) (by rw [eg1]; rfl) (by omega) hb hP) ym_X6_reads ml_X6_198 emb_id_qS rfl rfl rfl rfl rfl dX6_load_49 (Nat.le_of_ble_eq_true rfl) (Nat.le_of_ble_eq_true rfl) (Nat.le_of_ble_eq_true rfl) (Nat.le_of_ble_eq_true rfl) (fun _ _ hu => hu.elim) (fun r u hu => ?_)
      obtain ⟨hE2, hE3, hE4, hW2⟩ := hu
      obtain ⟨gr, egr⟩ : ∃ x, x = u := ⟨u, rfl⟩
      subst egr
      refine v_aload_n C dX6_load_52 rfl ?_
      refine v_aload_n C dX6_load_53 rfl ?_
      refine v_getiQ (x := nI P.1.2.1) C fl_X6_76 oi_qS_0_16 (hE2.1) dX6_load_54 ?_
      refine v_puti C fl_X6_47 fw_X6_9 oi_qS_0_9 ⟨rfl, rfl⟩ dX6_load_57 ?_
      refine v_aload_n C dX6_load_60 rfl ?_
      refine v_aload_n C dX6_load_61 rfl ?_
      refine v_getiQ (x := nI P.1.2.1) C fl_X6_76 oi_qS_0_16 (hE2.1) dX6_load_62 ?_
      refine v_if_ne C 72 dX6_load_65 (by decide) (fun c65 => ?_) (fun c65 => ?_)
      · refine v_aload_n C dX6_load_72 rfl ?_
        refine v_getiQ (x := (if P.1.2.1 = 0 then -1 else nI P.1.2.2)) C fl_X6_79 oi_qS_0_17 (hE2.2) dX6_load_73 ?_
        refine V.eqs (st2 := [.int (if P.1.2.1 = 0 then -1 else nI P.1.2.2), .ref (h 0)]) ?_ (congrArg (fun z => [Value.int z, Value.ref (h 0)]) (by first | rfl | exact (if_pos hp0).symm))
        refine v_puti C fl_X6_23 fw_X6_10 oi_qS_0_10 ⟨rfl, rfl⟩ dX6_load_76 ?_
        obtain ⟨g3, eg3⟩ : ∃ x, x = sG gr 0 (upd (upd (gr 0) 9 (nI P.1.2.1)) 10 (if P.1.2.1 = 0 then -1 else nI P.1.2.2)) := ⟨_, rfl⟩
        refine V.stt (g2 := g3) (by rw [eg3, sG_sG]; rfl) ?_
        have wk : ∀ k, ¬ k = 9 → ¬ k = 10 → g3 0 k = gr 0 k := fun k a b => by rw [eg3]; exact u2_o a b
        have wa : ∀ k, k ≤ 10 ∧ ¬ k = 2 ∨ k = 24 → gr 0 k = g1 0 k := hW2.2
        have w16 : g3 0 16 = nI P.1.2.1 := (wk 16 (by decide) (by decide)).trans hE2.1
        have w0 : g3 0 0 = nI 0 := (wk 0 (by decide) (by decide)).trans ((wa 0 (by decide)).trans (by rw [eg1]; rfl))
        have wf1 : g3 0 1 = g 0 1 := (wk 1 (by decide) (by decide)).trans ((wa 1 (by decide)).trans (by rw [eg1]; rfl))
        have wf5 : g3 0 5 = g 0 5 := (wk 5 (by decide) (by decide)).trans ((wa 5 (by decide)).trans (by rw [eg1]; rfl))
        have wf8 : g3 0 8 = nI 0 := (wk 8 (by decide) (by decide)).trans ((wa 8 (by decide)).trans (by rw [eg1]; rfl))
        have wf9 : g3 0 9 = nI P.1.2.1 := by rw [eg3]; rfl
        have wf10 : g3 0 10 = (if P.1.2.1 = 0 then -1 else nI P.1.2.2) := by rw [eg3]; rfl
        have wf24 : g3 0 24 = g 0 24 := (wk 24 (by decide) (by decide)).trans ((wa 24 (by decide)).trans (by rw [eg1]; rfl))
        have wc2 : g3 2 = kpP (g 2) (g 1) 0 640 := by rw [eg3]; exact hW2.1.1.trans (by rw [eg1]; rfl)
        have wc3 : g3 3 = g 3 := by rw [eg3]; exact hW2.1.2.1.trans (by rw [eg1]; rfl)
        have wc4 : g3 4 = g 4 := by rw [eg3]; exact hW2.1.2.2.1.trans (by rw [eg1]; rfl)
        have wc6 : g3 6 = g 6 := by rw [eg3]; exact hW2.1.2.2.2.trans (by rw [eg1]; rfl)
        have w1 : ok P.1 = true → RowR P.2.1 (g3 1) ∧ ∃ n, g3 0 2 = nI n ∧ PI n P := by rw [eg3]; exact hE4
        have wko : ∀ k, 640 ≤ k → g3 2 k = g 2 k := fun k hk => by rw [wc2]; exact kpP_out (by omega)
        have wki : ∀ k, k < 640 → g3 2 (640 * 0 + k) = g 1 k := fun k hk => by rw [wc2]; exact kpP_in (j := 0) hk
        refine v_aload_n C dX6_load_79 rfl ?_
        refine v_aload_n C dX6_load_80 rfl ?_
        refine v_getiQ (x := nI P.1.2.1) C fl_X6_76 oi_qS_0_16 (w16) dX6_load_81 ?_
        refine v_if_eq C 91 dX6_load_84 (by decide) (fun c84 => ?_) (fun c84 => ?_)
        · have hq0 : P.1.2.1 = 0 := nI_inj (b := 0) (by omega) (by omega) c84
          refine v_iconst (v := nI 0) C dX6_load_91 (by decide) ?_
          refine V.eqs (st2 := [.int (bI (!ok P.1)), .ref (h 0)]) ?_ (congrArg (fun z => [Value.int z, Value.ref (h 0)]) (by first | exact bI_f (by rw [ok_gz hq0]; rfl) | exact bI_t (by rw [ok_b hq0]; rfl)))
          refine V.stt (g2 := tg g3 0) (tg_id w0).symm ?_
          refine v_iconst (v := nI 2) C dX6_load_92 (by decide) ?_
          refine v_callVi C (c_X6_refuse hl (g := g3) (b := !ok P.1) (k := 2) (by decide) (by decide)) ym_X6_refuse ml_X6_40 emb_id_qS rfl rfl rfl rfl rfl dX6_load_93 (Nat.le_of_ble_eq_true rfl) (Nat.le_of_ble_eq_true rfl) (Nat.le_of_ble_eq_true rfl) (Nat.le_of_ble_eq_true rfl) (fun _ _ hu => hu.elim) (fun r u hu => ?_)
          obtain ⟨rfl, hu⟩ := hu
          subst u
          refine v_if_eqB C 111 dX6_load_96 (by decide) (fun c96 => ?_) (fun c96 => ?_)
          · have hok : ok P.1 = true := by simpa using c96
            refine V.stt (g2 := g3) (by rw [c96]; exact tg_id w0) ?_
            obtain ⟨hRw, n, hn2, hPI⟩ := w1 hok
            refine v_aload_n C dX6_load_111 rfl ?_
            refine v_iconst (v := nI 1) C dX6_load_112 (by decide) ?_
            refine v_puti C fl_X6_36 fw_X6_1 oi_qS_0_1 (by first | exact ⟨rfl, rfl⟩ | exact ⟨bI_nar _, bI_fit _⟩) dX6_load_113 ?_
            refine v_aload_n C dX6_load_116 rfl ?_
            refine v_iconst (v := nI 0) C dX6_load_117 (by decide) ?_
            refine v_puti C fl_X6_204 fw_X6_5 oi_qS_0_5 ⟨rfl, rfl⟩ dX6_load_118 ?_
            refine v_aload_n C dX6_load_121 rfl ?_
            refine v_getr C fl_X6_16 or_qS_0_6 dX6_load_122 ?_
            refine v_iconst (v := nI 0) C dX6_load_125 (by decide) ?_
            refine v_iconst (v := nI 0) C dX6_load_126 (by decide) ?_
            refine v_zast C ar_qS_3 (by decide) _ ?_ rfl (by first | rfl | exact bI_vp _) dX6_load_127 ?_
            · omega
            refine v_aload_n C dX6_load_128 rfl ?_
            refine v_getr C fl_X6_16 or_qS_0_6 dX6_load_129 ?_
            refine v_iconst (v := nI 1) C dX6_load_132 (by decide) ?_
            refine v_iconst (v := nI 0) C dX6_load_133 (by decide) ?_
            refine v_zast C ar_qS_3 (by decide) _ ?_ rfl (by first | rfl | exact bI_vp _) dX6_load_134 ?_
            · omega
            refine v_aload_n C dX6_load_135 rfl ?_
            refine v_getiQ (x := nI n) C fl_X6_126 oi_qS_0_2 (hn2) dX6_load_136 ?_
            refine v_iret C F (by first | rfl | exact bI_nar _) dX6_load_139 (Nat.le_of_ble_eq_true rfl) (Nat.le_of_ble_eq_true rfl) ?_
            exact Or.inr (Or.inr ⟨hin, hok, n, rfl, ⟨⟨w0, rfl, hn2, rfl, wf8, wf9, wf10, wf24⟩, hRw, wko, ⟨rfl, rfl⟩, wc4, wc6⟩, hPI⟩)
          · have hok : ok P.1 = false := by simpa using c96
            refine V.stt (g2 := tg g3 2) (by rw [c96]; rfl) ?_
            refine v_aload_n C dX6_load_99 rfl ?_
            refine v_iload_n C dX6_load_100 rfl ?_
            refine v_puti C fl_X6_126 fw_X6_2 oi_qS_0_2 ⟨rfl, rfl⟩ dX6_load_101 ?_
            refine v_aload_n C dX6_load_104 rfl ?_
            refine v_iconst (v := nI 0) C dX6_load_105 (by decide) ?_
            refine v_callVv C (c_X6_fetches hl (g := sG (tg g3 2) 0 (upd (tg g3 2 0) 2 z)) (j := 0) (by omega)) ym_X6_fetches ml_X6_201 emb_id_qS rfl rfl rfl rfl rfl dX6_load_106 (Nat.le_of_ble_eq_true rfl) (Nat.le_of_ble_eq_true rfl) (Nat.le_of_ble_eq_true rfl) (Nat.le_of_ble_eq_true rfl) (fun _ _ hu => hu.elim) (fun r u hu => ?_)
            subst u
            refine v_iconst (v := nI 0) C dX6_load_109 (by decide) ?_
            refine v_iret C F (by first | rfl | exact bI_nar _) dX6_load_110 (Nat.le_of_ble_eq_true rfl) (Nat.le_of_ble_eq_true rfl) ?_
            refine Or.inr (Or.inl ⟨by first | exact hin | (rw [t_k]; exact hin), hok, ⟨rfl, wf1, hz.symm, wf5, wf8, wf9, wf10, wf24⟩, fun k hk => ?_, wko, wc3, wc4, wc6⟩)
            rw [sG_at, mix_in hk]
            exact wki k hk
        · have hq0 : ¬ P.1.2.1 = 0 := fun w => c84 (by rw [w]; rfl)
          refine v_iconst (v := nI 1) C dX6_load_87 (by decide) ?_
          refine v_goto C 92 dX6_load_88 (by decide) ?_
          refine V.eqs (st2 := [.int (bI (!ok P.1)), .ref (h 0)]) ?_ (congrArg (fun z => [Value.int z, Value.ref (h 0)]) (by first | exact bI_f (by rw [ok_gz hq0]; rfl) | exact bI_t (by rw [ok_b hq0]; rfl)))
          refine V.stt (g2 := tg g3 0) (tg_id w0).symm ?_
          refine v_iconst (v := nI 2) C dX6_load_92 (by decide) ?_
          refine v_callVi C (c_X6_refuse hl (g := g3) (b := !ok P.1) (k := 2) (by decide) (by decide)) ym_X6_refuse ml_X6_40 emb_id_qS rfl rfl rfl rfl rfl dX6_load_93 (Nat.le_of_ble_eq_true rfl) (Nat.le_of_ble_eq_true rfl) (Nat.le_of_ble_eq_true rfl) (Nat.le_of_ble_eq_true rfl) (fun _ _ hu => hu.elim) (fun r u hu => ?_)
          obtain ⟨rfl, hu⟩ := hu
          subst u
          refine v_if_eqB C 111 dX6_load_96 (by decide) (fun c96 => ?_) (fun c96 => ?_)
          · have hok : ok P.1 = true := by simpa using c96
            refine V.stt (g2 := g3) (by rw [c96]; exact tg_id w0) ?_
            obtain ⟨hRw, n, hn2, hPI⟩ := w1 hok
            refine v_aload_n C dX6_load_111 rfl ?_
            refine v_iconst (v := nI 1) C dX6_load_112 (by decide) ?_
            refine v_puti C fl_X6_36 fw_X6_1 oi_qS_0_1 (by first | exact ⟨rfl, rfl⟩ | exact ⟨bI_nar _, bI_fit _⟩) dX6_load_113 ?_
            refine v_aload_n C dX6_load_116 rfl ?_
            refine v_iconst (v := nI 0) C dX6_load_117 (by decide) ?_
            refine v_puti C fl_X6_204 fw_X6_5 oi_qS_0_5 ⟨rfl, rfl⟩ dX6_load_118 ?_
            refine v_aload_n C dX6_load_121 rfl ?_
            refine v_getr C fl_X6_16 or_qS_0_6 dX6_load_122 ?_
            refine v_iconst (v := nI 0) C dX6_load_125 (by decide) ?_
            refine v_iconst (v := nI 0) C dX6_load_126 (by decide) ?_
            refine v_zast C ar_qS_3 (by decide) _ ?_ rfl (by first | rfl | exact bI_vp _) dX6_load_127 ?_
            · omega
            refine v_aload_n C dX6_load_128 rfl ?_
            refine v_getr C fl_X6_16 or_qS_0_6 dX6_load_129 ?_
            refine v_iconst (v := nI 1) C dX6_load_132 (by decide) ?_
            refine v_iconst (v := nI 0) C dX6_load_133 (by decide) ?_
            refine v_zast C ar_qS_3 (by decide) _ ?_ rfl (by first | rfl | exact bI_vp _) dX6_load_134 ?_
            · omega
            refine v_aload_n C dX6_load_135 rfl ?_
            refine v_getiQ (x := nI n) C fl_X6_126 oi_qS_0_2 (hn2) dX6_load_136 ?_
            refine v_iret C F (by first | rfl | exact bI_nar _) dX6_load_139 (Nat.le_of_ble_eq_true rfl) (Nat.le_of_ble_eq_true rfl) ?_
            exact Or.inr (Or.inr ⟨hin, hok, n, rfl, ⟨⟨w0, rfl, hn2, rfl, wf8, wf9, wf10, wf24⟩, hRw, wko, ⟨rfl, rfl⟩, wc4, wc6⟩, hPI⟩)
          · have hok : ok P.1 = false := by simpa using c96
            refine V.stt (g2 := tg g3 2) (by rw [c96]; rfl) ?_
            refine v_aload_n C dX6_load_99 rfl ?_
            refine v_iload_n C dX6_load_100 rfl ?_
            refine v_puti C fl_X6_126 fw_X6_2 oi_qS_0_2 ⟨rfl, rfl⟩ dX6_load_101 ?_
            refine v_aload_n C dX6_load_104 rfl ?_
            refine v_iconst (v := nI 0) C dX6_load_105 (by decide) ?_
            refine v_callVv C (c_X6_fetches hl (g := sG (tg g3 2) 0 (upd (tg g3 2 0) 2 z)) (j := 0) (by omega)) ym_X6_fetches ml_X6_201 emb_id_qS rfl rfl rfl rfl rfl dX6_load_106 (Nat.le_of_ble_eq_true rfl) (Nat.le_of_ble_eq_true rfl) (Nat.le_of_ble_eq_true rfl) (Nat.le_of_ble_eq_true rfl) (fun _ _ hu => hu.elim) (fun r u hu => ?_)
            subst u
            refine v_iconst (v := nI 0) C dX6_load_109 (by decide) ?_
            refine v_iret C F (by first | rfl | exact bI_nar _) dX6_load_110 (Nat.le_of_ble_eq_true rfl) (Nat.le_of_ble_eq_true rfl) ?_
            refine Or.inr (Or.inl ⟨by first | exact hin | (rw [t_k]; exact hin), hok, ⟨rfl, wf1, hz.symm, wf5, wf8, wf9, wf10, wf24⟩, fun k hk => ?_, wko, wc3, wc4, wc6⟩)
            rw [sG_at, mix_in hk]
            exact wki k hk
      · have hp0 : P.1.2.1 = 0 := nI_inj (b := 0) (by omega) (by omega) c65
        refine v_iconst (v := (-1)) C dX6_load_68 (by decide) ?_
        refine v_goto C 76 dX6_load_69 (by decide) ?_
        refine V.eqs (st2 := [.int (if P.1.2.1 = 0 then -1 else nI P.1.2.2), .ref (h 0)]) ?_ (congrArg (fun z => [Value.int z, Value.ref (h 0)]) (by first | rfl | exact (if_pos hp0).symm))
        refine v_puti C fl_X6_23 fw_X6_10 oi_qS_0_10 ⟨rfl, rfl⟩ dX6_load_76 ?_
        obtain ⟨g3, eg3⟩ : ∃ x, x = sG gr 0 (upd (upd (gr 0) 9 (nI P.1.2.1)) 10 (if P.1.2.1 = 0 then -1 else nI P.1.2.2)) := ⟨_, rfl⟩
        refine V.stt (g2 := g3) (by rw [eg3, sG_sG]; rfl) ?_
        have wk : ∀ k, ¬ k = 9 → ¬ k = 10 → g3 0 k = gr 0 k := fun k a b => by rw [eg3]; exact u2_o a b
        have wa : ∀ k, k ≤ 10 ∧ ¬ k = 2 ∨ k = 24 → gr 0 k = g1 0 k := hW2.2
        have w16 : g3 0 16 = nI P.1.2.1 := (wk 16 (by decide) (by decide)).trans hE2.1
        have w0 : g3 0 0 = nI 0 := (wk 0 (by decide) (by decide)).trans ((wa 0 (by decide)).trans (by rw [eg1]; rfl))
        have wf1 : g3 0 1 = g 0 1 := (wk 1 (by decide) (by decide)).trans ((wa 1 (by decide)).trans (by rw [eg1]; rfl))
        have wf5 : g3 0 5 = g 0 5 := (wk 5 (by decide) (by decide)).trans ((wa 5 (by decide)).trans (by rw [eg1]; rfl))
        have wf8 : g3 0 8 = nI 0 := (wk 8 (by decide) (by decide)).trans ((wa 8 (by decide)).trans (by rw [eg1]; rfl))
        have wf9 : g3 0 9 = nI P.1.2.1 := by rw [eg3]; rfl
        have wf10 : g3 0 10 = (if P.1.2.1 = 0 then -1 else nI P.1.2.2) := by rw [eg3]; rfl
        have wf24 : g3 0 24 = g 0 24 := (wk 24 (by decide) (by decide)).trans ((wa 24 (by decide)).trans (by rw [eg1]; rfl))
        have wc2 : g3 2 = kpP (g 2) (g 1) 0 640 := by rw [eg3]; exact hW2.1.1.trans (by rw [eg1]; rfl)
        have wc3 : g3 3 = g 3 := by rw [eg3]; exact hW2.1.2.1.trans (by rw [eg1]; rfl)
        have wc4 : g3 4 = g 4 := by rw [eg3]; exact hW2.1.2.2.1.trans (by rw [eg1]; rfl)
        have wc6 : g3 6 = g 6 := by rw [eg3]; exact hW2.1.2.2.2.trans (by rw [eg1]; rfl)
        have w1 : ok P.1 = true → RowR P.2.1 (g3 1) ∧ ∃ n, g3 0 2 = nI n ∧ PI n P := by rw [eg3]; exact hE4
        have wko : ∀ k, 640 ≤ k → g3 2 k = g 2 k := fun k hk => by rw [wc2]; exact kpP_out (by omega)
        have wki : ∀ k, k < 640 → g3 2 (640 * 0 + k) = g 1 k := fun k hk => by rw [wc2]; exact kpP_in (j := 0) hk
        refine v_aload_n C dX6_load_79 rfl ?_
        refine v_aload_n C dX6_load_80 rfl ?_
        refine v_getiQ (x := nI P.1.2.1) C fl_X6_76 oi_qS_0_16 (w16) dX6_load_81 ?_
        refine v_if_eq C 91 dX6_load_84 (by decide) (fun c84 => ?_) (fun c84 => ?_)
        · have hq0 : P.1.2.1 = 0 := nI_inj (b := 0) (by omega) (by omega) c84
          refine v_iconst (v := nI 0) C dX6_load_91 (by decide) ?_
          refine V.eqs (st2 := [.int (bI (!ok P.1)), .ref (h 0)]) ?_ (congrArg (fun z => [Value.int z, Value.ref (h 0)]) (by first | exact bI_f (by rw [ok_gz hq0]; rfl) | exact bI_t (by rw [ok_b hq0]; rfl)))
          refine V.stt (g2 := tg g3 0) (tg_id w0).symm ?_
          refine v_iconst (v := nI 2) C dX6_load_92 (by decide) ?_
          refine v_callVi C (c_X6_refuse hl (g := g3) (b := !ok P.1) (k := 2) (by decide) (by decide)) ym_X6_refuse ml_X6_40 emb_id_qS rfl rfl rfl rfl rfl dX6_load_93 (Nat.le_of_ble_eq_true rfl) (Nat.le_of_ble_eq_true rfl) (Nat.le_of_ble_eq_true rfl) (Nat.le_of_ble_eq_true rfl) (fun _ _ hu => hu.elim) (fun r u hu => ?_)
          obtain ⟨rfl, hu⟩ := hu
          subst u
          refine v_if_eqB C 111 dX6_load_96 (by decide) (fun c96 => ?_) (fun c96 => ?_)
          · have hok : ok P.1 = true := by simpa using c96
            refine V.stt (g2 := g3) (by rw [c96]; exact tg_id w0) ?_
            obtain ⟨hRw, n, hn2, hPI⟩ := w1 hok
            refine v_aload_n C dX6_load_111 rfl ?_
            refine v_iconst (v := nI 1) C dX6_load_112 (by decide) ?_
            refine v_puti C fl_X6_36 fw_X6_1 oi_qS_0_1 (by first | exact ⟨rfl, rfl⟩ | exact ⟨bI_nar _, bI_fit _⟩) dX6_load_113 ?_
            refine v_aload_n C dX6_load_116 rfl ?_
            refine v_iconst (v := nI 0) C dX6_load_117 (by decide) ?_
            refine v_puti C fl_X6_204 fw_X6_5 oi_qS_0_5 ⟨rfl, rfl⟩ dX6_load_118 ?_
            refine v_aload_n C dX6_load_121 rfl ?_
            refine v_getr C fl_X6_16 or_qS_0_6 dX6_load_122 ?_
            refine v_iconst (v := nI 0) C dX6_load_125 (by decide) ?_
            refine v_iconst (v := nI 0) C dX6_load_126 (by decide) ?_
            refine v_zast C ar_qS_3 (by decide) _ ?_ rfl (by first | rfl | exact bI_vp _) dX6_load_127 ?_
            · omega
            refine v_aload_n C dX6_load_128 rfl ?_
            refine v_getr C fl_X6_16 or_qS_0_6 dX6_load_129 ?_
            refine v_iconst (v := nI 1) C dX6_load_132 (by decide) ?_
            refine v_iconst (v := nI 0) C dX6_load_133 (by decide) ?_
            refine v_zast C ar_qS_3 (by decide) _ ?_ rfl (by first | rfl | exact bI_vp _) dX6_load_134 ?_
            · omega
            refine v_aload_n C dX6_load_135 rfl ?_
            refine v_getiQ (x := nI n) C fl_X6_126 oi_qS_0_2 (hn2) dX6_load_136 ?_
            refine v_iret C F (by first | rfl | exact bI_nar _) dX6_load_139 (Nat.le_of_ble_eq_true rfl) (Nat.le_of_ble_eq_true rfl) ?_
            exact Or.inr (Or.inr ⟨hin, hok, n, rfl, ⟨⟨w0, rfl, hn2, rfl, wf8, wf9, wf10, wf24⟩, hRw, wko, ⟨rfl, rfl⟩, wc4, wc6⟩, hPI⟩)
          · have hok : ok P.1 = false := by simpa using c96
            refine V.stt (g2 := tg g3 2) (by rw [c96]; rfl) ?_
            refine v_aload_n C dX6_load_99 rfl ?_
            refine v_iload_n C dX6_load_100 rfl ?_
            refine v_puti C fl_X6_126 fw_X6_2 oi_qS_0_2 ⟨rfl, rfl⟩ dX6_load_101 ?_
            refine v_aload_n C dX6_load_104 rfl ?_
            refine v_iconst (v := nI 0) C dX6_load_105 (by decide) ?_
            refine v_callVv C (c_X6_fetches hl (g := sG (tg g3 2) 0 (upd (tg g3 2 0) 2 z)) (j := 0) (by omega)) ym_X6_fetches ml_X6_201 emb_id_qS rfl rfl rfl rfl rfl dX6_load_106 (Nat.le_of_ble_eq_true rfl) (Nat.le_of_ble_eq_true rfl) (Nat.le_of_ble_eq_true rfl) (Nat.le_of_ble_eq_true rfl) (fun _ _ hu => hu.elim) (fun r u hu => ?_)
            subst u
            refine v_iconst (v := nI 0) C dX6_load_109 (by decide) ?_
            refine v_iret C F (by first | rfl | exact bI_nar _) dX6_load_110 (Nat.le_of_ble_eq_true rfl) (Nat.le_of_ble_eq_true rfl) ?_
            refine Or.inr (Or.inl ⟨by first | exact hin | (rw [t_k]; exact hin), hok, ⟨rfl, wf1, hz.symm, wf5, wf8, wf9, wf10, wf24⟩, fun k hk => ?_, wko, wc3, wc4, wc6⟩)
            rw [sG_at, mix_in hk]
            exact wki k hk
        · have hq0 : ¬ P.1.2.1 = 0 := fun w => c84 (by rw [w]; rfl)
          refine v_iconst (v := nI 1) C dX6_load_87 (by decide) ?_
          refine v_goto C 92 dX6_load_88 (by decide) ?_
          refine V.eqs (st2 := [.int (bI (!ok P.1)), .ref (h 0)]) ?_ (congrArg (fun z => [Value.int z, Value.ref (h 0)]) (by first | exact bI_f (by rw [ok_gz hq0]; rfl) | exact bI_t (by rw [ok_b hq0]; rfl)))
          refine V.stt (g2 := tg g3 0) (tg_id w0).symm ?_
          refine v_iconst (v := nI 2) C dX6_load_92 (by decide) ?_
          refine v_callVi C (c_X6_refuse hl (g := g3) (b := !ok P.1) (k := 2) (by decide) (by decide)) ym_X6_refuse ml_X6_40 emb_id_qS rfl rfl rfl rfl rfl dX6_load_93 (Nat.le_of_ble_eq_true rfl) (Nat.le_of_ble_eq_true rfl) (Nat.le_of_ble_eq_true rfl) (Nat.le_of_ble_eq_true rfl) (fun _ _ hu => hu.elim) (fun r u hu => ?_)
          obtain ⟨rfl, hu⟩ := hu
          subst u
          refine v_if_eqB C 111 dX6_load_96 (by decide) (fun c96 => ?_) (fun c96 => ?_)
          · have hok : ok P.1 = true := by simpa using c96
            refine V.stt (g2 := g3) (by rw [c96]; exact tg_id w0) ?_
            obtain ⟨hRw, n, hn2, hPI⟩ := w1 hok
            refine v_aload_n C dX6_load_111 rfl ?_
            refine v_iconst (v := nI 1) C dX6_load_112 (by decide) ?_
            refine v_puti C fl_X6_36 fw_X6_1 oi_qS_0_1 (by first | exact ⟨rfl, rfl⟩ | exact ⟨bI_nar _, bI_fit _⟩) dX6_load_113 ?_
            refine v_aload_n C dX6_load_116 rfl ?_
            refine v_iconst (v := nI 0) C dX6_load_117 (by decide) ?_
            refine v_puti C fl_X6_204 fw_X6_5 oi_qS_0_5 ⟨rfl, rfl⟩ dX6_load_118 ?_
            refine v_aload_n C dX6_load_121 rfl ?_
            refine v_getr C fl_X6_16 or_qS_0_6 dX6_load_122 ?_
            refine v_iconst (v := nI 0) C dX6_load_125 (by decide) ?_
            refine v_iconst (v := nI 0) C dX6_load_126 (by decide) ?_
            refine v_zast C ar_qS_3 (by decide) _ ?_ rfl (by first | rfl | exact bI_vp _) dX6_load_127 ?_
            · omega
            refine v_aload_n C dX6_load_128 rfl ?_
            refine v_getr C fl_X6_16 or_qS_0_6 dX6_load_129 ?_
            refine v_iconst (v := nI 1) C dX6_load_132 (by decide) ?_
            refine v_iconst (v := nI 0) C dX6_load_133 (by decide) ?_
            refine v_zast C ar_qS_3 (by decide) _ ?_ rfl (by first | rfl | exact bI_vp _) dX6_load_134 ?_
            · omega
            refine v_aload_n C dX6_load_135 rfl ?_
            refine v_getiQ (x := nI n) C fl_X6_126 oi_qS_0_2 (hn2) dX6_load_136 ?_
            refine v_iret C F (by first | rfl | exact bI_nar _) dX6_load_139 (Nat.le_of_ble_eq_true rfl) (Nat.le_of_ble_eq_true rfl) ?_
            exact Or.inr (Or.inr ⟨hin, hok, n, rfl, ⟨⟨w0, rfl, hn2, rfl, wf8, wf9, wf10, wf24⟩, hRw, wko, ⟨rfl, rfl⟩, wc4, wc6⟩, hPI⟩)
          · have hok : ok P.1 = false := by simpa using c96
            refine V.stt (g2 := tg g3 2) (by rw [c96]; rfl) ?_
            refine v_aload_n C dX6_load_99 rfl ?_
            refine v_iload_n C dX6_load_100 rfl ?_
            refine v_puti C fl_X6_126 fw_X6_2 oi_qS_0_2 ⟨rfl, rfl⟩ dX6_load_101 ?_
            refine v_aload_n C dX6_load_104 rfl ?_
            refine v_iconst (v := nI 0) C dX6_load_105 (by decide) ?_
            refine v_callVv C (c_X6_fetches hl (g := sG (tg g3 2) 0 (upd (tg g3 2 0) 2 z)) (j := 0) (by omega)) ym_X6_fetches ml_X6_201 emb_id_qS rfl rfl rfl rfl rfl dX6_load_106 (Nat.le_of_ble_eq_true rfl) (Nat.le_of_ble_eq_true rfl) (Nat.le_of_ble_eq_true rfl) (Nat.le_of_ble_eq_true rfl) (fun _ _ hu => hu.elim) (fun r u hu => ?_)
            subst u
            refine v_iconst (v := nI 0) C dX6_load_109 (by decide) ?_
            refine v_iret C F (by first | rfl | exact bI_nar _) dX6_load_110 (Nat.le_of_ble_eq_true rfl) (Nat.le_of_ble_eq_true rfl) ?_
            refine Or.inr (Or.inl ⟨by first | exact hin | (rw [t_k]; exact hin), hok, ⟨rfl, wf1, hz.symm, wf5, wf8, wf9, wf10, wf24⟩, fun k hk => ?_, wko, wc3, wc4, wc6⟩)
            rw [sG_at, mix_in hk]
            exact wki k hk
    · refine V.stt (g2 := tg g 1) (by rw [c27]; rfl) ?_
      refine v_iconst (v := nI 0) C dX6_load_30 (by decide) ?_
      refine v_iret C F (by first | rfl | exact bI_nar _) dX6_load_31 (Nat.le_of_ble_eq_true rfl) (Nat.le_of_ble_eq_true rfl) ?_
      exact Or.inl ⟨by simpa using c27, rfl⟩

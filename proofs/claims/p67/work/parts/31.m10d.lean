set_option maxHeartbeats 16000000 in
theorem c_X3_parse {l : Launch} (hl : l.stackTraces = false) {κ : Kp} {h : Nat → Nat} {r s : G} {m : Mg} {k f : Nat} (hf : r 0 2 = nI f) (hf7 : f ≤ 700) (hk : k ≤ f) : Ct SS MM l κ yX3_parse cX3_parse 3 (some FieldType.boolean) 7 0 0 [.ref (h 0), .int (nI k)] (rS κ h) (r, s, m) ri (fun v u => v = bI (ok (parS (r 13) k (m 7)).1) ∧ RXP (r 13) k (parS (r 13) k (m 7)) (nI 0) u) (fun _ _ => False) := by
  refine Ct.of (own := RX3) (by decide) rfl hl (by intro v hv; simp only [List.mem_cons, List.not_mem_nil, or_false] at hv; first | (rcases hv with rfl | rfl | rfl | rfl | rfl | rfl <;> rfl) | (rcases hv with rfl | rfl | rfl | rfl | rfl <;> rfl) | (rcases hv with rfl | rfl | rfl | rfl <;> rfl) | (rcases hv with rfl | rfl | rfl <;> rfl) | (rcases hv with rfl | rfl <;> rfl) | (subst hv; rfl) | exact hv.elim) (Nat.le_of_ble_eq_true rfl) (fun X hxl hxk C F N => ?_)
  subst hxl hxk
  show V X (rS (xK X) h) 0 [some (.ref (h 0)), some (.int (nI k)), none] [] (r, s, m) 0 0
  generalize hb : r 13 = b
  obtain ⟨n, hnn⟩ : ∃ n, EqH n (hd1 b k).2 := ⟨_, rfl⟩
  refine v_aload_n C dX3_parse_0 rfl ?_
  refine v_iload_n C dX3_parse_1 rfl ?_
  refine v_callVv C (c_X3_startText hl hf hf7 hk) ym_X3_startText ml_X3_33 emb_id_rS rfl rfl rfl rfl rfl dX3_parse_2 (Nat.le_of_ble_eq_true rfl) (Nat.le_of_ble_eq_true rfl) (Nat.le_of_ble_eq_true rfl) (Nat.le_of_ble_eq_true rfl) (fun _ _ hu => hu.elim) (fun r u hu => ?_)
  rcases u with ⟨r1, s1, m1⟩
  obtain ⟨hR1, hK1, hf1, s2, hy⟩ := hu
  obtain ⟨he1, he2⟩ := Prod.mk.inj (show (s1, m1) = _ from hy)
  subst s1 m1
  rw [hb] at hR1
  refine v_aload_n C dX3_parse_5 rfl ?_
  refine v_callVv C (c_X3_readHeader hl hR1 hK1 hf1) ym_X3_readHeader ml_X3_37 emb_id_rS rfl rfl rfl rfl rfl dX3_parse_6 (Nat.le_of_ble_eq_true rfl) (Nat.le_of_ble_eq_true rfl) (Nat.le_of_ble_eq_true rfl) (Nat.le_of_ble_eq_true rfl) (fun _ _ hu => hu.elim) (fun r u hu => ?_)
  rcases u with ⟨r3, s3, m3⟩
  have hXX := hu
  obtain ⟨-, -, -, hX4⟩ := hu
  have hX4 : m3 = _ := hX4
  subst m3
  refine v_iconst (v := nI 0) C dX3_parse_9 (by decide) ?_
  refine v_istore_n C (lo2 := [some _, some _, some _]) dX3_parse_10 rfl (Nat.le_of_ble_eq_true rfl) rfl ?_
  have L11 : ∀ (t : Nat × G × G × RX), (fun t => t.1 ≤ 700 ∧ RXP b k t.2.2.2 (nI 0) (t.2.1, t.2.2.1, t.2.2.2.2.1) ∧ linesF b k n (700 - t.1) t.2.2.2 = parS b k (m 7) ∧ PI n t.2.2.2 ∧ KN t.1 t.2.2.2.2.2) t → (fun t : Nat × G × G × RX => V X (rS (xK X) h) 11 [some (.ref (h 0)), some (.int (nI k)), some (.int (nI t.1))] [] (t.2.1, t.2.2.1, t.2.2.2.2.1) 0 0) t := by
    refine v_ind (fun t : Nat × G × G × RX => 700 - t.1) ?_
    rintro ⟨i, rr, ss, sx, mx, kx⟩ ih11 hI11
    try dsimp only at hI11 ⊢
    obtain ⟨i1, ⟨hX1, hX2, hX3, -⟩, i3, hPI, hkn⟩ := hI11
    have hX1 : RS b k sx rr := hX1
    have hX2 : KC kx rr := hX2
    have hX3 : rr 0 2 = nI 0 := hX3
    have hkn : KN i kx := hkn
    have hk4 := hX1.2.2.2.2.2.1
    refine v_iload_n C dX3_parse_11 rfl ?_
    refine v_sipush (v := nI 700) C dX3_parse_12 (by decide) ?_
    first | refine v_icmp_geN C 158 dX3_parse_15 (by decide) (by omega) (by omega) (fun c15 => ?_) (fun c15 => ?_) | refine v_icmp_ge C 158 dX3_parse_15 (by decide) (fun c15 => ?_) (fun c15 => ?_)
    · have hz : linesF b k n (700 - i) (sx, mx, kx) = (sx, mx, kx) := by
        rw [show 700 - i = 0 by omega]
        rfl
      refine v_aload_n C dX3_parse_158 rfl ?_
      refine v_getiQ (x := nI sx.2.1) C fl_X3_40 oi_rS_0_3 (hX1.2.2.2.1.2.2.1) dX3_parse_159 ?_
      refine v_if_ne C 169 dX3_parse_162 (by decide) (fun c162 => ?_) (fun c162 => ?_)
      · refine v_iconst (v := nI 0) C dX3_parse_169 (by decide) ?_
        refine v_iret C F (by first | rfl | exact bI_nar _) dX3_parse_170 (Nat.le_of_ble_eq_true rfl) (Nat.le_of_ble_eq_true rfl) ?_
        rw [hz] at i3
        rw [hb]
        refine ⟨?_, ?_⟩
        · rw [← i3]
          first
          | exact bI_t (ok_z hX1.2.2.2.1.1 c162).1
          | exact bI_f (ok_n c162).1
        · rw [← i3]
          exact ⟨hX1, hX2, hX3, rfl⟩
      · refine v_iconst (v := nI 1) C dX3_parse_165 (by decide) ?_
        refine v_goto C 170 dX3_parse_166 (by decide) ?_
        refine v_iret C F (by first | rfl | exact bI_nar _) dX3_parse_170 (Nat.le_of_ble_eq_true rfl) (Nat.le_of_ble_eq_true rfl) ?_
        rw [hz] at i3
        rw [hb]
        refine ⟨?_, ?_⟩
        · rw [← i3]
          first
          | exact bI_t (ok_z hX1.2.2.2.1.1 c162).1
          | exact bI_f (ok_n c162).1
        · rw [← i3]
          exact ⟨hX1, hX2, hX3, rfl⟩
    · refine v_aload_n C dX3_parse_18 rfl ?_
      refine v_getiQ (x := nI sx.2.1) C fl_X3_40 oi_rS_0_3 (hX1.2.2.2.1.2.2.1) dX3_parse_19 ?_
      refine v_if_ne C 158 dX3_parse_22 (by decide) (fun c22 => ?_) (fun c22 => ?_)
      · have hz : linesF b k n (700 - i) (sx, mx, kx) = (sx, mx, kx) := by
          rw [show 700 - i = (700 - (i + 1)) + 1 by omega]
          exact linesF_e (by rw [(ok_n c22).1]; rfl)
        refine v_aload_n C dX3_parse_158 rfl ?_
        refine v_getiQ (x := nI sx.2.1) C fl_X3_40 oi_rS_0_3 (hX1.2.2.2.1.2.2.1) dX3_parse_159 ?_
        refine v_if_ne C 169 dX3_parse_162 (by decide) (fun c162 => ?_) (fun c162 => ?_)
        · refine v_iconst (v := nI 0) C dX3_parse_169 (by decide) ?_
          refine v_iret C F (by first | rfl | exact bI_nar _) dX3_parse_170 (Nat.le_of_ble_eq_true rfl) (Nat.le_of_ble_eq_true rfl) ?_
          rw [hz] at i3
          rw [hb]
          refine ⟨?_, ?_⟩
          · rw [← i3]
            first
            | exact bI_t (ok_z hX1.2.2.2.1.1 c162).1
            | exact bI_f (ok_n c162).1
          · rw [← i3]
            exact ⟨hX1, hX2, hX3, rfl⟩
        · refine v_iconst (v := nI 1) C dX3_parse_165 (by decide) ?_
          refine v_goto C 170 dX3_parse_166 (by decide) ?_
          refine v_iret C F (by first | rfl | exact bI_nar _) dX3_parse_170 (Nat.le_of_ble_eq_true rfl) (Nat.le_of_ble_eq_true rfl) ?_
          rw [hz] at i3
          rw [hb]
          refine ⟨?_, ?_⟩
          · rw [← i3]
            first
            | exact bI_t (ok_z hX1.2.2.2.1.1 c162).1
            | exact bI_f (ok_n c162).1
          · rw [← i3]
            exact ⟨hX1, hX2, hX3, rfl⟩
      · have ho := (ok_z hX1.2.2.2.1.1 c22).1
        refine v_aload_n C dX3_parse_25 rfl ?_
        refine v_getiQ (x := nI sx.1.1) C fl_X3_43 oi_rS_0_6 (hX1.2.2.2.2.1.1) dX3_parse_26 ?_
        refine v_if_eq C 158 dX3_parse_29 (by decide) (fun c29 => ?_) (fun c29 => ?_)
        · have c29 : sx.1.1 = 0 := nI_inj (b := 0) (by omega) (by omega) c29
          have hz : linesF b k n (700 - i) (sx, mx, kx) = (sx, mx, kx) := by
            rw [show 700 - i = (700 - (i + 1)) + 1 by omega]
            exact linesF_e (by rw [decide_eq_true c29]; simp)
          refine v_aload_n C dX3_parse_158 rfl ?_
          refine v_getiQ (x := nI sx.2.1) C fl_X3_40 oi_rS_0_3 (hX1.2.2.2.1.2.2.1) dX3_parse_159 ?_
          refine v_if_ne C 169 dX3_parse_162 (by decide) (fun c162 => ?_) (fun c162 => ?_)
          · refine v_iconst (v := nI 0) C dX3_parse_169 (by decide) ?_
            refine v_iret C F (by first | rfl | exact bI_nar _) dX3_parse_170 (Nat.le_of_ble_eq_true rfl) (Nat.le_of_ble_eq_true rfl) ?_
            rw [hz] at i3
            rw [hb]
            refine ⟨?_, ?_⟩
            · rw [← i3]
              first
              | exact bI_t (ok_z hX1.2.2.2.1.1 c162).1
              | exact bI_f (ok_n c162).1
            · rw [← i3]
              exact ⟨hX1, hX2, hX3, rfl⟩
          · refine v_iconst (v := nI 1) C dX3_parse_165 (by decide) ?_
            refine v_goto C 170 dX3_parse_166 (by decide) ?_
            refine v_iret C F (by first | rfl | exact bI_nar _) dX3_parse_170 (Nat.le_of_ble_eq_true rfl) (Nat.le_of_ble_eq_true rfl) ?_
            rw [hz] at i3
            rw [hb]
            refine ⟨?_, ?_⟩
            · rw [← i3]
              first
              | exact bI_t (ok_z hX1.2.2.2.1.1 c162).1
              | exact bI_f (ok_n c162).1
            · rw [← i3]
              exact ⟨hX1, hX2, hX3, rfl⟩
        · have c29 : ¬ sx.1.1 = 0 := fun z => c29 (by rw [z]; rfl)
          have hz : linesF b k n (700 - i) (sx, mx, kx) = linesF b k n (700 - (i + 1)) (lnStep b k n (sx, mx, kx)) := by
            rw [show 700 - i = (700 - (i + 1)) + 1 by omega]
            exact linesF_t (by rw [ho, decide_eq_false c29]; rfl)
          refine v_aload_n C dX3_parse_32 rfl ?_
          refine v_getiQ (x := nI sx.1.1) C fl_X3_43 oi_rS_0_6 (hX1.2.2.2.2.1.1) dX3_parse_33 ?_
          refine v_iconst (v := nI 3) C dX3_parse_36 (by decide) ?_
          have J45 : ∀ r5 : G, RS b k (whenS (!decide (sx.1.1 = 3)) 1 sx) r5 → FB rr r5 → V X (rS (xK X) h) 45 [some (.ref (h 0)), some (.int (nI k)), some (.int (nI i))] [] (r5, ss, mx) 0 0 := by
            intro r5 hA hG
            refine v_aload_n C dX3_parse_45 rfl ?_
            refine v_callVv C (c_X3_advance hl hA.ra) ym_X3_advance ml_X3_49 emb_id_rS rfl rfl rfl rfl rfl dX3_parse_46 (Nat.le_of_ble_eq_true rfl) (Nat.le_of_ble_eq_true rfl) (Nat.le_of_ble_eq_true rfl) (Nat.le_of_ble_eq_true rfl) (fun _ _ hu => hu.elim) (fun r u hu => ?_)
            rcases u with ⟨r6, s6, m6⟩
            obtain ⟨hy, hB, hF6⟩ := hu
            obtain ⟨he1, he2⟩ := Prod.mk.inj (show (s6, m6) = _ from hy)
            subst s6 m6
            have hFF := hG.tr hF6
            have hKB := hX2.fb hFF
            have hfB := hFF.2.1.trans hX3
            have hkb := hkn.kb (by omega)
            have hPB : PI n ((advS b k (whenS (!decide (sx.1.1 = 3)) 1 sx)), mx, kx) := hPI
            refine v_aload_n C dX3_parse_49 rfl ?_
            refine v_ldcS C (i := 4) rfl rfl dX3_parse_50 ?_
            refine v_callVi C (c_X3_isWordN hl (i := 4) (by decide) hB) ym_X3_isWord ml_X3_54 emb_id_rS rfl rfl rfl rfl rfl dX3_parse_52 (Nat.le_of_ble_eq_true rfl) (Nat.le_of_ble_eq_true rfl) (Nat.le_of_ble_eq_true rfl) (Nat.le_of_ble_eq_true rfl) (fun _ _ hu => hu.elim) (fun r u hu => ?_)
            obtain ⟨rfl, hu⟩ := hu
            subst u
            refine v_if_eqB C 65 dX3_parse_55 (by decide) (fun c55 => ?_) (fun c55 => ?_)
            · refine v_aload_n C dX3_parse_65 rfl ?_
              refine v_ldcS C (i := 5) rfl rfl dX3_parse_66 ?_
              refine v_callVi C (c_X3_isWordN hl (i := 5) (by decide) hB) ym_X3_isWord ml_X3_54 emb_id_rS rfl rfl rfl rfl rfl dX3_parse_68 (Nat.le_of_ble_eq_true rfl) (Nat.le_of_ble_eq_true rfl) (Nat.le_of_ble_eq_true rfl) (Nat.le_of_ble_eq_true rfl) (fun _ _ hu => hu.elim) (fun r u hu => ?_)
              obtain ⟨rfl, hu⟩ := hu
              subst u
              refine v_if_eqB C 81 dX3_parse_71 (by decide) (fun c71 => ?_) (fun c71 => ?_)
              · refine v_aload_n C dX3_parse_81 rfl ?_
                refine v_ldcS C (i := 6) rfl rfl dX3_parse_82 ?_
                refine v_callVi C (c_X3_isWordN hl (i := 6) (by decide) hB) ym_X3_isWord ml_X3_54 emb_id_rS rfl rfl rfl rfl rfl dX3_parse_84 (Nat.le_of_ble_eq_true rfl) (Nat.le_of_ble_eq_true rfl) (Nat.le_of_ble_eq_true rfl) (Nat.le_of_ble_eq_true rfl) (fun _ _ hu => hu.elim) (fun r u hu => ?_)
                obtain ⟨rfl, hu⟩ := hu
                subst u
                refine v_if_eqB C 97 dX3_parse_87 (by decide) (fun c87 => ?_) (fun c87 => ?_)
                · refine v_aload_n C dX3_parse_97 rfl ?_
                  refine v_ldcS C (i := 7) rfl rfl dX3_parse_98 ?_
                  refine v_callVi C (c_X3_isWordN hl (i := 7) (by decide) hB) ym_X3_isWord ml_X3_54 emb_id_rS rfl rfl rfl rfl rfl dX3_parse_100 (Nat.le_of_ble_eq_true rfl) (Nat.le_of_ble_eq_true rfl) (Nat.le_of_ble_eq_true rfl) (Nat.le_of_ble_eq_true rfl) (fun _ _ hu => hu.elim) (fun r u hu => ?_)
                  obtain ⟨rfl, hu⟩ := hu
                  subst u
                  refine v_if_eqB C 113 dX3_parse_103 (by decide) (fun c103 => ?_) (fun c103 => ?_)
                  · refine v_aload_n C dX3_parse_113 rfl ?_
                    refine v_ldcS C (i := 8) rfl rfl dX3_parse_114 ?_
                    refine v_callVi C (c_X3_isWordN hl (i := 8) (by decide) hB) ym_X3_isWord ml_X3_54 emb_id_rS rfl rfl rfl rfl rfl dX3_parse_116 (Nat.le_of_ble_eq_true rfl) (Nat.le_of_ble_eq_true rfl) (Nat.le_of_ble_eq_true rfl) (Nat.le_of_ble_eq_true rfl) (fun _ _ hu => hu.elim) (fun r u hu => ?_)
                    obtain ⟨rfl, hu⟩ := hu
                    subst u
                    refine v_if_eqB C 130 dX3_parse_119 (by decide) (fun c119 => ?_) (fun c119 => ?_)
                    · refine v_aload_n C dX3_parse_130 rfl ?_
                      refine v_ldcS C (i := 9) rfl rfl dX3_parse_131 ?_
                      refine v_callVi C (c_X3_isWordN hl (i := 9) (by decide) hB) ym_X3_isWord ml_X3_54 emb_id_rS rfl rfl rfl rfl rfl dX3_parse_133 (Nat.le_of_ble_eq_true rfl) (Nat.le_of_ble_eq_true rfl) (Nat.le_of_ble_eq_true rfl) (Nat.le_of_ble_eq_true rfl) (fun _ _ hu => hu.elim) (fun r u hu => ?_)
                      obtain ⟨rfl, hu⟩ := hu
                      subst u
                      refine v_if_eqB C 147 dX3_parse_136 (by decide) (fun c136 => ?_) (fun c136 => ?_)
                      · have hS : lnStep b k n (sx, mx, kx) = (failS 1 (advS b k (whenS (!decide (sx.1.1 = 3)) 1 sx)), mx, kx) := by
                          unfold lnStep lnAny
                          rw [if_neg (by rw [c55]; exact Bool.false_ne_true), if_neg (by rw [c71]; exact Bool.false_ne_true), if_neg (by rw [c87]; exact Bool.false_ne_true), if_neg (by rw [c103]; exact Bool.false_ne_true), if_neg (by rw [c119]; exact Bool.false_ne_true), if_neg (by rw [c136]; exact Bool.false_ne_true)]
                        refine v_aload_n C dX3_parse_147 rfl ?_
                        refine v_iconst (v := nI 1) C dX3_parse_148 (by decide) ?_
                        refine v_callVv C (c_X3_fail hl (cd := 1) hB (by omega) (by omega)) ym_X3_fail ml_X3_46 emb_id_rS rfl rfl rfl rfl rfl dX3_parse_149 (Nat.le_of_ble_eq_true rfl) (Nat.le_of_ble_eq_true rfl) (Nat.le_of_ble_eq_true rfl) (Nat.le_of_ble_eq_true rfl) (fun _ _ hu => hu.elim) (fun r u hu => ?_)
                        rcases u with ⟨r7, s7, m7⟩
                        obtain ⟨hy, hY1, hF7⟩ := hu
                        obtain ⟨-, hY4⟩ := Prod.mk.inj (show (s7, m7) = _ from hy)
                        have hXu := RXP_mk (u := (r7, s7, m7)) hY1 (hKB.fb hF7) (hF7.2.1.trans hfB) hY4
                        first | refine v_iinc1 C (lo2 := [some _, some _, some _]) dX3_parse_152 rfl rfl rfl ?_ | refine v_iinc C (lo2 := [some _, some _, some _]) dX3_parse_152 rfl rfl rfl rfl ?_
                        refine v_goto C 11 dX3_parse_155 (by decide) ?_
                        rw [hz] at i3
                        have hX : RXP b k (lnStep b k n (sx, mx, kx)) (nI 0) (r7, s7, m7) := by
                          rw [hS]
                          exact hXu
                        have e7 : m7 = (lnStep b k n (sx, mx, kx)).2.1 := hX.2.2.2
                        refine V.stt (g2 := (r7, s7, (lnStep b k n (sx, mx, kx)).2.1)) (by rw [← e7]) ?_
                        have H := ih11 (i + 1, r7, s7, lnStep b k n (sx, mx, kx))
                        dsimp only at H
                        exact H (by omega) ⟨by omega, RXP_st hX, i3, PI.step hPI, KN.step hkn⟩
                      · have hS : lnStep b k n (sx, mx, kx) = lnRule b k 4 ((advS b k (whenS (!decide (sx.1.1 = 3)) 1 sx)), mx, kx) := by
                          unfold lnStep lnAny
                          rw [if_neg (by rw [c55]; exact Bool.false_ne_true), if_neg (by rw [c71]; exact Bool.false_ne_true), if_neg (by rw [c87]; exact Bool.false_ne_true), if_neg (by rw [c103]; exact Bool.false_ne_true), if_neg (by rw [c119]; exact Bool.false_ne_true), if_pos c136]
                        refine v_aload_n C dX3_parse_139 rfl ?_
                        refine v_iconst (v := nI 4) C dX3_parse_140 (by decide) ?_
                        refine v_callVv C (c_X3_readRule hl (s := ss) (q := 4) hB hKB hfB (by decide)) ym_X3_readRule ml_X3_78 emb_id_rS rfl rfl rfl rfl rfl dX3_parse_141 (Nat.le_of_ble_eq_true rfl) (Nat.le_of_ble_eq_true rfl) (Nat.le_of_ble_eq_true rfl) (Nat.le_of_ble_eq_true rfl) (fun _ _ hu => hu.elim) (fun r u hu => ?_)
                        rcases u with ⟨r7, s7, m7⟩
                        have hXu := hu
                        refine v_goto C 152 dX3_parse_144 (by decide) ?_
                        first | refine v_iinc1 C (lo2 := [some _, some _, some _]) dX3_parse_152 rfl rfl rfl ?_ | refine v_iinc C (lo2 := [some _, some _, some _]) dX3_parse_152 rfl rfl rfl rfl ?_
                        refine v_goto C 11 dX3_parse_155 (by decide) ?_
                        rw [hz] at i3
                        have hX : RXP b k (lnStep b k n (sx, mx, kx)) (nI 0) (r7, s7, m7) := by
                          rw [hS]
                          exact hXu
                        have e7 : m7 = (lnStep b k n (sx, mx, kx)).2.1 := hX.2.2.2
                        refine V.stt (g2 := (r7, s7, (lnStep b k n (sx, mx, kx)).2.1)) (by rw [← e7]) ?_
                        have H := ih11 (i + 1, r7, s7, lnStep b k n (sx, mx, kx))
                        dsimp only at H
                        exact H (by omega) ⟨by omega, RXP_st hX, i3, PI.step hPI, KN.step hkn⟩
                    · have hS : lnStep b k n (sx, mx, kx) = lnRule b k 3 ((advS b k (whenS (!decide (sx.1.1 = 3)) 1 sx)), mx, kx) := by
                        unfold lnStep lnAny
                        rw [if_neg (by rw [c55]; exact Bool.false_ne_true), if_neg (by rw [c71]; exact Bool.false_ne_true), if_neg (by rw [c87]; exact Bool.false_ne_true), if_neg (by rw [c103]; exact Bool.false_ne_true), if_pos c119]
                      refine v_aload_n C dX3_parse_122 rfl ?_
                      refine v_iconst (v := nI 3) C dX3_parse_123 (by decide) ?_
                      refine v_callVv C (c_X3_readRule hl (s := ss) (q := 3) hB hKB hfB (by decide)) ym_X3_readRule ml_X3_78 emb_id_rS rfl rfl rfl rfl rfl dX3_parse_124 (Nat.le_of_ble_eq_true rfl) (Nat.le_of_ble_eq_true rfl) (Nat.le_of_ble_eq_true rfl) (Nat.le_of_ble_eq_true rfl) (fun _ _ hu => hu.elim) (fun r u hu => ?_)
                      rcases u with ⟨r7, s7, m7⟩
                      have hXu := hu
                      refine v_goto C 152 dX3_parse_127 (by decide) ?_
                      first | refine v_iinc1 C (lo2 := [some _, some _, some _]) dX3_parse_152 rfl rfl rfl ?_ | refine v_iinc C (lo2 := [some _, some _, some _]) dX3_parse_152 rfl rfl rfl rfl ?_
                      refine v_goto C 11 dX3_parse_155 (by decide) ?_
                      rw [hz] at i3
                      have hX : RXP b k (lnStep b k n (sx, mx, kx)) (nI 0) (r7, s7, m7) := by
                        rw [hS]
                        exact hXu
                      have e7 : m7 = (lnStep b k n (sx, mx, kx)).2.1 := hX.2.2.2
                      refine V.stt (g2 := (r7, s7, (lnStep b k n (sx, mx, kx)).2.1)) (by rw [← e7]) ?_
                      have H := ih11 (i + 1, r7, s7, lnStep b k n (sx, mx, kx))
                      dsimp only at H
                      exact H (by omega) ⟨by omega, RXP_st hX, i3, PI.step hPI, KN.step hkn⟩
                  · have hS : lnStep b k n (sx, mx, kx) = lnFill b k n ((advS b k (whenS (!decide (sx.1.1 = 3)) 1 sx)), mx, kx) := by
                      unfold lnStep lnAny
                      rw [if_neg (by rw [c55]; exact Bool.false_ne_true), if_neg (by rw [c71]; exact Bool.false_ne_true), if_neg (by rw [c87]; exact Bool.false_ne_true), if_pos c103]
                    refine v_aload_n C dX3_parse_106 rfl ?_
                    refine v_callVv C (c_X3_readFill hl (s := ss) (n := n) hB hKB hfB hkb hPB) ym_X3_readFill ml_X3_73 emb_id_rS rfl rfl rfl rfl rfl dX3_parse_107 (Nat.le_of_ble_eq_true rfl) (Nat.le_of_ble_eq_true rfl) (Nat.le_of_ble_eq_true rfl) (Nat.le_of_ble_eq_true rfl) (fun _ _ hu => hu.elim) (fun r u hu => ?_)
                    rcases u with ⟨r7, s7, m7⟩
                    have hXu := hu
                    refine v_goto C 152 dX3_parse_110 (by decide) ?_
                    first | refine v_iinc1 C (lo2 := [some _, some _, some _]) dX3_parse_152 rfl rfl rfl ?_ | refine v_iinc C (lo2 := [some _, some _, some _]) dX3_parse_152 rfl rfl rfl rfl ?_
                    refine v_goto C 11 dX3_parse_155 (by decide) ?_
                    rw [hz] at i3
                    have hX : RXP b k (lnStep b k n (sx, mx, kx)) (nI 0) (r7, s7, m7) := by
                      rw [hS]
                      exact hXu
                    have e7 : m7 = (lnStep b k n (sx, mx, kx)).2.1 := hX.2.2.2
                    refine V.stt (g2 := (r7, s7, (lnStep b k n (sx, mx, kx)).2.1)) (by rw [← e7]) ?_
                    have H := ih11 (i + 1, r7, s7, lnStep b k n (sx, mx, kx))
                    dsimp only at H
                    exact H (by omega) ⟨by omega, RXP_st hX, i3, PI.step hPI, KN.step hkn⟩
                · have hS : lnStep b k n (sx, mx, kx) = lnCopy b k n ((advS b k (whenS (!decide (sx.1.1 = 3)) 1 sx)), mx, kx) := by
                    unfold lnStep lnAny
                    rw [if_neg (by rw [c55]; exact Bool.false_ne_true), if_neg (by rw [c71]; exact Bool.false_ne_true), if_pos c87]
                  refine v_aload_n C dX3_parse_90 rfl ?_
                  refine v_callVv C (c_X3_readCopy hl (s := ss) (n := n) hB hKB hfB hkb hPB) ym_X3_readCopy ml_X3_68 emb_id_rS rfl rfl rfl rfl rfl dX3_parse_91 (Nat.le_of_ble_eq_true rfl) (Nat.le_of_ble_eq_true rfl) (Nat.le_of_ble_eq_true rfl) (Nat.le_of_ble_eq_true rfl) (fun _ _ hu => hu.elim) (fun r u hu => ?_)
                  rcases u with ⟨r7, s7, m7⟩
                  have hXu := hu
                  refine v_goto C 152 dX3_parse_94 (by decide) ?_
                  first | refine v_iinc1 C (lo2 := [some _, some _, some _]) dX3_parse_152 rfl rfl rfl ?_ | refine v_iinc C (lo2 := [some _, some _, some _]) dX3_parse_152 rfl rfl rfl rfl ?_
                  refine v_goto C 11 dX3_parse_155 (by decide) ?_
                  rw [hz] at i3
                  have hX : RXP b k (lnStep b k n (sx, mx, kx)) (nI 0) (r7, s7, m7) := by
                    rw [hS]
                    exact hXu
                  have e7 : m7 = (lnStep b k n (sx, mx, kx)).2.1 := hX.2.2.2
                  refine V.stt (g2 := (r7, s7, (lnStep b k n (sx, mx, kx)).2.1)) (by rw [← e7]) ?_
                  have H := ih11 (i + 1, r7, s7, lnStep b k n (sx, mx, kx))
                  dsimp only at H
                  exact H (by omega) ⟨by omega, RXP_st hX, i3, PI.step hPI, KN.step hkn⟩
              · have hS : lnStep b k n (sx, mx, kx) = lnLock b k n ((advS b k (whenS (!decide (sx.1.1 = 3)) 1 sx)), mx, kx) := by
                  unfold lnStep lnAny
                  rw [if_neg (by rw [c55]; exact Bool.false_ne_true), if_pos c71]
                refine v_aload_n C dX3_parse_74 rfl ?_
                refine v_callVv C (c_X3_readLock hl (s := ss) (n := n) hB hKB hfB hkb hPB) ym_X3_readLock ml_X3_63 emb_id_rS rfl rfl rfl rfl rfl dX3_parse_75 (Nat.le_of_ble_eq_true rfl) (Nat.le_of_ble_eq_true rfl) (Nat.le_of_ble_eq_true rfl) (Nat.le_of_ble_eq_true rfl) (fun _ _ hu => hu.elim) (fun r u hu => ?_)
                rcases u with ⟨r7, s7, m7⟩
                have hXu := hu
                refine v_goto C 152 dX3_parse_78 (by decide) ?_
                first | refine v_iinc1 C (lo2 := [some _, some _, some _]) dX3_parse_152 rfl rfl rfl ?_ | refine v_iinc C (lo2 := [some _, some _, some _]) dX3_parse_152 rfl rfl rfl rfl ?_
                refine v_goto C 11 dX3_parse_155 (by decide) ?_
                rw [hz] at i3
                have hX : RXP b k (lnStep b k n (sx, mx, kx)) (nI 0) (r7, s7, m7) := by
                  rw [hS]
                  exact hXu
                have e7 : m7 = (lnStep b k n (sx, mx, kx)).2.1 := hX.2.2.2
                refine V.stt (g2 := (r7, s7, (lnStep b k n (sx, mx, kx)).2.1)) (by rw [← e7]) ?_
                have H := ih11 (i + 1, r7, s7, lnStep b k n (sx, mx, kx))
                dsimp only at H
                exact H (by omega) ⟨by omega, RXP_st hX, i3, PI.step hPI, KN.step hkn⟩
            · have hS : lnStep b k n (sx, mx, kx) = lnPut b k n ((advS b k (whenS (!decide (sx.1.1 = 3)) 1 sx)), mx, kx) := by
                unfold lnStep lnAny
                rw [if_pos c55]
              refine v_aload_n C dX3_parse_58 rfl ?_
              refine v_callVv C (c_X3_readPut hl (s := ss) (n := n) hB hKB hfB hkb hPB) ym_X3_readPut ml_X3_58 emb_id_rS rfl rfl rfl rfl rfl dX3_parse_59 (Nat.le_of_ble_eq_true rfl) (Nat.le_of_ble_eq_true rfl) (Nat.le_of_ble_eq_true rfl) (Nat.le_of_ble_eq_true rfl) (fun _ _ hu => hu.elim) (fun r u hu => ?_)
              rcases u with ⟨r7, s7, m7⟩
              have hXu := hu
              refine v_goto C 152 dX3_parse_62 (by decide) ?_
              first | refine v_iinc1 C (lo2 := [some _, some _, some _]) dX3_parse_152 rfl rfl rfl ?_ | refine v_iinc C (lo2 := [some _, some _, some _]) dX3_parse_152 rfl rfl rfl rfl ?_
              refine v_goto C 11 dX3_parse_155 (by decide) ?_
              rw [hz] at i3
              have hX : RXP b k (lnStep b k n (sx, mx, kx)) (nI 0) (r7, s7, m7) := by
                rw [hS]
                exact hXu
              have e7 : m7 = (lnStep b k n (sx, mx, kx)).2.1 := hX.2.2.2
              refine V.stt (g2 := (r7, s7, (lnStep b k n (sx, mx, kx)).2.1)) (by rw [← e7]) ?_
              have H := ih11 (i + 1, r7, s7, lnStep b k n (sx, mx, kx))
              dsimp only at H
              exact H (by omega) ⟨by omega, RXP_st hX, i3, PI.step hPI, KN.step hkn⟩
          first | refine v_icmp_eqN C 45 dX3_parse_37 (by decide) (by omega) (by omega) (fun c37 => ?_) (fun c37 => ?_) | refine v_icmp_eq C 45 dX3_parse_37 (by decide) (fun c37 => ?_) (fun c37 => ?_)
          · have hA : RS b k (whenS (!decide (sx.1.1 = 3)) 1 sx) rr := by
              rw [whenS_f (by rw [decide_eq_true c37]; rfl)]
              exact hX1
            have hG := FB.rf (r := rr)
            exact J45 _ hA hG
          · refine v_aload_n C dX3_parse_40 rfl ?_
            refine v_iconst (v := nI 1) C dX3_parse_41 (by decide) ?_
            refine v_callVv C (c_X3_fail hl (cd := 1) hX1 (by omega) (by omega)) ym_X3_fail ml_X3_46 emb_id_rS rfl rfl rfl rfl rfl dX3_parse_42 (Nat.le_of_ble_eq_true rfl) (Nat.le_of_ble_eq_true rfl) (Nat.le_of_ble_eq_true rfl) (Nat.le_of_ble_eq_true rfl) (fun _ _ hu => hu.elim) (fun r u hu => ?_)
            rcases u with ⟨r5, s5, m5⟩
            obtain ⟨hy, hR5, hF5⟩ := hu
            obtain ⟨he1, he2⟩ := Prod.mk.inj (show (s5, m5) = _ from hy)
            subst s5 m5
            have hA : RS b k (whenS (!decide (sx.1.1 = 3)) 1 sx) r5 := by
              rw [whenS_t (by rw [decide_eq_false c37]; rfl)]
              exact hR5
            have hG := hF5
            exact J45 _ hA hG
  exact L11 (0, r3, s3, (advS b k (hd4 b k).1, hdM b k (clrM (m 7)), (0, 0, 0, 0))) ⟨Nat.zero_le _, hXX, by have e : n = _ := hnn; rw [e]; rfl, by have e : n = _ := hnn; rw [e]; exact PI.hd _, ⟨Nat.le_refl _, Nat.le_refl _, Nat.le_refl _, Nat.le_refl _⟩⟩
/-- the first numbers of a text that is read -/
def rdI (g : G) (len : Nat) : G := sG g 0 (upd (upd (upd (upd (upd (upd (upd (upd (g 0) 11 (nI len)) 12 (nI 0)) 16 (nI 0)) 17 (-1)) 18 (nI 0)) 19 (nI 0)) 20 (nI 0)) 21 (nI 0))
def iniF (t : Nat) (f : Nat → Int32) : Nat → Int32 := fun i => if i < t then (if 96 ≤ i ∧ i < 288 then -1 else nI 0) else f i
theorem iniF_0 {f : Nat → Int32} : iniF 0 f = f := funext fun i => if_neg (Nat.not_lt_zero i)
theorem iniF_s {f : Nat → Int32} {t : Nat} : upd (iniF t f) t (if 96 ≤ t ∧ t < 288 then -1 else nI 0) = iniF (t + 1) f := by
  funext i
  unfold upd iniF
  by_cases e : i = t
  · rw [if_pos e, if_pos (show i < t + 1 by omega), e]
  · rw [if_neg e]
    by_cases c : i < t
    · rw [if_pos c, if_pos (show i < t + 1 by omega)]
    · rw [if_neg c, if_neg (show ¬ i < t + 1 by omega)]
theorem iniF_at {f : Nat → Int32} {i : Nat} (h : i < 640) : iniF 640 f i = if 96 ≤ i ∧ i < 288 then -1 else nI 0 := if_pos h
theorem clr_row {ev f : Nat → Int32} : RowR (clrM ev) (iniF 640 f) := by
  refine ⟨fun p hp => ⟨?_, ?_, ?_, ?_⟩, fun k hk => ?_, ?_, fun k hk => ?_, ?_, fun i hi => ?_⟩
  · rw [iniF_at (by omega), if_neg (by omega)]; rfl
  · rw [iniF_at (by omega), if_pos (by omega)]; exact (if_pos hp).symm
  · rw [iniF_at (by omega), if_pos (by omega)]; exact (if_pos hp).symm
  · rw [iniF_at (by omega), if_neg (by omega)]; rfl
  · rw [iniF_at (by omega), if_neg (by omega)]; rfl
  · rw [iniF_at (by omega), if_neg (by omega)]; rfl
  · rw [iniF_at (by omega), if_neg (by omega)]; rfl
  · rw [iniF_at (by omega), if_neg (by omega)]; rfl
  · have : evN (clrM ev) = 0 := rfl
    rw [this] at hi
    omega
/-- what reading a text leaves alone -/
def FWn (g u : G) : Prop := (u 2 = g 2 ∧ u 3 = g 3 ∧ u 4 = g 4 ∧ u 6 = g 6) ∧ ∀ k, (k ≤ 10 ∧ ¬ k = 2 ∨ k = 24) → u 0 k = g 0 k
theorem FLn.fw {g u : G} (h : FLn g u) : FWn g u := ⟨h.1, fun k hk => h.2 k (by omega)⟩
theorem FWn.tr {a b c : G} (h : FWn a b) (h2 : FWn b c) : FWn a c := ⟨⟨h2.1.1.trans h.1.1, h2.1.2.1.trans h.1.2.1, h2.1.2.2.1.trans h.1.2.2.1, h2.1.2.2.2.trans h.1.2.2.2⟩, fun k hk => (h2.2 k hk).trans (h.2 k hk)⟩
theorem FWn.sz {g u : G} {v : Int32} (h : FWn g u) : FWn g (sG u 0 (upd (u 0) 2 v)) := ⟨h.1, fun k hk => (show upd (u 0) 2 v k = u 0 k from upd_o (by omega)).trans (h.2 k hk)⟩
theorem FWn.row {g u : G} {f : Nat → Int32} (h : FWn g u) : FWn g (sG u 1 f) := ⟨⟨h.1.1, h.1.2.1, h.1.2.2.1, h.1.2.2.2⟩, fun k hk => h.2 k hk⟩
theorem rdI_FW {g : G} {len : Nat} {f : Nat → Int32} : FWn g (sG (rdI g len) 1 f) := ⟨⟨rfl, rfl, rfl, rfl⟩, fun k hk => by
  show upd (upd (upd (upd (upd (upd (upd (upd (g 0) 11 (nI len)) 12 (nI 0)) 16 (nI 0)) 17 (-1)) 18 (nI 0)) 19 (nI 0)) 20 (nI 0)) 21 (nI 0) k = g 0 k
  rw [upd_o (by omega), upd_o (by omega), upd_o (by omega), upd_o (by omega), upd_o (by omega), upd_o (by omega), upd_o (by omega), upd_o (by omega)]⟩
theorem QR.sz {b : Nat → Int32} {len : Nat} {st : St} {g : G} {v : Int32} (h : QR b len st g) : QR b len st (sG g 0 (upd (g 0) 2 v)) := ⟨h.1, h.2.1, h.2.2.1, h.2.2.2.1, h.2.2.2.2.1, h.2.2.2.2.2.1, fun z => h.2.2.2.2.2.2 z⟩
theorem KQ.sz {k : Cnt} {g : G} {v : Int32} (h : KQ k g) : KQ k (sG g 0 (upd (g 0) 2 v)) := h
theorem linesF_b {b : Nat → Int32} {len n f : Nat} {x : RX} (h : ¬ x.1.2.1 = 0) : linesF b len n f x = x := by
  cases f with
  | zero => rfl
  | succ f => exact linesF_e (by rw [ok_b h]; rfl)
theorem linesF_0 {b : Nat → Int32} {len n f : Nat} {x : RX} (h : x.1.1.1 = 0) : linesF b len n f x = x := by
  cases f with
  | zero => rfl
  | succ f => exact linesF_e (by rw [decide_eq_true h]; simp)
/-- a token that is no sign ends the reading with an error -/
theorem linesF_x {b : Nat → Int32} {len n f : Nat} {x : RX} (ho : ok x.1 = true) (h0 : ¬ x.1.1.1 = 0) (h3 : ¬ x.1.1.1 = 3) : (linesF b len n (f + 1) x).1.2 = (failS 1 x.1).2 := by
  rw [linesF_t (by rw [ho, decide_eq_false h0]; rfl)]
  have hb : ¬ (failS 1 x.1).2.1 = 0 := fun z => ok_fail (c := 1) (st := x.1) (by decide) (ok_gz z)
  have hw : whenS (!decide (x.1.1.1 = 3)) 1 x.1 = failS 1 x.1 := by rw [decide_eq_false h3]; rfl
  have he : (lnStep b len n x).1 = failS 1 x.1 := by
    unfold lnStep
    rw [hw, adv_b hb]
    exact lnAny_b (x := (failS 1 x.1, x.2)) hb
  rw [linesF_b (by rw [he]; exact hb), he]
theorem lnStep_3 {b : Nat → Int32} {len n : Nat} {x : RX} (h3 : x.1.1.1 = 3) : lnStep b len n x = lnAny b len n (advS b len x.1, x.2) := by
  have hw : whenS (!decide (x.1.1.1 = 3)) 1 x.1 = x.1 := by rw [decide_eq_true h3]; rfl
  unfold lnStep
  rw [hw]
theorem Le.wrd {b : Nat → Int32} {len : Nat} {w : List Nat} {s : St} : Le len s (wrdS b len w s) := by
  unfold wrdS
  split
  · exact Le.adv
  · exact Le.adv.tr Le.fail
theorem Le.nam {b : Nat → Int32} {len lo hi : Nat} {w : List Nat} {s : St} : Le len s (namS b len w lo hi s).1 := Le.wrd.tr Le.num
theorem hd_G {b : Nat → Int32} {len : Nat} : GTo len (advS b len (hd4 b len).1).1 := by
  have h0 : GTo len st0.1 := ⟨Nat.zero_le _, Nat.zero_le _, (fun z => by rcases z with z | z <;> cases z), fun z => absurd rfl z⟩
  have h1 : Le len st0 (hd1 b len).1 := Le.nam
  have h2 : Le len (hd1 b len).1 (hd2 b len).1 := Le.nam
  have h3 : Le len (hd2 b len).1 (hd3 b len).1 := Le.nam
  have h4 : Le len (hd3 b len).1 (hd4 b len).1 := Le.nam
  exact (((((h1.tr h2).tr h3).tr h4).tr Le.adv) h0).1
theorem Row_sz {m : Mg} {f : Nat → Int32} {v : Int32} (h : RowR m f) : RowR (szM m v) f := h
theorem hd1_rng {b : Nat → Int32} {len : Nat} : 1 ≤ (hd1 b len).2 ∧ (hd1 b len).2 ≤ 96 := numS_rng (b := b) (len := len) (lo := 1) (hi := 96) (st := wrdS b len (wd 0) st0) (by decide)
theorem adv_st0 {b : Nat → Int32} {len : Nat} : advS b len st0 = (tok b len 0, 0, 0) := rfl
theorem hd1_e {b : Nat → Int32} {len : Nat} : namS b len (wd 10) 1 96 st0 = hd1 b len := rfl
theorem hd2_e {b : Nat → Int32} {len : Nat} : namS b len (wd 11) 1 20 (hd1 b len).1 = hd2 b len := rfl
theorem hd3_e {b : Nat → Int32} {len : Nat} : namS b len (wd 12) 0 96 (hd2 b len).1 = hd3 b len := rfl
theorem hd4_e {b : Nat → Int32} {len : Nat} : namS b len (wd 13) 0 3 (hd3 b len).1 = hd4 b len := rfl
set_option maxHeartbeats 800000 in
theorem c_X6_reads {l : Launch} (hl : l.stackTraces = false) {κ : Kp} {h : Nat → Nat} {g : G} {b : Nat → Int32} {len : Nat} {ev : Nat → Int32} {P : RX} (h4 : g 4 = b) (h7 : len ≤ 700) (hb : BN0 b) (hP : parS b len ev = P) : Ct SS MM l κ yX6_reads cX6_reads 3 none 8 0 0 [.ref (h 0), .int (nI len)] (qS κ h) g rv (fun _ u => (u 0 16 = nI P.1.2.1 ∧ u 0 17 = (if P.1.2.1 = 0 then -1 else nI P.1.2.2)) ∧ P.1.2.1 ≤ 4 ∧ (ok P.1 = true → RowR P.2.1 (u 1) ∧ ∃ n, u 0 2 = nI n ∧ PI n P) ∧ FWn g u) (fun _ _ => False) := by
  refine Ct.of (own := RX6) (by decide) rfl hl (by intro v hv; simp only [List.mem_cons, List.not_mem_nil, or_false] at hv; first | (rcases hv with rfl | rfl | rfl | rfl | rfl | rfl <;> rfl) | (rcases hv with rfl | rfl | rfl | rfl | rfl <;> rfl) | (rcases hv with rfl | rfl | rfl | rfl <;> rfl) | (rcases hv with rfl | rfl | rfl <;> rfl) | (rcases hv with rfl | rfl <;> rfl) | (subst hv; rfl) | exact hv.elim) (Nat.le_of_ble_eq_true rfl) (fun X hxl hxk C F N => ?_)
  subst hxl hxk
  show V X (qS (xK X) h) 0 [some (.ref (h 0)), some (.int (nI len)), none] [] g 0 0
  refine v_aload_n C dX6_reads_0 rfl ?_
  refine v_iload_n C dX6_reads_1 rfl ?_
  refine v_puti C fl_X6_50 fw_X6_11 oi_qS_0_11 ⟨rfl, rfl⟩ dX6_reads_2 ?_
  refine v_aload_n C dX6_reads_5 rfl ?_
  refine v_iconst (v := nI 0) C dX6_reads_6 (by decide) ?_
  refine v_puti C fl_X6_53 fw_X6_12 oi_qS_0_12 ⟨rfl, rfl⟩ dX6_reads_7 ?_
  refine v_aload_n C dX6_reads_10 rfl ?_
  refine v_iconst (v := nI 0) C dX6_reads_11 (by decide) ?_
  refine v_puti C fl_X6_76 fw_X6_16 oi_qS_0_16 ⟨rfl, rfl⟩ dX6_reads_12 ?_
  refine v_aload_n C dX6_reads_15 rfl ?_
  refine v_iconst (v := (-1)) C dX6_reads_16 (by decide) ?_
  refine v_puti C fl_X6_79 fw_X6_17 oi_qS_0_17 ⟨rfl, rfl⟩ dX6_reads_17 ?_
  refine v_aload_n C dX6_reads_20 rfl ?_
  refine v_iconst (v := nI 0) C dX6_reads_21 (by decide) ?_
  refine v_puti C fl_X6_123 fw_X6_18 oi_qS_0_18 ⟨rfl, rfl⟩ dX6_reads_22 ?_
  refine v_aload_n C dX6_reads_25 rfl ?_
  refine v_iconst (v := nI 0) C dX6_reads_26 (by decide) ?_
  refine v_puti C fl_X6_129 fw_X6_19 oi_qS_0_19 ⟨rfl, rfl⟩ dX6_reads_27 ?_
  refine v_aload_n C dX6_reads_30 rfl ?_
  refine v_iconst (v := nI 0) C dX6_reads_31 (by decide) ?_
  refine v_puti C fl_X6_120 fw_X6_20 oi_qS_0_20 ⟨rfl, rfl⟩ dX6_reads_32 ?_
  refine v_aload_n C dX6_reads_35 rfl ?_
  refine v_iconst (v := nI 0) C dX6_reads_36 (by decide) ?_
  refine v_puti C fl_X6_143 fw_X6_21 oi_qS_0_21 ⟨rfl, rfl⟩ dX6_reads_37 ?_
  refine V.stt (g2 := (rdI g len)) (by unfold rdI; rw [sG_sG, sG_sG, sG_sG, sG_sG, sG_sG, sG_sG, sG_sG]; rfl) ?_
  refine v_iconst (v := nI 0) C dX6_reads_40 (by decide) ?_
  refine v_istore_n C (lo2 := [some _, some _, some _]) dX6_reads_41 rfl (Nat.le_of_ble_eq_true rfl) rfl ?_
  have L42 : ∀ (t : Nat), (fun t => t ≤ 640) t → (fun t : Nat => V X (qS (xK X) h) 42 [some (.ref (h 0)), some (.int (nI len)), some (.int (nI t))] [] (sG (rdI g len) 1 (iniF t (g 1))) 0 0) t := by
    refine v_ind (fun t : Nat => 640 - t) ?_
    rintro t ih42 hI42
    try dsimp only at hI42 ⊢
    refine v_iload_n C dX6_reads_42 rfl ?_
    refine v_sipush (v := nI 640) C dX6_reads_43 (by decide) ?_
    first | refine v_icmp_geN C 79 dX6_reads_46 (by decide) (by omega) (by omega) (fun c46 => ?_) (fun c46 => ?_) | refine v_icmp_ge C 79 dX6_reads_46 (by decide) (fun c46 => ?_) (fun c46 => ?_)
    · have et : t = 640 := by omega
      subst et
      obtain ⟨g1, eg1⟩ : ∃ x, x = sG (rdI g len) 1 (iniF 640 (g 1)) := ⟨_, rfl⟩
      refine V.stt (g2 := g1) eg1.symm ?_
      have k4 : g1 4 = b := by rw [eg1]; exact h4
      have k11 : g1 0 11 = nI len := by rw [eg1]; rfl
      have k12 : g1 0 12 = nI 0 := by rw [eg1]; rfl
      have k16 : g1 0 16 = nI 0 := by rw [eg1]; rfl
      have k17 : g1 0 17 = -1 := by rw [eg1]; rfl
      have kK : KQ (0, 0, 0, 0) g1 := by rw [eg1]; exact ⟨rfl, rfl, rfl, rfl⟩
      have kR : RowR (clrM ev) (g1 1) := by rw [eg1]; exact clr_row
      have kW : FWn g g1 := by rw [eg1]; exact rdI_FW
      refine v_aload_n C dX6_reads_79 rfl ?_
      refine v_callVv C (c_X6_token hl (e0 := 0) k4 k11 h7 k12 (Nat.zero_le _) hb) ym_X6_token ml_X6_86 emb_id_qS rfl rfl rfl rfl rfl dX6_reads_80 (Nat.le_of_ble_eq_true rfl) (Nat.le_of_ble_eq_true rfl) (Nat.le_of_ble_eq_true rfl) (Nat.le_of_ble_eq_true rfl) (fun _ _ hu => hu.elim) (fun r u hu => ?_)
      obtain ⟨hTk, hFk⟩ := hu
      obtain ⟨g2, eg2⟩ : ∃ x, x = u := ⟨u, rfl⟩
      subst eg2
      have hk := tok_ok (b := b) (len := len) (e0 := 0) (Nat.zero_le _)
      have hF2 := hFk.fq
      have hR2 : QR b len (advS b len st0) g2 := by
        rw [adv_st0]
        exact ⟨(hFk.1 4 (by decide)).trans k4, (hFk.2 11 (by decide)).trans k11, h7, ⟨Nat.zero_le _, Nat.zero_le _⟩, (hFk.2 16 (by decide)).trans k16, (hFk.2 17 (by decide)).trans k17, fun _ => ⟨hTk, hk.1, hk.2.2.1, hk.2.2.2.1, hk.2.2.2.2⟩⟩
      refine v_aload_n C dX6_reads_83 rfl ?_
      refine v_aload_n C dX6_reads_84 rfl ?_
      refine v_ldcS C (i := 10) rfl rfl dX6_reads_85 ?_
      refine v_iconst (v := nI 1) C dX6_reads_87 (by decide) ?_
      refine v_bipush (v := nI 96) C dX6_reads_88 (by decide) ?_
      refine v_callVi C (c_X6_takesAfterN hl (i := 10) (st := st0) (by decide) hR2 (by decide) (by decide) hb) ym_X6_takesAfter ml_X6_182 emb_id_qS rfl rfl rfl rfl rfl dX6_reads_90 (Nat.le_of_ble_eq_true rfl) (Nat.le_of_ble_eq_true rfl) (Nat.le_of_ble_eq_true rfl) (Nat.le_of_ble_eq_true rfl) (fun _ _ hu => hu.elim) (fun r u hu => ?_)
      rw [hd1_e] at hu
      obtain ⟨rfl, hR3, hF3⟩ := hu
      obtain ⟨g3, eg3⟩ : ∃ x, x = u := ⟨u, rfl⟩
      subst eg3
      obtain ⟨n, hn⟩ : ∃ x, EqH x (hd1 b len).2 := ⟨_, rfl⟩
      have hne : (hd1 b len).2 = n := Eq.symm hn
      rw [hne]
      refine v_puti C fl_X6_126 fw_X6_2 oi_qS_0_2 ⟨rfl, rfl⟩ dX6_reads_93 ?_
      refine v_aload_n C dX6_reads_96 rfl ?_
      refine v_getr C fl_X6_7 or_qS_0_3 dX6_reads_97 ?_
      refine v_sipush (v := nI 384) C dX6_reads_100 (by decide) ?_
      refine v_aload_n C dX6_reads_103 rfl ?_
      refine v_ldcS C (i := 11) rfl rfl dX6_reads_104 ?_
      refine v_iconst (v := nI 1) C dX6_reads_106 (by decide) ?_
      refine v_bipush (v := nI 20) C dX6_reads_107 (by decide) ?_
      refine v_callVi C (c_X6_takesAfterN hl (i := 11) (st := (hd1 b len).1) (by decide) (QR.sz hR3) (by decide) (by decide) hb) ym_X6_takesAfter ml_X6_182 emb_id_qS rfl rfl rfl rfl rfl dX6_reads_109 (Nat.le_of_ble_eq_true rfl) (Nat.le_of_ble_eq_true rfl) (Nat.le_of_ble_eq_true rfl) (Nat.le_of_ble_eq_true rfl) (fun _ _ hu => hu.elim) (fun r u hu => ?_)
      rw [hd2_e] at hu
      obtain ⟨rfl, hR4, hF4⟩ := hu
      obtain ⟨g4, eg4⟩ : ∃ x, x = u := ⟨u, rfl⟩
      subst eg4
      refine v_iast C ar_qS_1 (by decide) (384 + 0) ?_ rfl dX6_reads_112 ?_
      · omega
      refine v_aload_n C dX6_reads_113 rfl ?_
      refine v_getr C fl_X6_7 or_qS_0_3 dX6_reads_114 ?_
      refine v_sipush (v := nI 385) C dX6_reads_117 (by decide) ?_
      refine v_aload_n C dX6_reads_120 rfl ?_
      refine v_ldcS C (i := 12) rfl rfl dX6_reads_121 ?_
      refine v_iconst (v := nI 0) C dX6_reads_123 (by decide) ?_
      refine v_bipush (v := nI 96) C dX6_reads_124 (by decide) ?_
      refine v_callVi C (c_X6_takesAfterN hl (i := 12) (st := (hd2 b len).1) (by decide) (QR.row hR4) (by decide) (by decide) hb) ym_X6_takesAfter ml_X6_182 emb_id_qS rfl rfl rfl rfl rfl dX6_reads_126 (Nat.le_of_ble_eq_true rfl) (Nat.le_of_ble_eq_true rfl) (Nat.le_of_ble_eq_true rfl) (Nat.le_of_ble_eq_true rfl) (fun _ _ hu => hu.elim) (fun r u hu => ?_)
      rw [hd3_e] at hu
      obtain ⟨rfl, hR5, hF5⟩ := hu
      obtain ⟨g5, eg5⟩ : ∃ x, x = u := ⟨u, rfl⟩
      subst eg5
      refine v_iast C ar_qS_1 (by decide) (384 + 1) ?_ rfl dX6_reads_129 ?_
      · omega
      refine v_aload_n C dX6_reads_130 rfl ?_
      refine v_getr C fl_X6_7 or_qS_0_3 dX6_reads_131 ?_
      refine v_sipush (v := nI 386) C dX6_reads_134 (by decide) ?_
      refine v_aload_n C dX6_reads_137 rfl ?_
      refine v_ldcS C (i := 13) rfl rfl dX6_reads_138 ?_
      refine v_iconst (v := nI 0) C dX6_reads_140 (by decide) ?_
      refine v_iconst (v := nI 3) C dX6_reads_141 (by decide) ?_
      refine v_callVi C (c_X6_takesAfterN hl (i := 13) (st := (hd3 b len).1) (by decide) (QR.row hR5) (by decide) (by decide) hb) ym_X6_takesAfter ml_X6_182 emb_id_qS rfl rfl rfl rfl rfl dX6_reads_142 (Nat.le_of_ble_eq_true rfl) (Nat.le_of_ble_eq_true rfl) (Nat.le_of_ble_eq_true rfl) (Nat.le_of_ble_eq_true rfl) (fun _ _ hu => hu.elim) (fun r u hu => ?_)
      rw [hd4_e] at hu
      obtain ⟨rfl, hR6, hF6⟩ := hu
      obtain ⟨g6, eg6⟩ : ∃ x, x = u := ⟨u, rfl⟩
      subst eg6
      refine v_iast C ar_qS_1 (by decide) (384 + 2) ?_ rfl dX6_reads_145 ?_
      · omega
      have r1 := hd1_rng (b := b) (len := len)
      rw [hne] at r1
      obtain ⟨hn1, h96⟩ := r1
      have r4 : RowR (szM (clrM ev) (nI n)) (g4 1) := Row_sz (Row_at (Row_at (Row_at kR (hF2.1 1 (by decide))) (hF3.1 1 (by decide))) (hF4.1 1 (by decide)))
      have r5 := Row_at (g := sG g4 1 (upd (g4 1) (384 + 0) (nI (hd2 b len).2))) (by rw [sG_at]; exact Row_set (k := 0) r4 (by decide)) (hF5.1 1 (by decide))
      have r6 := Row_at (g := sG g5 1 (upd (g5 1) (384 + 1) (nI (hd3 b len).2))) (by rw [sG_at]; exact Row_set (k := 1) r5 (by decide)) (hF6.1 1 (by decide))
      have r7 := Row_set (k := 2) (v := nI (hd4 b len).2) r6 (by decide)
      have rH : RowR (hdM b len (clrM ev)) (upd (g6 1) (384 + 2) (nI (hd4 b len).2)) := by unfold hdM; rw [hne]; exact r7
      obtain ⟨gL, egL⟩ : ∃ x, x = sG g6 1 (upd (g6 1) (384 + 2) (nI (hd4 b len).2)) := ⟨_, rfl⟩
      refine V.stt (g2 := gL) egL.symm ?_
      have lR : QR b len (advS b len (hd4 b len).1) gL := by rw [egL]; exact QR.row hR6
      have lRow : RowR (hdM b len (clrM ev)) (gL 1) := by rw [egL]; exact rH
      have lK : KQ (0, 0, 0, 0) gL := by rw [egL]; exact KQ.row (KQ.fq (KQ.row (KQ.fq (KQ.row (KQ.fq (KQ.sz (KQ.fq (KQ.fq kK hF2) hF3)) hF4)) hF5)) hF6)
      have ls : gL 0 2 = nI n := by rw [egL]; exact (hF6.2 2 (by decide)).trans ((hF5.2 2 (by decide)).trans (hF4.2 2 (by decide)))
      have lW : FWn g gL := by rw [egL]; exact FWn.row ((FWn.row ((FWn.row ((FWn.sz ((kW.tr hF2.fl.fw).tr hF3.fl.fw)).tr hF4.fl.fw)).tr hF5.fl.fw)).tr hF6.fl.fw)
      have lP : linesF b len n 700 (advS b len (hd4 b len).1, hdM b len (clrM ev), (0, 0, 0, 0)) = P := by
        unfold parS at hP
        rw [hne] at hP
        exact hP
      obtain ⟨A0, eA⟩ : ∃ A, EqH A (advS b len (hd4 b len).1) := ⟨_, rfl⟩
      have eA2 : advS b len (hd4 b len).1 = A0 := Eq.symm eA
      obtain ⟨B0, eB⟩ : ∃ A, EqH A (hdM b len (clrM ev)) := ⟨_, rfl⟩
      have eB2 : hdM b len (clrM ev) = B0 := Eq.symm eB
      have lG : GTo len A0.1 := by rw [← eA2]; exact hd_G
      have lPI : PI n (A0, B0, (0, 0, 0, 0)) := by rw [← eB2, ← hne]; exact PI.hd A0
      rw [eA2] at lR lP
      rw [eB2] at lRow lP
      have L146 : ∀ (t : Nat × RX × G), (fun t => t.1 ≤ 700 ∧ QXr b len n t.2.1 t.2.2 ∧ FWn g t.2.2 ∧ linesF b len n (700 - t.1) t.2.1 = P ∧ PI n t.2.1 ∧ KN t.1 t.2.1.2.2 ∧ KLp t.2.1 ∧ (ok t.2.1.1 = true → t.1 ≤ t.2.1.1.1.2.1) ∧ GTo len t.2.1.1.1) t → (fun t : Nat × RX × G => V X (qS (xK X) h) 146 [some (.ref (h 0)), none, none] [] t.2.2 0 0) t := by
        refine v_ind (fun t : Nat × RX × G => 701 - t.1) ?_
        rintro ⟨i, x, gx⟩ ih146 hI146
        skip
        obtain ⟨i1, hXx, hWx, i4, hPIx, hKN, hKLx, i5, hGx⟩ := hI146
        have i1 : i ≤ 700 := i1
        have hXx : QXr b len n x gx := hXx
        have hWx : FWn g gx := hWx
        have i4 : linesF b len n (700 - i) x = P := i4
        have hPIx : PI n x := hPIx
        have hKN : KN i x.2.2 := hKN
        have hKLx : KLp x := hKLx
        have i5 : ok x.1 = true → i ≤ x.1.1.2.1 := i5
        have hGx : GTo len x.1.1 := hGx
        obtain ⟨hRx, hRowx, hKx, hsx⟩ := id hXx
        show V X (qS (xK X) h) 146 [some (.ref (h 0)), none, none] [] gx 0 0
        refine v_aload_n C dX6_reads_146 rfl ?_
        refine v_getiQ (x := nI x.1.2.1) C fl_X6_76 oi_qS_0_16 (hRx.2.2.2.2.1) dX6_reads_147 ?_
        refine v_if_ne C 172 dX6_reads_150 (by decide) (fun c150 => ?_) (fun c150 => ?_)
        · have hz0 : ¬ x.1.2.1 = 0 := fun z => c150 (by rw [z]; rfl)
          have hpe : P = x := i4.symm.trans (linesF_b hz0)
          have hend : (¬ x.1.2.1 = 0 ∧ P = x) ∨ (x.1.2.1 = 0 ∧ ¬ x.1.1.1 = 3) := Or.inl ⟨hz0, hpe⟩
          refine v_aload_n C dX6_reads_172 rfl ?_
          refine v_aload_n C dX6_reads_173 rfl ?_
          refine v_geti C fl_X6_63 oi_qS_0_14 dX6_reads_174 ?_
          refine v_if_eq C 184 dX6_reads_177 (by decide) (fun c177 => ?_) (fun c177 => ?_)
          · refine v_iconst (v := nI 0) C dX6_reads_184 (by decide) ?_
            refine V.eqs (st2 := [.int (bI (!(gx 0 14 == 0))), .ref (h 0)]) ?_ (congrArg (fun z => [Value.int z, Value.ref (h 0)]) (by first | exact bI_f (by rw [beq_iff_eq.mpr c177]; rfl) | exact bI_t (by rw [beq_eq_false_iff_ne.mpr c177]; rfl)))
            refine v_iconst (v := nI 1) C dX6_reads_185 (by decide) ?_
            refine v_callVv C (c_X6_failsIf hl (cd := 1) (p := !(gx 0 14 == 0)) hRx (by decide) (by decide)) ym_X6_failsIf ml_X6_113 emb_id_qS rfl rfl rfl rfl rfl dX6_reads_186 (Nat.le_of_ble_eq_true rfl) (Nat.le_of_ble_eq_true rfl) (Nat.le_of_ble_eq_true rfl) (Nat.le_of_ble_eq_true rfl) (fun _ _ hu => hu.elim) (fun r u hu => ?_)
            obtain ⟨hR9, hF9⟩ := hu
            obtain ⟨g9, eg9⟩ : ∃ x, x = u := ⟨u, rfl⟩
            subst eg9
            have hW9 := hWx.tr hF9.fl.fw
            refine v_vret C F dX6_reads_189 (Nat.le_of_ble_eq_true rfl) (Nat.le_of_ble_eq_true rfl) ?_
            rcases hend with ⟨hz0, hpe⟩ | ⟨hz0, hk3⟩
            · rw [when_b hz0] at hR9
              rw [hpe]
              exact ⟨⟨hR9.2.2.2.2.1, hR9.2.2.2.2.2.1⟩, hR9.2.2.2.1.1, (fun z => by rw [ok_b hz0] at z; cases z), hW9⟩
            · have hTTx := (hRx.2.2.2.2.2.2 hz0).1.1
              by_cases hk0 : x.1.1.1 = 0
              · have hpe : P = x := i4.symm.trans (linesF_0 hk0)
                have hp0 : (!(gx 0 14 == 0)) = false := by rw [hTTx, hk0]; rfl
                rw [hp0] at hR9
                have hR9 : QR b len x.1 g9 := hR9
                rw [hpe]
                exact ⟨⟨hR9.2.2.2.2.1, hR9.2.2.2.2.2.1⟩, hR9.2.2.2.1.1, fun _ => ⟨Row_at hRowx (hF9.1 1 (by decide)), n, (hF9.2 2 (by decide)).trans hsx, hPIx⟩, hW9⟩
              · have hp1 : (!(gx 0 14 == 0)) = true := by
                  rw [hTTx]
                  have : ¬ nI x.1.1.1 = 0 := fun z => hk0 (nI_inj (b := 0) (by have := (hRx.2.2.2.2.2.2 hz0).2.1; omega) (by omega) z)
                  rw [beq_eq_false_iff_ne.mpr this]; rfl
                rw [hp1] at hR9
                have hR9 : QR b len (failS 1 x.1) g9 := hR9
                have hi7 : i < 700 := by
                  have q1 := hGx.2.2.2 hk0
                  have q3 := i5 (ok_gz hz0)
                  omega
                have hP2 : P.1.2 = (failS 1 x.1).2 := by
                  rw [← i4, show 700 - i = (700 - (i + 1)) + 1 by omega]
                  exact linesF_x (ok_gz hz0) hk0 hk3
                rw [show ok P.1 = ok (failS 1 x.1) by unfold ok; rw [hP2], hP2]
                exact ⟨⟨hR9.2.2.2.2.1, hR9.2.2.2.2.2.1⟩, hR9.2.2.2.1.1, fun z => (ok_fail (c := 1) (by decide) z).elim, hW9⟩
          · refine v_iconst (v := nI 1) C dX6_reads_180 (by decide) ?_
            refine v_goto C 185 dX6_reads_181 (by decide) ?_
            refine V.eqs (st2 := [.int (bI (!(gx 0 14 == 0))), .ref (h 0)]) ?_ (congrArg (fun z => [Value.int z, Value.ref (h 0)]) (by first | exact bI_f (by rw [beq_iff_eq.mpr c177]; rfl) | exact bI_t (by rw [beq_eq_false_iff_ne.mpr c177]; rfl)))
            refine v_iconst (v := nI 1) C dX6_reads_185 (by decide) ?_
            refine v_callVv C (c_X6_failsIf hl (cd := 1) (p := !(gx 0 14 == 0)) hRx (by decide) (by decide)) ym_X6_failsIf ml_X6_113 emb_id_qS rfl rfl rfl rfl rfl dX6_reads_186 (Nat.le_of_ble_eq_true rfl) (Nat.le_of_ble_eq_true rfl) (Nat.le_of_ble_eq_true rfl) (Nat.le_of_ble_eq_true rfl) (fun _ _ hu => hu.elim) (fun r u hu => ?_)
            obtain ⟨hR9, hF9⟩ := hu
            obtain ⟨g9, eg9⟩ : ∃ x, x = u := ⟨u, rfl⟩
            subst eg9
            have hW9 := hWx.tr hF9.fl.fw
            refine v_vret C F dX6_reads_189 (Nat.le_of_ble_eq_true rfl) (Nat.le_of_ble_eq_true rfl) ?_
            rcases hend with ⟨hz0, hpe⟩ | ⟨hz0, hk3⟩
            · rw [when_b hz0] at hR9
              rw [hpe]
              exact ⟨⟨hR9.2.2.2.2.1, hR9.2.2.2.2.2.1⟩, hR9.2.2.2.1.1, (fun z => by rw [ok_b hz0] at z; cases z), hW9⟩
            · have hTTx := (hRx.2.2.2.2.2.2 hz0).1.1
              by_cases hk0 : x.1.1.1 = 0
              · have hpe : P = x := i4.symm.trans (linesF_0 hk0)
                have hp0 : (!(gx 0 14 == 0)) = false := by rw [hTTx, hk0]; rfl
                rw [hp0] at hR9
                have hR9 : QR b len x.1 g9 := hR9
                rw [hpe]
                exact ⟨⟨hR9.2.2.2.2.1, hR9.2.2.2.2.2.1⟩, hR9.2.2.2.1.1, fun _ => ⟨Row_at hRowx (hF9.1 1 (by decide)), n, (hF9.2 2 (by decide)).trans hsx, hPIx⟩, hW9⟩
              · have hp1 : (!(gx 0 14 == 0)) = true := by
                  rw [hTTx]
                  have : ¬ nI x.1.1.1 = 0 := fun z => hk0 (nI_inj (b := 0) (by have := (hRx.2.2.2.2.2.2 hz0).2.1; omega) (by omega) z)
                  rw [beq_eq_false_iff_ne.mpr this]; rfl
                rw [hp1] at hR9
                have hR9 : QR b len (failS 1 x.1) g9 := hR9
                have hi7 : i < 700 := by
                  have q1 := hGx.2.2.2 hk0
                  have q3 := i5 (ok_gz hz0)
                  omega
                have hP2 : P.1.2 = (failS 1 x.1).2 := by
                  rw [← i4, show 700 - i = (700 - (i + 1)) + 1 by omega]
                  exact linesF_x (ok_gz hz0) hk0 hk3
                rw [show ok P.1 = ok (failS 1 x.1) by unfold ok; rw [hP2], hP2]
                exact ⟨⟨hR9.2.2.2.2.1, hR9.2.2.2.2.2.1⟩, hR9.2.2.2.1.1, fun z => (ok_fail (c := 1) (by decide) z).elim, hW9⟩
        · have hz0 : x.1.2.1 = 0 := nI_inj (b := 0) (by have := hRx.2.2.2.1; omega) (by omega) c150
          refine v_aload_n C dX6_reads_153 rfl ?_
          refine v_getiQ (x := nI x.1.1.1) C fl_X6_63 oi_qS_0_14 ((hRx.2.2.2.2.2.2 hz0).1.1) dX6_reads_154 ?_
          refine v_iconst (v := nI 3) C dX6_reads_157 (by decide) ?_
          refine v_icmp_ne C 172 dX6_reads_158 (by decide) (fun c158 => ?_) (fun c158 => ?_)
          · have hk3 : ¬ x.1.1.1 = 3 := fun z => c158 (by rw [z])
            have hend : (¬ x.1.2.1 = 0 ∧ P = x) ∨ (x.1.2.1 = 0 ∧ ¬ x.1.1.1 = 3) := Or.inr ⟨hz0, hk3⟩
            refine v_aload_n C dX6_reads_172 rfl ?_
            refine v_aload_n C dX6_reads_173 rfl ?_
            refine v_geti C fl_X6_63 oi_qS_0_14 dX6_reads_174 ?_
            refine v_if_eq C 184 dX6_reads_177 (by decide) (fun c177 => ?_) (fun c177 => ?_)
            · refine v_iconst (v := nI 0) C dX6_reads_184 (by decide) ?_
              refine V.eqs (st2 := [.int (bI (!(gx 0 14 == 0))), .ref (h 0)]) ?_ (congrArg (fun z => [Value.int z, Value.ref (h 0)]) (by first | exact bI_f (by rw [beq_iff_eq.mpr c177]; rfl) | exact bI_t (by rw [beq_eq_false_iff_ne.mpr c177]; rfl)))
              refine v_iconst (v := nI 1) C dX6_reads_185 (by decide) ?_
              refine v_callVv C (c_X6_failsIf hl (cd := 1) (p := !(gx 0 14 == 0)) hRx (by decide) (by decide)) ym_X6_failsIf ml_X6_113 emb_id_qS rfl rfl rfl rfl rfl dX6_reads_186 (Nat.le_of_ble_eq_true rfl) (Nat.le_of_ble_eq_true rfl) (Nat.le_of_ble_eq_true rfl) (Nat.le_of_ble_eq_true rfl) (fun _ _ hu => hu.elim) (fun r u hu => ?_)
              obtain ⟨hR9, hF9⟩ := hu
              obtain ⟨g9, eg9⟩ : ∃ x, x = u := ⟨u, rfl⟩
              subst eg9
              have hW9 := hWx.tr hF9.fl.fw
              refine v_vret C F dX6_reads_189 (Nat.le_of_ble_eq_true rfl) (Nat.le_of_ble_eq_true rfl) ?_
              rcases hend with ⟨hz0, hpe⟩ | ⟨hz0, hk3⟩
              · rw [when_b hz0] at hR9
                rw [hpe]
                exact ⟨⟨hR9.2.2.2.2.1, hR9.2.2.2.2.2.1⟩, hR9.2.2.2.1.1, (fun z => by rw [ok_b hz0] at z; cases z), hW9⟩
              · have hTTx := (hRx.2.2.2.2.2.2 hz0).1.1
                by_cases hk0 : x.1.1.1 = 0
                · have hpe : P = x := i4.symm.trans (linesF_0 hk0)
                  have hp0 : (!(gx 0 14 == 0)) = false := by rw [hTTx, hk0]; rfl
                  rw [hp0] at hR9
                  have hR9 : QR b len x.1 g9 := hR9
                  rw [hpe]
                  exact ⟨⟨hR9.2.2.2.2.1, hR9.2.2.2.2.2.1⟩, hR9.2.2.2.1.1, fun _ => ⟨Row_at hRowx (hF9.1 1 (by decide)), n, (hF9.2 2 (by decide)).trans hsx, hPIx⟩, hW9⟩
                · have hp1 : (!(gx 0 14 == 0)) = true := by
                    rw [hTTx]
                    have : ¬ nI x.1.1.1 = 0 := fun z => hk0 (nI_inj (b := 0) (by have := (hRx.2.2.2.2.2.2 hz0).2.1; omega) (by omega) z)
                    rw [beq_eq_false_iff_ne.mpr this]; rfl
                  rw [hp1] at hR9
                  have hR9 : QR b len (failS 1 x.1) g9 := hR9
                  have hi7 : i < 700 := by
                    have q1 := hGx.2.2.2 hk0
                    have q3 := i5 (ok_gz hz0)
                    omega
                  have hP2 : P.1.2 = (failS 1 x.1).2 := by
                    rw [← i4, show 700 - i = (700 - (i + 1)) + 1 by omega]
                    exact linesF_x (ok_gz hz0) hk0 hk3
                  rw [show ok P.1 = ok (failS 1 x.1) by unfold ok; rw [hP2], hP2]
                  exact ⟨⟨hR9.2.2.2.2.1, hR9.2.2.2.2.2.1⟩, hR9.2.2.2.1.1, fun z => (ok_fail (c := 1) (by decide) z).elim, hW9⟩
            · refine v_iconst (v := nI 1) C dX6_reads_180 (by decide) ?_
              refine v_goto C 185 dX6_reads_181 (by decide) ?_
              refine V.eqs (st2 := [.int (bI (!(gx 0 14 == 0))), .ref (h 0)]) ?_ (congrArg (fun z => [Value.int z, Value.ref (h 0)]) (by first | exact bI_f (by rw [beq_iff_eq.mpr c177]; rfl) | exact bI_t (by rw [beq_eq_false_iff_ne.mpr c177]; rfl)))
              refine v_iconst (v := nI 1) C dX6_reads_185 (by decide) ?_
              refine v_callVv C (c_X6_failsIf hl (cd := 1) (p := !(gx 0 14 == 0)) hRx (by decide) (by decide)) ym_X6_failsIf ml_X6_113 emb_id_qS rfl rfl rfl rfl rfl dX6_reads_186 (Nat.le_of_ble_eq_true rfl) (Nat.le_of_ble_eq_true rfl) (Nat.le_of_ble_eq_true rfl) (Nat.le_of_ble_eq_true rfl) (fun _ _ hu => hu.elim) (fun r u hu => ?_)
              obtain ⟨hR9, hF9⟩ := hu
              obtain ⟨g9, eg9⟩ : ∃ x, x = u := ⟨u, rfl⟩
              subst eg9
              have hW9 := hWx.tr hF9.fl.fw
              refine v_vret C F dX6_reads_189 (Nat.le_of_ble_eq_true rfl) (Nat.le_of_ble_eq_true rfl) ?_
              rcases hend with ⟨hz0, hpe⟩ | ⟨hz0, hk3⟩
              · rw [when_b hz0] at hR9
                rw [hpe]
                exact ⟨⟨hR9.2.2.2.2.1, hR9.2.2.2.2.2.1⟩, hR9.2.2.2.1.1, (fun z => by rw [ok_b hz0] at z; cases z), hW9⟩
              · have hTTx := (hRx.2.2.2.2.2.2 hz0).1.1
                by_cases hk0 : x.1.1.1 = 0
                · have hpe : P = x := i4.symm.trans (linesF_0 hk0)
                  have hp0 : (!(gx 0 14 == 0)) = false := by rw [hTTx, hk0]; rfl
                  rw [hp0] at hR9
                  have hR9 : QR b len x.1 g9 := hR9
                  rw [hpe]
                  exact ⟨⟨hR9.2.2.2.2.1, hR9.2.2.2.2.2.1⟩, hR9.2.2.2.1.1, fun _ => ⟨Row_at hRowx (hF9.1 1 (by decide)), n, (hF9.2 2 (by decide)).trans hsx, hPIx⟩, hW9⟩
                · have hp1 : (!(gx 0 14 == 0)) = true := by
                    rw [hTTx]
                    have : ¬ nI x.1.1.1 = 0 := fun z => hk0 (nI_inj (b := 0) (by have := (hRx.2.2.2.2.2.2 hz0).2.1; omega) (by omega) z)
                    rw [beq_eq_false_iff_ne.mpr this]; rfl
                  rw [hp1] at hR9
                  have hR9 : QR b len (failS 1 x.1) g9 := hR9
                  have hi7 : i < 700 := by
                    have q1 := hGx.2.2.2 hk0
                    have q3 := i5 (ok_gz hz0)
                    omega
                  have hP2 : P.1.2 = (failS 1 x.1).2 := by
                    rw [← i4, show 700 - i = (700 - (i + 1)) + 1 by omega]
                    exact linesF_x (ok_gz hz0) hk0 hk3
                  rw [show ok P.1 = ok (failS 1 x.1) by unfold ok; rw [hP2], hP2]
                  exact ⟨⟨hR9.2.2.2.2.1, hR9.2.2.2.2.2.1⟩, hR9.2.2.2.1.1, fun z => (ok_fail (c := 1) (by decide) z).elim, hW9⟩
          · have hk3 : x.1.1.1 = 3 := nI_inj (by have := (hRx.2.2.2.2.2.2 hz0).2.1; omega) (by omega) c158
            refine v_aload_n C dX6_reads_161 rfl ?_
            refine v_callVv C (c_X6_token hl (e0 := x.1.1.2.2.1) hRx.1 hRx.2.1 h7 ((hRx.2.2.2.2.2.2 hz0).1.2.2.1 (by rw [hk3]; decide)) (hRx.2.2.2.2.2.2 hz0).2.2.2.1 hb) ym_X6_token ml_X6_86 emb_id_qS rfl rfl rfl rfl rfl dX6_reads_162 (Nat.le_of_ble_eq_true rfl) (Nat.le_of_ble_eq_true rfl) (Nat.le_of_ble_eq_true rfl) (Nat.le_of_ble_eq_true rfl) (fun _ _ hu => hu.elim) (fun r u hu => ?_)
            obtain ⟨hTk, hFk⟩ := hu
            obtain ⟨g7, eg7⟩ : ∃ x, x = u := ⟨u, rfl⟩
            subst eg7
            have hok := ok_gz hz0
            have hi7 : i < 700 := by
              have q1 := hGx.2.2.1 (Or.inr hk3)
              have q2 := hGx.2.1
              have q3 := i5 hok
              omega
            have hR7 : QR b len (advS b len x.1) g7 := by
              rw [show advS b len x.1 = (tok b len x.1.1.2.2.1, x.1.2) from if_pos hz0]
              have hk := tok_ok (b := b) (len := len) (e0 := x.1.1.2.2.1) hGx.2.1
              exact ⟨(hFk.1 4 (by decide)).trans hRx.1, (hFk.2 11 (by decide)).trans hRx.2.1, h7, hRx.2.2.2.1, (hFk.2 16 (by decide)).trans hRx.2.2.2.2.1, (hFk.2 17 (by decide)).trans hRx.2.2.2.2.2.1, fun _ => ⟨hTk, hk.1, hk.2.2.1, hk.2.2.2.1, hk.2.2.2.2⟩⟩
            have hX7 : QXr b len n (advS b len x.1, x.2.1, x.2.2) g7 := QXr_mk hR7 (Row_at hRowx (hFk.1 1 (by decide))) (hKx.fq hFk.fq) ((hFk.2 2 (by decide)).trans hsx)
            have hPI7 : PI n (advS b len x.1, x.2.1, x.2.2) := hPIx
            have hKL7 : KLp (advS b len x.1, x.2.1, x.2.2) := fun z => hKLx (ok_adv z)
            have hG7 : GTo len (advS b len x.1).1 := (Le.adv hGx).1
            have hok7 : ok (advS b len x.1) = true := ok_gz (by rw [adv_2]; exact hz0)
            refine v_aload_n C dX6_reads_165 rfl ?_
            refine v_callVv C (c_X6_line hl (st := advS b len x.1) (m := x.2.1) (k := x.2.2) h96 hn1 hX7 hPI7 hKL7 (KN.kb hKN (by omega)) hb hG7 hok7) ym_X6_line ml_X6_192 emb_id_qS rfl rfl rfl rfl rfl dX6_reads_166 (Nat.le_of_ble_eq_true rfl) (Nat.le_of_ble_eq_true rfl) (Nat.le_of_ble_eq_true rfl) (Nat.le_of_ble_eq_true rfl) (fun _ _ hu => hu.elim) (fun r u hu => ?_)
            obtain ⟨hX8, hF8⟩ := hu
            obtain ⟨g8, eg8⟩ : ∃ x, x = u := ⟨u, rfl⟩
            subst eg8
            refine v_goto C 146 dX6_reads_169 (by decide) ?_
            have hstep : linesF b len n (700 - (i + 1)) (lnStep b len n x) = P := by
              rw [← i4, show 700 - i = (700 - (i + 1)) + 1 by omega, linesF_t (by rw [hok, decide_eq_false (by rw [hk3]; decide)]; rfl)]
            have e3 := lnStep_3 (b := b) (len := len) (n := n) hk3
            have hLe := Le.any (b := b) (len := len) (n := n) (x := (advS b len x.1, x.2)) hG7
            have H := ih146 (i + 1, lnStep b len n x, g8)
            refine H (by show 701 - (i + 1) < 701 - i; omega) ⟨by show i + 1 ≤ 700; omega, (by show QXr b len n (lnStep b len n x) g8; rw [e3]; exact hX8), hWx.tr (hFk.fq.fl.fw.tr hF8.fw), hstep, PI.step hPIx, KN.step hKN, hKLx.step, fun z => ?_, ?_⟩
            · have z : ok (lnStep b len n x).1 = true := z
              show i + 1 ≤ (lnStep b len n x).1.1.2.1
              rw [e3] at z ⊢
              have q1 := (hLe.2 z).2
              have q2 := adv_lt (b := b) hGx hok (Or.inr hk3)
              have q3 := i5 hok
              dsimp only at q1
              omega
            · show GTo len (lnStep b len n x).1.1
              rw [e3]
              exact hLe.1
      refine V.sub (lo2 := [some _, none, none]) ⟨rfl, trivial⟩ ?_
      refine V.sub (lo2 := [some _, none, none]) ⟨rfl, trivial⟩ ?_
      exact L146 (0, (A0, B0, (0, 0, 0, 0)), gL) ⟨Nat.zero_le _, QXr_mk lR lRow lK ls, lW, lP, lPI, ⟨Nat.le_refl _, Nat.le_refl _, Nat.le_refl _, Nat.le_refl _⟩, fun _ => ⟨Nat.zero_le _, Nat.zero_le _, Nat.zero_le _, Nat.zero_le _⟩, fun _ => Nat.zero_le _, lG⟩
    · refine v_aload_n C dX6_reads_49 rfl ?_
      refine v_getr C fl_X6_7 or_qS_0_3 dX6_reads_50 ?_
      refine v_iload_n C dX6_reads_53 rfl ?_
      refine v_iload_n C dX6_reads_54 rfl ?_
      refine v_bipush (v := nI 96) C dX6_reads_55 (by decide) ?_
      first | refine v_icmp_ltN C 71 dX6_reads_57 (by decide) (by omega) (by omega) (fun c57 => ?_) (fun c57 => ?_) | refine v_icmp_lt C 71 dX6_reads_57 (by decide) (fun c57 => ?_) (fun c57 => ?_)
      · refine v_iconst (v := nI 0) C dX6_reads_71 (by decide) ?_
        refine V.eqs (st2 := .int (if 96 ≤ t ∧ t < 288 then -1 else nI 0) :: .int (nI t) :: _ :: []) ?_ (congrArg (fun z => Value.int z :: Value.int (nI t) :: _ :: []) (by first | rw [if_pos (by omega)] | rw [if_neg (by omega)]))
        refine v_iast C ar_qS_1 (by decide) _ ?_ rfl dX6_reads_72 ?_
        · omega
        refine V.stt (g2 := (sG (rdI g len) 1 (iniF (t + 1) (g 1)))) (by rw [← iniF_s]; exact sG_sG) ?_
        first | refine v_iinc1 C (lo2 := [some _, some _, some _]) dX6_reads_73 rfl rfl rfl ?_ | refine v_iinc C (lo2 := [some _, some _, some _]) dX6_reads_73 rfl rfl rfl rfl ?_
        refine v_goto C 42 dX6_reads_76 (by decide) ?_
        exact ih42 (t + 1) (by show 640 - (t + 1) < 640 - t; omega) (by show t + 1 ≤ 640; omega)
      · refine v_iload_n C dX6_reads_60 rfl ?_
        refine v_sipush (v := nI 288) C dX6_reads_61 (by decide) ?_
        first | refine v_icmp_geN C 71 dX6_reads_64 (by decide) (by omega) (by omega) (fun c64 => ?_) (fun c64 => ?_) | refine v_icmp_ge C 71 dX6_reads_64 (by decide) (fun c64 => ?_) (fun c64 => ?_)
        · refine v_iconst (v := nI 0) C dX6_reads_71 (by decide) ?_
          refine V.eqs (st2 := .int (if 96 ≤ t ∧ t < 288 then -1 else nI 0) :: .int (nI t) :: _ :: []) ?_ (congrArg (fun z => Value.int z :: Value.int (nI t) :: _ :: []) (by first | rw [if_pos (by omega)] | rw [if_neg (by omega)]))
          refine v_iast C ar_qS_1 (by decide) _ ?_ rfl dX6_reads_72 ?_
          · omega
          refine V.stt (g2 := (sG (rdI g len) 1 (iniF (t + 1) (g 1)))) (by rw [← iniF_s]; exact sG_sG) ?_
          first | refine v_iinc1 C (lo2 := [some _, some _, some _]) dX6_reads_73 rfl rfl rfl ?_ | refine v_iinc C (lo2 := [some _, some _, some _]) dX6_reads_73 rfl rfl rfl rfl ?_
          refine v_goto C 42 dX6_reads_76 (by decide) ?_
          exact ih42 (t + 1) (by show 640 - (t + 1) < 640 - t; omega) (by show t + 1 ≤ 640; omega)
        · refine v_iconst (v := (-1)) C dX6_reads_67 (by decide) ?_
          refine v_goto C 72 dX6_reads_68 (by decide) ?_
          refine V.eqs (st2 := .int (if 96 ≤ t ∧ t < 288 then -1 else nI 0) :: .int (nI t) :: _ :: []) ?_ (congrArg (fun z => Value.int z :: Value.int (nI t) :: _ :: []) (by first | rw [if_pos (by omega)] | rw [if_neg (by omega)]))
          refine v_iast C ar_qS_1 (by decide) _ ?_ rfl dX6_reads_72 ?_
          · omega
          refine V.stt (g2 := (sG (rdI g len) 1 (iniF (t + 1) (g 1)))) (by rw [← iniF_s]; exact sG_sG) ?_
          first | refine v_iinc1 C (lo2 := [some _, some _, some _]) dX6_reads_73 rfl rfl rfl ?_ | refine v_iinc C (lo2 := [some _, some _, some _]) dX6_reads_73 rfl rfl rfl rfl ?_
          refine v_goto C 42 dX6_reads_76 (by decide) ?_
          exact ih42 (t + 1) (by show 640 - (t + 1) < 640 - t; omega) (by show t + 1 ≤ 640; omega)
  have H := L42 0 (by show 0 ≤ 640; omega)
  try dsimp only at H
  rw [iniF_0, show sG (rdI g len) 1 (g 1) = rdI g len from sG_id rfl] at H
  exact H


/-- what lines leave alone -/
def FLn (g u : G) : Prop := (u 2 = g 2 ∧ u 3 = g 3 ∧ u 4 = g 4 ∧ u 6 = g 6) ∧ ∀ k, (k ≤ 11 ∨ k = 24) → u 0 k = g 0 k
theorem FQ.fl {g u : G} (h : FQ g u) : FLn g u := ⟨⟨h.1 2 (by decide), h.1 3 (by decide), h.1 4 (by decide), h.1 6 (by decide)⟩, fun k hk => h.2 k (by omega)⟩
theorem FLn.rf {g : G} : FLn g g := ⟨⟨rfl, rfl, rfl, rfl⟩, fun _ _ => rfl⟩
theorem FLn.tr {a b c : G} (h : FLn a b) (h2 : FLn b c) : FLn a c := ⟨⟨h2.1.1.trans h.1.1, h2.1.2.1.trans h.1.2.1, h2.1.2.2.1.trans h.1.2.2.1, h2.1.2.2.2.trans h.1.2.2.2⟩, fun k hk => (h2.2 k hk).trans (h.2 k hk)⟩
theorem FLn.row {g u : G} {f : Nat → Int32} (h : FLn g u) : FLn g (sG u 1 f) := ⟨⟨h.1.1, h.1.2.1, h.1.2.2.1, h.1.2.2.2⟩, fun k hk => h.2 k hk⟩
theorem FLn.had {g u : G} {f : Nat → Int32} (h : FLn g u) : FLn g (sG u 5 f) := ⟨⟨h.1.1, h.1.2.1, h.1.2.2.1, h.1.2.2.2⟩, fun k hk => h.2 k hk⟩
theorem FLn.cnt {g u : G} {j : Nat} {v : Int32} (h : FLn g u) (hj : 18 ≤ j) (hj2 : j ≤ 21) : FLn g (sG u 0 (upd (u 0) j v)) := ⟨⟨h.1.1, h.1.2.1, h.1.2.2.1, h.1.2.2.2⟩, fun k hk => (show upd (u 0) j v k = u 0 k from upd_o (by omega)).trans (h.2 k hk)⟩
def KQ (k : Cnt) (g : G) : Prop := g 0 18 = nI k.1 ∧ g 0 19 = nI k.2.1 ∧ g 0 20 = nI k.2.2.1 ∧ g 0 21 = nI k.2.2.2
theorem KQ.fq {k : Cnt} {g u : G} (h : KQ k g) (hf : FQ g u) : KQ k u := ⟨(hf.2 18 (by decide)).trans h.1, (hf.2 19 (by decide)).trans h.2.1, (hf.2 20 (by decide)).trans h.2.2.1, (hf.2 21 (by decide)).trans h.2.2.2⟩
theorem KQ.row {k : Cnt} {g : G} {f : Nat → Int32} (h : KQ k g) : KQ k (sG g 1 f) := h
def QXr (b : Nat → Int32) (len n : Nat) (x : RX) (g : G) : Prop := QR b len x.1 g ∧ RowR x.2.1 (g 1) ∧ KQ x.2.2 g ∧ g 0 2 = nI n
theorem QXr_mk {b : Nat → Int32} {len n : Nat} {A : St} {B : Mg} {D : Cnt} {u : G} (h1 : QR b len A u) (h2 : RowR B (u 1)) (h3 : KQ D u) (h4 : u 0 2 = nI n) : QXr b len n (A, B, D) u := ⟨h1, h2, h3, h4⟩
theorem KQ.c18 {k : Cnt} {g : G} (h : KQ k g) : KQ (k.1 + 1, k.2) (sG g 0 (upd (g 0) 18 (nI (k.1 + 1)))) := ⟨rfl, h.2.1, h.2.2.1, h.2.2.2⟩
theorem KQ.c19 {k : Cnt} {g : G} (h : KQ k g) : KQ (k.1, k.2.1 + 1, k.2.2) (sG g 0 (upd (g 0) 19 (nI (k.2.1 + 1)))) := ⟨h.1, rfl, h.2.2.1, h.2.2.2⟩
theorem KQ.c20 {k : Cnt} {g : G} (h : KQ k g) : KQ (k.1, k.2.1, k.2.2.1 + 1, k.2.2.2) (sG g 0 (upd (g 0) 20 (nI (k.2.2.1 + 1)))) := ⟨h.1, h.2.1, rfl, h.2.2.2⟩
theorem KQ.c21 {k : Cnt} {g : G} (h : KQ k g) : KQ (k.1, k.2.1, k.2.2.1, k.2.2.2 + 1) (sG g 0 (upd (g 0) 21 (nI (k.2.2.2 + 1)))) := ⟨h.1, h.2.1, h.2.2.1, rfl⟩
theorem Row_at {m : Mg} {g u : G} (h : RowR m (g 1)) (e : u 1 = g 1) : RowR m (u 1) := by rw [e]; exact h
theorem QR.row {b : Nat → Int32} {len : Nat} {st : St} {g : G} {f : Nat → Int32} (h : QR b len st g) : QR b len st (sG g 1 f) := ⟨h.1, h.2.1, h.2.2.1, h.2.2.2.1, h.2.2.2.2.1, h.2.2.2.2.2.1, fun z => h.2.2.2.2.2.2 z⟩
theorem QR.had {b : Nat → Int32} {len : Nat} {st : St} {g : G} {f : Nat → Int32} (h : QR b len st g) : QR b len st (sG g 5 f) := ⟨h.1, h.2.1, h.2.2.1, h.2.2.2.1, h.2.2.2.2.1, h.2.2.2.2.2.1, fun z => h.2.2.2.2.2.2 z⟩
theorem QR.cnt {b : Nat → Int32} {len j : Nat} {st : St} {g : G} {v : Int32} (h : QR b len st g) (hj : 18 ≤ j) : QR b len st (sG g 0 (upd (g 0) j v)) := by
  have u : ∀ i, i < 18 → (sG g 0 (upd (g 0) j v)) 0 i = g 0 i := fun i hi => (show upd (g 0) j v i = g 0 i from upd_o (by omega))
  obtain ⟨h1, h2, h3, h4, h5, h6, h7⟩ := h
  exact ⟨h1, (u 11 (by omega)).trans h2, h3, h4, (u 16 (by omega)).trans h5, (u 17 (by omega)).trans h6, fun z => by
    obtain ⟨⟨t1, t2, t3, t4⟩, hB⟩ := h7 z
    exact ⟨⟨(u 14 (by omega)).trans t1, (u 13 (by omega)).trans t2, fun w => (u 12 (by omega)).trans (t3 w), fun w => (u 15 (by omega)).trans (t4 w)⟩, hB⟩⟩
theorem when_eq {p q : Bool} {c : Nat} {st : St} (h : ok st = true → p = q) : whenS p c st = whenS q c st := by
  by_cases z : st.2.1 = 0
  · rw [h (ok_gz z)]
  · rw [when_b z, when_b z]
theorem adv_2 {b : Nat → Int32} {len : Nat} {st : St} : (advS b len st).2 = st.2 := by unfold advS; split <;> rfl
theorem when_k {p : Bool} {c : Nat} {st : St} (hc : ¬ c = 0) (hk : ok st = true → ¬ st.1.1 = 4) (z : (whenS p c st).2.1 = 0) : ¬ (whenS p c st).1.1 = 4 := by
  rw [whenS_1]
  exact hk (whenS_ok hc (ok_gz z)).2
theorem num_k2 {b : Nat → Int32} {len lo hi : Nat} {st : St} (h : ok (numS b len lo hi st).1 = true) : (numS b len lo hi st).1.1.1 = 2 := (chk_k2 (st := advS b len st) (lo := lo) (hi := hi) (ok_g h)).1
theorem cop3_k2 {b : Nat → Int32} {len n : Nat} {st : St} {k : Cnt} (h : ok (cop3 b len n st k).1 = true) : (cop3 b len n st k).1.1.1 = 2 := by
  unfold cop3 at h ⊢
  exact num_k2 h
theorem fil3_k2 {b : Nat → Int32} {len n : Nat} {st : St} {k : Cnt} (h : ok (fil3 b len n st k).1 = true) : (fil3 b len n st k).1.1.1 = 2 := by
  unfold fil3 at h ⊢
  exact num_k2 h
theorem cop4_zz {b : Nat → Int32} {len n p1 p2 p3 : Nat} {st : St} {m : Mg} {k : Cnt} (e1 : EqH p1 (cop1 b len n st k).2) (e2 : EqH p2 (cop2 b len n st k).2) (e3 : EqH p3 (cop3 b len n st k).2) (h : (cop4 b len n st m k).2.1 = 0) : refM m n (nI p1) (nI p2) (nI p3) = 0 := by
  have w := cop4_ok (ok_gz h)
  have e1 : p1 = _ := e1
  have e2 : p2 = _ := e2
  have e3 : p3 = _ := e3
  subst e1 e2 e3
  exact w.1
theorem wPut_1 {k : Cnt} {st : St} : (wPut k st).1 = st.1 := by
  unfold wPut
  split
  · exact failS_t
  · exact whenS_1
theorem lnLock_eq {b : Nat → Int32} {len n p1 p2 : Nat} {st : St} {m : Mg} {k : Cnt} (e1 : EqH p1 (lok1 b len n st k).2) (e2 : EqH p2 (lok2 b len n st k).2) : lnLock b len n (st, m, k) = (advS b len (lok2 b len n st k).1, (if ok (lok2 b len n st k).1 = true then lockM p1 p2 m else m), (k.1, k.2.1 + 1, k.2.2)) := by
  have e1 : p1 = _ := e1
  have e2 : p2 = _ := e2
  subst e1 e2
  unfold lnLock
  dsimp only
theorem lnCopy_eq {b : Nat → Int32} {len n p1 p2 p3 : Nat} {st : St} {m : Mg} {k : Cnt} (e1 : EqH p1 (cop1 b len n st k).2) (e2 : EqH p2 (cop2 b len n st k).2) (e3 : EqH p3 (cop3 b len n st k).2) : lnCopy b len n (st, m, k) = (advS b len (cop4 b len n st m k), (if ok (cop4 b len n st m k) = true then copyM n p1 p2 p3 m else m), (k.1, k.2.1, k.2.2.1 + 1, k.2.2.2)) := by
  have e1 : p1 = _ := e1
  have e2 : p2 = _ := e2
  have e3 : p3 = _ := e3
  subst e1 e2 e3
  unfold lnCopy
  dsimp only
theorem cop4_eq {b : Nat → Int32} {len n p1 p2 p3 : Nat} {st : St} {m : Mg} {k : Cnt} (e1 : EqH p1 (cop1 b len n st k).2) (e2 : EqH p2 (cop2 b len n st k).2) (e3 : EqH p3 (cop3 b len n st k).2) : cop4 b len n st m k = whenS (!(refM m n (nI p1) (nI p2) (nI p3) == 0)) 3 (cop3 b len n st k).1 := by
  have e1 : p1 = _ := e1
  have e2 : p2 = _ := e2
  have e3 : p3 = _ := e3
  subst e1 e2 e3
  rfl
theorem lnFill_eq {b : Nat → Int32} {len n p1 p2 p3 : Nat} {st : St} {m : Mg} {k : Cnt} (e1 : EqH p1 (fil1 b len n st k).2) (e2 : EqH p2 (fil2 b len n st k).2) (e3 : EqH p3 (fil3 b len n st k).2) : lnFill b len n (st, m, k) = (advS b len (fil4 b len n st m k), (if ok (fil4 b len n st m k) = true then (fillM n p1 p2 (nI p3) m).2 else m), (k.1, k.2.1, k.2.2.1, k.2.2.2 + 1)) := by
  have e1 : p1 = _ := e1
  have e2 : p2 = _ := e2
  have e3 : p3 = _ := e3
  subst e1 e2 e3
  unfold lnFill
  dsimp only
theorem fil4_eq {b : Nat → Int32} {len n p1 p2 : Nat} {st : St} {m : Mg} {k : Cnt} (e1 : EqH p1 (fil1 b len n st k).2) (e2 : EqH p2 (fil2 b len n st k).2) : fil4 b len n st m k = whenS (anyG (lockB m) p1 (p2 + 1 - p1)) 3 (fil3 b len n st k).1 := by
  have e1 : p1 = _ := e1
  have e2 : p2 = _ := e2
  subst e1 e2
  rfl
theorem lnPut_eq {b : Nat → Int32} {len n : Nat} {st : St} {m : Mg} {k : Cnt} {x : St × Mg} (e : EqH (put4 b len n st m k) x) : lnPut b len n (st, m, k) = (x.1, x.2, (k.1 + 1, k.2)) := by
  have e : put4 b len n st m k = x := e
  subst e
  unfold lnPut
  dsimp only
theorem lnRule_eq {b : Nat → Int32} {len q : Nat} {st : St} {m : Mg} {k : Cnt} : lnRule b len q (st, m, k) = (advS b len (whenS (m 5 q == nI 1) 3 st), setM m q (nI 1), k) := by
  unfold lnRule
  dsimp only
theorem c_X6_takesN {l : Launch} (hl : l.stackTraces = false) {κ : Kp} {h : Nat → Nat} {g : G} {b : Nat → Int32} {len lo hi : Nat} {s0 : St} (hR : QR b len (advS b len s0) g) (hlo : lo < 1000) (hhi : hi < 1000) (hb : BN0 b) : Ct SS MM l κ yX6_takes cX6_takes 4 (some FieldType.int) 3 0 0 [.ref (h 0), .int (nI lo), .int (nI hi)] (qS κ h) g ri (fun r u => r = nI (numS b len lo hi s0).2 ∧ QR b len (advS b len (numS b len lo hi s0).1) u ∧ FQ g u) (fun _ _ => False) := by
  exact c_X6_takes hl hR hlo hhi hb
theorem c_X6_numberHereN {l : Launch} (hl : l.stackTraces = false) {κ : Kp} {h : Nat → Nat} {g : G} {b : Nat → Int32} {len lo hi : Nat} {s0 : St} (hR : QR b len (advS b len s0) g) (hlo : lo < 1000) (hhi : hi < 1000) : Ct SS MM l κ yX6_numberHere cX6_numberHere 3 (some FieldType.int) 1 0 0 [.ref (h 0), .int (nI lo), .int (nI hi)] (qS κ h) g ri (fun r u => r = nI (numS b len lo hi s0).2 ∧ QR b len (numS b len lo hi s0).1 u ∧ FQ g u) (fun _ _ => False) := by
  exact c_X6_numberHere hl hR hlo hhi
set_option maxHeartbeats 800000 in
theorem c_X6_ruleLine {l : Launch} (hl : l.stackTraces = false) {κ : Kp} {h : Nat → Nat} {g : G} {m : Mg} {n len : Nat} {b : Nat → Int32} {st : St} {k : Cnt} {q : Nat} (h96 : n ≤ 96) (hn1 : 1 ≤ n) (hX : QXr b len n (st, m, k) g) (hPI : PI n (st, m, k)) (hKL : KLp (st, m, k)) (hkb : KB k) (hb : BN0 b) (hk4 : ok st = true → ¬ st.1.1 = 4) (hq : q = 3 ∨ q = 4) : Ct SS MM l κ yX6_ruleLine cX6_ruleLine 2 none 3 0 0 [.ref (h 0), .int (nI q)] (qS κ h) g rv (fun _ u => QXr b len n (lnRule b len q (st, m, k)) u ∧ FLn g u) (fun _ _ => False) := by
  refine Ct.of (own := RX6) (by decide) rfl hl (by intro v hv; simp only [List.mem_cons, List.not_mem_nil, or_false] at hv; first | (rcases hv with rfl | rfl | rfl | rfl | rfl | rfl <;> rfl) | (rcases hv with rfl | rfl | rfl | rfl | rfl <;> rfl) | (rcases hv with rfl | rfl | rfl | rfl <;> rfl) | (rcases hv with rfl | rfl | rfl <;> rfl) | (rcases hv with rfl | rfl <;> rfl) | (subst hv; rfl) | exact hv.elim) (Nat.le_of_ble_eq_true rfl) (fun X hxl hxk C F N => ?_)
  subst hxl hxk
  show V X (qS (xK X) h) 0 [some (.ref (h 0)), some (.int (nI q))] [] g 0 0
  obtain ⟨hR, hRow, hK, hs⟩ := id hX
  have hR : QR b len st g := hR
  have hRow : RowR m (g 1) := hRow
  have hK : KQ k g := hK
  obtain ⟨co, hMI, -, -⟩ := hPI
  have hMI : MI n co m := hMI
  obtain ⟨hI, hE, hLK, -, hSB, hBY, hPR⟩ := id hMI
  obtain ⟨kb1, kb2, kb3, kb4⟩ := id hkb
  have hKL : ok st = true → KL k := hKL
  refine v_aload_n C dX6_ruleLine_0 rfl ?_
  refine v_aload_n C dX6_ruleLine_1 rfl ?_
  refine v_getr C fl_X6_7 or_qS_0_3 dX6_ruleLine_2 ?_
  refine v_sipush (v := nI 384) C dX6_ruleLine_5 (by decide) ?_
  refine v_iload_n C dX6_ruleLine_8 rfl ?_
  first | refine v_iaddN C dX6_ruleLine_9 ?_ | refine v_iadd C dX6_ruleLine_9 ?_
  refine v_ialdQ (x := m 5 q) C ar_qS_1 (by decide) _ (hRow.t (by omega)) ?_ rfl dX6_ruleLine_10 ?_
  · omega
  refine v_iconst (v := nI 1) C dX6_ruleLine_11 (by decide) ?_
  refine v_icmp_ne C 19 dX6_ruleLine_12 (by decide) (fun c12 => ?_) (fun c12 => ?_)
  · refine v_iconst (v := nI 0) C dX6_ruleLine_19 (by decide) ?_
    refine V.eqs (st2 := [.int (bI (m 5 q == nI 1)), .ref (h 0)]) ?_ (congrArg (fun z => [Value.int z, Value.ref (h 0)]) (by first | exact bI_t (beq_iff_eq.mpr c12) | exact bI_f (beq_eq_false_iff_ne.mpr c12)))
    refine v_iconst (v := nI 3) C dX6_ruleLine_20 (by decide) ?_
    refine v_callVv C (c_X6_failsIf hl (cd := 3) (p := m 5 q == nI 1) hR (by decide) (by decide)) ym_X6_failsIf ml_X6_113 emb_id_qS rfl rfl rfl rfl rfl dX6_ruleLine_21 (Nat.le_of_ble_eq_true rfl) (Nat.le_of_ble_eq_true rfl) (Nat.le_of_ble_eq_true rfl) (Nat.le_of_ble_eq_true rfl) (fun _ _ hu => hu.elim) (fun r u hu => ?_)
    obtain ⟨hR1, hF1⟩ := hu
    obtain ⟨g1, eg1⟩ : ∃ x, x = u := ⟨u, rfl⟩
    subst eg1
    have e1 : g1 1 = g 1 := hF1.1 1 (by decide)
    refine v_aload_n C dX6_ruleLine_24 rfl ?_
    refine v_getr C fl_X6_7 or_qS_0_3 dX6_ruleLine_25 ?_
    refine v_sipush (v := nI 384) C dX6_ruleLine_28 (by decide) ?_
    refine v_iload_n C dX6_ruleLine_31 rfl ?_
    first | refine v_iaddN C dX6_ruleLine_32 ?_ | refine v_iadd C dX6_ruleLine_32 ?_
    refine v_iconst (v := nI 1) C dX6_ruleLine_33 (by decide) ?_
    refine v_iast C ar_qS_1 (by decide) _ ?_ rfl dX6_ruleLine_34 ?_
    · omega
    refine V.stt (g2 := (sG g1 1 (upd (g1 1) (384 + q) (nI 1)))) (rfl) ?_
    refine v_aload_n C dX6_ruleLine_35 rfl ?_
    refine v_callVv C (c_X6_goesOn hl (QR.row hR1) hb (when_k (by decide) hk4)) ym_X6_goesOn ml_X6_106 emb_id_qS rfl rfl rfl rfl rfl dX6_ruleLine_36 (Nat.le_of_ble_eq_true rfl) (Nat.le_of_ble_eq_true rfl) (Nat.le_of_ble_eq_true rfl) (Nat.le_of_ble_eq_true rfl) (fun _ _ hu => hu.elim) (fun r u hu => ?_)
    obtain ⟨hR2, hF2⟩ := hu
    obtain ⟨g2, eg2⟩ : ∃ x, x = u := ⟨u, rfl⟩
    subst eg2
    refine v_vret C F dX6_ruleLine_39 (Nat.le_of_ble_eq_true rfl) (Nat.le_of_ble_eq_true rfl) ?_
    rw [lnRule_eq]
    have e2 : g2 1 = upd (g 1) (384 + q) (nI 1) := by rw [hF2.1 1 (by decide), ← e1]; rfl
    exact ⟨⟨hR2, (by show RowR (setM m q (nI 1)) (g2 1); rw [e2]; exact Row_set hRow (by omega)), KQ.fq (KQ.row (f := upd (g1 1) (384 + q) (nI 1)) (KQ.fq hK hF1)) hF2, (hF2.2 2 (by decide)).trans ((hF1.2 2 (by decide)).trans hs)⟩, (FLn.row hF1.fl).tr hF2.fl⟩
  · refine v_iconst (v := nI 1) C dX6_ruleLine_15 (by decide) ?_
    refine v_goto C 20 dX6_ruleLine_16 (by decide) ?_
    refine V.eqs (st2 := [.int (bI (m 5 q == nI 1)), .ref (h 0)]) ?_ (congrArg (fun z => [Value.int z, Value.ref (h 0)]) (by first | exact bI_t (beq_iff_eq.mpr c12) | exact bI_f (beq_eq_false_iff_ne.mpr c12)))
    refine v_iconst (v := nI 3) C dX6_ruleLine_20 (by decide) ?_
    refine v_callVv C (c_X6_failsIf hl (cd := 3) (p := m 5 q == nI 1) hR (by decide) (by decide)) ym_X6_failsIf ml_X6_113 emb_id_qS rfl rfl rfl rfl rfl dX6_ruleLine_21 (Nat.le_of_ble_eq_true rfl) (Nat.le_of_ble_eq_true rfl) (Nat.le_of_ble_eq_true rfl) (Nat.le_of_ble_eq_true rfl) (fun _ _ hu => hu.elim) (fun r u hu => ?_)
    obtain ⟨hR1, hF1⟩ := hu
    obtain ⟨g1, eg1⟩ : ∃ x, x = u := ⟨u, rfl⟩
    subst eg1
    have e1 : g1 1 = g 1 := hF1.1 1 (by decide)
    refine v_aload_n C dX6_ruleLine_24 rfl ?_
    refine v_getr C fl_X6_7 or_qS_0_3 dX6_ruleLine_25 ?_
    refine v_sipush (v := nI 384) C dX6_ruleLine_28 (by decide) ?_
    refine v_iload_n C dX6_ruleLine_31 rfl ?_
    first | refine v_iaddN C dX6_ruleLine_32 ?_ | refine v_iadd C dX6_ruleLine_32 ?_
    refine v_iconst (v := nI 1) C dX6_ruleLine_33 (by decide) ?_
    refine v_iast C ar_qS_1 (by decide) _ ?_ rfl dX6_ruleLine_34 ?_
    · omega
    refine V.stt (g2 := (sG g1 1 (upd (g1 1) (384 + q) (nI 1)))) (rfl) ?_
    refine v_aload_n C dX6_ruleLine_35 rfl ?_
    refine v_callVv C (c_X6_goesOn hl (QR.row hR1) hb (when_k (by decide) hk4)) ym_X6_goesOn ml_X6_106 emb_id_qS rfl rfl rfl rfl rfl dX6_ruleLine_36 (Nat.le_of_ble_eq_true rfl) (Nat.le_of_ble_eq_true rfl) (Nat.le_of_ble_eq_true rfl) (Nat.le_of_ble_eq_true rfl) (fun _ _ hu => hu.elim) (fun r u hu => ?_)
    obtain ⟨hR2, hF2⟩ := hu
    obtain ⟨g2, eg2⟩ : ∃ x, x = u := ⟨u, rfl⟩
    subst eg2
    refine v_vret C F dX6_ruleLine_39 (Nat.le_of_ble_eq_true rfl) (Nat.le_of_ble_eq_true rfl) ?_
    rw [lnRule_eq]
    have e2 : g2 1 = upd (g 1) (384 + q) (nI 1) := by rw [hF2.1 1 (by decide), ← e1]; rfl
    exact ⟨⟨hR2, (by show RowR (setM m q (nI 1)) (g2 1); rw [e2]; exact Row_set hRow (by omega)), KQ.fq (KQ.row (f := upd (g1 1) (384 + q) (nI 1)) (KQ.fq hK hF1)) hF2, (hF2.2 2 (by decide)).trans ((hF1.2 2 (by decide)).trans hs)⟩, (FLn.row hF1.fl).tr hF2.fl⟩


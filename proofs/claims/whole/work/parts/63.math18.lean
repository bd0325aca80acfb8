/-! the calls that are unlike the others -/
theorem LK_clr {ev : Nat → Int32} : LK (clrM ev) := fun _ _ => ⟨false, rfl⟩
theorem fU_self {α : Type} {f : Nat → α} {j : Nat} : fU f j (f j) = f := by
  funext i
  unfold fU
  by_cases e : i = j
  · rw [if_pos e, e]
  · rw [if_neg e]
theorem s_textByte {l : Launch} (hl : l.stackTraces = false) {κ : Kp} {h : Nat → Nat} {bd : Nat} {x : Cg} {z : G} (hb : 20 ≤ bd ∧ bd ≤ 2000) (I : INV bd x z) (v : Int32) : Stq l κ h bd x z yX5_textByte cX5_textByte 2 (some FieldType.int) yX6_textByte cX6_textByte 2 [.int v] ri [EIO] (fun _ => True) := by
  obtain ⟨n, m, L, kb, sm, T, ff, B, e1, e2, s, sT, rb, sr, mT, mr, hh, sl, tx, rfl, I1, I2, I3⟩ := I
  obtain ⟨hT, hTl⟩ := I1.2.2.2.1
  refine ⟨_, _, _, _, _, _, _, ⟨by decide, by decide, by decide, by decide⟩, c_X5_textByte hl hT hTl, c_X6_textByte hl I2.2.2.2.2.1 (by omega), fun e u hp => thN.mem (thO hp.1), ⟨?_, ?_⟩, fun _ _ _ => trivial⟩
  · rintro v u r w ⟨⟨h0, rfl⟩, rfl⟩ ⟨rfl, hr⟩
    exact ⟨by rw [tg00, h0], (hr h0).symm, INV.mk (I1.mono (Nat.le_succ bd)) I2.tg I3⟩
  · rintro e u r w ⟨ht, rfl⟩ ⟨rfl, hr⟩
    obtain ⟨i, h1, h2, h3⟩ := thO ht
    exact ⟨i, h1, h2, by rw [tg00, h3], INV.mk (I1.mono (Nat.le_succ bd)) I2.tg I3⟩
theorem s_undo {l : Launch} (hl : l.stackTraces = false) {κ : Kp} {h : Nat → Nat} {bd : Nat} {x : Cg} {z : G} (hb : 20 ≤ bd ∧ bd ≤ 2000) (I : INV bd x z) : Stq l κ h bd x z yX5_undo cX5_undo 1 (some FieldType.int) yX6_undo cX6_undo 1 [] ri [EIS] (fun _ => True) := by
  obtain ⟨n, m, L, kb, sm, T, ff, B, e1, e2, s, sT, rb, sr, mT, mr, hh, sl, tx, rfl, I1, I2, I3⟩ := I
  have hLM := I1.2.1.2
  refine ⟨_, _, _, _, _, _, _, ⟨by decide, by decide, by decide, by decide⟩, c_X5_undo hl I1.2.1.1 (fun y hy => by obtain ⟨d, -, hd⟩ := hLM y hy; exact hd.2.2.1), c_X6_undo hl I2.2.2.1 (fun y hy => by obtain ⟨d, -, hd⟩ := hLM y hy; exact hd.2.1), fun e u hp => thN.mem (thU hp.1), ⟨?_, ?_⟩, fun _ _ _ => trivial⟩
  · rintro v u r w ⟨⟨h0, rfl⟩, y, L2, rfl, sx, ex, hx, rfl, hH⟩ ⟨hq, -⟩
    obtain ⟨rfl, y2, L3, f, e, rfl, hR⟩ := hq h0
    cases e
    have hn : ¬ n = 0 := fun zz => by cases (I1.1.2 zz).1
    exact ⟨rfl, rfl, INV.mk ((I1.mono (Nat.le_succ bd)).und hH) (I2.und hn hR) I3⟩
  · rintro e u r w ⟨ht, sx, ex, rfl⟩ ⟨-, hr⟩
    obtain ⟨i, h1, h2, h3⟩ := thU ht
    obtain rfl := hr ht.ne
    exact ⟨i, h1, h2, by rw [tg00, ← h3, ht.2], INV.mk (I1.mono (Nat.le_succ bd)) I2.tg I3⟩
section JSV
variable {bd n : Nat} {m : Mg} {L : List Mg} {kb : Nat → Bool} {sm : Nat → Mg} {T : List Int32} {f : Nat} {B : Nat → Int32} {e1 e2 : Int32} {rb : G} {y : Eg} {hh : Hg} {sl : Nat → Mg} {tx : G} {q : G} {V : Int32}
theorem JN_save {j : Nat} {k : Int32} (hj : j < 2) (hk : k = nI j) (I1 : ICp bd n m L kb sm T f B e1 e2 rb hh sl tx) (I2 : IQ n m L kb sm T f B e1 e2 q) (I3 : SLK kb sl) : JN bd (fun r u => (¬ n = 0 ∧ r = V) ∧ ROp m (rb, y) hh (fU sl j m) tx u) (fun e u => (e = EIS ∧ n = 0) ∧ ROp m (rb, y) hh sl tx u) (fun r u => ((cdL [(decide (n = 0), 1), (!inB k 0 1, 2)]) = 0 → r = V ∧ u = sG (sG (tg q 0) 2 (kpP (q 2) (q 1) (9 + tN k) 640)) 3 (upd (q 3) (tN k) (nI 1))) ∧ (¬ (cdL [(decide (n = 0), 1), (!inB k 0 1, 2)]) = 0 → u = tg q (cdL [(decide (n = 0), 1), (!inB k 0 1, 2)]))) [EIS, EIO] := by
  subst hk
  have hin : inB (nI j) 0 1 = true := inB_mk (by rw [nI_toInt (by omega)]; omega) (by rw [nI_toInt (by omega)]; omega)
  have htn : tN (nI j) = j := tN_nI (by omega)
  rw [hin, htn]
  obtain ⟨c, c1, hW⟩ := id I1.1.1
  refine ⟨?_, ?_⟩
  · rintro v u r w ⟨⟨hn, rfl⟩, sx, ex, rfl⟩ ⟨hq, -⟩
    have h0 : cdL [(decide (n = 0), 1), (!true, 2)] = 0 := by simp [cdL, hn]
    obtain ⟨hr, rfl⟩ := hq h0
    refine ⟨rfl, hr.symm, INV.mk ((I1.mono (Nat.le_succ bd)).sav hn) (I2.sav hn (hW.ev hn) (fun x hx => by obtain ⟨d, -, hd⟩ := I1.2.1.2 x hx; exact hd.2.1) hj) (fun i hi hz => ?_)⟩
    have hz : (if i = j then true else kb i) = false := hz
    by_cases e : i = j
    · rw [if_pos e] at hz; cases hz
    · rw [if_neg e] at hz
      unfold fU
      rw [if_neg e]
      exact I3 i hi hz
  · rintro e u r w ⟨⟨rfl, hn⟩, sx, ex, rfl⟩ ⟨-, hr⟩
    have h0 : cdL [(decide (n = 0), 1), (!true, 2)] = 1 := by simp [cdL, hn]
    rw [h0] at hr
    obtain rfl := hr (by decide)
    exact ⟨0, rfl, by decide, tg00, INV.mk (I1.mono (Nat.le_succ bd)) I2.tg I3⟩
theorem JN_res1 {j : Nat} {k : Int32} (hj : j < 2) (hk : k = nI j) (hb : kb j = true) (I1 : ICp bd n m L kb sm T f B e1 e2 rb hh sl tx) (I2 : IQ n m L kb sm T f B e1 e2 q) (I3 : SLK kb sl) : JN bd (fun r u => (¬ n = 0 ∧ r = nI (cntG (owb (sl j)) 0 n)) ∧ MUp (sl j) [] (rb, y) (fU sl j (sl j)) tx u) (fun e u => (e = EIS ∧ n = 0) ∧ ROp m (rb, y) hh sl tx u) (fun r u => ((cdL [(!inB k 0 1, 1), (!kb (tN k), 2)]) = 0 → r = nI (cntG (owb (sm (tN k))) 0 n) ∧ ∃ f, RowR (sm (tN k)) f ∧ u = sG (sG q 0 (upd (upd (q 0) 0 (nI 0)) 5 (nI 0))) 1 f) ∧ (¬ (cdL [(!inB k 0 1, 1), (!kb (tN k), 2)]) = 0 → u = tg q (cdL [(!inB k 0 1, 1), (!kb (tN k), 2)]))) [EIO, EIS] := by
  subst hk
  have hin : inB (nI j) 0 1 = true := inB_mk (by rw [nI_toInt (by omega)]; omega) (by rw [nI_toInt (by omega)]; omega)
  have htn : tN (nI j) = j := tN_nI (by omega)
  rw [hin, htn, hb, fU_self]
  obtain ⟨es, hn, c2, -, -⟩ := (I1.2.2.1 j hj).1 hb
  refine ⟨?_, ?_⟩
  · rintro v u r w ⟨⟨-, rfl⟩, sx, ex, hx, rfl, hH⟩ ⟨hq, -⟩
    obtain ⟨hr, f2, hR, rfl⟩ := hq rfl
    rw [es]
    exact ⟨rfl, by rw [hr], INV.mk ((I1.mono (Nat.le_succ bd)).res hj hb hH) (I2.res hn hR) I3⟩
  · rintro e u r w ⟨⟨rfl, h0⟩, -⟩ -
    exact absurd h0 hn
theorem JN_res0 {j : Nat} {k : Int32} {P : Int32 → Cg → Prop} (hj : j < 2) (hk : k = nI j) (hb : kb j = false) (hP : ∀ r u, ¬ P r u) (I1 : ICp bd n m L kb sm T f B e1 e2 rb hh sl tx) (I2 : IQ n m L kb sm T f B e1 e2 q) (I3 : SLK kb sl) : JN bd P (fun e u => (e = EIS ∧ (0 : Nat) = 0) ∧ ROp m (rb, y) hh sl tx u) (fun r u => ((cdL [(!inB k 0 1, 1), (!kb (tN k), 2)]) = 0 → r = nI (cntG (owb (sm (tN k))) 0 n) ∧ ∃ f, RowR (sm (tN k)) f ∧ u = sG (sG q 0 (upd (upd (q 0) 0 (nI 0)) 5 (nI 0))) 1 f) ∧ (¬ (cdL [(!inB k 0 1, 1), (!kb (tN k), 2)]) = 0 → u = tg q (cdL [(!inB k 0 1, 1), (!kb (tN k), 2)]))) [EIO, EIS] := by
  subst hk
  have hin : inB (nI j) 0 1 = true := inB_mk (by rw [nI_toInt (by omega)]; omega) (by rw [nI_toInt (by omega)]; omega)
  have htn : tN (nI j) = j := tN_nI (by omega)
  rw [hin, htn, hb]
  refine ⟨?_, ?_⟩
  · intro v u r w hp
    exact absurd hp (hP v u)
  · rintro e u r w ⟨⟨rfl, -⟩, sx, ex, rfl⟩ ⟨-, hr⟩
    obtain rfl := hr (by decide)
    exact ⟨1, rfl, by decide, tg00, INV.mk (I1.mono (Nat.le_succ bd)) I2.tg I3⟩
end JSV
theorem in01 {k : Int32} (h : inB k 0 1 = true) : k = nI 0 ∨ k = nI 1 := by
  obtain ⟨j, -, j2, -, rfl⟩ := in_at (v := k) (a := 0) (b := 1) h
  have : j = 0 ∨ j = 1 := by omega
  rcases this with rfl | rfl
  · exact Or.inl rfl
  · exact Or.inr rfl
theorem s_save {l : Launch} (hl : l.stackTraces = false) {κ : Kp} {h : Nat → Nat} {bd : Nat} {x : Cg} {z : G} (hb : 20 ≤ bd ∧ bd ≤ 2000) (I : INV bd x z) (k : Int32) : Stq l κ h bd x z yX5_save cX5_save 2 (some FieldType.int) yX6_save cX6_save 2 [.int k] ri [EIS, EIO] (fun _ => True) := by
  obtain ⟨n, m, L, kb, sm, T, ff, B, e1, e2, s, sT, rb, sr, mT, mr, hh, sl, tx, rfl, I1, I2, I3⟩ := I
  obtain ⟨c, c1, hW⟩ := id I1.1.1
  have e0 : ∀ e (u : Cg) (P : Prop), (e = EIS ∧ n = 0) ∧ P → e ∈ [EIS, EIO] := fun e u P hp => by rw [hp.1.1]; exact List.mem_cons_self
  cases hk : inB k 0 1
  · refine ⟨_, _, _, _, _, _, _, ⟨by decide, by decide, by decide, by decide⟩, c_X5_save_n hl hW hk, c_X6_save hl I2.1 hW, fun e u hp => thN.mem (th3s (cdL_lt (by decide) (fun p hp => by simp only [List.mem_cons, List.not_mem_nil, or_false] at hp; rcases hp with rfl | rfl <;> exact Nat.le_of_ble_eq_true rfl)) hp.1), ⟨fun _ _ _ _ hp => hp.elim, ?_⟩, fun _ _ _ => trivial⟩
    rintro e u r w ⟨ht, sx, ex, rfl⟩ ⟨-, hr⟩
    obtain ⟨i, h1, h2, h3⟩ := th3s (cdL_lt (by decide) (fun p hp => by simp only [List.mem_cons, List.not_mem_nil, or_false] at hp; rcases hp with rfl | rfl <;> exact Nat.le_of_ble_eq_true rfl)) ht
    obtain rfl := hr ht.ne
    exact ⟨i, h1, h2, by rw [tg00, h3], INV.mk (I1.mono (Nat.le_succ bd)) I2.tg I3⟩
  · rcases in01 hk with rfl | rfl
    · exact ⟨_, _, _, _, _, _, _, ⟨by decide, by decide, by decide, by decide⟩, c_X5_save_0 hl hW, c_X6_save hl I2.1 hW, fun e u hp => e0 e u _ hp, JN_save (j := 0) (by decide) rfl I1 I2 I3, fun _ _ _ => trivial⟩
    · exact ⟨_, _, _, _, _, _, _, ⟨by decide, by decide, by decide, by decide⟩, c_X5_save_1 hl hW, c_X6_save hl I2.1 hW, fun e u hp => e0 e u _ hp, JN_save (j := 1) (by decide) rfl I1 I2 I3, fun _ _ _ => trivial⟩
theorem s_restore {l : Launch} (hl : l.stackTraces = false) {κ : Kp} {h : Nat → Nat} {bd : Nat} {x : Cg} {z : G} (hb : 20 ≤ bd ∧ bd ≤ 2000) (I : INV bd x z) (k : Int32) : Stq l κ h bd x z yX5_restore cX5_restore 2 (some FieldType.int) yX6_restore cX6_restore 2 [.int k] ri [EIO, EIS] (fun _ => True) := by
  obtain ⟨n, m, L, kb, sm, T, ff, B, e1, e2, s, sT, rb, sr, mT, mr, hh, sl, tx, rfl, I1, I2, I3⟩ := I
  obtain ⟨c, c1, hW⟩ := id I1.1.1
  have e0 : ∀ e (u : Cg) (P Q : Prop), (e = EIS ∧ Q) ∧ P → e ∈ [EIO, EIS] := fun e u P Q hp => by rw [hp.1.1]; exact List.mem_cons_of_mem _ List.mem_cons_self
  have hs : z 0 2 = nI n := I2.1.2.1
  have hkb := I2.2.2.2.1
  cases hk : inB k 0 1
  · refine ⟨_, _, _, _, _, _, _, ⟨by decide, by decide, by decide, by decide⟩, c_X5_restore_n hl hk, c_X6_restore (kb := kb) (sm := sm) hl hs hW.1 hkb.1 hkb.2, fun e u hp => by rw [hp.1]; exact List.mem_cons_self, ⟨fun _ _ _ _ hp => hp.elim, ?_⟩, fun _ _ _ => trivial⟩
    rintro e u r w ⟨rfl, sx, ex, rfl⟩ ⟨-, hr⟩
    rw [hk] at hr
    obtain rfl := hr (by simp [cdL])
    exact ⟨0, rfl, by decide, tg00, INV.mk (I1.mono (Nat.le_succ bd)) I2.tg I3⟩
  · have hb2 : ∀ j, kb j = true ∨ kb j = false := fun j => by cases kb j <;> simp
    rcases in01 hk with rfl | rfl
    · rcases hb2 0 with hz | hz
      · obtain ⟨es, hn, c2, -, hM⟩ := (I1.2.2.1 0 (by decide)).1 hz
        exact ⟨_, _, _, _, _, _, _, ⟨by decide, by decide, by decide, by decide⟩, c_X5_restore_0 hl (n := 0) (n0 := n) I1.2.1.1 (by rw [es]; exact hM.1.1) hW.1 (by rw [es]; exact hM.2.2.1), c_X6_restore (kb := kb) (sm := sm) hl hs hW.1 hkb.1 hkb.2, fun e u hp => e0 e u _ _ hp, JN_res1 (j := 0) (by decide) rfl hz I1 I2 I3, fun _ _ _ => trivial⟩
      · exact ⟨_, _, _, _, _, _, _, ⟨by decide, by decide, by decide, by decide⟩, c_X5_restore_0 hl (n := 0) (n0 := 0) I1.2.1.1 ((I1.2.2.1 0 (by decide)).2 hz) (by decide) (I3 0 (by decide) hz), c_X6_restore (kb := kb) (sm := sm) hl hs hW.1 hkb.1 hkb.2, fun e u hp => e0 e u _ _ hp, JN_res0 (j := 0) (by decide) rfl hz (fun r u hp => hp.1.1 rfl) I1 I2 I3, fun _ _ _ => trivial⟩
    · rcases hb2 1 with hz | hz
      · obtain ⟨es, hn, c2, -, hM⟩ := (I1.2.2.1 1 (by decide)).1 hz
        exact ⟨_, _, _, _, _, _, _, ⟨by decide, by decide, by decide, by decide⟩, c_X5_restore_1 hl (n := 0) (n0 := n) I1.2.1.1 (by rw [es]; exact hM.1.1) hW.1 (by rw [es]; exact hM.2.2.1), c_X6_restore (kb := kb) (sm := sm) hl hs hW.1 hkb.1 hkb.2, fun e u hp => e0 e u _ _ hp, JN_res1 (j := 1) (by decide) rfl hz I1 I2 I3, fun _ _ _ => trivial⟩
      · exact ⟨_, _, _, _, _, _, _, ⟨by decide, by decide, by decide, by decide⟩, c_X5_restore_1 hl (n := 0) (n0 := 0) I1.2.1.1 ((I1.2.2.1 1 (by decide)).2 hz) (by decide) (I3 1 (by decide) hz), c_X6_restore (kb := kb) (sm := sm) hl hs hW.1 hkb.1 hkb.2, fun e u hp => e0 e u _ _ hp, JN_res0 (j := 1) (by decide) rfl hz (fun r u hp => hp.1.1 rfl) I1 I2 I3, fun _ _ _ => trivial⟩
theorem s_load {l : Launch} (hl : l.stackTraces = false) {κ : Kp} {h : Nat → Nat} {bd : Nat} {x : Cg} {z : G} (hb : 20 ≤ bd ∧ bd ≤ 2000) (I : INV bd x z) (v : Int32) : Stq l κ h bd x z yX5_load cX5_load 3 (some FieldType.int) yX6_load cX6_load 3 [.int v] ri [EIO, EIA] (fun _ => True) := by
  obtain ⟨n, m, L, kb, sm, T, ff, B, e1, e2, s, sT, rb, sr, mT, mr, hh, sl, tx, rfl, I1, I2, I3⟩ := I
  obtain ⟨c, c1, hW⟩ := id I1.1.1
  obtain ⟨hf, h7, hB, hBN⟩ := I1.2.2.2.2.1
  have hq8 := I2.2.2.2.2.2.1
  obtain ⟨P, hP⟩ : ∃ P, parS (rb 13) (tN v) (mr 7) = P := ⟨_, rfl⟩
  have hP2 : parS (z 4) (tN v) (mr 7) = P := by rw [hq8.2, ← hB]; exact hP
  have hJ : JN bd (fun x u => ∃ ru hh2 sl2, inB v 0 ff = true ∧ ok P.1 = true ∧ RXP (rb 13) (tN v) P (nI 0) ru ∧ HS [] hh2 ∧ sl2 0 = clrM (sl 0 7) ∧ sl2 1 = clrM (sl 1 7) ∧ x = P.2.1 0 7 ∧ u = ((s, P.2.1), (sT, mT), ru, hh2, sl2, tx)) (fun e u => (e = EIO ∧ inB v 0 ff = false ∧ u = ((s, m), (sT, mT), (rb, sr, mr), hh, sl, tx)) ∨ (e = EIA ∧ inB v 0 ff = true ∧ ok P.1 = false ∧ ∃ ru, RXP (rb 13) (tN v) P (nI 0) ru ∧ u = ((s, m), (sT, mT), ru, hh, sl, tx))) (fun r u => (inB v 0 ff = false ∧ u = tg z 1) ∨ (inB v 0 ff = true ∧ ok P.1 = false ∧ LDf z P u) ∨ (inB v 0 ff = true ∧ ok P.1 = true ∧ ∃ n, r = nI n ∧ LDo z P n u ∧ PI n P)) [EIO, EIA] := by
    refine ⟨?_, ?_⟩
    · rintro v2 u r w ⟨ru, hh2, sl2, a1, a2, hX, hH, s0, s1, rfl, rfl⟩ hq
      rcases hq with ⟨b1, -⟩ | ⟨-, b2, -⟩ | ⟨-, -, n2, rfl, hL, hPI⟩
      · rw [a1] at b1; cases b1
      · rw [a2] at b2; cases b2
      · rw [hB] at hX
        obtain ⟨co, hM, -, -⟩ := id hPI
        have hn2 : ¬ n2 = 0 := by have := hM.2.2.2.1; omega
        obtain ⟨r1, r2⟩ := ru
        refine ⟨hL.1.1, hM.1.1, INV.mk (ICp.ldo (I1.mono (Nat.le_succ bd)) (by omega) hX hPI hH s0 s1) (I2.ldo hn2 hM.1.2.1 hL) (fun j hj _ => ?_)⟩
        have : j = 0 ∨ j = 1 := by omega
        rcases this with rfl | rfl
        · rw [s0]; exact LK_clr
        · rw [s1]; exact LK_clr
    · rintro e u r w hp hq
      rcases hp with ⟨rfl, a1, rfl⟩ | ⟨rfl, a1, a2, ⟨r1, r2⟩, hX, rfl⟩
      · rcases hq with ⟨-, rfl⟩ | ⟨b1, -⟩ | ⟨b1, -⟩
        · exact ⟨0, rfl, by decide, tg00, INV.mk (I1.mono (Nat.le_succ bd)) I2.tg I3⟩
        · rw [a1] at b1; cases b1
        · rw [a1] at b1; cases b1
      · rcases hq with ⟨b1, -⟩ | ⟨-, -, hL⟩ | ⟨-, b2, -⟩
        · rw [a1] at b1; cases b1
        · rw [hB] at hX
          exact ⟨1, rfl, by decide, hL.1.1, INV.mk (ICp.ldf (I1.mono (Nat.le_succ bd)) hX) (I2.ldf (fun zz => hW.ev zz) hL) I3⟩
        · rw [a2] at b2; cases b2
  have hPI := PI_par (B := rb 13) (k := tN v) hP
  refine ⟨_, _, _, _, _, _, _, ⟨by decide, by decide, by decide, by decide⟩, c_X5_load hl hf h7 hP (PI_LK hPI) I1.2.1.1, c_X6_load hl hq8.1 h7 (by rw [hq8.2]; exact hBN) rfl hP2, fun e u hp => ?_, hJ, fun _ _ _ => trivial⟩
  rcases hp with ⟨rfl, -⟩ | ⟨rfl, -⟩
  · exact List.mem_cons_self
  · exact List.mem_cons_of_mem _ List.mem_cons_self

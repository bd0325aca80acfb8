/-! THE CLAIM OUT OF ONE WALK OF THE LAW'S BODY. Your part is whole_start (and what it stands on); all else here is the same for every law, but numbers. -/
def R_law : String := "CopyDebtsLaw"
def lw_P (b : Addr) (xs : List Int32) (args : Array Value) (s : State) : Prop := args = #[.ref b] ∧ s.IntsAt b xs ∧ xs.length ≤ 3072 ∧ (Jvm.Cond.and given_1 narrow_1).before args s = true
/-- what a walk over the start with the record d0 says of its end, said of the start itself -/
theorem lw_closed {s t : State} {o : Outcome} {d0 : Drawn} {L : List Loc} {k n : Nat} (hd0 : s.drawn.sameBut d0 lw_cs) (hv : ∃ v, o = .returned v) (hW : (s.setDrawn d0).WarmedH t.vm) (hs : (s.setDrawn d0).sameButNew ({ t with vm := s.vm } : State) L k n) : State.butDraws s t lw_cs (fun t1 => Framed s o t1 L k n) := by
  have h2 : t.drawn = d0 := congrArg State.drawn hs.1
  refine ⟨⟨hv, hW, State.sameButNew.setDrawn hs s.drawn⟩, ?_, by decide⟩
  rw [h2]
  exact hd0
def lw_Q (_ : Array Value) (s : State) (o : Outcome) (t : State) : Prop := o = .returned (some (.int 1)) ∧ State.butDraws s t lw_cs (fun t1 => Framed s o t1 [] 601024 7293034)
def lw_Z (below : List Frame) (a : Array Value) (s : State) : State → Prop := fun t => ∃ o, t.status = .running ∧ Ended t below o ∧ lw_Q a s o t
/-- the law's own end, with 1 on the stack, nothing written that was there before, its room as the claim has it; d0: the record of draws at this point (at the entry s.drawn: begin with 'refine W.base ?_' and 'have hd0 := Drawn.sameBut.refl s.drawn lw_cs') -/
theorem lw_ret {p : Program} {l : Launch} {e : Env} {s : State} {m : MethodId} {below : List Frame} {meth : Method} {c : Code} {b : Nat} {d0 : Drawn} (hd0 : s.drawn.sameBut d0 lw_cs) (hx : p.tables.exec = Jvm.exec) (hb : c.code = code) (hr : meth.sig.returnType = ret) (hlocks : meth.locks = false) {pc : Nat} {H : Heap} {ls : Array Slot} (hdg : decode code pc = .ok (.ireturn, 1)) : W p l e room_1 (s.setDrawn d0) m #[Value.ref b] below meth c H [] 601024 7293034 (lw_Z below #[Value.ref b] s) (F0 m pc ls [.int 1]) := by
  intro T hT X
  obtain ⟨fs, hret, hrun, hended, hW, hframe⟩ := X.leave (v := some (.int 1)) (hlocks := hlocks) (fun h => by rw [hr] at h; cases h)
  have hmeth' : T.vm.method? m = some meth := X.method'
  refine ⟨T.setFrames fs, ?_, .returned (some (.int 1)), hrun, hended, rfl, lw_closed hd0 ⟨_, rfl⟩ hW hframe⟩
  jvm_step X.here [X.here.top, hx, hb, hdg, hmeth', hr, ret, narrow_b1]
  (try refine ⟨rfl, ?_⟩); (try refine ⟨rfl, ?_⟩)
  first | (intro acts; rw [hret _ acts rfl rfl rfl]) | rw [hret _ _ rfl rfl rfl]
  exact Steps.refl _
/-- what holds at the law's entry: the machine, the code, the tables' words (any of lw_tbl by 'hts w (by decide +kernel)'), the script of L ints xs at the cell b, what the Statement gives of the start (any of its parts by flat_of_before) -/
def lw_At (p : Program) (s : State) (m : MethodId) (meth : Method) (c : Code) (b L : Nat) (xs : Nat → Int32) : Prop :=
  p.tables.exec = Jvm.exec ∧ c.code = code ∧ meth.sig.returnType = ret ∧ c.maxLocals = 9 ∧ s.vm.findClass R_law = some m.cls ∧ (∀ w ∈ lw_tbl, w.before #[Value.ref b] s = true) ∧ va_X b L xs s s.heap ∧ b < s.heap.size ∧ meth.locks = false ∧ (Jvm.Cond.and given_1 narrow_1).before #[Value.ref b] s = true
/-! rows of the law -/
def Lok (X : Cx) (b L : Nat) (w : Nat → Int32) : Prop := va_X b L w (xs X) (xs X).heap ∧ b < (xs X).heap.size ∧ ¬ xA X b
theorem V.widen {X : Cx} {σ : Type} {Wd : σ → va_W} {pc : Nat} {lo : List (Option Value)} {st : List Value} {g : σ} {k n k2 n2 : Nat} (h1 : k ≤ k2) (h2 : n ≤ n2) (h : V X Wd pc lo st g k2 n2) : V X Wd pc lo st g k n := fun H locs ls hP hD hS hl => W.widen h1 h2 (h H locs ls hP hD hS hl)
theorem lw_retR {p : Program} {l : Launch} {e : Env} {R : Room} {s : State} {m : MethodId} {below : List Frame} {meth : Method} {c : Code} {b : Nat} {d0 : Drawn} (hd0 : s.drawn.sameBut d0 lw_cs) (hx : p.tables.exec = Jvm.exec) (hb : c.code = code) (hr : meth.sig.returnType = ret) (hlocks : meth.locks = false) {pc : Nat} {H : Heap} {ls : Array Slot} (hdg : decode code pc = .ok (.ireturn, 1)) : W p l e R (s.setDrawn d0) m #[Value.ref b] below meth c H [] 601024 7293034 (lw_Z below #[Value.ref b] s) (F0 m pc ls [.int 1]) := by
  intro T hT X
  obtain ⟨fs, hret, hrun, hended, hW, hframe⟩ := X.leave (v := some (.int 1)) (hlocks := hlocks) (fun h => by rw [hr] at h; cases h)
  have hmeth' : T.vm.method? m = some meth := X.method'
  refine ⟨T.setFrames fs, ?_, .returned (some (.int 1)), hrun, hended, rfl, lw_closed hd0 ⟨_, rfl⟩ hW hframe⟩
  jvm_step X.here [X.here.top, hx, hb, hdg, hmeth', hr, ret, narrow_b1]
  (try refine ⟨rfl, ?_⟩); (try refine ⟨rfl, ?_⟩)
  first | (intro acts; rw [hret _ acts rfl rfl rfl]) | rw [hret _ _ rfl rfl rfl]
  exact Steps.refl _
theorem EL_inj {EL : List String} {i j : Nat} {e : String} (hnd : EL.Nodup) (h1 : EL[i]? = some e) (h2 : EL[j]? = some e) : i = j := by
  have hi : i < EL.length := (List.getElem?_eq_some_iff.mp h1).1
  exact (List.getElem?_inj hi hnd).mp (h1.trans h2.symm)
theorem lg_out {o : Nat → Int64} {x y : Int64} (h : x = y) : lg_cmp (vp_updL o 0 x 0) y = 0 := by
  subst h
  rw [show vp_updL o 0 x 0 = x from if_pos rfl]
  exact lg_same
theorem dc_out {o : Nat → UInt64} {x y : UInt64} {op : CmpOp} (h : x = y) (hn : Jvm.FP.Core.val64 x ≠ .nan) : Op.cmpValue (FP.dcmp (vf_upd o 0 x 0) y) op = 0 := by
  subst h
  rw [show vf_upd o 0 x 0 = x from if_pos rfl]
  exact dcmp_same hn
theorem nI_pos3 {i : Nat} (h : i < 3) : ¬ nI (i + 1) = 0 := by
  intro z
  have := nI_inj (a := i + 1) (b := 0) (by omega) (by decide) z
  omega
theorem nd_SOA : ([EIS, EIO, EIA] : List String).Nodup := by decide
theorem nd_SO : ([EIS, EIO] : List String).Nodup := by decide
theorem nd_SA : ([EIS, EIA] : List String).Nodup := by decide
theorem nd_OS : ([EIO, EIS] : List String).Nodup := by decide
theorem nd_OA : ([EIO, EIA] : List String).Nodup := by decide
theorem nd_S : ([EIS] : List String).Nodup := by decide
theorem nd_O : ([EIO] : List String).Nodup := by decide
section VL
variable {S : List SQ} {Ms : List MQ3} {X : Cx} {own : String} {cc : ByteArray} {nL d kc ks : Nat} {σ : Type} {Wd : σ → va_W} {pc : Nat} {lo : List (Option Value)} {st : List Value} {g : σ} {k n b L : Nat} {w : Nat → Int32}
theorem v_sld (C : Ok S Ms X own cc nL d kc ks) (Z : Lok X b L w) {i : Int32} (t : Nat) (hi : i = nI t) (ht : t < L) (hL : L ≤ 3072) (hdg : decode cc pc = .ok (.iaload, 1)) (kk : V X Wd (pc + 1) lo (.int (w t) :: st) g k n) : V X Wd pc lo (.int i :: .ref b :: st) g k n := by
  intro H locs ls hP hD hS hl
  subst hi
  refine va_sld C.1 C.2.1 Z.1 Z.2.1 Z.2.2 hS (in_nI ht (by omega)) hdg ?_
  rw [nI_clamp (by omega)]
  exact kk H locs ls hP hD hS hl
theorem v_slen (C : Ok S Ms X own cc nL d kc ks) (Z : Lok X b L w) (hdg : decode cc pc = .ok (.arraylength, 1)) (kk : V X Wd (pc + 1) lo (.int (nI L) :: st) g k n) : V X Wd pc lo (.ref b :: st) g k n := by
  intro H locs ls hP hD hS hl
  exact va_slen C.1 C.2.1 Z.1 Z.2.1 Z.2.2 hS hdg (kk H locs ls hP hD hS hl)
end VL
/-- one plain call of both -/
def Stz (l : Launch) (κ : Kp) (h : Nat → Nat) (b : Nat) (c : Cg) (q : G) (y : MethodName) (cc : ByteArray) (mx : Nat) (yq : MethodName) (cq : ByteArray) (mq : Nat) (As : List Value) : Prop :=
  ∃ (d dq : Nat) (post : Int32 → Cg → Prop) (pq : Int32 → G → Prop), (d < 20 ∧ dq < 20) ∧ Ct SS MM l κ y cc mx (some .int) d 0 0 (.ref (h 0) :: As) (cS κ h) c ri post (fun _ _ => False) ∧ Ct SS MM l κ yq cq mq (some .int) dq 0 0 (.ref (sh 126 h 0) :: As) (qS κ (sh 126 h)) q ri pq (fun _ _ => False) ∧ ∀ v u r w, post v u → pq r w → v = r ∧ INV (b + 1) u w
section ZS
variable {l : Launch} {κ : Kp} {h : Nat → Nat} {bd : Nat} {x : Cg} {z : G}
theorem z_append (hl : l.stackTraces = false) (I : INV bd x z) (p1 p2 p3 p4 p5 : Int32) : Stz l κ h bd x z yX5_append cX5_append 6 yX6_append cX6_append 8 [.int p1, .int p2, .int p3, .int p4, .int p5] := by
  obtain ⟨n, m, L, kb, sm, T, ff, B, e1, e2, s, sT, rb, sr, mT, mr, hh, sl, tx, rfl, I1, I2, I3⟩ := I
  obtain ⟨hf, h7, hB, hBN⟩ := I1.2.2.2.2.1
  refine ⟨_, _, _, _, ⟨by decide, by decide⟩, c_X5_append hl hf h7, c_X6_append hl I2.2.2.2.2.2.1.1 h7, ?_⟩
  rintro v u r w hp hq
  rcases hp with ⟨a1, rfl, rfl⟩ | ⟨a1, rfl, rfl⟩
  · rcases hq with ⟨-, rfl, rfl⟩ | ⟨b1, -, -⟩
    · exact ⟨rfl, INV.mk (I1.mono (Nat.le_succ bd)) I2.tg I3⟩
    · exact absurd b1 a1
  · rcases hq with ⟨b1, -, -⟩ | ⟨-, rfl, rfl⟩
    · exact absurd a1 b1
    · exact ⟨rfl, INV.mk ((I1.mono (Nat.le_succ bd)).app a1) I2.app I3⟩
theorem z_parseError (hl : l.stackTraces = false) (I : INV bd x z) : Stz l κ h bd x z yX5_parseError cX5_parseError 1 yX6_parseError cX6_parseError 1 [] := by
  obtain ⟨n, m, L, kb, sm, T, ff, B, e1, e2, s, sT, rb, sr, mT, mr, hh, sl, tx, rfl, I1, I2, I3⟩ := I
  refine ⟨_, _, _, _, ⟨by decide, by decide⟩, c_X5_parseError hl, c_X6_parseError hl I2.2.2.2.2.2.2.1, ?_⟩
  rintro v u r w ⟨rfl, rfl⟩ ⟨rfl, rfl⟩
  exact ⟨I1.2.2.2.2.2.1, INV.mk (I1.mono (Nat.le_succ bd)) I2.tg I3⟩
theorem z_errorPosition (hl : l.stackTraces = false) (I : INV bd x z) : Stz l κ h bd x z yX5_errorPosition cX5_errorPosition 1 yX6_errorPosition cX6_errorPosition 1 [] := by
  obtain ⟨n, m, L, kb, sm, T, ff, B, e1, e2, s, sT, rb, sr, mT, mr, hh, sl, tx, rfl, I1, I2, I3⟩ := I
  refine ⟨_, _, _, _, ⟨by decide, by decide⟩, c_X5_errorPosition hl, c_X6_errorPosition hl I2.2.2.2.2.2.2.2, ?_⟩
  rintro v u r w ⟨rfl, rfl⟩ ⟨rfl, rfl⟩
  exact ⟨I1.2.2.2.2.2.2, INV.mk (I1.mono (Nat.le_succ bd)) I2.tg I3⟩
theorem z_buffered (hl : l.stackTraces = false) (I : INV bd x z) : Stz l κ h bd x z yX5_buffered cX5_buffered 1 yX6_buffered cX6_buffered 1 [] := by
  obtain ⟨n, m, L, kb, sm, T, ff, B, e1, e2, s, sT, rb, sr, mT, mr, hh, sl, tx, rfl, I1, I2, I3⟩ := I
  refine ⟨_, _, _, _, ⟨by decide, by decide⟩, c_X5_buffered hl, c_X6_buffered hl I2.2.2.2.2.2.1.1, ?_⟩
  rintro v u r w ⟨rfl, rfl⟩ ⟨rfl, rfl⟩
  exact ⟨I1.2.2.2.2.1.1, INV.mk (I1.mono (Nat.le_succ bd)) I2.tg I3⟩
theorem z_size (hl : l.stackTraces = false) (I : INV bd x z) : Stz l κ h bd x z yX5_size cX5_size 1 yX6_size cX6_size 1 [] := by
  obtain ⟨n, m, L, kb, sm, T, ff, B, e1, e2, s, sT, rb, sr, mT, mr, hh, sl, tx, rfl, I1, I2, I3⟩ := I
  obtain ⟨c, c1, hW⟩ := id I1.1.1
  refine ⟨_, _, _, _, ⟨by decide, by decide⟩, c_X5_size hl, c_X6_size hl I2.1.1 I2.1.2.1, ?_⟩
  rintro v u r w ⟨rfl, rfl⟩ ⟨rfl, rfl⟩
  exact ⟨hW.2.1, INV.mk (I1.mono (Nat.le_succ bd)) I2.tg I3⟩
theorem z_events (hl : l.stackTraces = false) (I : INV bd x z) : Stz l κ h bd x z yX5_events cX5_events 1 yX6_events cX6_events 1 [] := by
  obtain ⟨n, m, L, kb, sm, T, ff, B, e1, e2, s, sT, rb, sr, mT, mr, hh, sl, tx, rfl, I1, I2, I3⟩ := I
  obtain ⟨c, c1, hW⟩ := id I1.1.1
  have he : z 1 399 = m 0 8 := by
    by_cases hn : n = 0
    · rw [I2.2.1 hn, (I1.1.2 hn).2]
    · exact (I2.1.2.2.2 hn).n
  refine ⟨_, _, _, _, ⟨by decide, by decide⟩, c_X5_events hl, c_X6_events hl I2.1.1 he (fun hn => (I1.1.2 hn).2), ?_⟩
  rintro v u r w ⟨rfl, rfl⟩ ⟨rfl, rfl⟩
  exact ⟨rfl, INV.mk (I1.mono (Nat.le_succ bd)) I2.tg I3⟩
theorem z_undoable (hl : l.stackTraces = false) (I : INV bd x z) : Stz l κ h bd x z yX5_undoable cX5_undoable 1 yX6_undoable cX6_undoable 1 [] := by
  obtain ⟨n, m, L, kb, sm, T, ff, B, e1, e2, s, sT, rb, sr, mT, mr, hh, sl, tx, rfl, I1, I2, I3⟩ := I
  refine ⟨_, _, _, _, ⟨by decide, by decide⟩, c_X5_undoable hl I1.2.1.1, c_X6_undoable hl I2.1.1 I2.2.2.1.1 (fun hn => by rw [(I1.1.2 hn).1]; rfl), ?_⟩
  rintro v u r w ⟨rfl, rfl⟩ ⟨rfl, rfl⟩
  exact ⟨rfl, INV.mk (I1.mono (Nat.le_succ bd)) I2.tg I3⟩
end ZS

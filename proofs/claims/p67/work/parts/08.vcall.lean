/-! calls: the callee's world is cut out of the caller's and put back -/
def putL : List Nat → va_W → va_W → va_W
  | i :: is, c :: cs, ws => putL is cs (ws.set i c)
  | [], _, ws => ws
  | _ :: _, [], ws => ws
theorem putL_out : ∀ (is : List Nat) (cs ws : va_W) (j : Nat), j ∉ is → (putL is cs ws)[j]? = ws[j]?
  | [], _, _, _, _ => by unfold putL; rfl
  | _ :: _, [], _, _, _ => by unfold putL; rfl
  | i :: is, c :: cs, ws, j, h => by
    have h1 : j ≠ i := fun e => h (by rw [e]; exact List.mem_cons_self)
    have h2 : j ∉ is := fun e => h (List.mem_cons_of_mem _ e)
    show (putL is cs (ws.set i c))[j]? = ws[j]?
    rw [putL_out is cs _ j h2, List.getElem?_set_ne (Ne.symm h1)]
theorem putL_in : ∀ (is : List Nat) (cs ws : va_W) (j : Nat) (q : Nat × va_E), is.length = cs.length → j ∈ is → is.Nodup → (putL is cs ws)[j]? = some q → ∃ k : Nat, cs[k]? = some q
  | [], _, _, _, _, _, h, _, _ => by cases h
  | _ :: _, [], _, _, _, h, _, _, _ => by cases h
  | i :: is, c :: cs, ws, j, q, hl, hj, hn, h => by
    have h : (putL is cs (ws.set i c))[j]? = some q := h
    have hn1 := List.nodup_cons.mp hn
    by_cases e : j ∈ is
    · obtain ⟨k, hk⟩ := putL_in is cs _ j q (by simpa using hl) e hn1.2 h
      exact ⟨k + 1, by simpa using hk⟩
    · have e2 : j = i := by
        rcases List.mem_cons.mp hj with z | z
        · exact z
        · exact absurd z e
      subst e2
      rw [putL_out is cs _ j e] at h
      by_cases hlt : j < ws.length
      · rw [List.getElem?_set_self hlt] at h
        exact ⟨0, by simpa using h⟩
      · rw [List.getElem?_eq_none (by rw [List.length_set]; omega)] at h
        cases h
/-- the world Wd2 of a callee lies in Wd at the places is -/
def Emb {σ τ : Type} (Wd : σ → va_W) (Wd2 : τ → va_W) (rd : σ → τ) (wr : σ → τ → σ) (is : List Nat) : Prop :=
  FixW Wd ∧ is.Nodup ∧ (∀ g, is.map (fun i => (Wd g)[i]?) = (Wd2 (rd g)).map some) ∧ ∀ g u, is.length = (Wd2 u).length ∧ Wd (wr g u) = putL is (Wd2 u) (Wd g)
section AFT
variable {σ τ : Type} {Wd : σ → va_W} {Wd2 : τ → va_W} {rd : σ → τ} {wr : σ → τ → σ} {is : List Nat} {D : va_G} {cl : List vw_C} {A : Nat → Prop} {H H1 : Heap} {g : σ} {u : τ}
theorem Emb.at (E : Emb Wd Wd2 rd wr is) {k : Nat} {q : Nat × va_E} (h : (Wd2 (rd g))[k]? = some q) : ∃ i, is[k]? = some i ∧ (Wd g)[i]? = some q := by
  have h1 : (is.map (fun i => (Wd g)[i]?))[k]? = some (some q) := by rw [E.2.2.1 g, List.getElem?_map, h]; rfl
  rw [List.getElem?_map] at h1
  cases hi : is[k]? with
  | none => rw [hi] at h1; cases h1
  | some i => rw [hi] at h1; exact ⟨i, rfl, Option.some.inj h1⟩
theorem Emb.P (E : Emb Wd Wd2 rd wr is) (hP : va_P D cl (Wd g) H) : va_P D cl (Wd2 (rd g)) H := by
  intro k q hq
  obtain ⟨i, -, hi⟩ := E.at hq
  exact hP i q hi
theorem Emb.dis (E : Emb Wd Wd2 rd wr is) (hD : va_D A (Wd g)) : va_D (fun _ => True) (Wd2 (rd g)) := by
  refine ⟨fun i j p q hp hq hpq => ?_, fun _ _ _ => trivial⟩
  obtain ⟨i1, a1, a2⟩ := E.at hp
  obtain ⟨i2, b1, b2⟩ := E.at hq
  have := hD.1 i1 i2 p q a2 b2 hpq
  subst this
  have hi : i < is.length := (List.getElem?_eq_some_iff.mp a1).1
  exact (List.getElem?_inj hi E.2.1).mp (a1.trans b1.symm)
theorem Emb.free (E : Emb Wd Wd2 rd wr is) {A0 : Nat → Prop} {H0 : Heap} {locs : List Loc} (hD : va_D A0 (Wd g)) (hS : va_S A0 H0 H locs) (hA : ∀ q, H0.size ≤ q → A0 q) : ∀ q, va_A (Wd2 (rd g)) H.size q → A0 q :=
  va_free hD hS hA is (E.2.2.1 g)
theorem Emb.back (E : Emb Wd Wd2 rd wr is) (hP : va_P D cl (Wd g) H) (hD : va_D A (Wd g)) (hk : ∀ q : Nat, q < H.size → ¬ va_A (Wd2 (rd g)) H.size q → H1[q]? = H[q]?) (hP1 : va_P D cl (Wd2 u) H1) : va_P D cl (Wd (wr g u)) H1 := by
  intro j q hq
  rw [(E.2.2.2 g u).2] at hq
  by_cases hj : j ∈ is
  · obtain ⟨k, hk2⟩ := putL_in _ _ _ j q (E.2.2.2 g u).1 hj E.2.1 hq
    exact hP1 k q hk2
  · rw [putL_out _ _ _ j hj] at hq
    have hl := (hP j q hq).lt
    refine (hP j q hq).kept (hk q.1 hl fun h => ?_)
    rcases h with ⟨k2, e, h⟩ | h
    · obtain ⟨i, h3, h4⟩ := E.at h
      have := hD.1 j i q (q.1, e) hq h4 rfl
      subst this
      exact hj (List.mem_of_getElem? h3)
    · omega
end AFT
/-- a method that can be called by invokevirtual on an object of class Cn (np arguments) -/
def Ym (Cn : String) (y : MethodName) (cc : ByteArray) (maxL : Nat) (ret : Option FieldType) (np : Nat) : Prop :=
  (Cond.instanceMethod y ∈ TT ∧ Cond.selects Cn y y ∈ TT ∧ Cond.initialized Cn ∈ TT ∧ Cond.code y cc maxL ret ∈ TT) ∧ y.cls = Cn ∧ y.cls ≠ "java/lang/invoke/MethodHandle" ∧ y.cls ≠ "java/lang/invoke/VarHandle" ∧ (parseMethodDescriptor y.desc).map (fun d => d.parameters.length) = some np ∧ maxL ≤ 40
/-- .. by invokestatic, from its own class -/
def Ys (y : MethodName) (cc : ByteArray) (maxL : Nat) (ret : Option FieldType) (np : Nat) : Prop :=
  (Cond.static y ∈ TT ∧ Cond.initialized y.cls ∈ TT ∧ Cond.code y cc maxL ret ∈ TT) ∧ y.cls ≠ "java/lang/invoke/MethodHandle" ∧ y.cls ≠ "java/lang/invoke/VarHandle" ∧ (parseMethodDescriptor y.desc).map (fun d => d.parameters.length) = some np ∧ maxL ≤ 40
theorem TT_in (ws : List Cond) (h : ∀ w ∈ ws, w ∈ TT) : GoodIn TT ws := fun w hw => ⟨h w hw, TT_good w (h w hw)⟩
theorem wT_in {y : MethodName} {cc : ByteArray} {maxL : Nat} {ret : Option FieldType} (h : Cond.code y cc maxL ret ∈ TT) : ∀ w ∈ wT y cc maxL ret, w ∈ TT := fun w hw => (List.mem_cons.mp hw).elim (fun e => by rw [e]; exact h) id
section VC
variable {S : List SQ} {Ms : List MQ3} {X : Cx} {own : String} {cc : ByteArray} {nL d kc ks : Nat} {σ : Type} {Wd : σ → va_W} {pc : Nat} {lo : List (Option Value)} {st : List Value} {g : σ} {k n : Nat}
variable {y : MethodName} {bytes : ByteArray} {maxL : Nat} {ret : Option FieldType} {d2 mc ms : Nat} {σ2 ρ : Type} {Wd2 : σ2 → va_W} {g2 : σ2} {res : ρ → Option Value} {post : ρ → σ2 → Prop} {px : String → σ2 → Prop} {rd : σ → σ2} {wr : σ → σ2 → σ} {is : List Nat} {rest : List Value}
/-- behind a call's run -/
theorem v_call0 (C : Ok S Ms X own cc nL d kc ks) (E : Emb Wd Wd2 rd wr is) {a : Array Value}
    (hr : ∀ (H : Heap) (locs : List Loc) (ls : Array Slot), va_P (xK X).1 vwCl (Wd g) H → va_D (xA X) (Wd g) → va_S (xA X) (xs X).heap H locs → lv_has ls lo.length (lq 0 lo) →
      vx_Run (xp X) (xl X) (xe X) (xR X) (xs X) (xm X) (xa X) (xb X) (xM X) (xc X) H locs k n mc ms (F0 (xm X) pc ls st) rest (Qn (xK X) Wd2 (va_A (Wd2 (rd g)) H.size) res post a) (QX (xK X) Wd2 (va_A (Wd2 (rd g)) H.size) px) (va_A (Wd2 (rd g)) H.size))
    (kx : ∀ e u, px e u → VX X Wd pc lo e rest (wr g u) (k + mc) (n + ms)) (kk : ∀ r u, post r u → V X Wd (pc + 3) lo ((res r).toList ++ rest) (wr g u) (k + mc) (n + ms)) : V X Wd pc lo st g k n := by
  intro H locs ls hP hD hS hl T hT X0
  have hF := E.free hD hS C.2.2.2.2.2.2.1
  rcases hr H locs ls hP hD hS hl T hT X0 with ⟨v, st₀, t, T', L, h0, X', hL, e1, e2, ⟨⟨r, u, hv, hp, hP1⟩, hFr⟩, goes⟩ | ⟨q, st₀, t, T', L, e, ce, h0, X', hL, e1, e2, ⟨⟨u, hp, hP1⟩, hFr⟩, hce, hcv, hcl, steps⟩
  · cases hv
    obtain ⟨-, k2, k3⟩ := vx_keep h0 e1 hS (fun q _ h => hF q h) hF hL hFr
    have hP2 : va_P (xK X).1 vwCl (Wd (wr g u)) T'.heap := E.back hP hD k2 (by rw [e1]; exact hP1)
    obtain ⟨t2, a1, b1⟩ := kk r u hp T'.heap (locs ++ L) ls hP2 (hD.fix (E.1 _ _)) k3 hl T' rfl X'
    exact ⟨t2, goes t2 a1, b1⟩
  · obtain ⟨-, k2, k3⟩ := vx_keep h0 e1 hS (fun q _ h => hF q h) hF hL hFr
    have hP2 : va_P (xK X).1 vwCl (Wd (wr g u)) T'.heap := E.back hP hD k2 (by rw [e1]; exact hP1)
    obtain ⟨t2, a1, b1⟩ := kx e u hp T'.heap (locs ++ L) ls q ce hP2 (hD.fix (E.1 _ _)) k3 hl (by rw [e1]; exact hce) hcv hcl T' rfl X'
    exact ⟨t2, steps.trans a1, b1⟩
theorem v_pre (C : Ok S Ms X own cc nL d kc ks) (E : Emb Wd Wd2 rd wr is) {H : Heap} {locs : List Loc} (hP : va_P (xK X).1 vwCl (Wd g) H) (hD : va_D (xA X) (Wd g)) (hS : va_S (xA X) (xs X).heap H locs) {U : State} (hU : U.heap = H) (hW : (xs X).WarmedH U.vm) : PreB S Ms (xK X) Wd2 (rd g) H.size U := by
  have hF := E.free hD hS C.2.2.2.2.2.2.1
  refine ⟨by rw [hU], by rw [hU]; exact E.P hP, va_K.moved hW.alike C.2.2.2.2.2.1, E.dis hD, ?_⟩
  rw [hU]
  exact EV.warm hW (EV.narrow (EV.kept C.2.2.2.2.2.2.2.2.2.2 hS.2.1) hF)
theorem rm_fits {d d2 mc ms kc ks maxL : Nat} (hd : d2 < d) (hm : maxL ≤ 40) : (rmL d2 mc ms).frames + 1 ≤ (rmL d kc ks).frames ∧ 8 + (maxL + 11) + (rmL d2 mc ms).locals ≤ (rmL d kc ks).locals := by
  constructor
  · show 10 + d2 + 1 ≤ 10 + d
    omega
  · show 8 + (maxL + 11) + (300 + 100 * d2) ≤ 300 + 100 * d
    omega
theorem v_callV (C : Ok S Ms X own cc nL d kc ks) {Cn : String} {As : List Value} {b idx ci : Nat} {fs : List Value} {T : u_T} {N : Nat}
    (M : Ct S Ms (xl X) (xK X) y bytes maxL ret d2 mc ms (.ref b :: As) Wd2 g2 res post px) (Y : Ym Cn y bytes maxL ret As.length) (lk : Cond.methodLink own idx y ∈ TT) (E : Emb Wd Wd2 rd wr is) (hg2 : rd g = g2)
    (F2 : (Wd2 g2)[0]? = some (b, .inr (ci, fs))) (hci : vwCl[ci]? = some (Cn, T, N)) (hlo : lo.length = nL) (hst : st = As.reverse ++ .ref b :: rest) (hdg : decode cc pc = .ok (.invokevirtual idx, 3)) (hd : d2 < d) (hk : k + mc ≤ kc) (hn : n + ms ≤ ks) (hW : (rest.map fun v => v.category).sum ≤ 8)
    (kx : ∀ e u, px e u → VX X Wd pc lo e rest (wr g u) (k + mc) (n + ms)) (kk : ∀ r u, post r u → V X Wd (pc + 3) lo ((res r).toList ++ rest) (wr g u) (k + mc) (n + ms)) : V X Wd pc lo st g k n := by
  subst hg2
  refine v_call0 C E (a := (Value.ref b :: As).toArray) (fun H locs ls hP hD hS hl => ?_) kx kk
  have hT : GoodIn TT (wsV own idx Cn y (wT y bytes maxL ret)) := TT_in _ (fun w hw => by
    rcases List.mem_append.mp hw with h | h
    · simp only [List.mem_cons, List.not_mem_nil, or_false] at h
      rcases h with rfl | rfl | rfl | rfl
      · exact lk
      · exact Y.1.1
      · exact Y.1.2.1
      · exact Y.1.2.2.1
    · exact wT_in Y.1.2.2.2 w h)
  have cw := cwV (R := xR X) (rm := rmL d2 mc ms) (mc := mc) (ms := ms) (bytes := bytes) (maxL := maxL) (ret := ret) (ws := wT y bytes maxL ret) As.length C.2.2.2.2.1 hT rfl rfl rfl ⟨Y.2.1, Y.2.2.1, Y.2.2.2.1, Y.2.2.2.2.1⟩ (by rw [C.2.2.2.2.2.2.2.2.2.1]; exact rm_fits hd Y.2.2.2.2.2)
  refine vx_runV (nL := nL) (Ts := TT) (b := b) (As := As) ⟨C.1, C.2.1, C.2.2.1, C.2.2.2.1, C.2.2.2.2.1⟩ (M H.size) cw ⟨PreB.blind, va_recv C.2.2.2.2.2.1 (E.P hP) hci F2, fun U hU hW => ⟨rfl, v_pre C E hP hD hS hU hW⟩⟩ rfl rfl (by rw [← hlo]; exact hl.1) hst (by simpa using hW) hdg ?_
  rw [C.2.2.2.2.2.2.2.2.2.1]
  exact ⟨hk, hn⟩
theorem v_callS (C : Ok S Ms X own cc nL d kc ks) {As : List Value} {idx : Nat}
    (M : Ct S Ms (xl X) (xK X) y bytes maxL ret d2 mc ms As Wd2 g2 res post px) (Y : Ys y bytes maxL ret As.length) (hyo : y.cls = own) (lk : Cond.methodLink own idx y ∈ TT) (E : Emb Wd Wd2 rd wr is) (hg2 : rd g = g2)
    (hlo : lo.length = nL) (hst : st = As.reverse ++ rest) (hdg : decode cc pc = .ok (.invokestatic idx, 3)) (hd : d2 < d) (hk : k + mc ≤ kc) (hn : n + ms ≤ ks) (hW : (rest.map fun v => v.category).sum ≤ 8)
    (kx : ∀ e u, px e u → VX X Wd pc lo e rest (wr g u) (k + mc) (n + ms)) (kk : ∀ r u, post r u → V X Wd (pc + 3) lo ((res r).toList ++ rest) (wr g u) (k + mc) (n + ms)) : V X Wd pc lo st g k n := by
  subst hg2
  refine v_call0 C E (a := As.toArray) (fun H locs ls hP hD hS hl => ?_) kx kk
  have hT : GoodIn TT (wsS own idx y (wT y bytes maxL ret)) := TT_in _ (fun w hw => by
    rcases List.mem_append.mp hw with h | h
    · simp only [List.mem_cons, List.not_mem_nil, or_false] at h
      rcases h with rfl | rfl | rfl
      · exact lk
      · exact Y.1.1
      · rw [← hyo]; exact Y.1.2.1
    · exact wT_in Y.1.2.2 w h)
  have cw := cwS (R := xR X) (rm := rmL d2 mc ms) (mc := mc) (ms := ms) (bytes := bytes) (maxL := maxL) (ret := ret) (ws := wT y bytes maxL ret) As.length C.2.2.2.2.1 hT rfl rfl rfl ⟨hyo, Y.2.1, Y.2.2.1, Y.2.2.2.1⟩ (by rw [C.2.2.2.2.2.2.2.2.2.1]; exact rm_fits hd Y.2.2.2.2)
  refine vx_runS (nL := nL) (Ts := TT) (As := As) ⟨C.1, C.2.1, C.2.2.1, C.2.2.2.1, C.2.2.2.2.1⟩ (M H.size) cw ⟨PreB.blind, fun U hU hW => ⟨rfl, v_pre C E hP hD hS hU hW⟩⟩ rfl rfl (by rw [← hlo]; exact hl.1) hst (by simpa using hW) hdg ?_
  rw [C.2.2.2.2.2.2.2.2.2.1]
  exact ⟨hk, hn⟩
end VC
/-- what a throw with a message stands on -/
def Thr (own : String) (ik ic : Nat) (cls : String) (names : List String) : Prop :=
  Bundle.fit cls = true ∧ (∀ z ∈ names, Bundle.fit z = true) ∧ Cond.classLink own ik cls ∈ TT ∧ Cond.initialized cls ∈ TT ∧ (∀ w ∈ vx_atS own ic cls names, w ∈ TT ∨ w ∈ TD) ∧ (∀ w ∈ Cond.classLink own ik cls :: Cond.initialized cls :: vx_atS own ic cls names, vx_ot w = true) ∧ names.length ≤ 4
theorem TD_on {w : Cond} (h : w ∈ TD) : w.onTables = true := by
  have h2 : isD w = true := (List.mem_filter.mp h).2
  cases w <;> first | (cases h2; done) | rfl
section VT
variable {S : List SQ} {Ms : List MQ3} {X : Cx} {own : String} {cc : ByteArray} {nL d kc ks : Nat} {σ ρ : Type} {Wd : σ → va_W} {pc : Nat} {lo : List (Option Value)} {st : List Value} {g : σ} {k n : Nat} {ret : Option FieldType} {res : ρ → Option Value} {post : ρ → σ → Prop} {px : String → σ → Prop}
theorem v_throw (C : Ok S Ms X own cc nL d kc ks) (N : NoH X) (F : FinM X ret Wd res post px kc ks) {ik is ic : Nat} {cls text : String} {names : List String} (Z : Thr own ik ic cls names) (hm : (own, is, text) ∈ Ms) (hlo : lo.length = nL)
    (d0 : decode cc pc = .ok (.new ik, 3)) (d3 : decode cc (pc + 3) = .ok (.dup, 1)) (d4 : decode cc (pc + 4) = .ok (.ldc is, 2)) (d6 : decode cc (pc + 6) = .ok (.invokespecial ic, 3)) (d9 : decode cc (pc + 9) = .ok (.athrow, 1))
    (hst : (st.map fun v => v.category).sum ≤ 8) (hk : k + 1 ≤ kc) (hn : n + 6 ≤ ks) (hp : px cls g) : V X Wd pc lo st g k n := by
  intro H locs ls hP hD hS hl
  obtain ⟨a, ha⟩ := C.2.2.2.2.2.2.2.2.2.2.2.2.2.2.1 _ hm
  have hTD := C.2.2.2.2.2.2.2.2.2.2.2.2.1
  have hR := C.2.2.2.2.2.2.2.2.2.1
  have hnl := Z.2.2.2.2.2.2
  unfold xW
  rw [F.2]
  refine vx_throwS (ik := ik) (is := is) (ic := ic) (cls := cls) (text := text) (names := names) C.1 C.2.1 C.2.2.2.2.2.2.2.2.1 C.2.2.2.1 Z.1 Z.2.1 (C.2.2.2.2.1 _ Z.2.2.1) (C.2.2.2.2.1 _ Z.2.2.2.1) ha (fun w hw => ?_) Z.2.2.2.2.2.1 C.2.2.2.2.2.2.2.2.2.2.1 C.2.2.2.2.2.2.2.2.2.2.2.1 hS (by rw [C.2.2.1, ← hlo]; exact hl.1) d0 d3 d4 d6 d9 (fun x hx => (N x hx).elim) ?_ ?_ ?_ ?_ C.2.2.2.2.2.2.2.1 (fun t hvm hz hq => ⟨⟨g, hp, fun i q hq2 => (hP i q hq2).kept (hq _ (hP i q hq2).lt)⟩, ?_⟩) hS.2.2 hk hn
  · rcases Z.2.2.2.2.1 w hw with h | h
    · exact C.2.2.2.2.1 w h
    · exact va_Nw.use (TD_on h) (hTD w h)
  · rw [hR]
    show names.length + 3 < 10 + d
    omega
  · rw [hR]
    show _ ≤ 300 + 100 * d
    omega
  · rw [hR]; exact hk
  · rw [hR]; exact hn
  · refine ⟨Nat.le_trans hS.1 hz, fun q h1 h2 => ?_⟩
    rw [hq q (Nat.lt_of_lt_of_le h1 hS.1)]
    exact hS.2.1 q h1 h2
theorem v_throwW (C : Ok S Ms X own cc nL d kc ks) (N : NoH X) (F : FinM X ret Wd res post px kc ks) {ik is ic : Nat} {cls text : String} {names : List String} (Z : Thr own ik ic cls names) (hm : (own, is, text) ∈ Ms) (hlo : lo.length = nL)
    (d0 : decode cc pc = .ok (.new ik, 3)) (d3 : decode cc (pc + 3) = .ok (.dup, 1)) (d4 : decode cc (pc + 4) = .ok (.ldc_w is, 3)) (d6 : decode cc (pc + 7) = .ok (.invokespecial ic, 3)) (d9 : decode cc (pc + 10) = .ok (.athrow, 1))
    (hst : (st.map fun v => v.category).sum ≤ 8) (hk : k + 1 ≤ kc) (hn : n + 6 ≤ ks) (hp : px cls g) : V X Wd pc lo st g k n := by
  intro H locs ls hP hD hS hl
  obtain ⟨a, ha⟩ := C.2.2.2.2.2.2.2.2.2.2.2.2.2.2.1 _ hm
  have hTD := C.2.2.2.2.2.2.2.2.2.2.2.2.1
  have hR := C.2.2.2.2.2.2.2.2.2.1
  have hnl := Z.2.2.2.2.2.2
  unfold xW
  rw [F.2]
  refine vx_throwSW (ik := ik) (is := is) (ic := ic) (cls := cls) (text := text) (names := names) C.1 C.2.1 C.2.2.2.2.2.2.2.2.1 C.2.2.2.1 Z.1 Z.2.1 (C.2.2.2.2.1 _ Z.2.2.1) (C.2.2.2.2.1 _ Z.2.2.2.1) ha (fun w hw => ?_) Z.2.2.2.2.2.1 C.2.2.2.2.2.2.2.2.2.2.1 C.2.2.2.2.2.2.2.2.2.2.2.1 hS (by rw [C.2.2.1, ← hlo]; exact hl.1) d0 d3 d4 d6 d9 (fun x hx => (N x hx).elim) ?_ ?_ ?_ ?_ C.2.2.2.2.2.2.2.1 (fun t hvm hz hq => ⟨⟨g, hp, fun i q hq2 => (hP i q hq2).kept (hq _ (hP i q hq2).lt)⟩, ?_⟩) hS.2.2 hk hn
  · rcases Z.2.2.2.2.1 w hw with h | h
    · exact C.2.2.2.2.1 w h
    · exact va_Nw.use (TD_on h) (hTD w h)
  · rw [hR]
    show names.length + 3 < 10 + d
    omega
  · rw [hR]
    show _ ≤ 300 + 100 * d
    omega
  · rw [hR]; exact hk
  · rw [hR]; exact hn
  · refine ⟨Nat.le_trans hS.1 hz, fun q h1 h2 => ?_⟩
    rw [hq q (Nat.lt_of_lt_of_le h1 hS.1)]
    exact hS.2.1 q h1 h2
end VT

/-! calls of a superclass's methods; arrays that are cloned or copied -/
def SelOK (Cn : String) (x y : MethodName) : Prop := Cond.selects Cn x y ∈ TT ∨ Cond.selects Cn x y ∈ TSel
/-- method y, found for x on an object of class Cn, declared (or overridden) below owner -/
def Yu (Cn owner : String) (x y : MethodName) (cc : ByteArray) (maxL : Nat) (ret : Option FieldType) (np : Nat) : Prop :=
  (Cond.sameMethod x.cls owner x.name x.desc ∈ TT ∧ SelOK Cn x y ∧ Cond.instanceMethod y ∈ TT ∧ Cond.initialized y.cls ∈ TT ∧ Cond.code y cc maxL ret ∈ TT) ∧ (Cond.instanceMethod ⟨owner, x.name, x.desc⟩ ∈ TT ∧ ∃ (b0 : ByteArray) (m0 : Nat) (r0 : Option FieldType), Cond.code ⟨owner, x.name, x.desc⟩ b0 m0 r0 ∈ TT) ∧ (owner ≠ "java/lang/invoke/MethodHandle" ∧ owner ≠ "java/lang/invoke/VarHandle" ∧ (parseMethodDescriptor x.desc).map (fun d => d.parameters.length) = some np) ∧ maxL ≤ 40
/-- super.y -/
def Ysu (own : String) (y : MethodName) (cc : ByteArray) (maxL : Nat) (ret : Option FieldType) (np : Nat) : Prop :=
  (Cond.sameMethod y.cls y.cls y.name y.desc ∈ TT ∧ Cond.superclass own y.cls ∈ TT ∧ Cond.instanceMethod y ∈ TT ∧ Cond.initialized y.cls ∈ TT ∧ Cond.code y cc maxL ret ∈ TT) ∧ (y.name ≠ "<init>" ∧ (parseMethodDescriptor y.desc).map (fun d => d.parameters.length) = some np) ∧ maxL ≤ 40
section VSUP
variable {S : List SQ} {Ms : List MQ3} {X : Cx} {own : String} {cc : ByteArray} {nL d kc ks : Nat} {K : va_W → va_W} {pc : Nat} {lo : List (Option Value)} {st : List Value} {k n : Nat} {ws ws2 wsC : va_W} {ρ : Type} {res : ρ → Option Value} {post : ρ → va_W → Prop} {px : String → va_W → Prop}
variable {y : MethodName} {bytes : ByteArray} {maxL : Nat} {ret : Option FieldType} {d2 mc ms : Nat} {rest : List Value}
theorem sel_use (C : Ok S Ms X own cc nL d kc ks) {Cn : String} {x y : MethodName} (h : SelOK Cn x y) : (Cond.selects Cn x y).before (xa X) (xs X) = true := by
  rcases h with h | h
  · exact C.2.2.2.2.1 _ h
  · exact va_Nw.use rfl ((okDG C).2.2.2.2.2.2.2 _ h)
theorem v_gU (C : Ok S Ms X own cc nL d kc ks) (hK : Cxt K) {Cn owner : String} {x : MethodName} {As : List Value} {b idx ci : Nat} {fs : List Value} {T : u_T} {N : Nat} (c : Nat)
    (M : CtG S Ms (xl X) (xK X) y bytes maxL ret d2 mc ms (.ref b :: As) wsC res post px) (Y : Yu Cn owner x y bytes maxL ret As.length) (lk : Cond.methodLink own idx x ∈ TT)
    (F2 : wsC[c]? = some (b, .inr (ci, fs))) (hci : vwCl[ci]? = some (Cn, T, N)) (hlo : lo.length = nL) (hst : st = As.reverse ++ .ref b :: rest) (hdg : decode cc pc = .ok (.invokevirtual idx, 3)) (hd : d2 < d) (hk : k + mc ≤ kc) (hn : n + ms ≤ ks) (hW : (rest.map fun v => v.category).sum ≤ 8)
    (kx : ∀ e u, px e u → VX X iW pc lo e rest (K u) (k + mc) (n + ms)) (kk : ∀ r u, post r u → V X iW (pc + 3) lo ((res r).toList ++ rest) (K u) (k + mc) (n + ms)) : V X iW pc lo st (K wsC) k n := by
  refine v_gK hK (fun R kx kk => v_g0 C (a := (Value.ref b :: As).toArray) (fun H locs ls hP hD hS hl => ?_) kx kk) kx kk
  obtain ⟨⟨y1, y2, y3, y4, y5⟩, ⟨z1, b0, m0, r0, z2⟩, ⟨o1, o2, o3⟩, y6⟩ := Y
  have hRm := C.2.2.2.2.2.2.2.2.2.1
  have hTT := C.2.2.2.2.1
  have hG : GoodIn TT (wT y bytes maxL ret) := TT_in _ (wT_in y5)
  have hfit := rm_fits (mc := mc) (ms := ms) (kc := kc) (ks := ks) hd y6
  have cw : va_CU (xR X) (xs X) (xa X) own Cn owner idx x y bytes maxL ret (wT y bytes maxL ret) (rmL d2 mc ms) mc ms As.length := by
    refine ⟨⟨rfl, rfl, by rw [hRm]; exact hfit.1, by rw [hRm]; exact hfit.2, pay_in hTT hG, List.mem_cons_self⟩, hTT _ y5, hTT _ y4, ⟨o1, o2⟩, fun sig h => ?_, hTT _ lk, hTT _ y1, va_Decl.of (hTT _ z1) (hTT _ z2), sel_use C y2, hTT _ y3⟩
    rw [h] at o3
    exact (Option.some.inj o3).symm
  refine vx_runU (nL := nL) (Ts := TT) (b := b) (As := As) ⟨C.1, C.2.1, C.2.2.1, C.2.2.2.1, C.2.2.2.2.1⟩ (M H.size) cw ⟨PreB.blind, va_recv C.2.2.2.2.2.1 hP hci (app_at F2), fun U hU hW => ⟨rfl, gr_pre C hP hD hS hU hW⟩⟩ rfl rfl (by rw [← hlo]; exact hl.1) hst (by simpa using hW) hdg ?_
  rw [hRm]
  exact ⟨hk, hn⟩
theorem v_gW (C : Ok S Ms X own cc nL d kc ks) (hK : Cxt K) {Cn : String} {As : List Value} {b idx ci : Nat} {fs : List Value} {T : u_T} {N : Nat} (c : Nat)
    (M : CtG S Ms (xl X) (xK X) y bytes maxL ret d2 mc ms (.ref b :: As) wsC res post px) (Y : Ysu own y bytes maxL ret As.length) (lk : Cond.methodLink own idx y ∈ TT)
    (F2 : wsC[c]? = some (b, .inr (ci, fs))) (hci : vwCl[ci]? = some (Cn, T, N)) (hlo : lo.length = nL) (hst : st = As.reverse ++ .ref b :: rest) (hdg : decode cc pc = .ok (.invokespecial idx, 3)) (hd : d2 < d) (hk : k + mc ≤ kc) (hn : n + ms ≤ ks) (hW : (rest.map fun v => v.category).sum ≤ 8)
    (kx : ∀ e u, px e u → VX X iW pc lo e rest (K u) (k + mc) (n + ms)) (kk : ∀ r u, post r u → V X iW (pc + 3) lo ((res r).toList ++ rest) (K u) (k + mc) (n + ms)) : V X iW pc lo st (K wsC) k n := by
  refine v_gK hK (fun R kx kk => v_g0 C (a := (Value.ref b :: As).toArray) (fun H locs ls hP hD hS hl => ?_) kx kk) kx kk
  obtain ⟨⟨y1, y2, y3, y4, y5⟩, ⟨o1, o2⟩, y6⟩ := Y
  have hRm := C.2.2.2.2.2.2.2.2.2.1
  have hTT := C.2.2.2.2.1
  have hG : GoodIn TT (wT y bytes maxL ret) := TT_in _ (wT_in y5)
  have hfit := rm_fits (mc := mc) (ms := ms) (kc := kc) (ks := ks) hd y6
  have cw : va_CS (xR X) (xs X) (xa X) own idx y bytes maxL ret (wT y bytes maxL ret) (rmL d2 mc ms) mc ms As.length := by
    refine ⟨⟨rfl, rfl, by rw [hRm]; exact hfit.1, by rw [hRm]; exact hfit.2, pay_in hTT hG, List.mem_cons_self⟩, hTT _ lk, hTT _ y1, hTT _ y2, hTT _ y3, hTT _ y4, hTT _ y5, o1, fun sig h => ?_⟩
    rw [h] at o2
    exact (Option.some.inj o2).symm
  refine vx_runSU (C := Cn) (nL := nL) (Ts := TT) (b := b) (As := As) (C.2.2.2.2.2.1.1 ci _ hci).2 ⟨C.1, C.2.1, C.2.2.1, C.2.2.2.1, C.2.2.2.2.1⟩ (M H.size) cw ⟨PreB.blind, va_recv C.2.2.2.2.2.1 hP hci (app_at F2), fun U hU hW => ⟨rfl, gr_pre C hP hD hS hU hW⟩⟩ rfl rfl (by rw [← hlo]; exact hl.1) hst (by simpa using hW) hdg ?_
  rw [hRm]
  exact ⟨hk, hn⟩
end VSUP

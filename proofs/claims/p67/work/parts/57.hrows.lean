section LSF
variable {κ : Kp} {h : Nat → Nat}
end LSF
def HT (X : Cx) (hh : List (Nat × Nat × Nat × Nat)) : Prop := (xc X).exceptionTable.toList = tableOf hh
theorem CtH.of {S : List SQ} {Ms : List MQ3} {l : Launch} {κ : Kp} {y : MethodName} {cc : ByteArray} {maxL : Nat} {ret : Option FieldType} {hh : List (Nat × Nat × Nat × Nat)} {d mc ms : Nat} {as : List Value} {σ ρ : Type} {Wd : σ → va_W} {g : σ} {res : ρ → Option Value} {post : ρ → σ → Prop} {px : String → σ → Prop} {own : String} (hy : plainName y.cls = true) (hown : y.cls = own) (hl : l.stackTraces = false) (hcat : ∀ v ∈ as, v.category = 1) (hlen : as.length ≤ maxL)
    (body : ∀ X : Cx, xl X = l → xK X = κ → Ok S Ms X own cc maxL d mc ms → FinM X ret Wd res post px mc ms → HT X hh → V X Wd 0 (as.map some ++ List.replicate (maxL - as.length) none) [] g 0 0) : CtH S Ms l κ y cc maxL ret hh d mc ms as Wd g res post px := by
  intro sz
  refine vx_ofWH (cc := cc) (maxL := maxL) (ret := ret) (hh := hh) hy rfl ?_
  intro p e s m args below meth c s₁ B hml hv
  obtain ⟨rfl, hsz, hP, hK, hD0, hE⟩ := hv
  have hts := atoms_spec (ws := wH y cc maxL ret hh) B.pre
  have hown2 : s.vm.findClass own = some m.cls := by rw [← hown]; exact findClass_of_methodNamed B.named
  have hT : c.exceptionTable.toList = tableOf hh := vx_table (x := y) B (hts _ List.mem_cons_self)
  subst hsz
  have hD := hD0.self (sz := s.heap.size)
  have X1 := body (p, l, e, (headSpec (wH y cc maxL ret hh) (rmL d mc ms)).room, s, m, as.toArray, below, meth, c, vx_MQ below (Qn κ Wd (va_A (Wd g) s.heap.size) res post) (QX κ Wd (va_A (Wd g) s.heap.size) px) as.toArray s mc ms (va_A (Wd g) s.heap.size), va_A (Wd g) s.heap.size, κ) rfl rfl
    ⟨B.exec, B.bytes, hml, hown2, fun w hw => hts w (List.mem_cons_of_mem _ hw), hK, fun q h => Or.inr h, B.notSynchronized, hl, rfl, hE⟩ ⟨B.returns, rfl⟩ hT
  have hll := lg_len as hcat
  have hl0 := lv_entry as (n := maxL) (by rw [hll]; exact hlen)
  rw [lg_entry_eq]
  refine X1 s.heap [] _ hP hD va_S.rf ?_
  have : (as.map some ++ List.replicate (maxL - as.length) (none : Option Value)).length = maxL := by simp; omega
  rw [this]
  exact hl0.mono (fun q hq => lq_args as 0 hcat _ q hq)
/-- a static method with a table of handlers that can be called from its own class -/
def YsH (y : MethodName) (cc : ByteArray) (maxL : Nat) (ret : Option FieldType) (hh : List (Nat × Nat × Nat × Nat)) (np : Nat) : Prop :=
  (Cond.static y ∈ TT ∧ Cond.initialized y.cls ∈ TT ∧ Cond.codeWith y cc maxL ret hh ∈ TT) ∧ y.cls ≠ "java/lang/invoke/MethodHandle" ∧ y.cls ≠ "java/lang/invoke/VarHandle" ∧ (parseMethodDescriptor y.desc).map (fun d => d.parameters.length) = some np ∧ maxL ≤ 40
theorem wH_in {y : MethodName} {cc : ByteArray} {maxL : Nat} {ret : Option FieldType} {hh : List (Nat × Nat × Nat × Nat)} (h : Cond.codeWith y cc maxL ret hh ∈ TT) : ∀ w ∈ wH y cc maxL ret hh, w ∈ TT := fun w hw => (List.mem_cons.mp hw).elim (fun e => by rw [e]; exact h) id
/-- which handler takes it -/
def Hk (own : String) (E : String) (name : String) (ct : Nat) : Prop := Cond.classLink own ct name ∈ TT
section VHH
variable {S : List SQ} {Ms : List MQ3} {X : Cx} {own : String} {cc : ByteArray} {nL d kc ks : Nat} {σ : Type} {Wd : σ → va_W} {pc : Nat} {lo : List (Option Value)} {st : List Value} {g : σ} {k n : Nat}
theorem v_catch (C : Ok S Ms X own cc nL d kc ks) {E : String} {hh : List (Nat × Nat × Nat × Nat)} (T : HT X hh) (pre : List (Nat × Nat × Nat × Nat)) (a b hp ct : Nat) (suf : List (Nat × Nat × Nat × Nat)) (hs : hh = pre ++ (a, b, hp, ct) :: suf)
    (hpre : ∀ z ∈ pre, z.2.2.2 ≠ 0 ∧ ∃ nm : String, Cond.classLink own z.2.2.2 nm ∈ TT ∧ (E, nm) ∈ NCs) (hx : a ≤ pc ∧ pc < b) (h0 : ct ≠ 0) (hl : Cond.classLink own ct E ∈ TT) (hc : Cond.castable E E ∈ TD)
    (kk : ∀ q, V X Wd hp lo [.ref q] g k n) : VX X Wd pc lo E st g k n := by
  intro H locs ls q ce hP hD hS hlv hq hv hcl
  have hE := C.2.2.2.2.2.2.2.2.2.2
  refine vx_catch (own := own) (name := E) (E := E) (ce := ce) C.2.2.2.1 (tableOf pre) ⟨a, b, hp, ct⟩ (tableOf suf) ?_ ?_ ?_ h0 (C.2.2.2.2.1 _ hl) (va_Nw.use rfl (hE.2.2.1 _ hc)) hq hv hcl (kk q H locs ls hP hD hS hlv)
  · rw [T, hs]
    simp [tableOf]
  · intro z hz
    obtain ⟨w, hw, rfl⟩ := List.mem_map.mp hz
    obtain ⟨h1, nm, h2, h3⟩ := hpre w hw
    exact Or.inr ⟨h1, nm, C.2.2.2.2.1 _ h2, hE.2.2.2.1 _ h3⟩
  · simp only [covers, Bool.and_eq_true, decide_eq_true_eq]
    exact hx
variable {y : MethodName} {bytes : ByteArray} {maxL : Nat} {ret : Option FieldType} {hh : List (Nat × Nat × Nat × Nat)} {d2 mc ms : Nat} {σ2 ρ : Type} {Wd2 : σ2 → va_W} {g2 : σ2} {res : ρ → Option Value} {post : ρ → σ2 → Prop} {px : String → σ2 → Prop} {rd : σ → σ2} {wr : σ → σ2 → σ} {is : List Nat} {rest : List Value}
theorem v_callSH (C : Ok S Ms X own cc nL d kc ks) {As : List Value} {idx : Nat}
    (M : CtH S Ms (xl X) (xK X) y bytes maxL ret hh d2 mc ms As Wd2 g2 res post px) (Y : YsH y bytes maxL ret hh As.length) (hyo : y.cls = own) (lk : Cond.methodLink own idx y ∈ TT) (E : Emb Wd Wd2 rd wr is) (hg2 : rd g = g2)
    (hlo : lo.length = nL) (hst : st = As.reverse ++ rest) (hdg : decode cc pc = .ok (.invokestatic idx, 3)) (hd : d2 < d) (hk : k + mc ≤ kc) (hn : n + ms ≤ ks) (hW : (rest.map fun v => v.category).sum ≤ 8)
    (kx : ∀ e u, px e u → VX X Wd pc lo e rest (wr g u) (k + mc) (n + ms)) (kk : ∀ r u, post r u → V X Wd (pc + 3) lo ((res r).toList ++ rest) (wr g u) (k + mc) (n + ms)) : V X Wd pc lo st g k n := by
  subst hg2
  refine v_call0 C E (a := As.toArray) (fun H locs ls hP hD hS hl => ?_) kx kk
  have hT : GoodIn TT (va_wsS own idx y (wH y bytes maxL ret hh)) := TT_in _ (fun w hw => by
    rcases List.mem_append.mp hw with h | h
    · simp only [List.mem_cons, List.not_mem_nil, or_false] at h
      rcases h with rfl | rfl | rfl
      · exact lk
      · exact Y.1.1
      · exact Y.1.2.1
    · exact wH_in Y.1.2.2 w h)
  have cw := vx_cwSW (R := xR X) (rm := rmL d2 mc ms) (mc := mc) (ms := ms) (bytes := bytes) (maxL := maxL) (ret := ret) (hh := hh) (ws := wH y bytes maxL ret hh) As.length C.2.2.2.2.1 hT rfl rfl rfl ⟨Y.2.1, Y.2.2.1, Y.2.2.2.1⟩ (by rw [C.2.2.2.2.2.2.2.2.2.1]; exact rm_fits hd Y.2.2.2.2)
  refine vx_runSX (nL := nL) (Ts := TT) (As := As) ⟨C.1, C.2.1, C.2.2.1, C.2.2.2.1, C.2.2.2.2.1⟩ (M H.size) cw ⟨PreB.blind, fun U hU hW => ⟨rfl, v_pre C E hP hD hS hU hW⟩⟩ rfl rfl (by rw [← hlo]; exact hl.1) hst (by simpa using hW) hdg ?_
  rw [C.2.2.2.2.2.2.2.2.2.1]
  exact ⟨hk, hn⟩
end VHH

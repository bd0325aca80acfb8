section VXIA
variable {p : Program} {l : Launch} {e : Env} {R : Room} {s : State} {m : MethodId} {args : Array Value} {below : List Frame} {meth : Method} {c : Code} {T : State} {locs : List Loc} {cells slots : Nat}
theorem vx_callI (X : Stand p l e R s m args below meth c T locs cells slots) (hexec : p.tables.exec = Jvm.exec) {own : String} {index : Nat} {y : MethodName} {bytes : ByteArray} {maxL : Nat}
    (hown : s.vm.findClass own = some m.cls) (hy1 : y.name = "<init>") (hlink : (Cond.methodLink own index y).before args s = true) (hinst : (Cond.instanceMethod y).before args s = true)
    (hcode : (Cond.code y bytes maxL none).before args s = true) (hy : y.cls ≠ "java/lang/invoke/MethodHandle" ∧ y.cls ≠ "java/lang/invoke/VarHandle")
    {W9 : Nat} {Pre : Pt → Array Value → Prop} {Post : Pt → Array Value → Option Value → Pt → Prop} {PostX : Pt → Array Value → Addr → Pt → Prop} (hK : vx_Back l R p e below s args y 3 W9 Pre Post PostX)
    {g : JFrame} (hg : g.method = m) (hsize : g.locals.size = c.maxLocals) {a : Addr} {argsL rest : List Value} (hlen : ∀ sig, parseMethodDescriptor y.desc = some sig → argsL.length = sig.parameters.length)
    (hstack : g.stack = argsL.reverse ++ .ref a :: rest) (hW : 2 * g.monitorRoom + (rest.map fun v => v.category).sum ≤ W9) (hdg : decode c.code g.pc = .ok (.invokespecial index, 3))
    (hpre : ∀ vm₁, s.WarmedH vm₁ → Pre ⟨T.setVm vm₁, locs, cells, slots⟩ (Value.ref a :: argsL).toArray) :
    (∃ (v : Option Value) (vm₁ : Vm) (B : Pt), s.WarmedH vm₁ ∧ Stand p l e R s m args below meth c B.U B.locs B.cells B.slots ∧ Post ⟨T.setVm vm₁, locs, cells, slots⟩ (Value.ref a :: argsL).toArray v B ∧
      ∀ target, Steps p.tables e below (B.U.setTop { g with pc := g.pc + 3, stack := v.toList ++ rest }) target → Steps p.tables e below (T.setTop g) target) ∨
    (∃ (q : Addr) (vm₁ : Vm) (B : Pt), s.WarmedH vm₁ ∧ Stand p l e R s m args below meth c B.U B.locs B.cells B.slots ∧ PostX ⟨T.setVm vm₁, locs, cells, slots⟩ (Value.ref a :: argsL).toArray q B ∧
      Steps p.tables e below (T.setTop g) ((B.U.setTop { g with stack := rest }).pushFrame (.throwing q))) := by
  subst hg
  have hpl : e.platform.magicAccessors = ({} : Platform).magicAccessors := by rw [X.admits.platform]
  obtain ⟨mk, methM, cM, kP, vm₁, hnamed, hmethM, hcodeM, -, hlocalsM, -, hkP, -, hW₁, hstep₁⟩ := Steps.initColdArgs (e := e) X.here hexec X.warmed hpl hown hy1 hy hlink hinst hcode (f := g) rfl hlen hstack hdg
  have X₁ := X.noted hW₁
  rcases hK g.method meth c ⟨T.setVm vm₁, locs, cells, slots⟩ { g with stack := rest } (.invokespecial index) mk (Value.ref a :: argsL).toArray X₁ rfl hsize hdg hW (X₁.named hnamed) (hpre vm₁ X₁.warmed) with ⟨v, B, X', hpost, hsteps⟩ | ⟨q, B, X', hpost, hsteps⟩
  · exact Or.inl ⟨v, vm₁, B, X₁.warmed, X', hpost, fun target h => hstep₁ _ fun acts => by rw [doInvoke_state]; exact hsteps.trans h⟩
  · exact Or.inr ⟨q, vm₁, B, X₁.warmed, X', hpost, hstep₁ _ fun acts => by rw [doInvoke_state]; exact hsteps⟩
end VXIA
section VXIB
variable {p : Program} {l : Launch} {e : Env} {R : Room} {s : State} {m : MethodId} {args : Array Value} {below : List Frame} {meth : Method} {c : Code} {H : Heap} {locs : List Loc} {cells slots : Nat}
variable {y : MethodName} {bytes cc : ByteArray} {maxL nL mc ms n index : Nat} {ret : Option FieldType} {ws : List Cond} {rm : Room} {Pc : Array Value → State → Prop} {Qc : Array Value → State → Outcome → State → Prop} {XC : String → State → State → Prop} {free : Addr → Prop} {Ts : List Cond} {own C : String} {b : Addr} {As rest : List Value} {g : JFrame}
theorem vx_runI (S : CallFix p m c cc nL s args Ts own) (hM : vx_Met l y ws rm Pc Qc XC mc ms free) (cw : CallB R s args own index y bytes maxL none ws rm mc ms n ∧ y.name = "<init>" ∧ (Cond.instanceMethod y).before args s = true) (hp : PreS s H Pc (.ref b :: As))
    (hg : g.method = m) (hn : As.length = n) (hsize : g.locals.size = nL) (hstack : g.stack = As.reverse ++ .ref b :: rest) (hW : 2 * g.monitorRoom + (rest.map fun v => v.category).sum ≤ 8) (hdg : decode cc g.pc = .ok (.invokespecial index, 3)) (hf : cells + mc ≤ R.cells ∧ slots + ms ≤ R.slots) :
    vx_Run p l e R s m args below meth c H locs cells slots mc ms g rest (Qc (Value.ref b :: As).toArray) XC free := by
  have hK : vx_Back l R p e below s args y 3 8 (PreOf R mc ms Pc) (PostOf Qc mc ms free) (vx_Post XC mc ms free) := vx_callBack cw.1 hM hp.1
  obtain ⟨⟨-, -, -, -, -, -, hcode, -, hy, hlen, hl⟩, hy1, hin⟩ := cw
  obtain ⟨hx, hb, hml, ho, -⟩ := S
  have hPc := hp.2
  intro T hT X
  rcases vx_callI X hx (bytes := bytes) (maxL := maxL) ho hy1 hl hin hcode hy hK hg (hsize.trans hml.symm) (a := b) (argsL := As) (rest := rest) (fun sig h => hn.trans (hlen sig h)) hstack hW (by rw [hb]; exact hdg)
    (fun vm₁ hW₁ => ⟨hf.1, hf.2, hPc (T.setVm vm₁) hT hW₁⟩) with ⟨v, vm₁, ⟨U', l2, c2, s2⟩, hW₁, X', ⟨g', mk, t, L, e1, e2, hq, h1, hL, h2, h3⟩, st⟩ | ⟨q, vm₁, ⟨U', l2, c2, s2⟩, hW₁, X', ⟨g', mk, t, L, E, ce, e1, e2, hq, hce, hcv, hcl, h1, hL, h2, h3⟩, st⟩
  · dsimp only [Pt.U, Pt.locs, Pt.cells, Pt.slots] at X' e1 e2 h1 h2 h3 st
    subst h1; subst h2; subst h3
    exact Or.inl ⟨v, (T.setVm vm₁).calling g' mk (Value.ref b :: As).toArray, t, U', L, hT, X', hL, e1, e2, hq, st⟩
  · dsimp only [Pt.U, Pt.locs, Pt.cells, Pt.slots] at X' e1 e2 h1 h2 h3 st hcl
    subst h1; subst h2; subst h3
    exact Or.inr ⟨q, (T.setVm vm₁).calling g' mk (Value.ref b :: As).toArray, t, U', L, E, ce, hT, X', hL, e1, e2, hq, hce, hcv, vx_cls hW₁ hcl, st⟩
end VXIB
/-! ===== END ===== -/
/-! ===== BEGIN a private constructor of a nest mate that throws ===== -/
section VXIC
variable {p : Program} {l : Launch} {e : Env} {R : Room} {s : State} {m : MethodId} {args : Array Value} {below : List Frame} {meth : Method} {c : Code} {T : State} {locs : List Loc} {cells slots : Nat}
theorem vx_callIN (X : Stand p l e R s m args below meth c T locs cells slots) (hexec : p.tables.exec = Jvm.exec) {own : String} {index : Nat} {host : String} {y : MethodName} {bytes : ByteArray} {maxL : Nat}
    (hown : s.vm.findClass own = some m.cls) (hy1 : y.name = "<init>") (hlink : (Cond.methodLinkNest own index y host).before args s = true) (hinst : (Cond.instanceMethod y).before args s = true)
    (hcode : (Cond.code y bytes maxL none).before args s = true) (hy : y.cls ≠ "java/lang/invoke/MethodHandle" ∧ y.cls ≠ "java/lang/invoke/VarHandle")
    {W9 : Nat} {Pre : Pt → Array Value → Prop} {Post : Pt → Array Value → Option Value → Pt → Prop} {PostX : Pt → Array Value → Addr → Pt → Prop} (hK : vx_Back l R p e below s args y 3 W9 Pre Post PostX)
    {g : JFrame} (hg : g.method = m) (hsize : g.locals.size = c.maxLocals) {a : Addr} {argsL rest : List Value} (hlen : ∀ sig, parseMethodDescriptor y.desc = some sig → argsL.length = sig.parameters.length)
    (hstack : g.stack = argsL.reverse ++ .ref a :: rest) (hW : 2 * g.monitorRoom + (rest.map fun v => v.category).sum ≤ W9) (hdg : decode c.code g.pc = .ok (.invokespecial index, 3))
    (hpre : ∀ vm₁, s.WarmedH vm₁ → Pre ⟨T.setVm vm₁, locs, cells, slots⟩ (Value.ref a :: argsL).toArray) :
    (∃ (v : Option Value) (vm₁ : Vm) (B : Pt), s.WarmedH vm₁ ∧ Stand p l e R s m args below meth c B.U B.locs B.cells B.slots ∧ Post ⟨T.setVm vm₁, locs, cells, slots⟩ (Value.ref a :: argsL).toArray v B ∧
      ∀ target, Steps p.tables e below (B.U.setTop { g with pc := g.pc + 3, stack := v.toList ++ rest }) target → Steps p.tables e below (T.setTop g) target) ∨
    (∃ (q : Addr) (vm₁ : Vm) (B : Pt), s.WarmedH vm₁ ∧ Stand p l e R s m args below meth c B.U B.locs B.cells B.slots ∧ PostX ⟨T.setVm vm₁, locs, cells, slots⟩ (Value.ref a :: argsL).toArray q B ∧
      Steps p.tables e below (T.setTop g) ((B.U.setTop { g with stack := rest }).pushFrame (.throwing q))) := by
  subst hg
  have hpl : e.platform.magicAccessors = ({} : Platform).magicAccessors := by rw [X.admits.platform]
  obtain ⟨mk, methM, cM, kP, vm₁, hnamed, hmethM, hcodeM, -, hlocalsM, -, hkP, -, hW₁, hstep₁⟩ := Steps.initColdArgsNest (e := e) X.here hexec X.warmed hpl hown hy1 hy hlink hinst hcode (f := g) rfl hlen hstack hdg
  have X₁ := X.noted hW₁
  rcases hK g.method meth c ⟨T.setVm vm₁, locs, cells, slots⟩ { g with stack := rest } (.invokespecial index) mk (Value.ref a :: argsL).toArray X₁ rfl hsize hdg hW (X₁.named hnamed) (hpre vm₁ X₁.warmed) with ⟨v, B, X', hpost, hsteps⟩ | ⟨q, B, X', hpost, hsteps⟩
  · exact Or.inl ⟨v, vm₁, B, X₁.warmed, X', hpost, fun target h => hstep₁ _ fun acts => by rw [doInvoke_state]; exact hsteps.trans h⟩
  · exact Or.inr ⟨q, vm₁, B, X₁.warmed, X', hpost, hstep₁ _ fun acts => by rw [doInvoke_state]; exact hsteps⟩
end VXIC
section VXID
variable {p : Program} {l : Launch} {e : Env} {R : Room} {s : State} {m : MethodId} {args : Array Value} {below : List Frame} {meth : Method} {c : Code} {H : Heap} {locs : List Loc} {cells slots : Nat}
theorem vx_runIN {y : MethodName} {bytes cc : ByteArray} {maxL nL mc ms n index : Nat} {ws : List Cond} {rm : Room} {Pc : Array Value → State → Prop} {Qc : Array Value → State → Outcome → State → Prop} {XC : String → State → State → Prop} {free : Addr → Prop} {Ts : List Cond} {own host : String} {b : Addr} {As rest : List Value} {g : JFrame}
    (S : CallFix p m c cc nL s args Ts own) (hM : vx_Met l y ws rm Pc Qc XC mc ms free) (cw : va_CN R s args own index y host bytes maxL none ws rm mc ms n ∧ y.name = "<init>" ∧ (Cond.instanceMethod y).before args s = true) (hp : PreS s H Pc (.ref b :: As))
    (hg : g.method = m) (hn : As.length = n) (hsize : g.locals.size = nL) (hstack : g.stack = As.reverse ++ .ref b :: rest) (hW : 2 * g.monitorRoom + (rest.map fun v => v.category).sum ≤ 8) (hdg : decode cc g.pc = .ok (.invokespecial index, 3)) (hf : cells + mc ≤ R.cells ∧ slots + ms ≤ R.slots) :
    vx_Run p l e R s m args below meth c H locs cells slots mc ms g rest (Qc (Value.ref b :: As).toArray) XC free := by
  obtain ⟨⟨⟨hrc, hrs, hfr, hlo, hws, hcw⟩, hcode, hini, hy, hlen, hl⟩, hx1, hx2⟩ := cw
  have hK : vx_Back l R p e below s args y 3 8 (PreOf R mc ms Pc) (PostOf Qc mc ms free) (vx_Post XC mc ms free) := vx_back (bytes := bytes) (maxL := maxL) (ret := none) hM hp.1 hrc hrs hfr hlo hws hcw (fun a' U hW => word_at hW (Or.inl (by first | rfl | simp [Cond.onTables, Cond.keeps, Cond.steady])) hini)
  obtain ⟨hx, hb, hml, ho, -⟩ := S
  have hPc := hp.2
  intro T hT X
  rcases vx_callIN X hx (bytes := bytes) (maxL := maxL) ho hx1 hl hx2 hcode hy hK hg (hsize.trans hml.symm) (a := b) (argsL := As) (rest := rest) (fun sig h => hn.trans (hlen sig h)) hstack hW (by rw [hb]; exact hdg)
    (fun vm₁ hW₁ => ⟨hf.1, hf.2, hPc (T.setVm vm₁) hT hW₁⟩) with ⟨v, vm₁, ⟨U', l2, c2, s2⟩, hW₁, X', ⟨g', mk, t, L, e1, e2, hq, h1, hL, h2, h3⟩, st⟩ | ⟨q, vm₁, ⟨U', l2, c2, s2⟩, hW₁, X', ⟨g', mk, t, L, E, ce, e1, e2, hq, hce, hcv, hcl, h1, hL, h2, h3⟩, st⟩
  · dsimp only [Pt.U, Pt.locs, Pt.cells, Pt.slots] at X' e1 e2 h1 h2 h3 st
    subst h1; subst h2; subst h3
    exact Or.inl ⟨v, (T.setVm vm₁).calling g' mk (Value.ref b :: As).toArray, t, U', L, hT, X', hL, e1, e2, hq, st⟩
  · dsimp only [Pt.U, Pt.locs, Pt.cells, Pt.slots] at X' e1 e2 h1 h2 h3 st hcl
    subst h1; subst h2; subst h3
    exact Or.inr ⟨q, (T.setVm vm₁).calling g' mk (Value.ref b :: As).toArray, t, U', L, E, ce, hT, X', hL, e1, e2, hq, hce, hcv, vx_cls hW₁ hcl, st⟩
end VXID
/-! NEW OBJECTS: walks whose world is the list of cells itself; it grows -/
abbrev iW : va_W → va_W := fun ws => ws
def isN : Cond → Bool
  | .methodLinkNest .. => true
  | _ => false
def TN : List Cond := lw_tbl.filter isN
theorem TN_t {w : Cond} (i : Nat) (h : tables_1[i]? = some w) (hg : isN w = true) : w ∈ TN := List.mem_filter.mpr ⟨List.mem_append_right _ (List.mem_of_getElem? h), hg⟩
def EN (U : State) : Prop := (∀ w ∈ TN, va_Nw w U) ∧ va_AO "CopyDebts$Memory" U
theorem EN.warm {s U : State} (hW : s.WarmedH U.vm) (h : EN s) : EN U := by
  refine ⟨fun w hw => ?_, va_AO.moved hW.alike h.2⟩
  have h1 := h.1 w hw
  have h2 : isN w = true := (List.mem_filter.mp hw).2
  cases w <;> first | (cases h2; done) | exact va_Nw.warmM hW h1
theorem EN.same {s U : State} (hv : s.vm = U.vm) (h : EN s) : EN U := by
  refine ⟨fun w hw => ?_, va_AO.moved (by rw [hv]; exact Vm.Alike.refl _) h.2⟩
  have h1 := h.1 w hw
  have h2 : isN w = true := (List.mem_filter.mp hw).2
  cases w <;> first | (cases h2; done) | exact va_Nw.same rfl hv h1
theorem va_P.perm {D : va_G} {cl : List vw_C} {ws ws' : va_W} {H : Heap} (h : va_P D cl ws H) (p : ws.Perm ws') : va_P D cl ws' H := by
  intro k q hq
  obtain ⟨i, hi⟩ := List.mem_iff_getElem?.mp (p.mem_iff.mpr (List.mem_of_getElem? hq))
  exact h i q hi
theorem va_D_iff {A : Nat → Prop} {ws : va_W} : va_D A ws ↔ (ws.map Prod.fst).Nodup ∧ ∀ q ∈ ws, A q.1 := by
  constructor
  · intro h
    refine ⟨?_, fun q hq => ?_⟩
    · rw [List.Nodup, List.pairwise_iff_getElem]
      intro i j hi hj hij e
      rw [List.length_map] at hi hj
      rw [List.getElem_map, List.getElem_map] at e
      have := h.1 i j _ _ (List.getElem?_eq_getElem hi) (List.getElem?_eq_getElem hj) e
      omega
    · obtain ⟨i, hi⟩ := List.mem_iff_getElem?.mp hq
      exact h.2 i q hi
  · intro h
    refine ⟨fun i j p q hp hq e => ?_, fun k q hq => h.2 q (List.mem_of_getElem? hq)⟩
    have hi : i < (ws.map Prod.fst).length := by rw [List.length_map]; exact (List.getElem?_eq_some_iff.mp hp).1
    refine (List.getElem?_inj hi h.1).mp ?_
    rw [List.getElem?_map, List.getElem?_map, hp, hq]
    exact congrArg some e
theorem va_D.perm {A : Nat → Prop} {ws ws' : va_W} (h : va_D A ws) (p : ws.Perm ws') : va_D A ws' := by
  rw [va_D_iff] at h ⊢
  exact ⟨(p.map Prod.fst).nodup_iff.mp h.1, fun q hq => h.2 q (p.mem_iff.mpr hq)⟩
theorem V.perm {X : Cx} {pc k n : Nat} {lo : List (Option Value)} {st : List Value} {ws ws' : va_W} (p : ws.Perm ws') (h : V X iW pc lo st ws' k n) : V X iW pc lo st ws k n := fun H locs ls hP hD hS hl => h H locs ls (va_P.perm hP p) (va_D.perm hD p) hS hl
/-- a constructor's contract -/
def PreN (S : List SQ) (Ms : List MQ3) (κ : Kp) (b ci : Nat) (zs : List Value) (sz : Nat) (U : State) : Prop := PreB S Ms κ iW [(b, .inr (ci, zs))] sz U ∧ EN U
def QN (κ : Kp) (b : Nat) (A : Nat → Prop) (Fi : (Nat → Nat) → va_W) : Array Value → State → Outcome → State → Prop := fun _ s o t => (o = .returned none ∧ ∃ h : Nat → Nat, h 0 = b ∧ va_P κ.1 vwCl (Fi h) t.heap ∧ va_D A (Fi h)) ∧ va_F A s t
def QE : String → State → State → Prop := fun _ _ _ => False
def CtN (S : List SQ) (Ms : List MQ3) (l : Launch) (κ : Kp) (y : MethodName) (cc : ByteArray) (maxL d mc ms b ci : Nat) (zs : List Value) (Fi : (Nat → Nat) → va_W) : Prop :=
  ∀ sz : Nat, vx_Met l y (wT y cc maxL none) (rmL d mc ms) (va_Pc [.ref b] (PreN S Ms κ b ci zs sz)) (QN κ b (va_A [(b, .inr (ci, zs))] sz) Fi) QE mc ms (va_A [(b, .inr (ci, zs))] sz)
theorem PreN.blind {S : List SQ} {Ms : List MQ3} {κ : Kp} {b ci : Nat} {zs : List Value} {sz : Nat} {as : List Value} : FrameBlind (va_Pc as (PreN S Ms κ b ci zs sz)) := by
  intro a U f mk h
  obtain ⟨h0, h1, h2⟩ := h
  exact ⟨h0, (PreB.blind (as := as) a U f mk ⟨h0, h1⟩).2, EN.same (s := U) (U := U.calling f mk a) rfl h2⟩
def FinN (X : Cx) (b : Nat) (Fi : (Nat → Nat) → va_W) (kc ks : Nat) : Prop :=
  (xM X).sig.returnType = none ∧ xQ X = vx_MQ (xb X) (QN (xK X) b (xA X) Fi) QE (xa X) (xs X) kc ks (xA X)
def OkN (X : Cx) : Prop := EN (xs X) ∧ (xM X).name = "<init>"
theorem CtN.of {S : List SQ} {Ms : List MQ3} {l : Launch} {κ : Kp} {y : MethodName} {cc : ByteArray} {maxL d mc ms b ci : Nat} {zs : List Value} {Fi : (Nat → Nat) → va_W} {own : String} (hy : plainName y.cls = true) (hn : y.name = "<init>") (hown : y.cls = own) (hl : l.stackTraces = false) (hlen : 1 ≤ maxL)
    (body : ∀ X : Cx, xl X = l → xK X = κ → Ok S Ms X own cc maxL d mc ms → OkN X → FinN X b Fi mc ms → NoH X → V X iW 0 (some (.ref b) :: List.replicate (maxL - 1) none) [] [(b, .inr (ci, zs))] 0 0) : CtN S Ms l κ y cc maxL d mc ms b ci zs Fi := by
  intro sz
  refine vx_ofW (cc := cc) (maxL := maxL) (ret := none) hy rfl ?_
  intro p e s m args below meth c s₁ B hml hnoh hv
  obtain ⟨rfl, ⟨hsz, hP, hK, hD0, hE⟩, hN⟩ := hv
  have hts := atoms_spec (ws := wT y cc maxL none) B.pre
  have hown2 : s.vm.findClass own = some m.cls := by rw [← hown]; exact findClass_of_methodNamed B.named
  have hin : meth.name = "<init>" := ((name_of_methodNamed B.named B.method).1).trans hn
  subst hsz
  have hD := hD0.self (sz := s.heap.size)
  have X1 := body (p, l, e, (headSpec (wT y cc maxL none) (rmL d mc ms)).room, s, m, [Value.ref b].toArray, below, meth, c, vx_MQ below (QN κ b (va_A [(b, .inr (ci, zs))] s.heap.size) Fi) QE [Value.ref b].toArray s mc ms (va_A [(b, .inr (ci, zs))] s.heap.size), va_A [(b, .inr (ci, zs))] s.heap.size, κ) rfl rfl
    ⟨B.exec, B.bytes, hml, hown2, fun w hw => hts w (List.mem_cons_of_mem _ hw), hK, fun q h => Or.inr h, B.notSynchronized, hl, rfl, hE⟩ ⟨hN, hin⟩ ⟨B.returns, rfl⟩ hnoh
  have hll := lg_len [Value.ref b] (by simp [Value.category])
  have hl0 := lv_entry [Value.ref b] (n := maxL) (by rw [hll]; exact hlen)
  rw [lg_entry_eq]
  refine X1 s.heap [] _ hP hD va_S.rf ?_
  have : (some (Value.ref b) :: List.replicate (maxL - 1) (none : Option Value)).length = maxL := by simp; omega
  rw [this]
  exact hl0.mono (fun q hq => lq_args [Value.ref b] 0 (by simp [Value.category]) (maxL - 1) q hq)
def NWo (own : String) (idx ci N : Nat) (fs : List Value) : Prop := ∃ (q : vw_C) (ty : Nat → FieldType), vwCl[ci]? = some q ∧ (∀ w ∈ u_ws q.1 q.2.1 q.2.2, w ∈ TT) ∧ (∀ k, k < q.2.2 → parseFieldDescriptor (q.2.1 k).2.2.1 = some (ty k)) ∧ Cond.classLink own idx q.1 ∈ TT ∧ Cond.instantiable q.1 q.2.2 ∈ TT ∧ Cond.initialized q.1 ∈ TT ∧ (∀ j, j < q.2.2 → defaultValue (ty j) = vp_V fs j) ∧ q.2.2 = N
/-- a final field, in its class's constructor -/
def FWf (own : String) (ci k : Nat) (ty : FieldType) : Prop := ∃ (q : vw_C) (ty0 : Nat → FieldType), vwCl[ci]? = some q ∧ (∀ k, k < q.2.2 → parseFieldDescriptor (q.2.1 k).2.2.1 = some (ty0 k)) ∧ (∀ a, a < q.2.2 → ∀ b, b < q.2.2 → a ≠ b → (q.2.1 a).2.1 ≠ (q.2.1 b).2.1) ∧ (q.2.1 k).2.2.2 = true ∧ (q.2.1 k).1 = own ∧ parseFieldDescriptor (q.2.1 k).2.2.1 = some ty
def Yi (y : MethodName) (cc : ByteArray) (maxL : Nat) : Prop :=
  (Cond.instanceMethod y ∈ TT ∧ Cond.initialized y.cls ∈ TT ∧ Cond.code y cc maxL none ∈ TT) ∧ y.name = "<init>" ∧ (y.cls ≠ "java/lang/invoke/MethodHandle" ∧ y.cls ≠ "java/lang/invoke/VarHandle" ∧ (parseMethodDescriptor y.desc).map (fun d => d.parameters.length) = some 0) ∧ maxL ≤ 40
theorem ya_obj : Cond.instanceMethod Lib.objectInit ∈ TT ∧ Cond.code Lib.objectInit ⟨#[0xb1]⟩ 1 none ∈ TT := ⟨TT_t 34 (by decide +kernel) (by decide +kernel), TT_t 35 (by decide +kernel) (by decide +kernel)⟩
section VN
variable {S : List SQ} {Ms : List MQ3} {X : Cx} {own : String} {cc : ByteArray} {nL d kc ks : Nat} {pc : Nat} {lo : List (Option Value)} {st : List Value} {k n : Nat} {ws : va_W}
theorem v_objInit (C : Ok S Ms X own cc nL d kc ks) {σ : Type} {Wd : σ → va_W} {g : σ} {idx a : Nat} (lk : Cond.methodLink own idx ⟨"java/lang/Object", "<init>", "()V"⟩ ∈ TT) (hlo : lo.length = nL) (hdg : decode cc pc = .ok (.invokespecial idx, 3)) (hW : (st.map fun v => v.category).sum ≤ 8) (kk : V X Wd (pc + 3) lo st g k n) : V X Wd pc lo (.ref a :: st) g k n := by
  intro H locs ls hP hD hS hl
  have hR := C.2.2.2.2.2.2.2.2.2.1
  refine W.objInit (g := F0 (xm X) pc ls (.ref a :: st)) C.1 C.2.1 C.2.2.2.1 (C.2.2.2.2.1 _ lk) (C.2.2.2.2.1 _ ya_obj.1) (C.2.2.2.2.1 _ ya_obj.2) rfl ?_ rfl hdg ?_ ?_ (kk H locs ls hP hD hS hl)
  · rw [C.2.2.1, ← hlo]; exact hl.1
  · rw [hR]; show 1 ≤ 10 + d; omega
  · rw [hR]
    show 2 * (F0 (xm X) pc ls (.ref a :: st)).monitorRoom + _ + 12 ≤ 300 + 100 * d
    have : (F0 (xm X) pc ls (.ref a :: st)).monitorRoom = 0 := rfl
    omega
theorem v_new (C : Ok S Ms X own cc nL d kc ks) {idx ci N : Nat} {fs : List Value} (Z : NWo own idx ci N fs) (hdg : decode cc pc = .ok (.new idx, 3)) (hk : k + 1 ≤ kc) (hn : n + N ≤ ks) (kk : ∀ q, V X iW (pc + 3) lo (.ref q :: st) ((q, .inr (ci, fs)) :: ws) (k + 1) (n + N)) : V X iW pc lo st ws k n := by
  intro H locs ls hP hD hS hl
  obtain ⟨⟨C0, T0, N0⟩, ty, z1, z2, z3, z4, z5, z6, z7, rfl⟩ := Z
  have hR := C.2.2.2.2.2.2.2.2.2.1
  refine va_new C.1 C.2.1 C.2.2.2.2.1 z2 ty z3 C.2.2.2.1 (C.2.2.2.2.1 _ z4) (C.2.2.2.2.1 _ z5) (C.2.2.2.2.1 _ z6) C.2.2.2.2.2.1 hP hD hS C.2.2.2.2.2.2.1 z1 z7 (by rw [hR]; exact hk) (by rw [hR]; exact hn) hdg (fun q H1 hP1 hD1 hS1 => ?_)
  exact kk q H1 locs ls (va_P.perm hP1 (List.perm_append_singleton _ _)) (va_D.perm hD1 (List.perm_append_singleton _ _)) hS1 hl
theorem nI_nneg {N : Nat} (hN : N < 2 ^ 31) : ¬ nI N < 0 := by
  intro h
  have h1 := Int32.lt_iff_toInt_lt.mp h
  rw [nI_toInt hN] at h1
  have h2 : (0 : Int32).toInt = 0 := by decide
  omega
theorem v_newa (C : Ok S Ms X own cc nL d kc ks) {atype : ArrayType} {ty : FieldType} (t : Nat) {N : Nat} {i : Int32} {a0 : vp_A} (hi : i = nI N) (hty : newarray.typeOf atype = ty) (ht : (tysOf (xK X))[t]? = some ((xK X).2.1 t, ty)) (hra : ∀ U cA, va_RA U cA ty → U.vm.findClass ("[" ++ ty.toString) = some cA) (hw : Cond.arrayClass ty ∈ TT) (ha : ∀ cA : ClassId, vp_cell cA a0 = arrV cA N (fun _ => defaultValue ty)) (hN : N < 2 ^ 31) (hb : N * componentBytes ty ≤ 536870912) (hdg : decode cc pc = .ok (.newarray atype, 2)) (hk : k + 1 ≤ kc) (hn : n + N ≤ ks) (kk : ∀ q, V X iW (pc + 2) lo (.ref q :: st) ((q, .inl ((xK X).2.1 t, a0)) :: ws) (k + 1) (n + N)) : V X iW pc lo (.int i :: st) ws k n := by
  intro H locs ls hP hD hS hl
  subst hi
  have hR := C.2.2.2.2.2.2.2.2.2.1
  refine va_newa (atype := atype) C.1 C.2.1 (by rw [hty]; exact C.2.2.2.2.1 _ hw) hty C.2.2.2.2.2.1 hP hD hS C.2.2.2.2.2.2.1 ha (nI_nneg hN) (nI_clamp hN) hb (by rw [hR]; exact hk) (by rw [hR]; exact hn) hdg (fun q cA H1 hK1 hP1 hD1 hS1 => ?_)
  have e : cA = (xK X).2.1 t := by
    have h1 := hra _ _ (hK1.2 (tysOf (xK X)).length (cA, ty) (by rw [List.getElem?_append_right (Nat.le_refl _), Nat.sub_self]; rfl)).2
    have h2 := hra _ _ (C.2.2.2.2.2.1.2 t _ ht).2
    exact Option.some.inj (h1.symm.trans h2)
  subst e
  exact kk q H1 locs ls (va_P.perm hP1 (List.perm_append_singleton _ _)) (va_D.perm hD1 (List.perm_append_singleton _ _)) hS1 hl
theorem v_newI (C : Ok S Ms X own cc nL d kc ks) (N : Nat) {i : Int32} (hi : i = nI N) (hN : N ≤ 10000) (hdg : decode cc pc = .ok (.newarray .int, 2)) (hk : k + 1 ≤ kc) (hn : n + N ≤ ks) (kk : ∀ q, V X iW (pc + 2) lo (.ref q :: st) (cI (xK X) q N (fun _ => 0) :: ws) (k + 1) (n + N)) : V X iW pc lo (.int i :: st) ws k n :=
  v_newa C (ty := .int) 0 (a0 := (N, .inl (fun _ => 0))) hi rfl rfl (fun _ _ h => h) (TT_t 95 (by decide +kernel) (by decide +kernel)) (fun cA => rfl) (by omega) (by show N * 4 ≤ 536870912; omega) hdg hk hn kk
theorem v_newZ (C : Ok S Ms X own cc nL d kc ks) (N : Nat) {i : Int32} (hi : i = nI N) (hN : N ≤ 10000) (hdg : decode cc pc = .ok (.newarray .boolean, 2)) (hk : k + 1 ≤ kc) (hn : n + N ≤ ks) (kk : ∀ q, V X iW (pc + 2) lo (.ref q :: st) (cZ (xK X) q N (fun _ => 0) :: ws) (k + 1) (n + N)) : V X iW pc lo (.int i :: st) ws k n :=
  v_newa C (ty := .boolean) 1 (a0 := (N, .inl (fun _ => 0))) hi rfl rfl (fun _ _ h => h) (TT_t 96 (by decide +kernel) (by decide +kernel)) (fun cA => rfl) (by omega) (by show N * 1 ≤ 536870912; omega) hdg hk hn kk
theorem v_newQ (C : Ok S Ms X own cc nL d kc ks) (hO : OkN X) (N : Nat) {i : Int32} {idx : Nat} (hi : i = nI N) (hN : N ≤ 10000) (hl : Cond.classLink own idx "CopyDebts$Memory" ∈ TT) (hdg : decode cc pc = .ok (.anewarray idx, 3)) (hk : k + 1 ≤ kc) (hn : n + N ≤ ks) (kk : ∀ q, V X iW (pc + 3) lo (.ref q :: st) (cQ (xK X) q N (fun _ => none) :: ws) (k + 1) (n + N)) : V X iW pc lo (.int i :: st) ws k n := by
  intro H locs ls hP hD hS hlv
  subst hi
  have hR := C.2.2.2.2.2.2.2.2.2.1
  refine va_newq C.1 C.2.1 C.2.2.2.1 (C.2.2.2.2.1 _ hl) hO.1.2 C.2.2.2.2.2.1 hP hD hS C.2.2.2.2.2.2.1 (nI_nneg (by omega)) (nI_clamp (by omega)) (by omega) (by rw [hR]; exact hk) (by rw [hR]; exact hn) hdg (fun q cA H1 hK1 hP1 hD1 hS1 => ?_)
  have e : cA = (xK X).2.1 4 := by
    obtain ⟨_, _, _, _, _, h1⟩ := (hK1.2 (tysOf (xK X)).length (cA, .object "CopyDebts$Memory") (by rw [List.getElem?_append_right (Nat.le_refl _), Nat.sub_self]; rfl)).2
    obtain ⟨_, _, _, _, _, h2⟩ := (C.2.2.2.2.2.1.2 4 ((xK X).2.1 4, .object "CopyDebts$Memory") rfl).2
    exact Option.some.inj (h1.symm.trans h2)
  subst e
  exact kk q H1 locs ls (va_P.perm hP1 (List.perm_append_singleton _ _)) (va_D.perm hD1 (List.perm_append_singleton _ _)) hS1 hlv
theorem v_getV (C : Ok S Ms X own cc nL d kc ks) {idx ci f : Nat} {a : Nat} {fs : List Value} {v : Value} (c : Nat) (L : FL own idx ci f) (he : ws[c]? = some (a, .inr (ci, fs))) (hv : fs[f]? = some v) (hdg : decode cc pc = .ok (.getfield idx, 3)) (kk : V X iW (pc + 3) lo (v :: st) ws k n) : V X iW pc lo (.ref a :: st) ws k n := by
  intro H locs ls hP hD hS hl
  obtain ⟨q, q1, q2, q3, q4, q5⟩ := L
  exact va_get C.1 C.2.1 C.2.2.2.2.1 q2 C.2.2.2.1 C.2.2.2.2.2.1 hP c he q1 f q3 (C.2.2.2.2.1 _ q4) (fun _ hx => hx) hv hdg (kk H locs ls hP hD hS hl)
theorem v_putV (C : Ok S Ms X own cc nL d kc ks) {idx ci f : Nat} {a : Nat} {fs : List Value} {v : Value} {ty : FieldType} (c : Nat) (L : FL own idx ci f) (P : FW ci f ty) (he : ws[c]? = some (a, .inr (ci, fs))) (hn : narrow ty v = v) (hf : fits ty v = true) (hl : f < fs.length) (hdg : decode cc pc = .ok (.putfield idx, 3)) (kk : V X iW (pc + 3) lo st (ws.set c (a, .inr (ci, fs.set f v))) k n) : V X iW pc lo (v :: .ref a :: st) ws k n := by
  intro H locs ls hP hD hS hlv
  obtain ⟨q, q1, q2, q3, q4, q5⟩ := L
  obtain ⟨p, ty0, p1, p2, p3, p4, p5⟩ := P
  rw [q1] at p1
  cases p1
  exact va_put C.1 C.2.1 C.2.2.2.2.1 q2 ty0 p2 p3 C.2.2.2.1 C.2.2.2.2.2.1 hP hD hS c he q1 f q3 (C.2.2.2.2.1 _ q4) (fun _ hx => hx) p4 p5 hn hf hl hdg (fun H1 locs1 hP1 hD1 hS1 => kk H1 locs1 ls hP1 hD1 hS1 hlv)
theorem v_putF (C : Ok S Ms X own cc nL d kc ks) (hO : OkN X) {idx ci f : Nat} {a : Nat} {fs : List Value} {v : Value} {ty : FieldType} (c : Nat) (L : FL own idx ci f) (P : FWf own ci f ty) (he : ws[c]? = some (a, .inr (ci, fs))) (hn : narrow ty v = v) (hf : fits ty v = true) (hl : f < fs.length) (hdg : decode cc pc = .ok (.putfield idx, 3)) (kk : V X iW (pc + 3) lo st (ws.set c (a, .inr (ci, fs.set f v))) k n) : V X iW pc lo (v :: .ref a :: st) ws k n := by
  intro H locs ls hP hD hS hlv
  obtain ⟨q, q1, q2, q3, q4, q5⟩ := L
  obtain ⟨p, ty0, p1, p2, p3, p4, p6, p5⟩ := P
  rw [q1] at p1
  cases p1
  exact va_putF C.1 C.2.1 C.2.2.2.2.1 q2 ty0 p2 p3 C.2.2.2.1 C.2.2.2.2.2.1 hP hD hS c he q1 f q3 (C.2.2.2.2.1 _ q4) (fun _ hx => hx) p4 hO.2 p6 p5 hn hf hl hdg (fun H1 locs1 hP1 hD1 hS1 => kk H1 locs1 ls hP1 hD1 hS1 hlv)
theorem v_aast (C : Ok S Ms X own cc nL d kc ks) {a N v : Nat} {vs : List Value} {f : Nat → Option Nat} (c qk : Nat) {i : Int32} (j : Nat) (hi : i = nI j) (hj : j < N) (hN : N ≤ 10000) (ha : ws[c]? = some (cQ (xK X) a N f)) (hv : ws[qk]? = some (v, .inr (2, vs))) (hdg : decode cc pc = .ok (.aastore, 1)) (kk : V X iW (pc + 1) lo st (ws.set c (cQ (xK X) a N (va_up f j (some v)))) k n) : V X iW pc lo (.ref v :: .int i :: .ref a :: st) ws k n := by
  intro H locs ls hP hD hS hl
  subst hi
  refine va_astq (r := (RX2, TX2, 9)) C.1 C.2.1 C.2.2.2.2.2.1 hP hD hS c 4 qk 2 ha rfl hv rfl (in_nI hj (by omega)) hdg (fun H1 locs1 hP1 hD1 hS1 => ?_)
  rw [nI_clamp (by omega)] at hP1 hD1
  exact kk H1 locs1 ls hP1 hD1 hS1 hl
variable {y : MethodName} {bytes : ByteArray} {maxL d2 mc ms b ci : Nat} {zs : List Value} {Fi : (Nat → Nat) → va_W} {rest : List Value}
theorem v_callN0 (C : Ok S Ms X own cc nL d kc ks) {a : Array Value}
    (hr : ∀ (H : Heap) (locs : List Loc) (ls : Array Slot), va_P (xK X).1 vwCl ((b, .inr (ci, zs)) :: ws) H → va_D (xA X) ((b, .inr (ci, zs)) :: ws) → va_S (xA X) (xs X).heap H locs → lv_has ls lo.length (lq 0 lo) →
      vx_Run (xp X) (xl X) (xe X) (xR X) (xs X) (xm X) (xa X) (xb X) (xM X) (xc X) H locs k n mc ms (F0 (xm X) pc ls st) rest (QN (xK X) b (va_A [(b, .inr (ci, zs))] H.size) Fi a) QE (va_A [(b, .inr (ci, zs))] H.size))
    (kk : ∀ h : Nat → Nat, h 0 = b → V X iW (pc + 3) lo rest (Fi h ++ ws) (k + mc) (n + ms)) : V X iW pc lo st ((b, .inr (ci, zs)) :: ws) k n := by
  intro H locs ls hP hD hS hl T hT X0
  have hF : ∀ q, va_A [(b, .inr (ci, zs))] H.size q → xA X q := va_free hD hS C.2.2.2.2.2.2.1 [0] rfl
  rcases hr H locs ls hP hD hS hl T hT X0 with ⟨v, st₀, t, T', L, h0, X', hL, e1, e2, ⟨⟨hv, h, hb, hP1, hD1⟩, hFr⟩, goes⟩ | ⟨q, st₀, t, T', L, e, ce, h0, X', hL, e1, e2, hbad, -⟩
  · cases hv
    obtain ⟨-, k2, k3⟩ := vx_keep h0 e1 hS (fun q _ h => hF q h) hF hL hFr
    have hws : va_P (xK X).1 vwCl ws H := fun j q hq => hP (j + 1) q hq
    have hwd : va_D (xA X) ws := ⟨fun i j p q hp hq e => by have := hD.1 (i + 1) (j + 1) p q hp hq e; omega, fun j q hq => hD.2 (j + 1) q hq⟩
    have hnb : ∀ q ∈ ws, q.1 < H.size ∧ q.1 ≠ b := by
      intro q hq
      obtain ⟨j, hj⟩ := List.mem_iff_getElem?.mp hq
      refine ⟨(hws j q hj).lt, fun e => ?_⟩
      have := hD.1 0 (j + 1) _ q rfl hj e.symm
      omega
    have hA1 : ∀ q, va_A [(b, .inr (ci, zs))] H.size q → q = b ∨ H.size ≤ q := by
      rintro q (⟨k3, e, hz⟩ | hz)
      · have : (q, e) ∈ [(b, (Sum.inr (ci, zs) : va_E))] := List.mem_of_getElem? hz
        rw [List.mem_singleton] at this
        exact Or.inl (congrArg Prod.fst this)
      · exact Or.inr hz
    have hP2 : va_P (xK X).1 vwCl (Fi h ++ ws) T'.heap := by
      refine va_P.app (by rw [e1]; exact hP1) (fun j q hq => ?_)
      obtain ⟨h1, h2⟩ := hnb q (List.mem_of_getElem? hq)
      refine (hws j q hq).kept (k2 q.1 h1 fun hA => ?_)
      rcases hA1 _ hA with z | z
      · exact h2 z
      · omega
    have hD2 : va_D (xA X) (Fi h ++ ws) := by
      have d1 := va_D_iff.mp hD1
      have d2 := va_D_iff.mp hwd
      refine va_D_iff.mpr ⟨?_, fun q hq => ?_⟩
      · rw [List.map_append, List.nodup_append]
        refine ⟨d1.1, d2.1, fun x hx z hz e => ?_⟩
        obtain ⟨q1, m1, rfl⟩ := List.mem_map.mp hx
        obtain ⟨q2, m2, rfl⟩ := List.mem_map.mp hz
        obtain ⟨z1, z2⟩ := hnb q2 m2
        rcases hA1 _ (d1.2 q1 m1) with w | w
        · exact z2 (e.symm.trans w)
        · omega
      · rcases List.mem_append.mp hq with m1 | m2
        · exact hF _ (d1.2 q m1)
        · exact d2.2 q m2
    obtain ⟨t2, a1, b1⟩ := kk h hb T'.heap (locs ++ L) ls hP2 hD2 k3 hl T' rfl X'
    exact ⟨t2, goes t2 a1, b1⟩
  · exact hbad.elim
theorem v_preN (C : Ok S Ms X own cc nL d kc ks) (hO : OkN X) {H : Heap} {locs : List Loc} (hP : va_P (xK X).1 vwCl ((b, .inr (ci, zs)) :: ws) H) (hD : va_D (xA X) ((b, .inr (ci, zs)) :: ws)) (hS : va_S (xA X) (xs X).heap H locs) {U : State} (hU : U.heap = H) (hW : (xs X).WarmedH U.vm) : PreN S Ms (xK X) b ci zs H.size U := by
  have hF : ∀ q, va_A [(b, .inr (ci, zs))] H.size q → xA X q := va_free hD hS C.2.2.2.2.2.2.1 [0] rfl
  refine ⟨⟨by rw [hU], by rw [hU]; exact hP.sub [0] rfl, va_K.moved hW.alike C.2.2.2.2.2.1, (hD.sub (ws' := [(b, .inr (ci, zs))]) [0] (by decide) rfl).toTrue, ?_⟩, EN.warm hW hO.1⟩
  rw [hU]
  exact EV.warm hW (EV.narrow (EV.kept C.2.2.2.2.2.2.2.2.2.2 hS.2.1) hF)
theorem v_callN (C : Ok S Ms X own cc nL d kc ks) (hO : OkN X) {idx : Nat} {host : String}
    (M : CtN S Ms (xl X) (xK X) y bytes maxL d2 mc ms b ci zs Fi) (Y : Yi y bytes maxL) (lk : Cond.methodLinkNest own idx y host ∈ TN)
    (hlo : lo.length = nL) (hdg : decode cc pc = .ok (.invokespecial idx, 3)) (hd : d2 < d) (hk : k + mc ≤ kc) (hn : n + ms ≤ ks) (hW : (rest.map fun v => v.category).sum ≤ 8)
    (kk : ∀ h : Nat → Nat, h 0 = b → V X iW (pc + 3) lo rest (Fi h ++ ws) (k + mc) (n + ms)) : V X iW pc lo (.ref b :: rest) ((b, .inr (ci, zs)) :: ws) k n := by
  refine v_callN0 (rest := rest) (a := [Value.ref b].toArray) C (fun H locs ls hP hD hS hl => ?_) kk
  obtain ⟨⟨y1, y2, y3⟩, y4, y5, y6⟩ := Y
  have hT : GoodIn TT (wT y bytes maxL none) := TT_in _ (wT_in y3)
  have hR := C.2.2.2.2.2.2.2.2.2.1
  refine vx_runIN (nL := nL) (Ts := TT) (own := own) (host := host) (b := b) (As := []) (n := 0) ⟨C.1, C.2.1, C.2.2.1, C.2.2.2.1, C.2.2.2.2.1⟩ (M H.size) ⟨va_cnB (rm := rmL d2 mc ms) 0 C.2.2.2.2.1 hT rfl rfl rfl (hO.1.1 _ lk) (C.2.2.2.2.1 _ y2) y5 (by rw [hR]; exact rm_fits hd y6), y4, C.2.2.2.2.1 _ y1⟩ ⟨PreN.blind, fun U hU hW => ⟨rfl, v_preN C hO hP hD hS hU hW⟩⟩ rfl rfl (by rw [← hlo]; exact hl.1) rfl (by simpa using hW) hdg ?_
  rw [hR]
  exact ⟨hk, hn⟩
theorem v_callO (C : Ok S Ms X own cc nL d kc ks) (hO : OkN X) {idx : Nat}
    (M : CtN S Ms (xl X) (xK X) y bytes maxL d2 mc ms b ci zs Fi) (Y : Yi y bytes maxL) (lk : Cond.methodLink own idx y ∈ TT)
    (hlo : lo.length = nL) (hdg : decode cc pc = .ok (.invokespecial idx, 3)) (hd : d2 < d) (hk : k + mc ≤ kc) (hn : n + ms ≤ ks) (hW : (rest.map fun v => v.category).sum ≤ 8)
    (kk : ∀ h : Nat → Nat, h 0 = b → V X iW (pc + 3) lo rest (Fi h ++ ws) (k + mc) (n + ms)) : V X iW pc lo (.ref b :: rest) ((b, .inr (ci, zs)) :: ws) k n := by
  refine v_callN0 (rest := rest) (a := [Value.ref b].toArray) C (fun H locs ls hP hD hS hl => ?_) kk
  obtain ⟨⟨y1, y2, y3⟩, y4, y5, y6⟩ := Y
  have hT : GoodIn TT (wT y bytes maxL none) := TT_in _ (wT_in y3)
  have hR := C.2.2.2.2.2.2.2.2.2.1
  refine vx_runI (nL := nL) (Ts := TT) (own := own) (b := b) (As := []) (n := 0) ⟨C.1, C.2.1, C.2.2.1, C.2.2.2.1, C.2.2.2.2.1⟩ (M H.size) (cwI (rm := rmL d2 mc ms) 0 C.2.2.2.2.1 hT rfl rfl rfl (C.2.2.2.2.1 _ y2) (C.2.2.2.2.1 _ lk) (C.2.2.2.2.1 _ y1) y4 y5 (by rw [hR]; exact rm_fits hd y6)) ⟨PreN.blind, fun U hU hW => ⟨rfl, v_preN C hO hP hD hS hU hW⟩⟩ rfl rfl (by rw [← hlo]; exact hl.1) rfl (by simpa using hW) hdg ?_
  rw [hR]
  exact ⟨hk, hn⟩
theorem v_retN (C : Ok S Ms X own cc nL d kc ks) (F : FinN X b Fi kc ks) (h : Nat → Nat) (hb : h 0 = b) (hp : ws.Perm (Fi h)) (hdg : decode cc pc = .ok (.return_, 1)) (hk : k ≤ kc) (hn2 : n ≤ ks) : V X iW pc lo [] ws k n := by
  intro H locs ls hP hD hS hl
  unfold xW
  rw [F.2]
  refine W.widen hk hn2 (vx_ret ?_)
  exact W.vret C.1 C.2.1 F.1 (fun t ht hW => ⟨⟨rfl, h, hb, by rw [ht]; exact va_P.perm hP hp, va_D.perm hD hp⟩, hS.F ht⟩) hS.2.2 hdg C.2.2.2.2.2.2.2.1
end VN

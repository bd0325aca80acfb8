/-! METHODS WHOSE WORLD MAY GROW: the world is the list of cells; a contract says which list there is at the end -/
theorem V_iw {X : Cx} {σ : Type} {Wd : σ → va_W} {pc : Nat} {lo : List (Option Value)} {st : List Value} {g : σ} {k n : Nat} (h : V X Wd pc lo st g k n) : V X iW pc lo st (Wd g) k n := h
theorem VX_iw {X : Cx} {σ : Type} {Wd : σ → va_W} {pc : Nat} {lo : List (Option Value)} {E : String} {st : List Value} {g : σ} {k n : Nat} (h : VX X iW pc lo E st (Wd g) k n) : VX X Wd pc lo E st g k n := h
theorem VX.perm {X : Cx} {pc k n : Nat} {lo : List (Option Value)} {E : String} {st : List Value} {ws ws' : va_W} (p : ws.Perm ws') (h : VX X iW pc lo E st ws' k n) : VX X iW pc lo E st ws k n := fun H locs ls q ce hP hD hS hl hq hv hc => h H locs ls q ce (va_P.perm hP p) (va_D.perm hD p) hS hl hq hv hc
theorem va_P.less {D : va_G} {cl : List vw_C} {ws ws' : va_W} {H : Heap} (h : va_P D cl ws H) (p : ws'.Sublist ws) : va_P D cl ws' H := by
  intro k q hq
  obtain ⟨i, hi⟩ := List.mem_iff_getElem?.mp (p.subset (List.mem_of_getElem? hq))
  exact h i q hi
theorem va_D.less {A : Nat → Prop} {ws ws' : va_W} (h : va_D A ws) (p : ws'.Sublist ws) : va_D A ws' := by
  rw [va_D_iff] at h ⊢
  exact ⟨h.1.sublist (p.map Prod.fst), fun q hq => h.2 q (p.subset hq)⟩
/-- cells that are forgotten -/
theorem V.drop {X : Cx} {pc k n : Nat} {lo : List (Option Value)} {st : List Value} {ws ws' : va_W} (p : ws'.Sublist ws) (h : V X iW pc lo st ws' k n) : V X iW pc lo st ws k n := fun H locs ls hP hD hS hl => h H locs ls (va_P.less hP p) (va_D.less hD p) hS hl
theorem V.dropR {X : Cx} {pc k n : Nat} {lo : List (Option Value)} {st : List Value} {ws R : va_W} (h : V X iW pc lo st ws k n) : V X iW pc lo st (ws ++ R) k n := V.drop (List.sublist_append_left ws R) h
theorem V_loc {X : Cx} {pc k n : Nat} {lo lo2 : List (Option Value)} {st : List Value} {ws : va_W} (e : lo = lo2) (h : V X iW pc lo2 st ws k n) : V X iW pc lo st ws k n := by rw [e]; exact h
theorem V_stk {X : Cx} {pc k n : Nat} {lo : List (Option Value)} {st st2 : List Value} {ws : va_W} (e : st = st2) (h : V X iW pc lo st2 ws k n) : V X iW pc lo st ws k n := by rw [e]; exact h
/-- what the cells' places tell -/
theorem V_dis {X : Cx} {pc k n : Nat} {lo : List (Option Value)} {st : List Value} {ws : va_W} (h : va_D (xA X) ws → V X iW pc lo st ws k n) : V X iW pc lo st ws k n := fun H locs ls hP hD hS hl => h hD H locs ls hP hD hS hl
/-- a world in its surroundings -/
def Cxt (K : va_W → va_W) : Prop := ∃ R, ∀ ws, (K ws).Perm (ws ++ R)
theorem Cxt.id : Cxt (fun w => w) := ⟨[], fun ws => by rw [List.append_nil]⟩
theorem Cxt.l {K : va_W → va_W} (A : va_W) (h : Cxt K) : Cxt (fun w => A ++ K w) := by
  obtain ⟨R, hR⟩ := h
  refine ⟨R ++ A, fun ws => ?_⟩
  refine List.perm_append_comm.trans ?_
  rw [← List.append_assoc]
  exact (hR ws).append_right A
theorem Cxt.r {K : va_W → va_W} (B : va_W) (h : Cxt K) : Cxt (fun w => K w ++ B) := by
  obtain ⟨R, hR⟩ := h
  refine ⟨R ++ B, fun ws => ?_⟩
  rw [← List.append_assoc]
  exact (hR ws).append_right B
theorem Cxt.c {K : va_W → va_W} (q : Nat × va_E) (h : Cxt K) : Cxt (fun w => q :: K w) := Cxt.l [q] h
def QnG (κ : Kp) (A : Nat → Prop) {ρ : Type} (res : ρ → Option Value) (post : ρ → va_W → Prop) : Array Value → State → Outcome → State → Prop := fun _ s o t => (∃ r ws, o = .returned (res r) ∧ post r ws ∧ va_P κ.1 vwCl ws t.heap ∧ va_D A ws) ∧ va_F A s t
def QXG (κ : Kp) (A : Nat → Prop) (px : String → va_W → Prop) : String → State → State → Prop := fun E s t => (∃ ws, px E ws ∧ va_P κ.1 vwCl ws t.heap ∧ va_D A ws) ∧ va_F A s t
/-- a contract -/
def CtG (S : List SQ) (Ms : List MQ3) (l : Launch) (κ : Kp) (y : MethodName) (cc : ByteArray) (maxL : Nat) (ret : Option FieldType) (d mc ms : Nat) (as : List Value) (ws : va_W) {ρ : Type} (res : ρ → Option Value) (post : ρ → va_W → Prop) (px : String → va_W → Prop) : Prop :=
  ∀ sz : Nat, vx_Met l y (wT y cc maxL ret) (rmL d mc ms) (va_Pc as (PreB S Ms κ iW ws sz)) (QnG κ (va_A ws sz) res post) (QXG κ (va_A ws sz) px) mc ms (va_A ws sz)
def CtGH (S : List SQ) (Ms : List MQ3) (l : Launch) (κ : Kp) (y : MethodName) (cc : ByteArray) (maxL : Nat) (ret : Option FieldType) (hh : List (Nat × Nat × Nat × Nat)) (d mc ms : Nat) (as : List Value) (ws : va_W) {ρ : Type} (res : ρ → Option Value) (post : ρ → va_W → Prop) (px : String → va_W → Prop) : Prop :=
  ∀ sz : Nat, vx_Met l y (wH y cc maxL ret hh) (rmL d mc ms) (va_Pc as (PreB S Ms κ iW ws sz)) (QnG κ (va_A ws sz) res post) (QXG κ (va_A ws sz) px) mc ms (va_A ws sz)
def FinG (X : Cx) (ret : Option FieldType) {ρ : Type} (res : ρ → Option Value) (post : ρ → va_W → Prop) (px : String → va_W → Prop) (kc ks : Nat) : Prop :=
  (xM X).sig.returnType = ret ∧ xQ X = vx_MQ (xb X) (QnG (xK X) (xA X) res post) (QXG (xK X) (xA X) px) (xa X) (xs X) kc ks (xA X)
section CtGOf
variable {S : List SQ} {Ms : List MQ3} {l : Launch} {κ : Kp} {y : MethodName} {cc : ByteArray} {maxL : Nat} {ret : Option FieldType} {d mc ms : Nat} {as : List Value} {ρ : Type} {ws : va_W} {res : ρ → Option Value} {post : ρ → va_W → Prop} {px : String → va_W → Prop}
theorem CtG.of {own : String} (hy : plainName y.cls = true) (hown : y.cls = own) (hl : l.stackTraces = false) (hcat : ∀ v ∈ as, v.category = 1) (hlen : as.length ≤ maxL)
    (body : ∀ X : Cx, xl X = l → xK X = κ → Ok S Ms X own cc maxL d mc ms → FinG X ret res post px mc ms → NoH X → (xM X).name = y.name → V X iW 0 (as.map some ++ List.replicate (maxL - as.length) none) [] ws 0 0) : CtG S Ms l κ y cc maxL ret d mc ms as ws res post px := by
  intro sz
  refine vx_ofW (cc := cc) (maxL := maxL) (ret := ret) hy rfl ?_
  intro p e s m args below meth c s₁ B hml hnoh hv
  obtain ⟨rfl, hsz, hP, hK, hD0, hE⟩ := hv
  have hts := atoms_spec (ws := wT y cc maxL ret) B.pre
  have hown2 : s.vm.findClass own = some m.cls := by rw [← hown]; exact findClass_of_methodNamed B.named
  have hin : meth.name = y.name := (name_of_methodNamed B.named B.method).1
  subst hsz
  have hD := hD0.self (sz := s.heap.size)
  have X1 := body (p, l, e, (headSpec (wT y cc maxL ret) (rmL d mc ms)).room, s, m, as.toArray, below, meth, c, vx_MQ below (QnG κ (va_A ws s.heap.size) res post) (QXG κ (va_A ws s.heap.size) px) as.toArray s mc ms (va_A ws s.heap.size), va_A ws s.heap.size, κ) rfl rfl
    ⟨B.exec, B.bytes, hml, hown2, fun w hw => hts w (List.mem_cons_of_mem _ hw), hK, fun q h => Or.inr h, B.notSynchronized, hl, rfl, hE⟩ ⟨B.returns, rfl⟩ hnoh hin
  have hll := lg_len as hcat
  have hl0 := lv_entry as (n := maxL) (by rw [hll]; exact hlen)
  rw [lg_entry_eq]
  refine X1 s.heap [] _ hP hD va_S.rf ?_
  have : (as.map some ++ List.replicate (maxL - as.length) (none : Option Value)).length = maxL := by simp; omega
  rw [this]
  exact hl0.mono (fun q hq => lq_args as 0 hcat _ q hq)
theorem CtGH.of {hh : List (Nat × Nat × Nat × Nat)} {own : String} (hy : plainName y.cls = true) (hown : y.cls = own) (hl : l.stackTraces = false) (hcat : ∀ v ∈ as, v.category = 1) (hlen : as.length ≤ maxL)
    (body : ∀ X : Cx, xl X = l → xK X = κ → Ok S Ms X own cc maxL d mc ms → FinG X ret res post px mc ms → HT X hh → V X iW 0 (as.map some ++ List.replicate (maxL - as.length) none) [] ws 0 0) : CtGH S Ms l κ y cc maxL ret hh d mc ms as ws res post px := by
  intro sz
  refine vx_ofWH (cc := cc) (maxL := maxL) (ret := ret) (hh := hh) hy rfl ?_
  intro p e s m args below meth c s₁ B hml hv
  obtain ⟨rfl, hsz, hP, hK, hD0, hE⟩ := hv
  have hts := atoms_spec (ws := wH y cc maxL ret hh) B.pre
  have hown2 : s.vm.findClass own = some m.cls := by rw [← hown]; exact findClass_of_methodNamed B.named
  have hT : c.exceptionTable.toList = tableOf hh := vx_table (x := y) B (hts _ List.mem_cons_self)
  subst hsz
  have hD := hD0.self (sz := s.heap.size)
  have X1 := body (p, l, e, (headSpec (wH y cc maxL ret hh) (rmL d mc ms)).room, s, m, as.toArray, below, meth, c, vx_MQ below (QnG κ (va_A ws s.heap.size) res post) (QXG κ (va_A ws s.heap.size) px) as.toArray s mc ms (va_A ws s.heap.size), va_A ws s.heap.size, κ) rfl rfl
    ⟨B.exec, B.bytes, hml, hown2, fun w hw => hts w (List.mem_cons_of_mem _ hw), hK, fun q h => Or.inr h, B.notSynchronized, hl, rfl, hE⟩ ⟨B.returns, rfl⟩ hT
  have hll := lg_len as hcat
  have hl0 := lv_entry as (n := maxL) (by rw [hll]; exact hlen)
  rw [lg_entry_eq]
  refine X1 s.heap [] _ hP hD va_S.rf ?_
  have : (as.map some ++ List.replicate (maxL - as.length) (none : Option Value)).length = maxL := by simp; omega
  rw [this]
  exact hl0.mono (fun q hq => lq_args as 0 hcat _ q hq)
end CtGOf
theorem app_at {ws R : va_W} {c : Nat} {q : Nat × va_E} (h : ws[c]? = some q) : (ws ++ R)[c]? = some q := by
  rw [List.getElem?_append_left (List.getElem?_eq_some_iff.mp h).1]; exact h
theorem app_set {ws R : va_W} {c : Nat} {q x : Nat × va_E} (h : ws[c]? = some q) : (ws ++ R).set c x = ws.set c x ++ R := by
  rw [List.set_append, if_pos (List.getElem?_eq_some_iff.mp h).1]
def rr : Nat → Option Value := fun a => some (.ref a)
def rq : Option Nat → Option Value := fun a => some (va_rf a)
section VG
variable {S : List SQ} {Ms : List MQ3} {X : Cx} {own : String} {cc : ByteArray} {nL d kc ks : Nat} {K : va_W → va_W} {pc : Nat} {lo : List (Option Value)} {st : List Value} {k n : Nat} {ws ws2 : va_W} {ρ : Type} {res : ρ → Option Value} {post : ρ → va_W → Prop} {px : String → va_W → Prop}
/-! fields -/
theorem v_gF (C : Ok S Ms X own cc nL d kc ks) (hK : Cxt K) {idx ci f a : Nat} {fs : List Value} {v : Value} (c : Nat) (L : FL own idx ci f) (he : ws[c]? = some (a, .inr (ci, fs))) (hv : fs[f]? = some v) (hdg : decode cc pc = .ok (.getfield idx, 3)) (kk : V X iW (pc + 3) lo (v :: st) (K ws) k n) : V X iW pc lo (.ref a :: st) (K ws) k n := by
  intro H locs ls hP hD hS hl
  obtain ⟨R, hR⟩ := hK
  obtain ⟨q, q1, q2, q3, q4, -⟩ := L
  exact va_get C.1 C.2.1 C.2.2.2.2.1 q2 C.2.2.2.1 C.2.2.2.2.2.1 (va_P.perm hP (hR ws)) c (app_at he) q1 f q3 (C.2.2.2.2.1 _ q4) (fun _ hx => hx) hv hdg (kk H locs ls hP hD hS hl)
theorem v_gFN (C : Ok S Ms X own cc nL d kc ks) (hK : Cxt K) {idx ci f a : Nat} {fs : List Value} {v : Value} (c : Nat) (L : FLN own idx ci f) (he : ws[c]? = some (a, .inr (ci, fs))) (hv : fs[f]? = some v) (hdg : decode cc pc = .ok (.getfield idx, 3)) (kk : V X iW (pc + 3) lo (v :: st) (K ws) k n) : V X iW pc lo (.ref a :: st) (K ws) k n := by
  intro H locs ls hP hD hS hl
  obtain ⟨R, hR⟩ := hK
  obtain ⟨q, host, q1, q2, q3, q4⟩ := L
  have hTD := C.2.2.2.2.2.2.2.2.2.2.2.2.1
  exact va_getN C.1 C.2.1 C.2.2.2.2.1 q2 C.2.2.2.1 C.2.2.2.2.2.1 (va_P.perm hP (hR ws)) c (app_at he) q1 f q3 (va_Nw.use (TD_on q4) (hTD _ q4)) (fun _ hx => hx) hv hdg (kk H locs ls hP hD hS hl)
theorem v_pF (C : Ok S Ms X own cc nL d kc ks) (hK : Cxt K) {idx ci f a : Nat} {fs : List Value} {v : Value} {ty : FieldType} (c : Nat) (L : FL own idx ci f) (P : FW ci f ty) (he : ws[c]? = some (a, .inr (ci, fs))) (hn : narrow ty v = v) (hf : fits ty v = true) (hl0 : f < fs.length) (h2 : ws.set c (a, .inr (ci, fs.set f v)) = ws2) (hdg : decode cc pc = .ok (.putfield idx, 3)) (kk : V X iW (pc + 3) lo st (K ws2) k n) : V X iW pc lo (v :: .ref a :: st) (K ws) k n := by
  intro H locs ls hP hD hS hlv
  obtain ⟨R, hR⟩ := hK
  obtain ⟨q, q1, q2, q3, q4, -⟩ := L
  obtain ⟨p, ty0, p1, p2, p3, p4, p5⟩ := P
  rw [q1] at p1
  cases p1
  refine va_put C.1 C.2.1 C.2.2.2.2.1 q2 ty0 p2 p3 C.2.2.2.1 C.2.2.2.2.2.1 (va_P.perm hP (hR ws)) (va_D.perm hD (hR ws)) hS c (app_at he) q1 f q3 (C.2.2.2.2.1 _ q4) (fun _ hx => hx) p4 p5 hn hf hl0 hdg (fun H1 locs1 hP1 hD1 hS1 => ?_)
  rw [app_set he, h2] at hP1 hD1
  exact kk H1 locs1 ls (va_P.perm hP1 (hR ws2).symm) (va_D.perm hD1 (hR ws2).symm) hS1 hlv
theorem v_pFN (C : Ok S Ms X own cc nL d kc ks) (hK : Cxt K) {idx ci f a : Nat} {fs : List Value} {v : Value} {ty : FieldType} (c : Nat) (L : FLN own idx ci f) (P : FW ci f ty) (he : ws[c]? = some (a, .inr (ci, fs))) (hn : narrow ty v = v) (hf : fits ty v = true) (hl0 : f < fs.length) (h2 : ws.set c (a, .inr (ci, fs.set f v)) = ws2) (hdg : decode cc pc = .ok (.putfield idx, 3)) (kk : V X iW (pc + 3) lo st (K ws2) k n) : V X iW pc lo (v :: .ref a :: st) (K ws) k n := by
  intro H locs ls hP hD hS hlv
  obtain ⟨R, hR⟩ := hK
  obtain ⟨q, host, q1, q2, q3, q4⟩ := L
  obtain ⟨p, ty0, p1, p2, p3, p4, p5⟩ := P
  rw [q1] at p1
  cases p1
  have hTD := C.2.2.2.2.2.2.2.2.2.2.2.2.1
  refine va_putN C.1 C.2.1 C.2.2.2.2.1 q2 ty0 p2 p3 C.2.2.2.1 C.2.2.2.2.2.1 (va_P.perm hP (hR ws)) (va_D.perm hD (hR ws)) hS c (app_at he) q1 f q3 (va_Nw.use (TD_on q4) (hTD _ q4)) (fun _ hx => hx) p4 p5 hn hf hl0 hdg (fun H1 locs1 hP1 hD1 hS1 => ?_)
  rw [app_set he, h2] at hP1 hD1
  exact kk H1 locs1 ls (va_P.perm hP1 (hR ws2).symm) (va_D.perm hD1 (hR ws2).symm) hS1 hlv
theorem v_pFF (C : Ok S Ms X own cc nL d kc ks) (hO : (xM X).name = "<init>") (hK : Cxt K) {idx ci f a : Nat} {fs : List Value} {v : Value} {ty : FieldType} (c : Nat) (L : FL own idx ci f) (P : FWf own ci f ty) (he : ws[c]? = some (a, .inr (ci, fs))) (hn : narrow ty v = v) (hf : fits ty v = true) (hl0 : f < fs.length) (h2 : ws.set c (a, .inr (ci, fs.set f v)) = ws2) (hdg : decode cc pc = .ok (.putfield idx, 3)) (kk : V X iW (pc + 3) lo st (K ws2) k n) : V X iW pc lo (v :: .ref a :: st) (K ws) k n := by
  intro H locs ls hP hD hS hlv
  obtain ⟨R, hR⟩ := hK
  obtain ⟨q, q1, q2, q3, q4, -⟩ := L
  obtain ⟨p, ty0, p1, p2, p3, p4, p6, p5⟩ := P
  rw [q1] at p1
  cases p1
  refine va_putF C.1 C.2.1 C.2.2.2.2.1 q2 ty0 p2 p3 C.2.2.2.1 C.2.2.2.2.2.1 (va_P.perm hP (hR ws)) (va_D.perm hD (hR ws)) hS c (app_at he) q1 f q3 (C.2.2.2.2.1 _ q4) (fun _ hx => hx) p4 hO p6 p5 hn hf hl0 hdg (fun H1 locs1 hP1 hD1 hS1 => ?_)
  rw [app_set he, h2] at hP1 hD1
  exact kk H1 locs1 ls (va_P.perm hP1 (hR ws2).symm) (va_D.perm hD1 (hR ws2).symm) hS1 hlv
/-! arrays -/
abbrev cB (κ : Kp) (a n : Nat) (f : Nat → Int32) : Nat × va_E := (a, .inl (κ.2.1 2, n, .inl f))
abbrev cP (κ : Kp) (a n : Nat) (f : Nat → Option Nat) : Nat × va_E := (a, .inl (κ.2.1 3, n, .inr (.inr (.inr (.inr f)))))
abbrev cE (κ : Kp) (a n : Nat) (f : Nat → Option Nat) : Nat × va_E := (a, .inl (κ.2.1 5, n, .inr (.inr (.inr (.inr f)))))
theorem v_gI (C : Ok S Ms X own cc nL d kc ks) (hK : Cxt K) {a N : Nat} {f : Nat → Int32} (c : Nat) (he : ws[c]? = some (cI (xK X) a N f)) (hN : N < 2 ^ 31) {i x : Int32} (j : Nat) (hx : f j = x) (hj : j < N) (hi : i = nI j) (hdg : decode cc pc = .ok (.iaload, 1)) (kk : V X iW (pc + 1) lo (.int x :: st) (K ws) k n) : V X iW pc lo (.int i :: .ref a :: st) (K ws) k n := by
  intro H locs ls hP hD hS hl
  obtain ⟨R, hR⟩ := hK
  subst hi
  refine va_iald C.1 C.2.1 C.2.2.2.2.2.1 (va_P.perm hP (hR ws)) c 0 (app_at he) rfl (in_nI hj hN) hdg ?_
  rw [nI_clamp (by omega), hx]
  exact kk H locs ls hP hD hS hl
theorem v_gB (C : Ok S Ms X own cc nL d kc ks) (hK : Cxt K) {a N : Nat} {f : Nat → Int32} (c : Nat) (he : ws[c]? = some (cB (xK X) a N f)) (hN : N < 2 ^ 31) {i x : Int32} (j : Nat) (hx : f j = x) (hj : j < N) (hi : i = nI j) (hdg : decode cc pc = .ok (.baload, 1)) (kk : V X iW (pc + 1) lo (.int x :: st) (K ws) k n) : V X iW pc lo (.int i :: .ref a :: st) (K ws) k n := by
  intro H locs ls hP hD hS hl
  obtain ⟨R, hR⟩ := hK
  subst hi
  refine va_bald C.1 C.2.1 C.2.2.2.2.2.1 (va_P.perm hP (hR ws)) c 2 (app_at he) rfl (in_nI hj hN) hdg ?_
  rw [nI_clamp (by omega), hx]
  exact kk H locs ls hP hD hS hl
theorem v_gP (C : Ok S Ms X own cc nL d kc ks) (hK : Cxt K) {a N : Nat} {f : Nat → Option Nat} (c : Nat) (he : ws[c]? = some (cP (xK X) a N f)) (hN : N < 2 ^ 31) {i : Int32} {x : Option Nat} (j : Nat) (hx : f j = x) (hj : j < N) (hi : i = nI j) (hdg : decode cc pc = .ok (.aaload, 1)) (kk : V X iW (pc + 1) lo (va_rf x :: st) (K ws) k n) : V X iW pc lo (.int i :: .ref a :: st) (K ws) k n := by
  intro H locs ls hP hD hS hl
  obtain ⟨R, hR⟩ := hK
  subst hi
  refine va_aldq C.1 C.2.1 C.2.2.2.2.2.1 (va_P.perm hP (hR ws)) c 3 (app_at he) rfl (in_nI hj hN) hdg ?_
  rw [nI_clamp (by omega), hx]
  exact kk H locs ls hP hD hS hl
theorem v_gE (C : Ok S Ms X own cc nL d kc ks) (hK : Cxt K) {a N : Nat} {f : Nat → Option Nat} (c : Nat) (he : ws[c]? = some (cE (xK X) a N f)) (hN : N < 2 ^ 31) {i : Int32} {x : Option Nat} (j : Nat) (hx : f j = x) (hj : j < N) (hi : i = nI j) (hdg : decode cc pc = .ok (.aaload, 1)) (kk : V X iW (pc + 1) lo (va_rf x :: st) (K ws) k n) : V X iW pc lo (.int i :: .ref a :: st) (K ws) k n := by
  intro H locs ls hP hD hS hl
  obtain ⟨R, hR⟩ := hK
  subst hi
  have hcl : (nI j).toNatClampNeg = j := nI_clamp (by omega)
  refine W.aald (v := va_rf (f j)) (ty := .array .int) C.1 C.2.1 (va_P.perm hP (hR ws) c _ (app_at he)) ((C.2.2.2.2.2.1.2 5 ((xK X).2.1 5, .array .int) rfl).1 N (fun j => va_rf (f j))) rfl (fun q => by cases q) (by show ¬ (nI j < 0 ∨ (arrV _ _ _).slots.size ≤ _); rw [arrV_size]; exact in_nI hj hN) (by show (arrV _ _ _).slots[_]? = _; rw [hcl, arrV_read _ _ hj]) rfl rfl hdg ?_
  rw [hx]
  exact kk H locs ls hP hD hS hl
theorem v_sI (C : Ok S Ms X own cc nL d kc ks) (hK : Cxt K) {a N : Nat} {f : Nat → Int32} (c : Nat) (he : ws[c]? = some (cI (xK X) a N f)) (hN : N < 2 ^ 31) {i x : Int32} (j : Nat) (hj : j < N) (hi : i = nI j) (h2 : ws.set c (cI (xK X) a N (upd f j x)) = ws2) (hdg : decode cc pc = .ok (.iastore, 1)) (kk : V X iW (pc + 1) lo st (K ws2) k n) : V X iW pc lo (.int x :: .int i :: .ref a :: st) (K ws) k n := by
  intro H locs ls hP hD hS hl
  obtain ⟨R, hR⟩ := hK
  subst hi
  refine va_iast C.1 C.2.1 C.2.2.2.2.2.1 (va_P.perm hP (hR ws)) (va_D.perm hD (hR ws)) hS c 0 (app_at he) rfl (in_nI hj hN) hdg (fun H1 locs1 hP1 hD1 hS1 => ?_)
  rw [nI_clamp (by omega), app_set he, h2] at hP1 hD1
  exact kk H1 locs1 ls (va_P.perm hP1 (hR ws2).symm) (va_D.perm hD1 (hR ws2).symm) hS1 hl
theorem v_sB (C : Ok S Ms X own cc nL d kc ks) (hK : Cxt K) {a N : Nat} {f : Nat → Int32} (c : Nat) (he : ws[c]? = some (cB (xK X) a N f)) (hN : N < 2 ^ 31) {i x y : Int32} (j : Nat) (hj : j < N) (hi : i = nI j) (hy : vp_nar .byte x = y) (h2 : ws.set c (cB (xK X) a N (upd f j y)) = ws2) (hdg : decode cc pc = .ok (.bastore, 1)) (kk : V X iW (pc + 1) lo st (K ws2) k n) : V X iW pc lo (.int x :: .int i :: .ref a :: st) (K ws) k n := by
  intro H locs ls hP hD hS hl
  obtain ⟨R, hR⟩ := hK
  subst hi
  refine va_bast C.1 C.2.1 C.2.2.2.2.2.1 (va_P.perm hP (hR ws)) (va_D.perm hD (hR ws)) hS c 2 (app_at he) rfl (in_nI hj hN) hdg (fun H1 locs1 hP1 hD1 hS1 => ?_)
  rw [nI_clamp (by omega), hy, app_set he, h2] at hP1 hD1
  exact kk H1 locs1 ls (va_P.perm hP1 (hR ws2).symm) (va_D.perm hD1 (hR ws2).symm) hS1 hl
theorem v_sP (C : Ok S Ms X own cc nL d kc ks) (hK : Cxt K) {a N v : Nat} {vs : List Value} {f : Nat → Option Nat} (c qk : Nat) (he : ws[c]? = some (cP (xK X) a N f)) (hv : ws[qk]? = some (v, .inr (8, vs))) (hN : N < 2 ^ 31) {i : Int32} (j : Nat) (hj : j < N) (hi : i = nI j) (h2 : ws.set c (cP (xK X) a N (va_up f j (some v))) = ws2) (hdg : decode cc pc = .ok (.aastore, 1)) (kk : V X iW (pc + 1) lo st (K ws2) k n) : V X iW pc lo (.ref v :: .int i :: .ref a :: st) (K ws) k n := by
  intro H locs ls hP hD hS hl
  obtain ⟨R, hR⟩ := hK
  subst hi
  refine va_astq (r := (RX8, TX8, 5)) C.1 C.2.1 C.2.2.2.2.2.1 (va_P.perm hP (hR ws)) (va_D.perm hD (hR ws)) hS c 3 qk 8 (app_at he) rfl (app_at hv) rfl (in_nI hj hN) hdg (fun H1 locs1 hP1 hD1 hS1 => ?_)
  rw [nI_clamp (by omega), app_set he, h2] at hP1 hD1
  exact kk H1 locs1 ls (va_P.perm hP1 (hR ws2).symm) (va_D.perm hD1 (hR ws2).symm) hS1 hl
theorem v_lenA (C : Ok S Ms X own cc nL d kc ks) (hK : Cxt K) {a N : Nat} {x : vp_A} (t : Nat) {ty : FieldType} (c : Nat) (ht : (tysOf (xK X))[t]? = some ((xK X).2.1 t, ty)) (he : ws[c]? = some (a, .inl ((xK X).2.1 t, x))) (hx : x.1 = N) (hdg : decode cc pc = .ok (.arraylength, 1)) (kk : V X iW (pc + 1) lo (.int (nI N) :: st) (K ws) k n) : V X iW pc lo (.ref a :: st) (K ws) k n := by
  intro H locs ls hP hD hS hl
  obtain ⟨R, hR⟩ := hK
  subst hx
  exact va_alen C.1 C.2.1 C.2.2.2.2.2.1 (va_P.perm hP (hR ws)) c t (app_at he) ht rfl hdg (kk H locs ls hP hD hS hl)
/-! ends -/
theorem v_iretG (C : Ok S Ms X own cc nL d kc ks) {ty : FieldType} {x : Int32} {r : ρ} (F : FinG X (some ty) res post px kc ks) (hn : narrow ty (.int x) = .int x) (hdg : decode cc pc = .ok (.ireturn, 1)) (hk : k ≤ kc) (hn2 : n ≤ ks) (hr : res r = some (.int x)) (p : ws.Perm ws2) (hp : post r ws2) : V X iW pc lo [.int x] ws k n := by
  intro H locs ls hP hD hS hl
  unfold xW
  rw [F.2]
  refine W.widen hk hn2 (vx_ret ?_)
  exact W.zret C.1 C.2.1 F.1 hn (fun t ht hW => ⟨⟨r, ws2, by rw [hr], hp, by rw [ht]; exact va_P.perm hP p, va_D.perm hD p⟩, hS.F ht⟩) hS.2.2 hdg C.2.2.2.2.2.2.2.1
theorem v_vretG (C : Ok S Ms X own cc nL d kc ks) {r : ρ} (F : FinG X none res post px kc ks) (hdg : decode cc pc = .ok (.return_, 1)) (hk : k ≤ kc) (hn2 : n ≤ ks) (hr : res r = none) (p : ws.Perm ws2) (hp : post r ws2) : V X iW pc lo [] ws k n := by
  intro H locs ls hP hD hS hl
  unfold xW
  rw [F.2]
  refine W.widen hk hn2 (vx_ret ?_)
  exact W.vret C.1 C.2.1 F.1 (fun t ht hW => ⟨⟨r, ws2, by rw [hr], hp, by rw [ht]; exact va_P.perm hP p, va_D.perm hD p⟩, hS.F ht⟩) hS.2.2 hdg C.2.2.2.2.2.2.2.1
theorem v_lretG (C : Ok S Ms X own cc nL d kc ks) {x : Int64} {r : ρ} (F : FinG X (some .long) res post px kc ks) (hdg : decode cc pc = .ok (.lreturn, 1)) (hk : k ≤ kc) (hn2 : n ≤ ks) (hr : res r = some (.long x)) (p : ws.Perm ws2) (hp : post r ws2) : V X iW pc lo [.long x] ws k n := by
  intro H locs ls hP hD hS hl
  unfold xW
  rw [F.2]
  refine W.widen hk hn2 (vx_ret ?_)
  exact W.lret C.1 C.2.1 F.1 (fun t ht hW => ⟨⟨r, ws2, by rw [hr], hp, by rw [ht]; exact va_P.perm hP p, va_D.perm hD p⟩, hS.F ht⟩) hS.2.2 hdg C.2.2.2.2.2.2.2.1
theorem v_aretG (C : Ok S Ms X own cc nL d kc ks) {rt : FieldType} {x : Option Nat} {r : ρ} (F : FinG X (some rt) res post px kc ks) (hrt : (∃ n, rt = .object n) ∨ ∃ t, rt = .array t) (hdg : decode cc pc = .ok (.areturn, 1)) (hk : k ≤ kc) (hn2 : n ≤ ks) (hr : res r = some (va_rf x)) (p : ws.Perm ws2) (hp : post r ws2) : V X iW pc lo [va_rf x] ws k n := by
  intro H locs ls hP hD hS hl
  have hlocks := C.2.2.2.2.2.2.2.1
  unfold xW
  rw [F.2]
  refine W.widen hk hn2 (vx_ret ?_)
  exact W.aret C.1 C.2.1 F.1 hrt (by cases x; exact Or.inl rfl; exact Or.inr ⟨_, rfl⟩) (fun t ht hW => ⟨⟨r, ws2, by rw [hr], hp, by rw [ht]; exact va_P.perm hP p, va_D.perm hD p⟩, hS.F ht⟩) hS.2.2 hdg hlocks
theorem v_outG (C : Ok S Ms X own cc nL d kc ks) (N : NoH X) {ret : Option FieldType} (F : FinG X ret res post px kc ks) {E : String} (hk : k ≤ kc) (hn2 : n ≤ ks) (p : ws.Perm ws2) (hp : px E ws2) : VX X iW pc lo E st ws k n := by
  intro H locs ls q ce hP hD hS hl hq hv hcl
  rw [F.2]
  exact vx_out (fun x hx => (N x hx).elim) C.2.2.2.2.2.2.2.1 hq hv hcl (fun t ht hW => ⟨⟨ws2, hp, by rw [ht]; exact va_P.perm hP p, va_D.perm hD p⟩, hS.F ht⟩) hS.2.2 hk hn2
/-! instructions that the class did not have -/
theorem v_ior (C : Ok S Ms X own cc nL d kc ks) {x y : Int32} (hdg : decode cc pc = .ok (.ior, 1)) (kk : V X iW (pc + 1) lo (.int (x ||| y) :: st) ws k n) : V X iW pc lo (.int y :: .int x :: st) ws k n := fun H locs ls hP hD hS hl => lv_ior C.1 C.2.1 hdg (kk H locs ls hP hD hS hl)
theorem v_ishl (C : Ok S Ms X own cc nL d kc ks) {x y : Int32} (hdg : decode cc pc = .ok (.ishl, 1)) (kk : V X iW (pc + 1) lo (.int (x <<< (y &&& 31)) :: st) ws k n) : V X iW pc lo (.int y :: .int x :: st) ws k n := fun H locs ls hP hD hS hl => lv_ishl C.1 C.2.1 hdg (kk H locs ls hP hD hS hl)
theorem v_i2b (C : Ok S Ms X own cc nL d kc ks) {x v : Int32} (hdg : decode cc pc = .ok (.i2b, 1)) (hv : x.toInt8.toInt32 = v) (kk : V X iW (pc + 1) lo (.int v :: st) ws k n) : V X iW pc lo (.int x :: st) ws k n := fun H locs ls hP hD hS hl => lv_i2b C.1 C.2.1 hdg hv (kk H locs ls hP hD hS hl)
theorem v_dup_x1 (C : Ok S Ms X own cc nL d kc ks) {v w : Value} (hdg : decode cc pc = .ok (.dup_x1, 1)) (hv : v.category = 1) (hw : w.category = 1) (kk : V X iW (pc + 1) lo (v :: w :: v :: st) ws k n) : V X iW pc lo (v :: w :: st) ws k n := fun H locs ls hP hD hS hl => lv_dup_x1 C.1 C.2.1 hdg hv hw (kk H locs ls hP hD hS hl)
theorem v_ifnull (C : Ok S Ms X own cc nL d kc ks) {x : Option Nat} {off : Int} (tgt : Nat) (hdg : decode cc pc = .ok (.ifnull off, 3)) (ht : (pc : Int) + off = (tgt : Int)) (kt : x = none → V X iW tgt lo st ws k n) (kf : ∀ a, x = some a → V X iW (pc + 3) lo st ws k n) : V X iW pc lo (va_rf x :: st) ws k n := by
  intro H locs ls hP hD hS hl
  cases x with
  | none => exact lv_ifnullN C.1 C.2.1 hdg ht (kt rfl H locs ls hP hD hS hl)
  | some a => exact lv_ifnull C.1 C.2.1 hdg (kf a rfl H locs ls hP hD hS hl)
theorem v_ifnonnull (C : Ok S Ms X own cc nL d kc ks) {x : Option Nat} {off : Int} (tgt : Nat) (hdg : decode cc pc = .ok (.ifnonnull off, 3)) (ht : (pc : Int) + off = (tgt : Int)) (kt : ∀ a, x = some a → V X iW tgt lo st ws k n) (kf : x = none → V X iW (pc + 3) lo st ws k n) : V X iW pc lo (va_rf x :: st) ws k n := by
  intro H locs ls hP hD hS hl
  cases x with
  | none => exact lv_ifnonnullN C.1 C.2.1 hdg (kf rfl H locs ls hP hD hS hl)
  | some a => exact lv_ifnonnull C.1 C.2.1 hdg ht (kt a rfl H locs ls hP hD hS hl)
theorem v_acmp_eq (C : Ok S Ms X own cc nL d kc ks) {x y : Option Nat} {off : Int} (tgt : Nat) (hdg : decode cc pc = .ok (.if_acmp .eq off, 3)) (ht : (pc : Int) + off = (tgt : Int)) (kt : x = y → V X iW tgt lo st ws k n) (kf : ¬ x = y → V X iW (pc + 3) lo st ws k n) : V X iW pc lo (va_rf y :: va_rf x :: st) ws k n := fun H locs ls hP hD hS hl => lv_acmp_eq C.1 C.2.1 hdg ht (fun z => kt z H locs ls hP hD hS hl) (fun z => kf z H locs ls hP hD hS hl)
theorem v_acmp_ne (C : Ok S Ms X own cc nL d kc ks) {x y : Option Nat} {off : Int} (tgt : Nat) (hdg : decode cc pc = .ok (.if_acmp .ne off, 3)) (ht : (pc : Int) + off = (tgt : Int)) (kt : ¬ x = y → V X iW tgt lo st ws k n) (kf : x = y → V X iW (pc + 3) lo st ws k n) : V X iW pc lo (va_rf y :: va_rf x :: st) ws k n := fun H locs ls hP hD hS hl => lv_acmp_ne C.1 C.2.1 hdg ht (fun z => kt z H locs ls hP hD hS hl) (fun z => kf z H locs ls hP hD hS hl)
theorem v_null (C : Ok S Ms X own cc nL d kc ks) (hdg : decode cc pc = .ok (.aconst_null, 1)) (kk : V X iW (pc + 1) lo (va_rf none :: st) ws k n) : V X iW pc lo st ws k n := fun H locs ls hP hD hS hl => lv_null C.1 C.2.1 hdg (kk H locs ls hP hD hS hl)
theorem v_aloadq_n (C : Ok S Ms X own cc nL d kc ks) {i : Fin 4} {x : Option Nat} (hdg : decode cc pc = .ok (.aload_n i, 1)) (h : lo[(i : Nat)]? = some (some (va_rf x))) (kk : V X iW (pc + 1) lo (va_rf x :: st) ws k n) : V X iW pc lo st ws k n := by
  intro H locs ls hP hD hS hl
  cases x with
  | none => exact lv_aload_nN C.1 C.2.1 hdg rfl (lo_at hl h) (kk H locs ls hP hD hS hl)
  | some a => exact lv_aload_n C.1 C.2.1 hdg rfl (lo_at hl h) (kk H locs ls hP hD hS hl)
theorem v_aloadq (C : Ok S Ms X own cc nL d kc ks) {i : Nat} {x : Option Nat} (hdg : decode cc pc = .ok (.aload i, 2)) (h : lo[i]? = some (some (va_rf x))) (kk : V X iW (pc + 2) lo (va_rf x :: st) ws k n) : V X iW pc lo st ws k n := by
  intro H locs ls hP hD hS hl
  cases x with
  | none => exact lv_aloadN C.1 C.2.1 hdg (lo_at hl h) (kk H locs ls hP hD hS hl)
  | some a => exact lv_aload C.1 C.2.1 hdg (lo_at hl h) (kk H locs ls hP hD hS hl)
theorem v_astoreq_n (C : Ok S Ms X own cc nL d kc ks) {i : Fin 4} {x : Option Nat} {lo2 : List (Option Value)} (hdg : decode cc pc = .ok (.astore_n i, 1)) (hs : lo.set (i : Nat) (some (va_rf x)) = lo2) (hi : (i : Nat) < lo.length) (ho : stOk (i : Nat) lo = true) (kk : V X iW (pc + 1) lo2 st ws k n) : V X iW pc lo (va_rf x :: st) ws k n := by
  intro H locs ls hP hD hS hl
  cases x with
  | none => exact lv_astore_nN C.1 C.2.1 hdg rfl hl hi rfl (fun ls' h' => kk H locs ls' hP hD hS (by rw [show lo2.length = lo.length by rw [← hs]; simp]; exact st1_has h' hs hi ho))
  | some a => exact lv_astore_n C.1 C.2.1 hdg rfl hl hi rfl (fun ls' h' => kk H locs ls' hP hD hS (by rw [show lo2.length = lo.length by rw [← hs]; simp]; exact st1_has h' hs hi ho))
theorem v_astoreq (C : Ok S Ms X own cc nL d kc ks) {i : Nat} {x : Option Nat} {lo2 : List (Option Value)} (hdg : decode cc pc = .ok (.astore i, 2)) (hs : lo.set i (some (va_rf x)) = lo2) (hi : i < lo.length) (ho : stOk i lo = true) (kk : V X iW (pc + 2) lo2 st ws k n) : V X iW pc lo (va_rf x :: st) ws k n := by
  intro H locs ls hP hD hS hl
  cases x with
  | none => exact lv_astoreN C.1 C.2.1 hdg hl hi rfl (fun ls' h' => kk H locs ls' hP hD hS (by rw [show lo2.length = lo.length by rw [← hs]; simp]; exact st1_has h' hs hi ho))
  | some a => exact lv_astore C.1 C.2.1 hdg hl hi rfl (fun ls' h' => kk H locs ls' hP hD hS (by rw [show lo2.length = lo.length by rw [← hs]; simp]; exact st1_has h' hs hi ho))
theorem v_ldcI (C : Ok S Ms X own cc nL d kc ks) {idx : Nat} {v : Int32} (lk : Cond.constant own idx v ∈ TT) (hdg : decode cc pc = .ok (.ldc idx, 2)) (kk : V X iW (pc + 2) lo (.int v :: st) ws k n) : V X iW pc lo st ws k n := fun H locs ls hP hD hS hl => lv_ldc C.1 C.2.1 C.2.2.2.1 (C.2.2.2.2.1 _ lk) hdg (kk H locs ls hP hD hS hl)
theorem v_popq (C : Ok S Ms X own cc nL d kc ks) {x : Option Nat} (hdg : decode cc pc = .ok (.pop, 1)) (kk : V X iW (pc + 1) lo st ws k n) : V X iW pc lo (va_rf x :: st) ws k n := v_pop C hdg (by cases x <;> rfl) kk
theorem v_dupq (C : Ok S Ms X own cc nL d kc ks) {x : Option Nat} (hdg : decode cc pc = .ok (.dup, 1)) (kk : V X iW (pc + 1) lo (va_rf x :: va_rf x :: st) ws k n) : V X iW pc lo (va_rf x :: st) ws k n := v_dup C hdg (by cases x <;> rfl) kk
/-! calls of contracts that grow -/
variable {R wsC : va_W}
theorem gr_free (C : Ok S Ms X own cc nL d kc ks) {H : Heap} {locs : List Loc} (hD : va_D (xA X) (wsC ++ R)) (hS : va_S (xA X) (xs X).heap H locs) : ∀ q, va_A wsC H.size q → xA X q := by
  intro q h
  rcases h with ⟨j, e, h⟩ | h
  · exact hD.2 j (q, e) (app_at h)
  · exact C.2.2.2.2.2.2.1 q (Nat.le_trans hS.1 h)
theorem gr_out {D : va_G} {cl : List vw_C} {A : Nat → Prop} {H : Heap} (hP : va_P D cl (wsC ++ R) H) (hD : va_D A (wsC ++ R)) : ∀ q ∈ R, q.1 < H.size ∧ ¬ va_A wsC H.size q.1 := by
  intro q hq
  obtain ⟨j, hj⟩ := List.mem_iff_getElem?.mp hq
  have hj2 : (wsC ++ R)[wsC.length + j]? = some q := by rw [List.getElem?_append_right (Nat.le_add_right _ _), Nat.add_sub_cancel_left]; exact hj
  have hlt := (hP _ q hj2).lt
  refine ⟨hlt, fun hA => ?_⟩
  rcases hA with ⟨i, e, hi⟩ | h
  · have h1 := hD.1 i (wsC.length + j) (q.1, e) q (app_at hi) hj2 rfl
    have h2 := (List.getElem?_eq_some_iff.mp hi).1
    omega
  · omega
theorem gr_P {D : va_G} {cl : List vw_C} {A : Nat → Prop} {H H1 : Heap} {u : va_W} (hP : va_P D cl (wsC ++ R) H) (hD : va_D A (wsC ++ R)) (hk : ∀ q : Nat, q < H.size → ¬ va_A wsC H.size q → H1[q]? = H[q]?) (hP1 : va_P D cl u H1) : va_P D cl (u ++ R) H1 := by
  refine va_P.app hP1 (fun j q hq => ?_)
  obtain ⟨h1, h2⟩ := gr_out hP hD q (List.mem_of_getElem? hq)
  have hj2 : (wsC ++ R)[wsC.length + j]? = some q := by rw [List.getElem?_append_right (Nat.le_add_right _ _), Nat.add_sub_cancel_left]; exact hq
  exact (hP _ q hj2).kept (hk q.1 h1 h2)
theorem gr_D {D : va_G} {cl : List vw_C} {A : Nat → Prop} {H : Heap} {u : va_W} (hP : va_P D cl (wsC ++ R) H) (hD : va_D A (wsC ++ R)) (hF : ∀ q, va_A wsC H.size q → A q) (hD1 : va_D (va_A wsC H.size) u) : va_D A (u ++ R) := by
  have d1 := va_D_iff.mp hD1
  have d2 := va_D_iff.mp (hD.less (List.sublist_append_right wsC R))
  refine va_D_iff.mpr ⟨?_, fun q hq => ?_⟩
  · rw [List.map_append, List.nodup_append]
    refine ⟨d1.1, d2.1, fun x hx z hz e => ?_⟩
    obtain ⟨q1, m1, rfl⟩ := List.mem_map.mp hx
    obtain ⟨q2, m2, rfl⟩ := List.mem_map.mp hz
    exact (gr_out hP hD q2 m2).2 (by rw [← e]; exact d1.2 q1 m1)
  · rcases List.mem_append.mp hq with m1 | m2
    · exact hF _ (d1.2 q m1)
    · exact d2.2 q m2
theorem gr_pre (C : Ok S Ms X own cc nL d kc ks) {H : Heap} {locs : List Loc} (hP : va_P (xK X).1 vwCl (wsC ++ R) H) (hD : va_D (xA X) (wsC ++ R)) (hS : va_S (xA X) (xs X).heap H locs) {U : State} (hU : U.heap = H) (hW : (xs X).WarmedH U.vm) : PreB S Ms (xK X) iW wsC H.size U := by
  have hF := gr_free C hD hS
  refine ⟨by rw [hU], by rw [hU]; exact hP.less (List.sublist_append_left wsC R), va_K.moved hW.alike C.2.2.2.2.2.1, (hD.less (List.sublist_append_left wsC R)).toTrue, ?_⟩
  rw [hU]
  exact EV.warm hW (EV.narrow (EV.kept C.2.2.2.2.2.2.2.2.2.2 hS.2.1) hF)
variable {y : MethodName} {bytes : ByteArray} {maxL : Nat} {ret : Option FieldType} {d2 mc ms : Nat} {rest : List Value}
theorem v_g0 (C : Ok S Ms X own cc nL d kc ks) {a : Array Value}
    (hr : ∀ (H : Heap) (locs : List Loc) (ls : Array Slot), va_P (xK X).1 vwCl (wsC ++ R) H → va_D (xA X) (wsC ++ R) → va_S (xA X) (xs X).heap H locs → lv_has ls lo.length (lq 0 lo) →
      vx_Run (xp X) (xl X) (xe X) (xR X) (xs X) (xm X) (xa X) (xb X) (xM X) (xc X) H locs k n mc ms (F0 (xm X) pc ls st) rest (QnG (xK X) (va_A wsC H.size) res post a) (QXG (xK X) (va_A wsC H.size) px) (va_A wsC H.size))
    (kx : ∀ e u, px e u → VX X iW pc lo e rest (u ++ R) (k + mc) (n + ms)) (kk : ∀ r u, post r u → V X iW (pc + 3) lo ((res r).toList ++ rest) (u ++ R) (k + mc) (n + ms)) : V X iW pc lo st (wsC ++ R) k n := by
  intro H locs ls hP hD hS hl T hT X0
  have hF := gr_free C hD hS
  rcases hr H locs ls hP hD hS hl T hT X0 with ⟨v, st₀, t, T', L, h0, X', hL, e1, e2, ⟨⟨r, u, hv, hp, hP1, hD1⟩, hFr⟩, goes⟩ | ⟨q, st₀, t, T', L, e, ce, h0, X', hL, e1, e2, ⟨⟨u, hp, hP1, hD1⟩, hFr⟩, hce, hcv, hcl, steps⟩
  · cases hv
    obtain ⟨-, k2, k3⟩ := vx_keep h0 e1 hS (fun q _ h => hF q h) hF hL hFr
    have hP2 : va_P (xK X).1 vwCl (u ++ R) T'.heap := gr_P hP hD k2 (by rw [e1]; exact hP1)
    obtain ⟨t2, a1, b1⟩ := kk r u hp T'.heap (locs ++ L) ls hP2 (gr_D hP hD hF hD1) k3 hl T' rfl X'
    exact ⟨t2, goes t2 a1, b1⟩
  · obtain ⟨-, k2, k3⟩ := vx_keep h0 e1 hS (fun q _ h => hF q h) hF hL hFr
    have hP2 : va_P (xK X).1 vwCl (u ++ R) T'.heap := gr_P hP hD k2 (by rw [e1]; exact hP1)
    obtain ⟨t2, a1, b1⟩ := kx e u hp T'.heap (locs ++ L) ls q ce hP2 (gr_D hP hD hF hD1) k3 hl (by rw [e1]; exact hce) hcv hcl T' rfl X'
    exact ⟨t2, steps.trans a1, b1⟩
/-- the same in surroundings -/
theorem v_gK (hK : Cxt K) (hg : ∀ R, (∀ e u, px e u → VX X iW pc lo e rest (u ++ R) (k + mc) (n + ms)) → (∀ r u, post r u → V X iW (pc + 3) lo ((res r).toList ++ rest) (u ++ R) (k + mc) (n + ms)) → V X iW pc lo st (wsC ++ R) k n)
    (kx : ∀ e u, px e u → VX X iW pc lo e rest (K u) (k + mc) (n + ms)) (kk : ∀ r u, post r u → V X iW (pc + 3) lo ((res r).toList ++ rest) (K u) (k + mc) (n + ms)) : V X iW pc lo st (K wsC) k n := by
  obtain ⟨R, hR⟩ := hK
  exact V.perm (hR wsC) (hg R (fun e u h => VX.perm (hR u).symm (kx e u h)) (fun r u h => V.perm (hR u).symm (kk r u h)))
/-- invokevirtual -/
theorem v_gV (C : Ok S Ms X own cc nL d kc ks) (hK : Cxt K) {Cn : String} {As : List Value} {b idx ci : Nat} {fs : List Value} {T : u_T} {N : Nat} (c : Nat)
    (M : CtG S Ms (xl X) (xK X) y bytes maxL ret d2 mc ms (.ref b :: As) wsC res post px) (Y : Ym Cn y bytes maxL ret As.length) (lk : Cond.methodLink own idx y ∈ TT)
    (F2 : wsC[c]? = some (b, .inr (ci, fs))) (hci : vwCl[ci]? = some (Cn, T, N)) (hlo : lo.length = nL) (hst : st = As.reverse ++ .ref b :: rest) (hdg : decode cc pc = .ok (.invokevirtual idx, 3)) (hd : d2 < d) (hk : k + mc ≤ kc) (hn : n + ms ≤ ks) (hW : (rest.map fun v => v.category).sum ≤ 8)
    (kx : ∀ e u, px e u → VX X iW pc lo e rest (K u) (k + mc) (n + ms)) (kk : ∀ r u, post r u → V X iW (pc + 3) lo ((res r).toList ++ rest) (K u) (k + mc) (n + ms)) : V X iW pc lo st (K wsC) k n := by
  refine v_gK hK (fun R kx kk => v_g0 C (a := (Value.ref b :: As).toArray) (fun H locs ls hP hD hS hl => ?_) kx kk) kx kk
  have hT : GoodIn TT (wsV own idx Cn y (wT y bytes maxL ret)) := TT_in _ (fun w hw => by
    rcases List.mem_append.mp hw with h | h
    · simp only [List.mem_cons, List.not_mem_nil, or_false] at h
      rcases h with rfl | rfl | rfl | rfl
      · exact lk
      · exact Y.1.1
      · exact Y.1.2.1
      · exact Y.1.2.2.1
    · exact wT_in Y.1.2.2.2 w h)
  have hRm := C.2.2.2.2.2.2.2.2.2.1
  have cw := cwV (R := xR X) (rm := rmL d2 mc ms) (mc := mc) (ms := ms) (bytes := bytes) (maxL := maxL) (ret := ret) (ws := wT y bytes maxL ret) As.length C.2.2.2.2.1 hT rfl rfl rfl ⟨Y.2.1, Y.2.2.1, Y.2.2.2.1, Y.2.2.2.2.1⟩ (by rw [hRm]; exact rm_fits hd Y.2.2.2.2.2)
  refine vx_runV (nL := nL) (Ts := TT) (b := b) (As := As) ⟨C.1, C.2.1, C.2.2.1, C.2.2.2.1, C.2.2.2.2.1⟩ (M H.size) cw ⟨PreB.blind, va_recv C.2.2.2.2.2.1 hP hci (app_at F2), fun U hU hW => ⟨rfl, gr_pre C hP hD hS hU hW⟩⟩ rfl rfl (by rw [← hlo]; exact hl.1) hst (by simpa using hW) hdg ?_
  rw [hRm]
  exact ⟨hk, hn⟩
/-- invokestatic -/
theorem v_gS (C : Ok S Ms X own cc nL d kc ks) (hK : Cxt K) {As : List Value} {idx : Nat}
    (M : CtG S Ms (xl X) (xK X) y bytes maxL ret d2 mc ms As wsC res post px) (Y : Ys y bytes maxL ret As.length) (lk : Cond.methodLink own idx y ∈ TT)
    (hlo : lo.length = nL) (hst : st = As.reverse ++ rest) (hdg : decode cc pc = .ok (.invokestatic idx, 3)) (hd : d2 < d) (hk : k + mc ≤ kc) (hn : n + ms ≤ ks) (hW : (rest.map fun v => v.category).sum ≤ 8)
    (kx : ∀ e u, px e u → VX X iW pc lo e rest (K u) (k + mc) (n + ms)) (kk : ∀ r u, post r u → V X iW (pc + 3) lo ((res r).toList ++ rest) (K u) (k + mc) (n + ms)) : V X iW pc lo st (K wsC) k n := by
  refine v_gK hK (fun R kx kk => v_g0 C (a := As.toArray) (fun H locs ls hP hD hS hl => ?_) kx kk) kx kk
  have hT : GoodIn TT (va_wsS own idx y (wT y bytes maxL ret)) := TT_in _ (fun w hw => by
    rcases List.mem_append.mp hw with h | h
    · simp only [List.mem_cons, List.not_mem_nil, or_false] at h
      rcases h with rfl | rfl | rfl
      · exact lk
      · exact Y.1.1
      · exact Y.1.2.1
    · exact wT_in Y.1.2.2 w h)
  have hRm := C.2.2.2.2.2.2.2.2.2.1
  have cw := va_cwS (R := xR X) (rm := rmL d2 mc ms) (mc := mc) (ms := ms) (bytes := bytes) (maxL := maxL) (ret := ret) (ws := wT y bytes maxL ret) As.length C.2.2.2.2.1 hT rfl rfl rfl ⟨Y.2.1, Y.2.2.1, Y.2.2.2.1⟩ (by rw [hRm]; exact rm_fits hd Y.2.2.2.2)
  refine vx_runS (nL := nL) (Ts := TT) (As := As) ⟨C.1, C.2.1, C.2.2.1, C.2.2.2.1, C.2.2.2.2.1⟩ (M H.size) cw ⟨PreB.blind, fun U hU hW => ⟨rfl, gr_pre C hP hD hS hU hW⟩⟩ rfl rfl (by rw [← hlo]; exact hl.1) hst (by simpa using hW) hdg ?_
  rw [hRm]
  exact ⟨hk, hn⟩
/-- invokestatic of a method with handlers -/
theorem v_gSH (C : Ok S Ms X own cc nL d kc ks) (hK : Cxt K) {hh : List (Nat × Nat × Nat × Nat)} {As : List Value} {idx : Nat}
    (M : CtGH S Ms (xl X) (xK X) y bytes maxL ret hh d2 mc ms As wsC res post px) (Y : YsH y bytes maxL ret hh As.length) (lk : Cond.methodLink own idx y ∈ TT)
    (hlo : lo.length = nL) (hst : st = As.reverse ++ rest) (hdg : decode cc pc = .ok (.invokestatic idx, 3)) (hd : d2 < d) (hk : k + mc ≤ kc) (hn : n + ms ≤ ks) (hW : (rest.map fun v => v.category).sum ≤ 8)
    (kx : ∀ e u, px e u → VX X iW pc lo e rest (K u) (k + mc) (n + ms)) (kk : ∀ r u, post r u → V X iW (pc + 3) lo ((res r).toList ++ rest) (K u) (k + mc) (n + ms)) : V X iW pc lo st (K wsC) k n := by
  refine v_gK hK (fun R kx kk => v_g0 C (a := As.toArray) (fun H locs ls hP hD hS hl => ?_) kx kk) kx kk
  have hT : GoodIn TT (va_wsS own idx y (wH y bytes maxL ret hh)) := TT_in _ (fun w hw => by
    rcases List.mem_append.mp hw with h | h
    · simp only [List.mem_cons, List.not_mem_nil, or_false] at h
      rcases h with rfl | rfl | rfl
      · exact lk
      · exact Y.1.1
      · exact Y.1.2.1
    · exact wH_in Y.1.2.2 w h)
  have hRm := C.2.2.2.2.2.2.2.2.2.1
  have cw := vx_cwSW (R := xR X) (rm := rmL d2 mc ms) (mc := mc) (ms := ms) (bytes := bytes) (maxL := maxL) (ret := ret) (hh := hh) (ws := wH y bytes maxL ret hh) As.length C.2.2.2.2.1 hT rfl rfl rfl ⟨Y.2.1, Y.2.2.1, Y.2.2.2.1⟩ (by rw [hRm]; exact rm_fits hd Y.2.2.2.2)
  refine vx_runSX (nL := nL) (Ts := TT) (As := As) ⟨C.1, C.2.1, C.2.2.1, C.2.2.2.1, C.2.2.2.2.1⟩ (M H.size) cw ⟨PreB.blind, fun U hU hW => ⟨rfl, gr_pre C hP hD hS hU hW⟩⟩ rfl rfl (by rw [← hlo]; exact hl.1) hst (by simpa using hW) hdg ?_
  rw [hRm]
  exact ⟨hk, hn⟩
/-- constructors with arguments -/
def Yc (y : MethodName) (cc : ByteArray) (maxL np : Nat) : Prop :=
  (Cond.instanceMethod y ∈ TT ∧ Cond.initialized y.cls ∈ TT ∧ Cond.code y cc maxL none ∈ TT) ∧ y.name = "<init>" ∧ (y.cls ≠ "java/lang/invoke/MethodHandle" ∧ y.cls ≠ "java/lang/invoke/VarHandle" ∧ (parseMethodDescriptor y.desc).map (fun d => d.parameters.length) = some np) ∧ maxL ≤ 40
theorem v_gN (C : Ok S Ms X own cc nL d kc ks) (hK : Cxt K) {As : List Value} {b idx : Nat}
    (M : CtG S Ms (xl X) (xK X) y bytes maxL none d2 mc ms (.ref b :: As) wsC res post px) (Y : Yc y bytes maxL As.length) (lk : Cond.methodLink own idx y ∈ TT)
    (hlo : lo.length = nL) (hst : st = As.reverse ++ .ref b :: rest) (hdg : decode cc pc = .ok (.invokespecial idx, 3)) (hd : d2 < d) (hk : k + mc ≤ kc) (hn : n + ms ≤ ks) (hW : (rest.map fun v => v.category).sum ≤ 8)
    (kx : ∀ e u, px e u → VX X iW pc lo e rest (K u) (k + mc) (n + ms)) (kk : ∀ r u, post r u → V X iW (pc + 3) lo ((res r).toList ++ rest) (K u) (k + mc) (n + ms)) : V X iW pc lo st (K wsC) k n := by
  refine v_gK hK (fun R kx kk => v_g0 C (a := (Value.ref b :: As).toArray) (fun H locs ls hP hD hS hl => ?_) kx kk) kx kk
  obtain ⟨⟨y1, y2, y3⟩, y4, y5, y6⟩ := Y
  have hT : GoodIn TT (wT y bytes maxL none) := TT_in _ (wT_in y3)
  have hRm := C.2.2.2.2.2.2.2.2.2.1
  refine vx_runI (nL := nL) (Ts := TT) (own := own) (b := b) (As := As) (n := As.length) ⟨C.1, C.2.1, C.2.2.1, C.2.2.2.1, C.2.2.2.2.1⟩ (M H.size) (cwI (rm := rmL d2 mc ms) As.length C.2.2.2.2.1 hT rfl rfl rfl (C.2.2.2.2.1 _ y2) (C.2.2.2.2.1 _ lk) (C.2.2.2.2.1 _ y1) y4 y5 (by rw [hRm]; exact rm_fits hd y6)) ⟨PreB.blind, fun U hU hW => ⟨rfl, gr_pre C hP hD hS hU hW⟩⟩ rfl rfl (by rw [← hlo]; exact hl.1) hst (by simpa using hW) hdg ?_
  rw [hRm]
  exact ⟨hk, hn⟩
/-- calls of the class's methods, whose cells stay -/
theorem emb_app {σ : Type} {Wd : σ → va_W} (F : FixW Wd) (g0 : σ) (R : va_W) : Emb (fun u => Wd u ++ R) Wd (fun g => g) (fun _ u => u) (List.range' 0 (Wd g0).length) := by
  have hS : Seg (fun u => Wd u ++ R) Wd (fun g => g) (fun _ u => u) 0 := ⟨fun _ => [], fun _ => R, fun g => by simp, fun _ => rfl, fun g u => by simp⟩
  refine Seg.emb hS (fun g g2 => ?_) (fun u => ?_)
  · rw [List.map_append, List.map_append, F g g2]
  · have := congrArg List.length (F u g0)
    simpa using this
theorem v_kV (C : Ok S Ms X own cc nL d kc ks) (hK : Cxt K) {σ : Type} {Wd : σ → va_W} {g : σ} {po : ρ → σ → Prop} {pxs : String → σ → Prop} {Cn : String} {As : List Value} {b idx ci : Nat} {fs : List Value} {T : u_T} {N : Nat}
    (M : Ct S Ms (xl X) (xK X) y bytes maxL ret d2 mc ms (.ref b :: As) Wd g res po pxs) (Y : Ym Cn y bytes maxL ret As.length) (lk : Cond.methodLink own idx y ∈ TT) (F : FixW Wd)
    (F2 : (Wd g)[0]? = some (b, .inr (ci, fs))) (hci : vwCl[ci]? = some (Cn, T, N)) (hlo : lo.length = nL) (hst : st = As.reverse ++ .ref b :: rest) (hdg : decode cc pc = .ok (.invokevirtual idx, 3)) (hd : d2 < d) (hk : k + mc ≤ kc) (hn : n + ms ≤ ks) (hW : (rest.map fun v => v.category).sum ≤ 8)
    (kx : ∀ e u, pxs e u → VX X iW pc lo e rest (K (Wd u)) (k + mc) (n + ms)) (kk : ∀ r u, po r u → V X iW (pc + 3) lo ((res r).toList ++ rest) (K (Wd u)) (k + mc) (n + ms)) : V X iW pc lo st (K (Wd g)) k n := by
  obtain ⟨R, hR⟩ := hK
  refine V.perm (hR (Wd g)) ?_
  exact V_iw (Wd := fun u => Wd u ++ R) (v_callV C M Y lk (emb_app F g R) rfl F2 hci hlo hst hdg hd hk hn hW (fun e u h => VX_iw (Wd := fun u => Wd u ++ R) (VX.perm (hR (Wd u)).symm (kx e u h))) (fun r u h => V.perm (hR (Wd u)).symm (kk r u h)))
theorem okDG (C : Ok S Ms X own cc nL d kc ks) : DG (xK X) (xA X) (xs X) (xs X).heap := C.2.2.2.2.2.2.2.2.2.2.2.2.2.2.2.2.2.2
/-- an int[] into a row of int[][] -/
theorem v_sE (C : Ok S Ms X own cc nL d kc ks) (hK : Cxt K) {a N v nv : Nat} {fv : Nat → Int32} {f : Nat → Option Nat} (c qk : Nat) (he : ws[c]? = some (cE (xK X) a N f)) (hv : ws[qk]? = some (cI (xK X) v nv fv)) (hN : N < 2 ^ 31) {i : Int32} (j : Nat) (hj : j < N) (hi : i = nI j) (h2 : ws.set c (cE (xK X) a N (va_up f j (some v))) = ws2) (hdg : decode cc pc = .ok (.aastore, 1)) (kk : V X iW (pc + 1) lo st (K ws2) k n) : V X iW pc lo (.ref v :: .int i :: .ref a :: st) (K ws) k n := by
  intro H locs ls hP hD hS hl
  obtain ⟨R, hR⟩ := hK
  subst hi
  have hP' := va_P.perm hP (hR ws)
  have hD' := va_D.perm hD (hR ws)
  have hAOA : AOA (xs X) := (okDG C).2.2.2.2.2.1
  obtain ⟨comp, c1, kA, h1, -, h3, h4, h5⟩ := arrayOverA_spec hAOA
  have hc1 : c1 = (xK X).2.1 5 := Option.some.inj (h5.symm.trans ((C.2.2.2.2.2.1.2 5 ((xK X).2.1 5, .array .int) rfl).2))
  have hc0 : comp = (xK X).2.1 0 := Option.some.inj (h1.symm.trans ((C.2.2.2.2.2.1.2 0 ((xK X).2.1 0, .int) rfl).2))
  subst hc1 hc0
  obtain ⟨kC, hkC, -⟩ := Vm.findClass_spec h1
  have hcl : (nI j).toNatClampNeg = j := nI_clamp (by omega)
  refine W.aast C.1 C.2.1 (hP' c _ (app_at he)) (fun q h => by cases h) (fun h => by cases h) h3 h4 rfl hkC ⟨nI_nneg (by omega), by show _ < (arrV _ _ _).slots.size; rw [arrV_size, hcl]; exact hj⟩ (hP' qk _ (app_at hv)) (fun q h => by cases h) hkC (va_asg _ _) rfl rfl hdg fun H1 e z oq => ?_
  have hP1 : va_P (xK X).1 vwCl ((ws ++ R).set c (cE (xK X) a N (va_up f j (some v)))) H1 := by
    refine hP'.set hD' (app_at he) ?_ oq
    show H1[a]? = some (vp_cell _ _)
    rw [e, hcl]
    rw [vp_cell_q, vp_cell_q, arrV_store]
    congr 2
    funext q
    by_cases hq : q = j
    · subst hq
      simp [updV, va_up, va_rf]
    · simp [updV, va_up, hq]
  have hD1 : va_D (xA X) ((ws ++ R).set c (cE (xK X) a N (va_up f j (some v)))) := hD'.set (app_at he)
  have hS1 : va_S (xA X) (xs X).heap H1 (locs ++ [⟨a, (nI j).toNatClampNeg⟩]) := hS.put z oq (hD'.2 c _ (app_at he))
  rw [app_set he, h2] at hP1 hD1
  exact kk H1 _ ls (va_P.perm hP1 (hR ws2).symm) (va_D.perm hD1 (hR ws2).symm) hS1 hl
theorem v_newB (C : Ok S Ms X own cc nL d kc ks) (N : Nat) {i : Int32} (hi : i = nI N) (hN : N ≤ 100000) (hdg : decode cc pc = .ok (.newarray .byte, 2)) (hk : k + 1 ≤ kc) (hn : n + N ≤ ks) (kk : ∀ q, V X iW (pc + 2) lo (.ref q :: st) (cB (xK X) q N (fun _ => 0) :: ws) (k + 1) (n + N)) : V X iW pc lo (.int i :: st) ws k n :=
  v_newa C (ty := .byte) 2 (a0 := (N, .inl (fun _ => 0))) hi rfl rfl (fun _ _ h => h) (TT_t 425 (by decide +kernel) (by decide +kernel)) (fun cA => rfl) (by omega) (by show N * 1 ≤ 536870912; omega) hdg hk hn kk
/-- static fields of other classes -/
theorem v_getsO (C : Ok S Ms X own cc nL d kc ks) {idx t : Nat} (lk : Cond.fieldLink own idx "java/lang/Integer" "DigitOnes" "[B" ∈ TT) (ht : t = (xK X).2.2.1 100) (hdg : decode cc pc = .ok (.getstatic idx, 3)) (kk : V X iW (pc + 3) lo (.ref t :: st) ws k n) : V X iW pc lo st ws k n := by
  subst ht
  intro H locs ls hP hD hS hl
  exact va_gets C.1 C.2.1 (okDG C).1 hS C.2.2.2.1 (C.2.2.2.2.1 _ lk) (fun _ h => h) hdg (kk H locs ls hP hD hS hl)
theorem v_getsT (C : Ok S Ms X own cc nL d kc ks) {idx t : Nat} (lk : Cond.fieldLink own idx "java/lang/Integer" "DigitTens" "[B" ∈ TT) (ht : t = (xK X).2.2.1 101) (hdg : decode cc pc = .ok (.getstatic idx, 3)) (kk : V X iW (pc + 3) lo (.ref t :: st) ws k n) : V X iW pc lo st ws k n := by
  subst ht
  intro H locs ls hP hD hS hl
  exact va_gets C.1 C.2.1 (okDG C).2.2.1 hS C.2.2.2.1 (C.2.2.2.2.1 _ lk) (fun _ h => h) hdg (kk H locs ls hP hD hS hl)
theorem v_tO (C : Ok S Ms X own cc nL d kc ks) {j : Nat} (hj : j < 100) (hdg : decode cc pc = .ok (.baload, 1)) (kk : V X iW (pc + 1) lo (.int (nI (48 + j % 10)) :: st) ws k n) : V X iW pc lo (.int (nI j) :: .ref ((xK X).2.2.1 100) :: st) ws k n :=
  fun H locs ls hP hD hS hl => va_tb C.1 C.2.1 (okDG C).2.1 hS (vp_in_nI hj (by omega)) (v := .int (nI (48 + j % 10))) (by rw [nI_clamp (by omega)]) hdg (kk H locs ls hP hD hS hl)
theorem v_tT (C : Ok S Ms X own cc nL d kc ks) {j : Nat} (hj : j < 100) (hdg : decode cc pc = .ok (.baload, 1)) (kk : V X iW (pc + 1) lo (.int (nI (48 + j / 10)) :: st) ws k n) : V X iW pc lo (.int (nI j) :: .ref ((xK X).2.2.1 101) :: st) ws k n :=
  fun H locs ls hP hD hS hl => va_tb C.1 C.2.1 (okDG C).2.2.2.1 hS (vp_in_nI hj (by omega)) (v := .int (nI (48 + j / 10))) (by rw [nI_clamp (by omega)]) hdg (kk H locs ls hP hD hS hl)
/-- the law's own script -/
theorem v_sL (C : Ok S Ms X own cc nL d kc ks) (hdg : decode cc pc = .ok (.arraylength, 1)) (kk : V X iW (pc + 1) lo (.int (nI ((xK X).2.2.2 999)) :: st) ws k n) : V X iW pc lo (.ref ((xK X).2.2.1 102) :: st) ws k n :=
  fun H locs ls hP hD hS hl => va_tlen C.1 C.2.1 (okDG C).2.2.2.2.2.2.1 hS rfl hdg (kk H locs ls hP hD hS hl)
theorem v_sX (C : Ok S Ms X own cc nL d kc ks) {j : Nat} (hj : j < (xK X).2.2.2 999) (h31 : (xK X).2.2.2 999 < 2 ^ 31) (hdg : decode cc pc = .ok (.iaload, 1)) (kk : V X iW (pc + 1) lo (.int (nI ((xK X).2.2.2 (1000 + j))) :: st) ws k n) : V X iW pc lo (.int (nI j) :: .ref ((xK X).2.2.1 102) :: st) ws k n :=
  fun H locs ls hP hD hS hl => va_ti C.1 C.2.1 (okDG C).2.2.2.2.2.2.1 hS (vp_in_nI hj h31) (v := .int (nI ((xK X).2.2.2 (1000 + j)))) (by rw [nI_clamp (by omega)]) hdg (kk H locs ls hP hD hS hl)
end VG

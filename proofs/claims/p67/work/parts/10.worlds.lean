/-! small rows over the walk -/
def bI (b : Bool) : Int32 := if b then nI 1 else nI 0
theorem bI_ne {b : Bool} : (¬ bI b = 0) ↔ b = true := by cases b <;> simp [bI, nI]
theorem bI_eq {b : Bool} : (bI b = 0) ↔ b = false := by cases b <;> simp [bI, nI]
theorem bI_nar (b : Bool) : narrow .boolean (.int (bI b)) = .int (bI b) := by cases b <;> rfl
theorem bI_fit (b : Bool) : fits .boolean (.int (bI b)) = true := by cases b <;> rfl
theorem bI_vp (b : Bool) : vp_nar .boolean (bI b) = bI b := by cases b <;> rfl
theorem nI_mul (a b : Nat) : nI a * nI b = nI (a * b) := pk_mul a b
theorem nI_inj {a b : Nat} (ha : a < 2 ^ 31) (hb : b < 2 ^ 31) (h : nI a = nI b) : a = b := by
  have h1 := congrArg Int32.toInt h
  rw [nI_toInt ha, nI_toInt hb] at h1
  omega
theorem nI_nm1 {a : Nat} (ha : a < 2 ^ 31) : ¬ nI a = -1 := by
  intro h
  have h1 := congrArg Int32.toInt h
  rw [nI_toInt ha] at h1
  have h2 : (-1 : Int32).toInt = -1 := by decide
  omega
theorem m1_toInt : (-1 : Int32).toInt = -1 := by decide
theorem i0_toInt : (0 : Int32).toInt = 0 := by decide
/-- an int that isn't negative is its number -/
theorem nI_of_nonneg {x : Int32} (h : 0 ≤ x.toInt) : x = nI x.toInt.toNat ∧ x.toInt.toNat < 2 ^ 31 := by
  have h2 := Int32.toInt_lt x
  refine ⟨?_, by omega⟩
  apply Int32.toInt_inj.mp
  rw [nI_toInt (by omega)]
  omega
def lsub : List (Option Value) → List (Option Value) → Prop
  | [], [] => True
  | none :: t2, _ :: t => lsub t2 t
  | some v :: t2, x :: t => x = some v ∧ lsub t2 t
  | _, _ => False
theorem lsub_len : ∀ (a b : List (Option Value)), lsub a b → b.length = a.length
  | [], [], _ => rfl
  | none :: t2, _ :: t, h => congrArg (· + 1) (lsub_len t2 t h)
  | some v :: t2, x :: t, h => congrArg (· + 1) (lsub_len t2 t h.2)
  | [], _ :: _, h => h.elim
  | none :: _, [], h => h.elim
  | some _ :: _, [], h => h.elim
theorem lsub_in : ∀ (a b : List (Option Value)) (i : Nat), lsub a b → ∀ q ∈ lq i a, q ∈ lq i b
  | [], [], _, _, q, h => h
  | none :: t2, x :: t, i, h, q, hq => by
    have := lsub_in t2 t (i + 1) h q hq
    cases x
    · exact this
    · exact List.mem_cons_of_mem _ this
  | some v :: t2, x :: t, i, h, q, hq => by
    obtain ⟨rfl, h2⟩ := h
    rcases List.mem_cons.mp (show q ∈ (i, v) :: lq (i + 1) t2 from hq) with e | e
    · rw [e]; exact List.mem_cons_self
    · exact List.mem_cons_of_mem _ (lsub_in t2 t (i + 1) h2 q e)
  | [], _ :: _, _, h, _, _ => h.elim
  | none :: _, [], _, h, _, _ => h.elim
  | some _ :: _, [], _, h, _, _ => h.elim
section VM
variable {S : List SQ} {Ms : List MQ3} {X : Cx} {own : String} {cc : ByteArray} {nL d kc ks : Nat} {σ : Type} {Wd : σ → va_W} {pc : Nat} {lo : List (Option Value)} {st : List Value} {g : σ} {k n : Nat}
theorem V.sub {lo2 : List (Option Value)} (hs : lsub lo2 lo) (h : V X Wd pc lo2 st g k n) : V X Wd pc lo st g k n := V.less h (lsub_len _ _ hs) (lsub_in _ _ 0 hs)
/-- a loop: by a measure that falls -/
theorem v_ind {τ : Type} {P : τ → Prop} {I : τ → Prop} (μ : τ → Nat) (h : ∀ t, (∀ t2, μ t2 < μ t → I t2 → P t2) → I t → P t) : ∀ t, I t → P t := by
  have key : ∀ n t, μ t < n → I t → P t := by
    intro n
    induction n with
    | zero => intro t ht; omega
    | succ n ih => intro t ht hI; exact h t (fun t2 h2 hI2 => ih t2 (by omega) hI2) hI
  intro t
  exact key (μ t + 1) t (by omega)
theorem v_iaddN (C : Ok S Ms X own cc nL d kc ks) {a b : Nat} (hdg : decode cc pc = .ok (.iadd, 1)) (kk : V X Wd (pc + 1) lo (.int (nI (a + b)) :: st) g k n) : V X Wd pc lo (.int (nI b) :: .int (nI a) :: st) g k n := v_iadd C hdg (by rw [nI_add]; exact kk)
theorem v_imulN (C : Ok S Ms X own cc nL d kc ks) {a b : Nat} (hdg : decode cc pc = .ok (.imul, 1)) (kk : V X Wd (pc + 1) lo (.int (nI (a * b)) :: st) g k n) : V X Wd pc lo (.int (nI b) :: .int (nI a) :: st) g k n := v_imul C hdg (by rw [nI_mul]; exact kk)
theorem v_iinc1 (C : Ok S Ms X own cc nL d kc ks) {i a : Nat} {lo2 : List (Option Value)} (hdg : decode cc pc = .ok (.iinc i 1, 3)) (h : lo[i]? = some (some (.int (nI a)))) (hs : lo.set i (some (.int (nI (a + 1)))) = lo2) (ho : stOk i lo = true) (kk : V X Wd (pc + 3) lo2 st g k n) : V X Wd pc lo st g k n := v_iinc C hdg h (by rw [nI_succ]; rfl) hs ho kk
variable {y : MethodName} {bytes : ByteArray} {maxL : Nat} {ret : Option FieldType} {d2 mc ms : Nat} {σ2 : Type} {Wd2 : σ2 → va_W} {g2 : σ2} {px : String → σ2 → Prop} {rd : σ → σ2} {wr : σ → σ2 → σ} {is : List Nat} {rest : List Value}
theorem v_callVi (C : Ok S Ms X own cc nL d kc ks) {post : Int32 → σ2 → Prop} {Cn : String} {As : List Value} {b idx ci : Nat} {fs : List Value} {T : u_T} {N : Nat}
    (M : Ct S Ms (xl X) (xK X) y bytes maxL ret d2 mc ms (.ref b :: As) Wd2 g2 ri post px) (Y : Ym Cn y bytes maxL ret As.length) (lk : Cond.methodLink own idx y ∈ TT) (E : Emb Wd Wd2 rd wr is) (hg2 : rd g = g2)
    (F2 : (Wd2 g2)[0]? = some (b, .inr (ci, fs))) (hci : vwCl[ci]? = some (Cn, T, N)) (hlo : lo.length = nL) (hst : st = As.reverse ++ .ref b :: rest) (hdg : decode cc pc = .ok (.invokevirtual idx, 3)) (hd : d2 < d) (hk : k + mc ≤ kc) (hn : n + ms ≤ ks) (hW : (rest.map fun v => v.category).sum ≤ 8)
    (kx : ∀ e u, px e u → VX X Wd pc lo e rest (wr g u) (k + mc) (n + ms)) (kk : ∀ r u, post r u → V X Wd (pc + 3) lo (.int r :: rest) (wr g u) (k + mc) (n + ms)) : V X Wd pc lo st g k n := v_callV C M Y lk E hg2 F2 hci hlo hst hdg hd hk hn hW kx kk
theorem v_callSi (C : Ok S Ms X own cc nL d kc ks) {post : Int32 → σ2 → Prop} {As : List Value} {idx : Nat}
    (M : Ct S Ms (xl X) (xK X) y bytes maxL ret d2 mc ms As Wd2 g2 ri post px) (Y : Ys y bytes maxL ret As.length) (hyo : y.cls = own) (lk : Cond.methodLink own idx y ∈ TT) (E : Emb Wd Wd2 rd wr is) (hg2 : rd g = g2)
    (hlo : lo.length = nL) (hst : st = As.reverse ++ rest) (hdg : decode cc pc = .ok (.invokestatic idx, 3)) (hd : d2 < d) (hk : k + mc ≤ kc) (hn : n + ms ≤ ks) (hW : (rest.map fun v => v.category).sum ≤ 8)
    (kx : ∀ e u, px e u → VX X Wd pc lo e rest (wr g u) (k + mc) (n + ms)) (kk : ∀ r u, post r u → V X Wd (pc + 3) lo (.int r :: rest) (wr g u) (k + mc) (n + ms)) : V X Wd pc lo st g k n := v_callS C M Y hyo lk E hg2 hlo hst hdg hd hk hn hW kx kk
theorem v_callVv (C : Ok S Ms X own cc nL d kc ks) {post : Unit → σ2 → Prop} {Cn : String} {As : List Value} {b idx ci : Nat} {fs : List Value} {T : u_T} {N : Nat}
    (M : Ct S Ms (xl X) (xK X) y bytes maxL ret d2 mc ms (.ref b :: As) Wd2 g2 rv post px) (Y : Ym Cn y bytes maxL ret As.length) (lk : Cond.methodLink own idx y ∈ TT) (E : Emb Wd Wd2 rd wr is) (hg2 : rd g = g2)
    (F2 : (Wd2 g2)[0]? = some (b, .inr (ci, fs))) (hci : vwCl[ci]? = some (Cn, T, N)) (hlo : lo.length = nL) (hst : st = As.reverse ++ .ref b :: rest) (hdg : decode cc pc = .ok (.invokevirtual idx, 3)) (hd : d2 < d) (hk : k + mc ≤ kc) (hn : n + ms ≤ ks) (hW : (rest.map fun v => v.category).sum ≤ 8)
    (kx : ∀ e u, px e u → VX X Wd pc lo e rest (wr g u) (k + mc) (n + ms)) (kk : ∀ r u, post r u → V X Wd (pc + 3) lo (rest) (wr g u) (k + mc) (n + ms)) : V X Wd pc lo st g k n := v_callV C M Y lk E hg2 F2 hci hlo hst hdg hd hk hn hW kx kk
theorem v_callSv (C : Ok S Ms X own cc nL d kc ks) {post : Unit → σ2 → Prop} {As : List Value} {idx : Nat}
    (M : Ct S Ms (xl X) (xK X) y bytes maxL ret d2 mc ms As Wd2 g2 rv post px) (Y : Ys y bytes maxL ret As.length) (hyo : y.cls = own) (lk : Cond.methodLink own idx y ∈ TT) (E : Emb Wd Wd2 rd wr is) (hg2 : rd g = g2)
    (hlo : lo.length = nL) (hst : st = As.reverse ++ rest) (hdg : decode cc pc = .ok (.invokestatic idx, 3)) (hd : d2 < d) (hk : k + mc ≤ kc) (hn : n + ms ≤ ks) (hW : (rest.map fun v => v.category).sum ≤ 8)
    (kx : ∀ e u, px e u → VX X Wd pc lo e rest (wr g u) (k + mc) (n + ms)) (kk : ∀ r u, post r u → V X Wd (pc + 3) lo (rest) (wr g u) (k + mc) (n + ms)) : V X Wd pc lo st g k n := v_callS C M Y hyo lk E hg2 hlo hst hdg hd hk hn hW kx kk
theorem v_callVl (C : Ok S Ms X own cc nL d kc ks) {post : Int64 → σ2 → Prop} {Cn : String} {As : List Value} {b idx ci : Nat} {fs : List Value} {T : u_T} {N : Nat}
    (M : Ct S Ms (xl X) (xK X) y bytes maxL ret d2 mc ms (.ref b :: As) Wd2 g2 rl post px) (Y : Ym Cn y bytes maxL ret As.length) (lk : Cond.methodLink own idx y ∈ TT) (E : Emb Wd Wd2 rd wr is) (hg2 : rd g = g2)
    (F2 : (Wd2 g2)[0]? = some (b, .inr (ci, fs))) (hci : vwCl[ci]? = some (Cn, T, N)) (hlo : lo.length = nL) (hst : st = As.reverse ++ .ref b :: rest) (hdg : decode cc pc = .ok (.invokevirtual idx, 3)) (hd : d2 < d) (hk : k + mc ≤ kc) (hn : n + ms ≤ ks) (hW : (rest.map fun v => v.category).sum ≤ 8)
    (kx : ∀ e u, px e u → VX X Wd pc lo e rest (wr g u) (k + mc) (n + ms)) (kk : ∀ r u, post r u → V X Wd (pc + 3) lo (.long r :: rest) (wr g u) (k + mc) (n + ms)) : V X Wd pc lo st g k n := v_callV C M Y lk E hg2 F2 hci hlo hst hdg hd hk hn hW kx kk
theorem v_callSl (C : Ok S Ms X own cc nL d kc ks) {post : Int64 → σ2 → Prop} {As : List Value} {idx : Nat}
    (M : Ct S Ms (xl X) (xK X) y bytes maxL ret d2 mc ms As Wd2 g2 rl post px) (Y : Ys y bytes maxL ret As.length) (hyo : y.cls = own) (lk : Cond.methodLink own idx y ∈ TT) (E : Emb Wd Wd2 rd wr is) (hg2 : rd g = g2)
    (hlo : lo.length = nL) (hst : st = As.reverse ++ rest) (hdg : decode cc pc = .ok (.invokestatic idx, 3)) (hd : d2 < d) (hk : k + mc ≤ kc) (hn : n + ms ≤ ks) (hW : (rest.map fun v => v.category).sum ≤ 8)
    (kx : ∀ e u, px e u → VX X Wd pc lo e rest (wr g u) (k + mc) (n + ms)) (kk : ∀ r u, post r u → V X Wd (pc + 3) lo (.long r :: rest) (wr g u) (k + mc) (n + ms)) : V X Wd pc lo st g k n := v_callS C M Y hyo lk E hg2 hlo hst hdg hd hk hn hW kx kk
theorem v_callVd (C : Ok S Ms X own cc nL d kc ks) {post : UInt64 → σ2 → Prop} {Cn : String} {As : List Value} {b idx ci : Nat} {fs : List Value} {T : u_T} {N : Nat}
    (M : Ct S Ms (xl X) (xK X) y bytes maxL ret d2 mc ms (.ref b :: As) Wd2 g2 rd8 post px) (Y : Ym Cn y bytes maxL ret As.length) (lk : Cond.methodLink own idx y ∈ TT) (E : Emb Wd Wd2 rd wr is) (hg2 : rd g = g2)
    (F2 : (Wd2 g2)[0]? = some (b, .inr (ci, fs))) (hci : vwCl[ci]? = some (Cn, T, N)) (hlo : lo.length = nL) (hst : st = As.reverse ++ .ref b :: rest) (hdg : decode cc pc = .ok (.invokevirtual idx, 3)) (hd : d2 < d) (hk : k + mc ≤ kc) (hn : n + ms ≤ ks) (hW : (rest.map fun v => v.category).sum ≤ 8)
    (kx : ∀ e u, px e u → VX X Wd pc lo e rest (wr g u) (k + mc) (n + ms)) (kk : ∀ r u, post r u → V X Wd (pc + 3) lo (.double r :: rest) (wr g u) (k + mc) (n + ms)) : V X Wd pc lo st g k n := v_callV C M Y lk E hg2 F2 hci hlo hst hdg hd hk hn hW kx kk
theorem v_callSd (C : Ok S Ms X own cc nL d kc ks) {post : UInt64 → σ2 → Prop} {As : List Value} {idx : Nat}
    (M : Ct S Ms (xl X) (xK X) y bytes maxL ret d2 mc ms As Wd2 g2 rd8 post px) (Y : Ys y bytes maxL ret As.length) (hyo : y.cls = own) (lk : Cond.methodLink own idx y ∈ TT) (E : Emb Wd Wd2 rd wr is) (hg2 : rd g = g2)
    (hlo : lo.length = nL) (hst : st = As.reverse ++ rest) (hdg : decode cc pc = .ok (.invokestatic idx, 3)) (hd : d2 < d) (hk : k + mc ≤ kc) (hn : n + ms ≤ ks) (hW : (rest.map fun v => v.category).sum ≤ 8)
    (kx : ∀ e u, px e u → VX X Wd pc lo e rest (wr g u) (k + mc) (n + ms)) (kk : ∀ r u, post r u → V X Wd (pc + 3) lo (.double r :: rest) (wr g u) (k + mc) (n + ms)) : V X Wd pc lo st g k n := v_callS C M Y hyo lk E hg2 hlo hst hdg hd hk hn hW kx kk
theorem v_callVf (C : Ok S Ms X own cc nL d kc ks) {post : UInt32 → σ2 → Prop} {Cn : String} {As : List Value} {b idx ci : Nat} {fs : List Value} {T : u_T} {N : Nat}
    (M : Ct S Ms (xl X) (xK X) y bytes maxL ret d2 mc ms (.ref b :: As) Wd2 g2 rf4 post px) (Y : Ym Cn y bytes maxL ret As.length) (lk : Cond.methodLink own idx y ∈ TT) (E : Emb Wd Wd2 rd wr is) (hg2 : rd g = g2)
    (F2 : (Wd2 g2)[0]? = some (b, .inr (ci, fs))) (hci : vwCl[ci]? = some (Cn, T, N)) (hlo : lo.length = nL) (hst : st = As.reverse ++ .ref b :: rest) (hdg : decode cc pc = .ok (.invokevirtual idx, 3)) (hd : d2 < d) (hk : k + mc ≤ kc) (hn : n + ms ≤ ks) (hW : (rest.map fun v => v.category).sum ≤ 8)
    (kx : ∀ e u, px e u → VX X Wd pc lo e rest (wr g u) (k + mc) (n + ms)) (kk : ∀ r u, post r u → V X Wd (pc + 3) lo (.float r :: rest) (wr g u) (k + mc) (n + ms)) : V X Wd pc lo st g k n := v_callV C M Y lk E hg2 F2 hci hlo hst hdg hd hk hn hW kx kk
theorem v_callSf (C : Ok S Ms X own cc nL d kc ks) {post : UInt32 → σ2 → Prop} {As : List Value} {idx : Nat}
    (M : Ct S Ms (xl X) (xK X) y bytes maxL ret d2 mc ms As Wd2 g2 rf4 post px) (Y : Ys y bytes maxL ret As.length) (hyo : y.cls = own) (lk : Cond.methodLink own idx y ∈ TT) (E : Emb Wd Wd2 rd wr is) (hg2 : rd g = g2)
    (hlo : lo.length = nL) (hst : st = As.reverse ++ rest) (hdg : decode cc pc = .ok (.invokestatic idx, 3)) (hd : d2 < d) (hk : k + mc ≤ kc) (hn : n + ms ≤ ks) (hW : (rest.map fun v => v.category).sum ≤ 8)
    (kx : ∀ e u, px e u → VX X Wd pc lo e rest (wr g u) (k + mc) (n + ms)) (kk : ∀ r u, post r u → V X Wd (pc + 3) lo (.float r :: rest) (wr g u) (k + mc) (n + ms)) : V X Wd pc lo st g k n := v_callS C M Y hyo lk E hg2 hlo hst hdg hd hk hn hW kx kk
end VM
/-! the worlds -/
def sh {α : Type} (b : Nat) (h : Nat → α) : Nat → α := fun i => h (b + i)
abbrev cI (κ : Kp) (a n : Nat) (f : Nat → Int32) : Nat × va_E := (a, .inl (κ.2.1 0, n, .inl f))
abbrev cZ (κ : Kp) (a n : Nat) (f : Nat → Int32) : Nat × va_E := (a, .inl (κ.2.1 1, n, .inl f))
abbrev cJ (κ : Kp) (a n : Nat) (f : Nat → Int64) : Nat × va_E := (a, .inl (κ.2.1 2, n, .inr (.inl f)))
abbrev cD (κ : Kp) (a n : Nat) (f : Nat → UInt64) : Nat × va_E := (a, .inl (κ.2.1 3, n, .inr (.inr (.inr (.inl f)))))
abbrev cQ (κ : Kp) (a n : Nat) (f : Nat → Option Nat) : Nat × va_E := (a, .inl (κ.2.1 4, n, .inr (.inr (.inr (.inr f)))))
abbrev Mg : Type := G
abbrev Eg : Type := G × Mg
abbrev Rg : Type := G × Eg
abbrev Hg : Type := G × (Nat → Mg)
abbrev Cg : Type := Eg × Eg × Rg × Hg × (Nat → Mg) × G
def mS (κ : Kp) (h : Nat → Nat) (m : Mg) : va_W := [(h 0, .inr (2, [.ref (h 1), .ref (h 2), .ref (h 3), .ref (h 4), .ref (h 5), .ref (h 6), .ref (h 7), .int (m 0 7), .int (m 0 8)])), cI κ (h 1) 96 (m 1), cI κ (h 2) 96 (m 2), cI κ (h 3) 96 (m 3), cZ κ (h 4) 96 (m 4), cI κ (h 5) 5 (m 5), cI κ (h 6) 9 (m 6), cI κ (h 7) 240 (m 7)]
def mmS (κ : Kp) (h : Nat → Nat) (g : Mg × Mg) : va_W := mS κ h g.1 ++ mS κ (sh 8 h) g.2
def eS (κ : Kp) (h : Nat → Nat) (g : Eg) : va_W := [(h 0, .inr (0, [.ref (h 4), .ref (h 1), .ref (h 2), .ref (h 3)])), cZ κ (h 1) 96 (g.1 1), cI κ (h 2) 96 (g.1 2), cI κ (h 3) 96 (g.1 3)] ++ mS κ (sh 4 h) g.2
def tS (κ : Kp) (h : Nat → Nat) (g : G) : va_W := [(h 0, .inr (4, [.ref (h 1), .int (g 0 1)])), cI κ (h 1) 864 (g 1)]
def rS (κ : Kp) (h : Nat → Nat) (g : Rg) : va_W := [(h 0, .inr (3, [.ref (h 1), .ref (h 13), .int (g.1 0 2), .int (g.1 0 3), .int (g.1 0 4), .int (g.1 0 5), .int (g.1 0 6), .int (g.1 0 7), .int (g.1 0 8), .int (g.1 0 9), .int (g.1 0 10), .int (g.1 0 11), .int (g.1 0 12), .int (g.1 0 13)]))] ++ eS κ (sh 1 h) g.2 ++ [cI κ (h 13) 700 (g.1 13)]
def hkq (h : Nat → Nat) : Nat → Option Nat := fun j => match j with
  | 0 => some (h 2)
  | 1 => some (h 10)
  | 2 => some (h 18)
  | 3 => some (h 26)
  | 4 => some (h 34)
  | 5 => some (h 42)
  | 6 => some (h 50)
  | 7 => some (h 58)
  | _ => none
def hS (κ : Kp) (h : Nat → Nat) (g : Hg) : va_W := [(h 0, .inr (1, [.ref (h 1), .int (g.1 0 1), .int (g.1 0 2)])), cQ κ (h 1) 8 (hkq h)] ++ mS κ (sh 2 h) (g.2 0) ++ mS κ (sh 10 h) (g.2 1) ++ mS κ (sh 18 h) (g.2 2) ++ mS κ (sh 26 h) (g.2 3) ++ mS κ (sh 34 h) (g.2 4) ++ mS κ (sh 42 h) (g.2 5) ++ mS κ (sh 50 h) (g.2 6) ++ mS κ (sh 58 h) (g.2 7)
def hmS (κ : Kp) (h : Nat → Nat) (g : Hg × Mg) : va_W := hS κ h g.1 ++ mS κ (sh 66 h) g.2
def skq (h : Nat → Nat) : Nat → Option Nat := fun j => match j with
  | 0 => some (h 106)
  | 1 => some (h 114)
  | _ => none
def cS (κ : Kp) (h : Nat → Nat) (g : Cg) : va_W := [(h 0, .inr (5, [.ref (h 1), .ref (h 13), .ref (h 25), .ref (h 39), .ref (h 105), .ref (h 122)]))] ++ eS κ (sh 1 h) g.1 ++ eS κ (sh 13 h) g.2.1 ++ rS κ (sh 25 h) g.2.2.1 ++ hS κ (sh 39 h) g.2.2.2.1 ++ [cQ κ (h 105) 2 (skq h)] ++ mS κ (sh 106 h) (g.2.2.2.2.1 0) ++ mS κ (sh 114 h) (g.2.2.2.2.1 1) ++ tS κ (sh 122 h) g.2.2.2.2.2
def qS (κ : Kp) (h : Nat → Nat) (g : G) : va_W := [(h 0, .inr (6, [.int (g 0 0), .int (g 0 1), .int (g 0 2), .ref (h 1), .ref (h 2), .int (g 0 5), .ref (h 3), .ref (h 4), .int (g 0 8), .int (g 0 9), .int (g 0 10), .int (g 0 11), .int (g 0 12), .int (g 0 13), .int (g 0 14), .int (g 0 15), .int (g 0 16), .int (g 0 17), .int (g 0 18), .int (g 0 19), .int (g 0 20), .int (g 0 21), .ref (h 5), .ref (h 6), .int (g 0 24)]))] ++ [cI κ (h 1) 640 (g 1), cI κ (h 2) 7040 (g 2), cZ κ (h 3) 2 (g 3), cI κ (h 4) 700 (g 4), cI κ (h 5) 96 (g 5), cI κ (h 6) 1000 (g 6)]
def nS (_ : Unit) : va_W := []

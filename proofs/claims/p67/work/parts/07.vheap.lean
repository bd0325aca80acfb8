/-! cells of a world: what a walk reads and writes -/
abbrev G : Type := Nat → Nat → Int32
def sG (g : G) (c : Nat) (f : Nat → Int32) : G := fun c' => if c' = c then f else g c'
/-- an int field; a reference; rows of numbers -/
def OI {σ : Type} (Wd : σ → va_W) (c a ci k : Nat) (get : σ → Int32) (set : σ → Int32 → σ) : Prop := ∀ g, ∃ fs, (Wd g)[c]? = some (a, .inr (ci, fs)) ∧ fs[k]? = some (.int (get g)) ∧ ∀ x, (Wd g).set c (a, .inr (ci, fs.set k (.int x))) = Wd (set g x)
def OR {σ : Type} (Wd : σ → va_W) (c a ci k b : Nat) : Prop := ∀ g, ∃ fs, (Wd g)[c]? = some (a, .inr (ci, fs)) ∧ fs[k]? = some (.ref b)
def AI {σ : Type} (κ : Kp) (Wd : σ → va_W) (c a n : Nat) (get : σ → Nat → Int32) (set : σ → (Nat → Int32) → σ) : Prop := ∀ g, (Wd g)[c]? = some (a, .inl (κ.2.1 0, n, .inl (get g))) ∧ ∀ f, (Wd g).set c (a, .inl (κ.2.1 0, n, .inl f)) = Wd (set g f)
def AZ {σ : Type} (κ : Kp) (Wd : σ → va_W) (c a n : Nat) (get : σ → Nat → Int32) (set : σ → (Nat → Int32) → σ) : Prop := ∀ g, (Wd g)[c]? = some (a, .inl (κ.2.1 1, n, .inl (get g))) ∧ ∀ f, (Wd g).set c (a, .inl (κ.2.1 1, n, .inl f)) = Wd (set g f)
def AJ {σ : Type} (κ : Kp) (Wd : σ → va_W) (c a n : Nat) (get : σ → Nat → Int64) (set : σ → (Nat → Int64) → σ) : Prop := ∀ g, (Wd g)[c]? = some (a, .inl (κ.2.1 2, n, .inr (.inl (get g)))) ∧ ∀ f, (Wd g).set c (a, .inl (κ.2.1 2, n, .inr (.inl f))) = Wd (set g f)
def AF {σ : Type} (κ : Kp) (Wd : σ → va_W) (c a n : Nat) (get : σ → Nat → UInt64) (set : σ → (Nat → UInt64) → σ) : Prop := ∀ g, (Wd g)[c]? = some (a, .inl (κ.2.1 3, n, .inr (.inr (.inr (.inl (get g)))))) ∧ ∀ f, (Wd g).set c (a, .inl (κ.2.1 3, n, .inr (.inr (.inr (.inl f))))) = Wd (set g f)
def AQ {σ : Type} (κ : Kp) (Wd : σ → va_W) (c a n : Nat) (f : Nat → Option Nat) : Prop := ∀ g, (Wd g)[c]? = some (a, .inl (κ.2.1 4, n, .inr (.inr (.inr (.inr f)))))
/-- field k of class number ci, linked at a place of the pool of own -/
def FL (own : String) (idx ci k : Nat) : Prop := ∃ q : vw_C, vwCl[ci]? = some q ∧ (∀ w ∈ u_ws q.1 q.2.1 q.2.2, w ∈ TT) ∧ k < q.2.2 ∧ Cond.fieldLink own idx (q.2.1 k).1 (q.2.1 k).2.1 (q.2.1 k).2.2.1 ∈ TT ∧ True
/-- .. of a nest mate -/
def FLN (own : String) (idx ci k : Nat) : Prop := ∃ (q : vw_C) (host : String), vwCl[ci]? = some q ∧ (∀ w ∈ u_ws q.1 q.2.1 q.2.2, w ∈ TT) ∧ k < q.2.2 ∧ Cond.fieldLinkNest own idx (q.2.1 k).1 (q.2.1 k).2.1 (q.2.1 k).2.2.1 host ∈ TD
/-- it may be written with a value of type ty -/
def FW (ci k : Nat) (ty : FieldType) : Prop := ∃ (q : vw_C) (ty0 : Nat → FieldType), vwCl[ci]? = some q ∧ (∀ k, k < q.2.2 → parseFieldDescriptor (q.2.1 k).2.2.1 = some (ty0 k)) ∧ (∀ a, a < q.2.2 → ∀ b, b < q.2.2 → a ≠ b → (q.2.1 a).2.1 ≠ (q.2.1 b).2.1) ∧ (q.2.1 k).2.2.2 = false ∧ parseFieldDescriptor (q.2.1 k).2.2.1 = some ty
section VH
variable {S : List SQ} {Ms : List MQ3} {X : Cx} {own : String} {cc : ByteArray} {nL d kc ks : Nat} {σ : Type} {Wd : σ → va_W} {pc : Nat} {lo : List (Option Value)} {st : List Value} {g : σ} {k n : Nat}
theorem v_geti (C : Ok S Ms X own cc nL d kc ks) {idx ci f c a : Nat} {get : σ → Int32} {set : σ → Int32 → σ} (L : FL own idx ci f) (O : OI Wd c a ci f get set) (hdg : decode cc pc = .ok (.getfield idx, 3)) (kk : V X Wd (pc + 3) lo (.int (get g) :: st) g k n) : V X Wd pc lo (.ref a :: st) g k n := by
  intro H locs ls hP hD hS hl
  obtain ⟨q, q1, q2, q3, q4, q5⟩ := L
  obtain ⟨fs, o1, o2, -⟩ := O g
  exact va_get C.1 C.2.1 C.2.2.2.2.1 q2 C.2.2.2.1 C.2.2.2.2.2.1 hP c o1 q1 f q3 (C.2.2.2.2.1 _ q4) (fun _ hx => hx) o2 hdg (kk H locs ls hP hD hS hl)
theorem v_getr (C : Ok S Ms X own cc nL d kc ks) {idx ci f c a b : Nat} (L : FL own idx ci f) (O : OR Wd c a ci f b) (hdg : decode cc pc = .ok (.getfield idx, 3)) (kk : V X Wd (pc + 3) lo (.ref b :: st) g k n) : V X Wd pc lo (.ref a :: st) g k n := by
  intro H locs ls hP hD hS hl
  obtain ⟨q, q1, q2, q3, q4, q5⟩ := L
  obtain ⟨fs, o1, o2⟩ := O g
  exact va_get C.1 C.2.1 C.2.2.2.2.1 q2 C.2.2.2.1 C.2.2.2.2.2.1 hP c o1 q1 f q3 (C.2.2.2.2.1 _ q4) (fun _ hx => hx) o2 hdg (kk H locs ls hP hD hS hl)
theorem v_puti (C : Ok S Ms X own cc nL d kc ks) {idx ci f c a : Nat} {ty : FieldType} {x : Int32} {get : σ → Int32} {set : σ → Int32 → σ} (L : FL own idx ci f) (P : FW ci f ty) (O : OI Wd c a ci f get set) (hn : narrow ty (.int x) = .int x ∧ fits ty (.int x) = true) (hdg : decode cc pc = .ok (.putfield idx, 3)) (kk : V X Wd (pc + 3) lo st (set g x) k n) : V X Wd pc lo (.int x :: .ref a :: st) g k n := by
  intro H locs ls hP hD hS hl
  obtain ⟨q, q1, q2, q3, q4, q5⟩ := L
  obtain ⟨p, ty0, p1, p2, p3, p4, p5⟩ := P
  rw [q1] at p1
  cases p1
  obtain ⟨fs, o1, o2, o3⟩ := O g
  refine va_put C.1 C.2.1 C.2.2.2.2.1 q2 ty0 p2 p3 C.2.2.2.1 C.2.2.2.2.2.1 hP hD hS c o1 q1 f q3 (C.2.2.2.2.1 _ q4) (fun _ hx => hx) p4 p5 hn.1 hn.2 (List.getElem?_eq_some_iff.mp o2).1 hdg (fun H1 locs1 hP1 hD1 hS1 => ?_)
  rw [o3] at hP1 hD1
  exact kk H1 locs1 ls hP1 hD1 hS1 hl
/-- an index within -/
theorem in_nI {j n : Nat} (h : j < n) (hn : n < 2 ^ 31) : vp_in (nI j) n := vp_in_nI h hn
theorem v_iald (C : Ok S Ms X own cc nL d kc ks) {c a N : Nat} {get : σ → Nat → Int32} {set : σ → (Nat → Int32) → σ} (Q : AI (xK X) Wd c a N get set) (hN : N < 2 ^ 31) {i : Int32} (j : Nat) (hj : j < N) (hi : i = nI j) (hdg : decode cc pc = .ok (.iaload, 1)) (kk : V X Wd (pc + 1) lo (.int (get g j) :: st) g k n) : V X Wd pc lo (.int i :: .ref a :: st) g k n := by
  intro H locs ls hP hD hS hl
  subst hi
  refine va_iald C.1 C.2.1 C.2.2.2.2.2.1 hP c 0 (Q g).1 rfl (in_nI hj hN) hdg ?_
  rw [nI_clamp (by omega)]
  exact kk H locs ls hP hD hS hl
theorem v_zald (C : Ok S Ms X own cc nL d kc ks) {c a N : Nat} {get : σ → Nat → Int32} {set : σ → (Nat → Int32) → σ} (Q : AZ (xK X) Wd c a N get set) (hN : N < 2 ^ 31) {i : Int32} (j : Nat) (hj : j < N) (hi : i = nI j) (hdg : decode cc pc = .ok (.baload, 1)) (kk : V X Wd (pc + 1) lo (.int (get g j) :: st) g k n) : V X Wd pc lo (.int i :: .ref a :: st) g k n := by
  intro H locs ls hP hD hS hl
  subst hi
  refine va_zald C.1 C.2.1 C.2.2.2.2.2.1 hP c 1 (Q g).1 rfl (in_nI hj hN) hdg ?_
  rw [nI_clamp (by omega)]
  exact kk H locs ls hP hD hS hl
theorem v_aald (C : Ok S Ms X own cc nL d kc ks) {c a N : Nat} {f : Nat → Option Nat} (Q : AQ (xK X) Wd c a N f) (hN : N < 2 ^ 31) {i : Int32} {b : Nat} (j : Nat) (hj : j < N) (hi : i = nI j) (hb : f j = some b) (hdg : decode cc pc = .ok (.aaload, 1)) (kk : V X Wd (pc + 1) lo (.ref b :: st) g k n) : V X Wd pc lo (.int i :: .ref a :: st) g k n := by
  intro H locs ls hP hD hS hl
  subst hi
  refine va_aldq C.1 C.2.1 C.2.2.2.2.2.1 hP c 4 (Q g) rfl (in_nI hj hN) hdg ?_
  rw [nI_clamp (by omega), hb]
  exact kk H locs ls hP hD hS hl
theorem v_alen (C : Ok S Ms X own cc nL d kc ks) {c a N : Nat} {get : σ → Nat → Int32} {set : σ → (Nat → Int32) → σ} (Q : AI (xK X) Wd c a N get set) (hdg : decode cc pc = .ok (.arraylength, 1)) (kk : V X Wd (pc + 1) lo (.int (nI N) :: st) g k n) : V X Wd pc lo (.ref a :: st) g k n := by
  intro H locs ls hP hD hS hl
  exact va_alen C.1 C.2.1 C.2.2.2.2.2.1 hP c 0 (Q g).1 rfl rfl hdg (kk H locs ls hP hD hS hl)
theorem v_iast (C : Ok S Ms X own cc nL d kc ks) {c a N : Nat} {get : σ → Nat → Int32} {set : σ → (Nat → Int32) → σ} (Q : AI (xK X) Wd c a N get set) (hN : N < 2 ^ 31) {i x : Int32} (j : Nat) (hj : j < N) (hi : i = nI j) (hdg : decode cc pc = .ok (.iastore, 1)) (kk : V X Wd (pc + 1) lo st (set g (upd (get g) j x)) k n) : V X Wd pc lo (.int x :: .int i :: .ref a :: st) g k n := by
  intro H locs ls hP hD hS hl
  subst hi
  refine va_iast C.1 C.2.1 C.2.2.2.2.2.1 hP hD hS c 0 (Q g).1 rfl (in_nI hj hN) hdg (fun H1 locs1 hP1 hD1 hS1 => ?_)
  rw [nI_clamp (by omega), (Q g).2] at hP1 hD1
  exact kk H1 locs1 ls hP1 hD1 hS1 hl
theorem v_zast (C : Ok S Ms X own cc nL d kc ks) {c a N : Nat} {get : σ → Nat → Int32} {set : σ → (Nat → Int32) → σ} (Q : AZ (xK X) Wd c a N get set) (hN : N < 2 ^ 31) {i x : Int32} (j : Nat) (hj : j < N) (hi : i = nI j) (hx : vp_nar .boolean x = x) (hdg : decode cc pc = .ok (.bastore, 1)) (kk : V X Wd (pc + 1) lo st (set g (upd (get g) j x)) k n) : V X Wd pc lo (.int x :: .int i :: .ref a :: st) g k n := by
  intro H locs ls hP hD hS hl
  subst hi
  refine va_zast C.1 C.2.1 C.2.2.2.2.2.1 hP hD hS c 1 (Q g).1 rfl (in_nI hj hN) hdg (fun H1 locs1 hP1 hD1 hS1 => ?_)
  rw [nI_clamp (by omega), hx, (Q g).2] at hP1 hD1
  exact kk H1 locs1 ls hP1 hD1 hS1 hl
end VH
/-! the ends -/
def ri : Int32 → Option Value := fun r => some (.int r)
def rv : Unit → Option Value := fun _ => none
def rl : Int64 → Option Value := fun r => some (.long r)
def rd8 : UInt64 → Option Value := fun r => some (.double r)
def rf4 : UInt32 → Option Value := fun r => some (.float r)
section VE
variable {S : List SQ} {Ms : List MQ3} {X : Cx} {own : String} {cc : ByteArray} {nL d kc ks : Nat} {σ : Type} {Wd : σ → va_W} {pc : Nat} {lo : List (Option Value)} {st : List Value} {g : σ} {k n : Nat} {px : String → σ → Prop}
theorem v_iret (C : Ok S Ms X own cc nL d kc ks) {ty : FieldType} {post : Int32 → σ → Prop} {x : Int32} (F : FinM X (some ty) Wd ri post px kc ks) (hn : narrow ty (.int x) = .int x) (hdg : decode cc pc = .ok (.ireturn, 1)) (hk : k ≤ kc) (hn2 : n ≤ ks) (hp : post x g) : V X Wd pc lo [.int x] g k n := by
  intro H locs ls hP hD hS hl
  unfold xW
  rw [F.2]
  refine W.widen hk hn2 (vx_ret ?_)
  exact W.zret C.1 C.2.1 F.1 hn (fun t ht hW => ⟨⟨x, g, rfl, hp, by rw [ht]; exact hP⟩, hS.F ht⟩) hS.2.2 hdg C.2.2.2.2.2.2.2.1
theorem v_vret (C : Ok S Ms X own cc nL d kc ks) {post : Unit → σ → Prop} (F : FinM X none Wd rv post px kc ks) (hdg : decode cc pc = .ok (.return_, 1)) (hk : k ≤ kc) (hn2 : n ≤ ks) (hp : post () g) : V X Wd pc lo [] g k n := by
  intro H locs ls hP hD hS hl
  unfold xW
  rw [F.2]
  refine W.widen hk hn2 (vx_ret ?_)
  exact W.vret C.1 C.2.1 F.1 (fun t ht hW => ⟨⟨(), g, rfl, hp, by rw [ht]; exact hP⟩, hS.F ht⟩) hS.2.2 hdg C.2.2.2.2.2.2.2.1
theorem v_lret (C : Ok S Ms X own cc nL d kc ks) {post : Int64 → σ → Prop} {x : Int64} (F : FinM X (some .long) Wd rl post px kc ks) (hdg : decode cc pc = .ok (.lreturn, 1)) (hk : k ≤ kc) (hn2 : n ≤ ks) (hp : post x g) : V X Wd pc lo [.long x] g k n := by
  intro H locs ls hP hD hS hl
  unfold xW
  rw [F.2]
  refine W.widen hk hn2 (vx_ret ?_)
  exact W.lret C.1 C.2.1 F.1 (fun t ht hW => ⟨⟨x, g, rfl, hp, by rw [ht]; exact hP⟩, hS.F ht⟩) hS.2.2 hdg C.2.2.2.2.2.2.2.1
theorem v_dret (C : Ok S Ms X own cc nL d kc ks) {post : UInt64 → σ → Prop} {x : UInt64} (F : FinM X (some .double) Wd rd8 post px kc ks) (hdg : decode cc pc = .ok (.dreturn, 1)) (hk : k ≤ kc) (hn2 : n ≤ ks) (hp : post x g) : V X Wd pc lo [.double x] g k n := by
  intro H locs ls hP hD hS hl
  have hlocks := C.2.2.2.2.2.2.2.1
  unfold xW
  rw [F.2]
  refine W.widen hk hn2 (vx_ret ?_)
  exact W.dret C.1 C.2.1 F.1 (fun t ht hW => ⟨⟨x, g, rfl, hp, by rw [ht]; exact hP⟩, hS.F ht⟩) hS.2.2 hdg hlocks
theorem v_fret (C : Ok S Ms X own cc nL d kc ks) {post : UInt32 → σ → Prop} {x : UInt32} (F : FinM X (some .float) Wd rf4 post px kc ks) (hdg : decode cc pc = .ok (.freturn, 1)) (hk : k ≤ kc) (hn2 : n ≤ ks) (hp : post x g) : V X Wd pc lo [.float x] g k n := by
  intro H locs ls hP hD hS hl
  have hlocks := C.2.2.2.2.2.2.2.1
  unfold xW
  rw [F.2]
  refine W.widen hk hn2 (vx_ret ?_)
  exact W.fret C.1 C.2.1 F.1 (fun t ht hW => ⟨⟨x, g, rfl, hp, by rw [ht]; exact hP⟩, hS.F ht⟩) hS.2.2 hdg hlocks
/-- not caught here -/
theorem v_out (C : Ok S Ms X own cc nL d kc ks) (N : NoH X) {ρ : Type} {ret : Option FieldType} {res : ρ → Option Value} {post : ρ → σ → Prop} (F : FinM X ret Wd res post px kc ks) {E : String} (hk : k ≤ kc) (hn2 : n ≤ ks) (hp : px E g) : VX X Wd pc lo E st g k n := by
  intro H locs ls q ce hP hD hS hl hq hv hcl
  rw [F.2]
  exact vx_out (fun x hx => (N x hx).elim) C.2.2.2.2.2.2.2.1 hq hv hcl (fun t ht hW => ⟨⟨g, hp, by rw [ht]; exact hP⟩, hS.F ht⟩) hS.2.2 hk hn2
end VE

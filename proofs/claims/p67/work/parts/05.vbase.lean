/-! THE WALK OVER A WORLD THAT IS A FUNCTION OF A STATE: 'V X Wd pc lo st g k n': from the frame at pc with locals lo and stack st, the heap holding the cells Wd g, the method comes to its end -/
def TT : List Cond := lw_tbl.filter goodWord
def isD : Cond → Bool
  | .declares _ => true
  | .castable _ _ => true
  | .fieldLinkNest .. => true
  | .methodLinkNest .. => true
  | _ => false
def TD : List Cond := lw_tbl.filter isD
theorem TT_of {w : Cond} (i : Nat) (h : lw_tbl[i]? = some w) (hg : goodWord w = true) : w ∈ TT := List.mem_filter.mpr ⟨List.mem_of_getElem? h, hg⟩
theorem TD_of {w : Cond} (i : Nat) (h : lw_tbl[i]? = some w) (hg : isD w = true) : w ∈ TD := List.mem_filter.mpr ⟨List.mem_of_getElem? h, hg⟩
theorem TT_good : ∀ w ∈ TT, (w.onTables && w.keeps) = true ∨ ∃ ty, w = .arrayClass ty := fun w hw => good_of_word (List.mem_filter.mp hw).2
/-- the addresses that are not the worlds': classes' numbers and slots; array classes; String constants; their byte rows -/
abbrev Kp : Type := va_G × (Nat → ClassId) × (Nat → Nat) × (Nat → Nat)
def tysOf (κ : Kp) : List (ClassId × FieldType) := [(κ.2.1 0, .int), (κ.2.1 1, .boolean), (κ.2.1 2, .byte), (κ.2.1 3, .object "CopyDebtsLaw$Place"), (κ.2.1 4, .object "CopyDebts$Memory"), (κ.2.1 5, .array .int)]
def EIO : String := "java/lang/IndexOutOfBoundsException"
def EIA : String := "java/lang/IllegalArgumentException"
def EIS : String := "java/lang/IllegalStateException"
def NCs : List (String × String) := [(EIO, EIA), (EIO, EIS), (EIA, EIO), (EIA, EIS), (EIS, EIO), (EIS, EIA)]
/-- String constants that are read: class, place in its pool, text, its bytes -/
abbrev SQ : Type := String × Nat × String × List Nat
def SAt (q : SQ) (a v : Nat) (A : Nat → Prop) (U : State) (H : Heap) : Prop := vk_R q.1 q.2.1 q.2.2.1 a U ∧ va_O "java/lang/String" a A U H ∧ va_OF "java/lang/String" "coder" "B" (.int 0) a A U H ∧ va_OF "java/lang/String" "value" "[B" (.ref v) a A U H ∧ va_T .byte v q.2.2.2.length (fun j => .int (nI (q.2.2.2.getD j 0))) A U H
/-- messages of exceptions: class, place in its pool, text -/
abbrev MQ3 : Type := String × Nat × String
/-- the table word of int[][] -/
def AOA (U : State) : Prop := (Cond.arrayOver (.array .int)).before #[] U = true
theorem AOA.moved {u U : State} (hvm : u.vm.Alike U.vm) (h : AOA u) : AOA U := by
  obtain ⟨comp, c, k, h1, h2, h3, h4, h5⟩ := arrayOverA_spec h
  obtain ⟨k', hk', he⟩ := hvm.2.2 _ _ h3
  have hi : (U.vm.classes.findIdx? fun (x : Class) => match x.kind with | .array component _ => component == comp | _ => false) = some c := by
    rw [hvm.findIdx?_eq _ (fun _ => rfl)]
    exact h2
  have hkind : k'.kind = .array comp (.array .int) := by rw [he]; exact h4
  have f1 : U.vm.findClass (FieldType.array .int).toString = some comp := by rw [hvm.findClass]; exact h1
  have f2 : U.vm.findClass ("[" ++ (FieldType.array .int).toString) = some c := by rw [hvm.findClass]; exact h5
  unfold AOA Cond.before Cond.holds
  simp only [Cond.value]
  rw [f1, Option.bind_some]
  refine (congrArg (fun o : Option Nat => (o.bind (fun c => (U.vm.classes[c]?).map fun (k : Class) => match k.kind with | .array _ ty => decide (ty = FieldType.array .int) && decide (U.vm.findClass ("[" ++ (FieldType.array .int).toString) = some c) | _ => false) == some true)) hi).trans ?_
  simp [hk', hkind, f2]
theorem va_NwS {w : Cond} (ht : w.onTables = true) (hst : w.steady = true) {s U : State} (hal : s.vm.Alike U.vm) (h : va_Nw w s) : va_Nw w U := by
  refine va_tabs (A := #[]) ht (rfl : (s.setVm U.vm).vm = U.vm) ?_
  unfold va_Nw Cond.before Cond.holds at h
  unfold Cond.before Cond.holds
  rw [Cond.value_setVm₂ hal hal _ _ hst]
  exact h
/-- private methods of StringBuilder's superclass -/
def TSel : List Cond := [.selects "java/lang/StringBuilder" yJ5_ensureCapacityInternal_d00df yJ5_ensureCapacityInternal_d00df, .selects "java/lang/StringBuilder" yJ5_newCapacity_0f7a4 yJ5_newCapacity_0f7a4, .selects "java/lang/StringBuilder" yJ5_putStringAt_47b60 yJ5_putStringAt_47b60, .selects "java/lang/StringBuilder" yJ5_inflateIfNeededFor_a7421 yJ5_inflateIfNeededFor_a7421]
theorem TSel_on : ∀ w ∈ TSel, w.onTables = true ∧ w.steady = true := by
  intro w hw
  simp only [TSel, List.mem_cons, List.not_mem_nil, or_false] at hw
  rcases hw with rfl | rfl | rfl | rfl <;> exact ⟨rfl, rfl⟩
/-- the digits of Integer, which arrays of references can be made, and the script -/
def DG (κ : Kp) (A : Nat → Prop) (U : State) (H : Heap) : Prop :=
  va_Z "java/lang/Integer" "DigitOnes" "[B" (.ref (κ.2.2.1 100)) A U H ∧ va_T .byte (κ.2.2.1 100) 100 (fun j => .int (nI (48 + j % 10))) A U H ∧ va_Z "java/lang/Integer" "DigitTens" "[B" (.ref (κ.2.2.1 101)) A U H ∧ va_T .byte (κ.2.2.1 101) 100 (fun j => .int (nI (48 + j / 10))) A U H ∧ va_AO "CopyDebtsLaw$Place" U ∧ AOA U ∧ va_T .int (κ.2.2.1 102) (κ.2.2.2 999) (fun j => .int (nI (κ.2.2.2 (1000 + j)))) A U H ∧ ∀ w ∈ TSel, va_Nw w U
theorem DG.moved {κ : Kp} {A : Nat → Prop} {s U : State} {H : Heap} (hal : s.vm.Alike U.vm) (h : DG κ A s H) : DG κ A U H := by
  obtain ⟨h1, h2, h3, h4, h5, h6, h7, h8⟩ := h
  exact ⟨va_Z.moved hal h1, va_T.moved hal h2, va_Z.moved hal h3, va_T.moved hal h4, va_AO.moved hal h5, AOA.moved hal h6, va_T.moved hal h7, fun w hw => va_NwS (TSel_on w hw).1 (TSel_on w hw).2 hal (h8 w hw)⟩
theorem DG.kept {κ : Kp} {A : Nat → Prop} {U : State} {H H1 : Heap} (h : DG κ A U H) (hq : ∀ a : Nat, a < H.size → ¬ A a → H1[a]? = H[a]?) : DG κ A U H1 := by
  obtain ⟨g1, g2, g3, g4, g5, g6, g7, g8⟩ := h
  exact ⟨g1.kept hq, g2.kept hq, g3.kept hq, g4.kept hq, g5, g6, g7.kept hq, g8⟩
theorem DG.narrow {κ : Kp} {A B : Nat → Prop} {U : State} {H : Heap} (h : DG κ A U H) (hAB : ∀ q, B q → A q) : DG κ B U H := by
  obtain ⟨g1, g2, g3, g4, g5, g6, g7, g8⟩ := h
  exact ⟨g1.narrow hAB, g2.narrow hAB, g3.narrow hAB, g4.narrow hAB, g5, g6, g7.narrow hAB, g8⟩
/-- what holds around all worlds -/
def EV (S : List SQ) (Ms : List MQ3) (κ : Kp) (A : Nat → Prop) (U : State) (H : Heap) : Prop :=
  vx_Zq Bundle.tN "UNASSIGNED_STACK" Bundle.steD A U H ∧ vx_Zq Bundle.tN "SUPPRESSED_SENTINEL" Bundle.listD A U H ∧ (∀ w ∈ TD, va_Nw w U) ∧ (∀ q ∈ NCs, va_Nc q.1 q.2 U) ∧
  (∀ (q : MQ3), q ∈ Ms → ∃ a, vk_R q.1 q.2.1 q.2.2 a U) ∧ (∀ (i : Nat) (q : SQ), S[i]? = some q → SAt q (κ.2.2.1 i) (κ.2.2.2 i) A U H) ∧ va_Z "java/lang/String" "COMPACT_STRINGS" "Z" (.int 1) A U H ∧ va_Zq "jdk/internal/util/Preconditions" "SIOOBE_FORMATTER" "Ljava/util/function/BiFunction;" A U H ∧ DG κ A U H
theorem TD_warm {s U : State} (hW : s.WarmedH U.vm) (h : ∀ w ∈ TD, va_Nw w s) : ∀ w ∈ TD, va_Nw w U := by
  intro w hw
  have h1 := h w hw
  have h2 : isD w = true := (List.mem_filter.mp hw).2
  cases w <;> first | (cases h2; done) | exact va_Nw.warmD hW h1 | exact va_Nw.warmC hW h1 | exact va_Nw.warmF hW h1 | exact va_Nw.warmM hW h1
theorem TD_same {s U : State} (hv : s.vm = U.vm) (h : ∀ w ∈ TD, va_Nw w s) : ∀ w ∈ TD, va_Nw w U := by
  intro w hw
  have h1 := h w hw
  have h2 : isD w = true := (List.mem_filter.mp hw).2
  cases w <;> first | (cases h2; done) | exact va_Nw.same rfl hv h1
theorem SAt.warm {q : SQ} {a v : Nat} {A : Nat → Prop} {s U : State} {H : Heap} (hW : s.WarmedH U.vm) (h : SAt q a v A s H) : SAt q a v A U H := by
  obtain ⟨h1, h2, h3, h4, h5⟩ := h
  exact ⟨vk_R.warm hW h1, va_O.moved hW.alike h2, va_OF.moved hW.alike h3, va_OF.moved hW.alike h4, va_T.moved hW.alike h5⟩
theorem SAt.same {q : SQ} {a v : Nat} {A : Nat → Prop} {s U : State} {H : Heap} (hv : U.vm = s.vm) (h : SAt q a v A s H) : SAt q a v A U H := by
  have hal : s.vm.Alike U.vm := by rw [hv]; exact Vm.Alike.refl _
  obtain ⟨h1, h2, h3, h4, h5⟩ := h
  exact ⟨vk_R.same hv h1, va_O.moved hal h2, va_OF.moved hal h3, va_OF.moved hal h4, va_T.moved hal h5⟩
theorem SAt.kept {q : SQ} {a v : Nat} {A : Nat → Prop} {U : State} {H H1 : Heap} (h : SAt q a v A U H) (hq : ∀ a : Nat, a < H.size → ¬ A a → H1[a]? = H[a]?) : SAt q a v A U H1 := by
  obtain ⟨h1, h2, h3, h4, h5⟩ := h
  exact ⟨h1, h2.kept hq, h3.kept hq, h4.kept hq, h5.kept hq⟩
theorem SAt.narrow {q : SQ} {a v : Nat} {A B : Nat → Prop} {U : State} {H : Heap} (h : SAt q a v A U H) (hAB : ∀ q, B q → A q) : SAt q a v B U H := by
  obtain ⟨h1, h2, h3, h4, h5⟩ := h
  exact ⟨h1, h2.narrow hAB, h3.narrow hAB, h4.narrow hAB, h5.narrow hAB⟩
section EVL
variable {S : List SQ} {Ms : List MQ3} {κ : Kp}
theorem EV.warm {A : Nat → Prop} {s U : State} {H : Heap} (hW : s.WarmedH U.vm) (h : EV S Ms κ A s H) : EV S Ms κ A U H := by
  obtain ⟨h1, h2, h3, h4, h5, h6, h7, h8, h9⟩ := h
  exact ⟨vx_Zq.moved hW.alike h1, vx_Zq.moved hW.alike h2, TD_warm hW h3, fun q hq => va_Nc.moved hW.alike (h4 q hq), fun q hq => (h5 q hq).imp fun a ha => vk_R.warm hW ha, fun i q hq => (h6 i q hq).warm hW, va_Z.moved hW.alike h7, va_Zq.moved hW.alike h8, h9.moved hW.alike⟩
theorem EV.same {A : Nat → Prop} {s U : State} {H : Heap} (hv : U.vm = s.vm) (h : EV S Ms κ A s H) : EV S Ms κ A U H := by
  have hal : s.vm.Alike U.vm := by rw [hv]; exact Vm.Alike.refl _
  obtain ⟨h1, h2, h3, h4, h5, h6, h7, h8, h9⟩ := h
  exact ⟨vx_Zq.moved hal h1, vx_Zq.moved hal h2, TD_same hv.symm h3, fun q hq => va_Nc.moved hal (h4 q hq), fun q hq => (h5 q hq).imp fun a ha => vk_R.same hv ha, fun i q hq => (h6 i q hq).same hv, va_Z.moved hal h7, va_Zq.moved hal h8, h9.moved hal⟩
theorem EV.kept {A : Nat → Prop} {U : State} {H H1 : Heap} (h : EV S Ms κ A U H) (hq : ∀ a : Nat, a < H.size → ¬ A a → H1[a]? = H[a]?) : EV S Ms κ A U H1 := by
  obtain ⟨h1, h2, h3, h4, h5, h6, h7, h8, h9⟩ := h
  exact ⟨h1.kept hq, h2.kept hq, h3, h4, h5, fun i q hi => (h6 i q hi).kept hq, h7.kept hq, h8.kept hq, h9.kept hq⟩
theorem EV.narrow {A B : Nat → Prop} {U : State} {H : Heap} (h : EV S Ms κ A U H) (hAB : ∀ q, B q → A q) : EV S Ms κ B U H := by
  obtain ⟨h1, h2, h3, h4, h5, h6, h7, h8, h9⟩ := h
  exact ⟨h1.narrow hAB, h2.narrow hAB, h3, h4, h5, fun i q hi => (h6 i q hi).narrow hAB, h7.narrow hAB, h8.narrow hAB, h9.narrow hAB⟩
end EVL
/-- the room of a method of level d that makes at most kc cells of ks slots -/
def rmL (d kc ks : Nat) : Room := { frames := 10 + d, cells := kc, slots := ks, locals := 300 + 100 * d }
def wT (y : MethodName) (cc : ByteArray) (maxL : Nat) (ret : Option FieldType) : List Cond := .code y cc maxL ret :: TT
def wH (y : MethodName) (cc : ByteArray) (maxL : Nat) (ret : Option FieldType) (hh : List (Nat × Nat × Nat × Nat)) : List Cond := .codeWith y cc maxL ret hh :: TT
/-- the words list of local variables -/
def lq : Nat → List (Option Value) → List (Nat × Value)
  | _, [] => []
  | i, none :: t => lq (i + 1) t
  | i, some v :: t => (i, v) :: lq (i + 1) t
theorem lq_get {v : Value} : ∀ (lo : List (Option Value)) (i k : Nat), lo[k]? = some (some v) → (i + k, v) ∈ lq i lo
  | [], i, k, h => by simp at h
  | none :: t, i, 0, h => by simp at h
  | none :: t, i, k + 1, h => by
    have := lq_get t (i + 1) k (by simpa using h)
    rw [show i + (k + 1) = i + 1 + k by omega]
    exact this
  | some w :: t, i, 0, h => by
    have : w = v := by simpa using h
    subst this
    exact List.mem_cons_self
  | some w :: t, i, k + 1, h => by
    have := lq_get t (i + 1) k (by simpa using h)
    rw [show i + (k + 1) = i + 1 + k by omega]
    exact List.mem_cons_of_mem _ this
theorem lq_mem {v : Value} : ∀ (lo : List (Option Value)) (i j : Nat), (j, v) ∈ lq i lo → ∃ k, j = i + k ∧ lo[k]? = some (some v)
  | [], i, j, h => by simp [lq] at h
  | none :: t, i, j, h => by
    obtain ⟨k, h1, h2⟩ := lq_mem t (i + 1) j (by simpa [lq] using h)
    exact ⟨k + 1, by omega, by simpa using h2⟩
  | some w :: t, i, j, h => by
    rcases List.mem_cons.mp (show (j, v) ∈ (i, w) :: lq (i + 1) t from h) with e | e
    · cases e
      exact ⟨0, rfl, rfl⟩
    · obtain ⟨k, h1, h2⟩ := lq_mem t (i + 1) j e
      exact ⟨k + 1, by omega, by simpa using h2⟩
theorem lv_has.mono {ls : Array Slot} {nL : Nat} {l l' : List (Nat × Value)} (h : lv_has ls nL l) (hs : ∀ q ∈ l', q ∈ l) : lv_has ls nL l' := ⟨h.1, h.2.1, fun q hq => h.2.2 q (hs q hq)⟩
/-- no value of two words ends in front of place i -/
def stOk : Nat → List (Option Value) → Bool
  | 0, _ => true
  | i + 1, lo => match lo[i]? with
    | some (some v) => v.category == 1
    | _ => true
theorem st1_has {ls : Array Slot} {nL i : Nat} {v : Value} {lo lo' : List (Option Value)} (h : lv_has ls nL ((i, v) :: (lq 0 lo).filter (fun q => !(q.1 == i) && !(q.1 + 1 == i && q.2.category == 2)))) (hs : lo.set i (some v) = lo') (hi : i < lo.length) (ho : stOk i lo = true) : lv_has ls nL (lq 0 lo') := by
  refine h.mono fun q hq => ?_
  subst hs
  obtain ⟨k, h1, h2⟩ := lq_mem _ 0 q.1 (v := q.2) hq
  have hk : q.1 = k := by omega
  by_cases e : k = i
  · subst e
    rw [List.getElem?_set_self hi] at h2
    have e2 : q = (k, v) := by
      have := Option.some.inj (Option.some.inj h2)
      exact Prod.ext hk this.symm
    rw [e2]
    exact List.mem_cons_self
  · rw [List.getElem?_set_ne (Ne.symm e)] at h2
    refine List.mem_cons_of_mem _ (List.mem_filter.mpr ⟨?_, ?_⟩)
    · have := lq_get lo 0 k h2
      rw [Nat.zero_add, ← hk] at this
      exact this
    · have a1 : (q.1 == i) = false := by rw [hk]; exact beq_eq_false_iff_ne.mpr e
      have a2 : (q.1 + 1 == i && q.2.category == 2) = false := by
        by_cases e3 : q.1 + 1 = i
        · have : stOk (k + 1) lo = true := by rw [← hk, e3]; exact ho
          simp only [stOk, h2, beq_iff_eq] at this
          simp [this]
        · have : (q.1 + 1 == i) = false := beq_eq_false_iff_ne.mpr e3
          rw [this]; rfl
      rw [a1, a2]; rfl
theorem st2_has {ls : Array Slot} {nL i : Nat} {v : Value} {lo lo' : List (Option Value)} (h : lv_has ls nL ((i, v) :: (lq 0 lo).filter (fun q => !(q.1 == i) && (!(q.1 == i + 1) && !(q.1 + 1 == i && q.2.category == 2))))) (hs : (lo.set i (some v)).set (i + 1) none = lo') (hi : i + 1 < lo.length) (ho : stOk i lo = true) : lv_has ls nL (lq 0 lo') := by
  refine h.mono fun q hq => ?_
  subst hs
  obtain ⟨k, h1, h2⟩ := lq_mem _ 0 q.1 (v := q.2) hq
  have hk : q.1 = k := by omega
  by_cases e1 : k = i + 1
  · subst e1
    rw [List.getElem?_set_self (by rw [List.length_set]; exact hi)] at h2
    cases h2
  rw [List.getElem?_set_ne (Ne.symm e1)] at h2
  by_cases e : k = i
  · subst e
    rw [List.getElem?_set_self (by omega)] at h2
    have e2 : q = (k, v) := by
      have := Option.some.inj (Option.some.inj h2)
      exact Prod.ext hk this.symm
    rw [e2]
    exact List.mem_cons_self
  · rw [List.getElem?_set_ne (Ne.symm e)] at h2
    refine List.mem_cons_of_mem _ (List.mem_filter.mpr ⟨?_, ?_⟩)
    · have := lq_get lo 0 k h2
      rw [Nat.zero_add, ← hk] at this
      exact this
    · have a1 : (q.1 == i) = false := by rw [hk]; exact beq_eq_false_iff_ne.mpr e
      have a3 : (q.1 == i + 1) = false := by rw [hk]; exact beq_eq_false_iff_ne.mpr e1
      have a2 : (q.1 + 1 == i && q.2.category == 2) = false := by
        by_cases e3 : q.1 + 1 = i
        · have : stOk (k + 1) lo = true := by rw [← hk, e3]; exact ho
          simp only [stOk, h2, beq_iff_eq] at this
          simp [this]
        · have : (q.1 + 1 == i) = false := beq_eq_false_iff_ne.mpr e3
          rw [this]; rfl
      rw [a1, a2, a3]; rfl
/-- all that a walk stands on -/
abbrev Cx : Type := Program × Launch × Env × Room × State × MethodId × Array Value × List Frame × Method × Code × (State → Prop) × (Nat → Prop) × Kp
abbrev xp (X : Cx) : Program := X.1
abbrev xl (X : Cx) : Launch := X.2.1
abbrev xe (X : Cx) : Env := X.2.2.1
abbrev xR (X : Cx) : Room := X.2.2.2.1
abbrev xs (X : Cx) : State := X.2.2.2.2.1
abbrev xm (X : Cx) : MethodId := X.2.2.2.2.2.1
abbrev xa (X : Cx) : Array Value := X.2.2.2.2.2.2.1
abbrev xb (X : Cx) : List Frame := X.2.2.2.2.2.2.2.1
abbrev xM (X : Cx) : Method := X.2.2.2.2.2.2.2.2.1
abbrev xc (X : Cx) : Code := X.2.2.2.2.2.2.2.2.2.1
abbrev xQ (X : Cx) : State → Prop := X.2.2.2.2.2.2.2.2.2.2.1
abbrev xA (X : Cx) : Nat → Prop := X.2.2.2.2.2.2.2.2.2.2.2.1
abbrev xK (X : Cx) : Kp := X.2.2.2.2.2.2.2.2.2.2.2.2
/-- the machine's walk from a frame -/
def xW (X : Cx) (H : Heap) (locs : List Loc) (k n : Nat) (pc : Nat) (ls : Array Slot) (st : List Value) : Prop := W (xp X) (xl X) (xe X) (xR X) (xs X) (xm X) (xa X) (xb X) (xM X) (xc X) H locs k n (xQ X) (F0 (xm X) pc ls st)
def V (X : Cx) {σ : Type} (Wd : σ → va_W) (pc : Nat) (lo : List (Option Value)) (st : List Value) (g : σ) (k n : Nat) : Prop :=
  ∀ (H : Heap) (locs : List Loc) (ls : Array Slot), va_P (xK X).1 vwCl (Wd g) H → va_D (xA X) (Wd g) → va_S (xA X) (xs X).heap H locs → lv_has ls lo.length (lq 0 lo) → xW X H locs k n pc ls st
/-- .. with an exception of class E thrown at pc -/
def VX (X : Cx) {σ : Type} (Wd : σ → va_W) (pc : Nat) (lo : List (Option Value)) (E : String) (st : List Value) (g : σ) (k n : Nat) : Prop :=
  ∀ (H : Heap) (locs : List Loc) (ls : Array Slot) (q : Addr) (ce : Cell), va_P (xK X).1 vwCl (Wd g) H → va_D (xA X) (Wd g) → va_S (xA X) (xs X).heap H locs → lv_has ls lo.length (lq 0 lo) → H[q]? = some ce → ce.vm = .none → (xs X).vm.findClass E = some ce.cls →
    vx_W (xp X) (xl X) (xe X) (xR X) (xs X) (xm X) (xa X) (xb X) (xM X) (xc X) H locs k n (xQ X) (F0 (xm X) pc ls st) q
def Ok (S : List SQ) (Ms : List MQ3) (X : Cx) (own : String) (cc : ByteArray) (nL d kc ks : Nat) : Prop :=
  (xp X).tables.exec = Jvm.exec ∧ (xc X).code = cc ∧ (xc X).maxLocals = nL ∧ (xs X).vm.findClass own = some (xm X).cls ∧ (∀ w ∈ TT, w.before (xa X) (xs X) = true) ∧ va_K (xK X).1 vwCl (tysOf (xK X)) (xs X) ∧ (∀ q, (xs X).heap.size ≤ q → xA X q) ∧ (xM X).locks = false ∧ (xl X).stackTraces = false ∧ xR X = rmL d kc ks ∧ EV S Ms (xK X) (xA X) (xs X) (xs X).heap
/-- the addresses of a world stay -/
def FixW {σ : Type} (Wd : σ → va_W) : Prop := ∀ g g', (Wd g).map Prod.fst = (Wd g').map Prod.fst
theorem va_D.fix {A : Nat → Prop} {ws ws' : va_W} (h : va_D A ws) (he : ws.map Prod.fst = ws'.map Prod.fst) : va_D A ws' := by
  have key : ∀ (i : Nat) (q : Nat × va_E), ws'[i]? = some q → ∃ e, ws[i]? = some (q.1, e) := by
    intro i q hi
    have h1 : (ws'.map Prod.fst)[i]? = some q.1 := by rw [List.getElem?_map, hi]; rfl
    rw [← he, List.getElem?_map] at h1
    cases h2 : ws[i]? with
    | none => rw [h2] at h1; cases h1
    | some p =>
      rw [h2] at h1
      have : p.1 = q.1 := Option.some.inj h1
      exact ⟨p.2, by rw [← this]⟩
  refine ⟨fun i j p q hp hq hpq => ?_, fun k q hq => ?_⟩
  · obtain ⟨e1, a1⟩ := key i p hp
    obtain ⟨e2, a2⟩ := key j q hq
    exact h.1 i j _ _ a1 a2 hpq
  · obtain ⟨e1, a1⟩ := key k q hq
    exact h.2 k (q.1, e1) a1
theorem va_D.toTrue {A : Nat → Prop} {ws : va_W} (h : va_D A ws) : va_D (fun _ => True) ws := ⟨h.1, fun _ _ _ => trivial⟩
/-- a start and the ends of a method -/
def PreB (S : List SQ) (Ms : List MQ3) (κ : Kp) {σ : Type} (Wd : σ → va_W) (g : σ) (sz : Nat) (U : State) : Prop := U.heap.size = sz ∧ va_P κ.1 vwCl (Wd g) U.heap ∧ va_K κ.1 vwCl (tysOf κ) U ∧ va_D (fun _ => True) (Wd g) ∧ EV S Ms κ (va_A (Wd g) sz) U U.heap
def Qn (κ : Kp) {σ ρ : Type} (Wd : σ → va_W) (A : Nat → Prop) (res : ρ → Option Value) (post : ρ → σ → Prop) : Array Value → State → Outcome → State → Prop := fun _ s o t => (∃ r g', o = .returned (res r) ∧ post r g' ∧ va_P κ.1 vwCl (Wd g') t.heap) ∧ va_F A s t
def QX (κ : Kp) {σ : Type} (Wd : σ → va_W) (A : Nat → Prop) (px : String → σ → Prop) : String → State → State → Prop := fun E s t => (∃ g', px E g' ∧ va_P κ.1 vwCl (Wd g') t.heap) ∧ va_F A s t
/-- a method's contract -/
def Ct (S : List SQ) (Ms : List MQ3) (l : Launch) (κ : Kp) (y : MethodName) (cc : ByteArray) (maxL : Nat) (ret : Option FieldType) (d mc ms : Nat) (as : List Value) {σ ρ : Type} (Wd : σ → va_W) (g : σ) (res : ρ → Option Value) (post : ρ → σ → Prop) (px : String → σ → Prop) : Prop :=
  ∀ sz : Nat, vx_Met l y (wT y cc maxL ret) (rmL d mc ms) (va_Pc as (PreB S Ms κ Wd g sz)) (Qn κ Wd (va_A (Wd g) sz) res post) (QX κ Wd (va_A (Wd g) sz) px) mc ms (va_A (Wd g) sz)
def CtH (S : List SQ) (Ms : List MQ3) (l : Launch) (κ : Kp) (y : MethodName) (cc : ByteArray) (maxL : Nat) (ret : Option FieldType) (hh : List (Nat × Nat × Nat × Nat)) (d mc ms : Nat) (as : List Value) {σ ρ : Type} (Wd : σ → va_W) (g : σ) (res : ρ → Option Value) (post : ρ → σ → Prop) (px : String → σ → Prop) : Prop :=
  ∀ sz : Nat, vx_Met l y (wH y cc maxL ret hh) (rmL d mc ms) (va_Pc as (PreB S Ms κ Wd g sz)) (Qn κ Wd (va_A (Wd g) sz) res post) (QX κ Wd (va_A (Wd g) sz) px) mc ms (va_A (Wd g) sz)
/-- the frame that a contract is proved in -/
def FinM (X : Cx) (ret : Option FieldType) {σ ρ : Type} (Wd : σ → va_W) (res : ρ → Option Value) (post : ρ → σ → Prop) (px : String → σ → Prop) (kc ks : Nat) : Prop :=
  (xM X).sig.returnType = ret ∧ xQ X = vx_MQ (xb X) (Qn (xK X) Wd (xA X) res post) (QX (xK X) Wd (xA X) px) (xa X) (xs X) kc ks (xA X)
def NoH (X : Cx) : Prop := ∀ x ∈ (xc X).exceptionTable.toList, False
theorem PreB.blind {S : List SQ} {Ms : List MQ3} {κ : Kp} {σ : Type} {Wd : σ → va_W} {g : σ} {sz : Nat} {as : List Value} : FrameBlind (va_Pc as (PreB S Ms κ Wd g sz)) := by
  intro a U f mk h
  obtain ⟨h0, h1, h2, h3, h4, h5⟩ := h
  exact ⟨h0, h1, h2, va_K.moved (u := U) (U := U.calling f mk a) (Vm.Alike.refl U.vm) h3, h4, EV.same (s := U) (U := U.calling f mk a) rfl h5⟩
theorem lq_args : ∀ (as : List Value) (i : Nat), (∀ v ∈ as, v.category = 1) → ∀ n, ∀ q ∈ lq i (as.map some ++ List.replicate n none), q ∈ lv_args i as
  | [], i, _, n, q, hq => by
    exfalso
    induction n generalizing i with
    | zero => simp [lq] at hq
    | succ n ih => exact ih (i + 1) (by simpa [lq, List.replicate_succ] using hq)
  | a :: t, i, hc, n, q, hq => by
    have ha : a.category = 1 := hc a List.mem_cons_self
    rcases List.mem_cons.mp (show q ∈ (i, a) :: lq (i + 1) (t.map some ++ List.replicate n none) from hq) with e | e
    · subst e
      simp [lv_args, ha]
    · have := lq_args t (i + 1) (fun v hv => hc v (List.mem_cons_of_mem _ hv)) n q e
      simp only [lv_args, ha]
      exact List.mem_cons_of_mem _ this
theorem lg_len : ∀ (as : List Value), (∀ v ∈ as, v.category = 1) → (lg_sl as).length = as.length := by
  intro as
  induction as with
  | nil => intro _; rfl
  | cons a t ih =>
    intro hc
    have ha : a.category = 1 := hc a List.mem_cons_self
    have := ih (fun v hv => hc v (List.mem_cons_of_mem _ hv))
    have e1 : lg_sl (a :: t) = (if a.category = 2 then [Slot.val a, Slot.second] else [Slot.val a]) ++ lg_sl t := by simp [lg_sl]
    rw [e1, ha]
    simp [this]
section CtOf
variable {S : List SQ} {Ms : List MQ3} {l : Launch} {κ : Kp} {y : MethodName} {cc : ByteArray} {maxL : Nat} {ret : Option FieldType} {d mc ms : Nat} {as : List Value} {σ ρ : Type} {Wd : σ → va_W} {g : σ} {res : ρ → Option Value} {post : ρ → σ → Prop} {px : String → σ → Prop}
theorem Ct.of {own : String} (hy : plainName y.cls = true) (hown : y.cls = own) (hl : l.stackTraces = false) (hcat : ∀ v ∈ as, v.category = 1) (hlen : as.length ≤ maxL)
    (body : ∀ X : Cx, xl X = l → xK X = κ → Ok S Ms X own cc maxL d mc ms → FinM X ret Wd res post px mc ms → NoH X → V X Wd 0 (as.map some ++ List.replicate (maxL - as.length) none) [] g 0 0) : Ct S Ms l κ y cc maxL ret d mc ms as Wd g res post px := by
  intro sz
  refine vx_ofW (cc := cc) (maxL := maxL) (ret := ret) hy rfl ?_
  intro p e s m args below meth c s₁ B hml hnoh hv
  obtain ⟨rfl, hsz, hP, hK, hD0, hE⟩ := hv
  have hts := atoms_spec (ws := wT y cc maxL ret) B.pre
  have hown2 : s.vm.findClass own = some m.cls := by rw [← hown]; exact findClass_of_methodNamed B.named
  subst hsz
  have hD := hD0.self (sz := s.heap.size)
  have X1 := body (p, l, e, (headSpec (wT y cc maxL ret) (rmL d mc ms)).room, s, m, as.toArray, below, meth, c, vx_MQ below (Qn κ Wd (va_A (Wd g) s.heap.size) res post) (QX κ Wd (va_A (Wd g) s.heap.size) px) as.toArray s mc ms (va_A (Wd g) s.heap.size), va_A (Wd g) s.heap.size, κ) rfl rfl
    ⟨B.exec, B.bytes, hml, hown2, fun w hw => hts w (List.mem_cons_of_mem _ hw), hK, fun q h => Or.inr h, B.notSynchronized, hl, rfl, hE⟩ ⟨B.returns, rfl⟩ hnoh
  have hll := lg_len as hcat
  have hl0 := lv_entry as (n := maxL) (by rw [hll]; exact hlen)
  rw [lg_entry_eq]
  refine X1 s.heap [] _ hP hD va_S.rf ?_
  have : (as.map some ++ List.replicate (maxL - as.length) (none : Option Value)).length = maxL := by simp; omega
  rw [this]
  exact hl0.mono (fun q hq => lq_args as 0 hcat _ q hq)
end CtOf

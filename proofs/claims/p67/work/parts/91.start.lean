theorem W_room {p : Program} {l : Launch} {e : Env} {R R2 : Room} {s : State} {m : MethodId} {args : Array Value} {below : List Frame} {meth : Method} {c : Code} {H : Heap} {locs : List Loc} {cells slots : Nat} {Q : State → Prop} {g : JFrame} (hR : R2.frames ≤ R.frames ∧ R2.cells ≤ R.cells ∧ R2.slots ≤ R.slots ∧ R2.locals ≤ R.locals) (k : W p l e R2 s m args below meth c H locs cells slots Q g) : W p l e R s m args below meth c H locs cells slots Q g := by
  intro T hT X
  have hr : s.hasRoom e.platform R2 = true := by
    have h := X.room
    simp only [State.hasRoom, Bool.and_eq_true, decide_eq_true_eq] at h ⊢
    obtain ⟨⟨⟨⟨h1, h2⟩, h3⟩, h4⟩, h5⟩ := h
    refine ⟨⟨⟨⟨by omega, ?_⟩, by omega⟩, by omega⟩, h5⟩
    obtain ⟨a1, a2, a3, a4, a5⟩ := h2
    exact ⟨by omega, by omega, by omega, by omega, a5⟩
  exact k T hT ⟨X.admits, X.cas, X.clock, X.frames, hr, X.hears, X.method, X.code, X.here, X.tail, X.warmed, X.limits, X.bytes, X.same⟩
set_option maxHeartbeats 2000000 in
theorem whole_start {p : Program} {e : Env} {s : State} {m : MethodId} {below : List Frame} {meth : Method} {c : Code} (l : Launch) (hflags : l.flags = flags0) {b L : Nat} {xs : Nat → Int32} (hL : L ≤ 260) (C0 : lw_At p s m meth c b L xs) : W p l e room_1 s m #[Value.ref b] below meth c s.heap [] 0 0 (lw_Z below #[Value.ref b] s) (entryFrame m ([Value.ref b] : List Value).toArray 5) := by
  obtain ⟨hx, hb, hr, hml, hown, hts, hX, hbl, hlocks, hgv⟩ := C0
  have hst : l.stackTraces = false := by
    unfold Launch.stackTraces
    rw [hflags]
    decide +kernel
  obtain ⟨κ, ⟨hK, hE, hN⟩, h102, h999⟩ := start_K hts hgv hX hbl
  refine W_room (R2 := rmL 30 600086 7301442) ⟨by decide, Nat.le_refl _, Nat.le_refl _, by decide⟩ ?_
  have C : Ok SS MM (p, l, e, rmL 30 600086 7301442, s, m, #[Value.ref b], below, meth, c, lw_Z below #[Value.ref b] s, (fun q : Nat => s.heap.size ≤ q), κ) RL cL_law 5 30 600086 7301442 :=
    ⟨hx, hb, hml, hown, fun w hw => hts w (List.mem_filter.mp hw).1, hK, fun q h => h, hlocks, hst, rfl, hE⟩
  have X1 := law_init hst C hN (bs := b) h102 ⟨rfl, rfl, hr, fun q h => h⟩ (by show κ.2.2.2 999 < 2 ^ 20; omega)
  have hll := lg_len [Value.ref b] (by simp [Value.category])
  have hl0 := lv_entry [Value.ref b] (n := 5) (by rw [hll]; exact Nat.le_of_ble_eq_true rfl)
  rw [lg_entry_eq]
  refine X1 s.heap [] _ (fun k q h => by simp at h) ⟨fun i j p q h => by simp at h, fun k q h => by simp at h⟩ va_S.rf ?_
  exact hl0.mono (fun q hq => lq_args [Value.ref b] 0 (by simp [Value.category]) 4 q hq)

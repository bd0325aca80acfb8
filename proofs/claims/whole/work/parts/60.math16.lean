/-! BOTH SIDES BETWEEN TWO CALLS, and what one call does to them -/
def SLK (kb : Nat → Bool) (sl : Nat → Mg) : Prop := ∀ j, j < 2 → kb j = false → LK (sl j)
def INV (b : Nat) (c : Cg) (q : G) : Prop := ∃ (n : Nat) (m : Mg) (L : List Mg) (kb : Nat → Bool) (sm : Nat → Mg) (T : List Int32) (f : Nat) (B : Nat → Int32) (e1 e2 : Int32) (s sT rb sr : G) (mT mr : Mg) (hh : Hg) (sl : Nat → Mg) (tx : G), c = ((s, m), (sT, mT), (rb, sr, mr), hh, sl, tx) ∧ ICp b n m L kb sm T f B e1 e2 rb hh sl tx ∧ IQ n m L kb sm T f B e1 e2 q ∧ SLK kb sl
theorem INV.mk {b n : Nat} {m : Mg} {L : List Mg} {kb : Nat → Bool} {sm : Nat → Mg} {T : List Int32} {f : Nat} {B : Nat → Int32} {e1 e2 : Int32} {s rb : G} {x : Eg} {y : Eg} {hh : Hg} {sl : Nat → Mg} {tx : G} {q : G} (h1 : ICp b n m L kb sm T f B e1 e2 rb hh sl tx) (h2 : IQ n m L kb sm T f B e1 e2 q) (h3 : SLK kb sl) : INV b ((s, m), x, (rb, y), hh, sl, tx) q := ⟨n, m, L, kb, sm, T, f, B, e1, e2, s, x.1, rb, y.1, x.2, y.2, hh, sl, tx, rfl, h1, h2, h3⟩
def JN {ρ : Type} (b : Nat) (post : ρ → Cg → Prop) (px : String → Cg → Prop) (pq : ρ → G → Prop) (EL : List String) : Prop :=
  (∀ v u r w, post v u → pq r w → w 0 0 = nI 0 ∧ v = r ∧ INV (b + 1) u w) ∧ ∀ e u r w, px e u → pq r w → ∃ i, EL[i]? = some e ∧ i < 3 ∧ w 0 0 = nI (i + 1) ∧ INV (b + 1) u w
def Stq {ρ : Type} (l : Launch) (κ : Kp) (h : Nat → Nat) (b : Nat) (c : Cg) (q : G) (y : MethodName) (cc : ByteArray) (mx : Nat) (ty : Option FieldType) (yq : MethodName) (cq : ByteArray) (mq : Nat) (As : List Value) (res : ρ → Option Value) (EL : List String) (P : ρ → Prop) : Prop :=
  ∃ (d mc ms dq : Nat) (post : ρ → Cg → Prop) (px : String → Cg → Prop) (pq : ρ → G → Prop), (d < 20 ∧ mc ≤ 6 ∧ ms ≤ 36 ∧ dq < 20) ∧ Ct SS MM l κ y cc mx ty d mc ms (.ref (h 0) :: As) (cS κ h) c res post px ∧ Ct SS MM l κ yq cq mq ty dq 0 0 (.ref (sh 126 h 0) :: As) (qS κ (sh 126 h)) q res pq (fun _ _ => False) ∧ (∀ e u, px e u → e ∈ EL) ∧ JN b post px pq EL ∧ ∀ v u, post v u → P v
def thN (EL : List String) (e : String) (k : Nat) : Prop := ∃ i, EL[i]? = some e ∧ i < 3 ∧ k = i + 1
theorem thN.mem {EL : List String} {e : String} {k : Nat} (h : thN EL e k) : e ∈ EL := by
  obtain ⟨i, h1, -⟩ := h
  exact List.mem_of_getElem? h1
theorem cdL_lt {k : Nat} (hk : 0 < k) : ∀ {L : List (Bool × Nat)}, (∀ p ∈ L, p.2 < k) → cdL L < k
  | [], _ => hk
  | (b, j) :: t, h => by
    unfold cdL
    split
    · exact h _ List.mem_cons_self
    · exact cdL_lt hk (fun p hp => h p (List.mem_cons_of_mem _ hp))
theorem th3 {e : String} {k : Nat} (h : Th3 e k) : thN [EIS, EIO, EIA] e k := by
  rcases h with ⟨rfl, rfl⟩ | ⟨rfl, rfl⟩ | ⟨rfl, rfl⟩
  · exact ⟨0, rfl, by decide, rfl⟩
  · exact ⟨1, rfl, by decide, rfl⟩
  · exact ⟨2, rfl, by decide, rfl⟩
theorem th3s {e : String} {k : Nat} (hk : k < 3) (h : Th3 e k) : thN [EIS, EIO] e k := by
  rcases h with ⟨rfl, rfl⟩ | ⟨rfl, rfl⟩ | ⟨rfl, rfl⟩
  · exact ⟨0, rfl, by decide, rfl⟩
  · exact ⟨1, rfl, by decide, rfl⟩
  · omega
theorem thA {e : String} {k : Nat} (h : ThA e k) : thN [EIS, EIA] e k := by
  rcases h with ⟨rfl, rfl⟩ | ⟨rfl, rfl⟩
  · exact ⟨0, rfl, by decide, rfl⟩
  · exact ⟨1, rfl, by decide, rfl⟩
theorem thU {e : String} {k : Nat} (h : ThU e k) : thN [EIS] e k := by
  obtain ⟨rfl, rfl⟩ := h
  exact ⟨0, rfl, by decide, rfl⟩
theorem thO {e : String} {k : Nat} (h : ThO e k) : thN [EIO] e k := by
  obtain ⟨rfl, rfl⟩ := h
  exact ⟨0, rfl, by decide, rfl⟩
section JNs
variable {ρ : Type} {b n : Nat} {m : Mg} {L : List Mg} {kb : Nat → Bool} {sm : Nat → Mg} {T : List Int32} {f : Nat} {B : Nat → Int32} {e1 e2 : Int32} {rb : G} {y : Eg} {hh : Hg} {sl : Nat → Mg} {tx : G} {q : G} {EL : List String} {Th : String → Nat → Prop} {CD : Nat} {V V2 : ρ}
theorem tg00 {g : G} {k : Nat} : tg g k 0 0 = nI k := by
  show upd (g 0) 0 (nI k) 0 = nI k
  exact upd_s
theorem JN_read (I1 : ICp b n m L kb sm T f B e1 e2 rb hh sl tx) (I2 : IQ n m L kb sm T f B e1 e2 q) (I3 : SLK kb sl) (hT : ∀ e, Th e CD → thN EL e CD) : JN b (fun r u => (CD = 0 ∧ r = V) ∧ ROp m (rb, y) hh sl tx u) (fun e u => Th e CD ∧ ROp m (rb, y) hh sl tx u) (fun r u => u = tg q CD ∧ (CD = 0 → r = V)) EL := by
  refine ⟨?_, ?_⟩
  · rintro v u r w ⟨⟨h0, rfl⟩, sx, ex, rfl⟩ ⟨rfl, hr⟩
    exact ⟨by rw [tg00, h0], (hr h0).symm, INV.mk (I1.mono (Nat.le_succ b)) I2.tg I3⟩
  · rintro e u r w ⟨ht, sx, ex, rfl⟩ ⟨rfl, hr⟩
    obtain ⟨i, h1, h2, h3⟩ := hT e ht
    exact ⟨i, h1, h2, by rw [tg00, h3], INV.mk (I1.mono (Nat.le_succ b)) I2.tg I3⟩
theorem QTp.t {g u : G} {k : Nat} (h : QTp g k u) : u 0 0 = nI k := by
  obtain ⟨hd, r, S, rfl, -, -⟩ := h
  show tg g k 0 0 = nI k
  exact tg00
theorem QMp.t {g u : G} {k : Nat} {m2 : Mg} (h : QMp g k m2 u) : u 0 0 = nI 0 := by
  obtain ⟨hd, r, rfl, -⟩ := h
  rfl
theorem txF.t {g u : G} (h : txF g u) : u 0 0 = g 0 0 := by
  obtain ⟨a, t, rfl⟩ := h
  rfl
theorem WM.ev {n c : Nat} {m : Mg} (h : WM n c m) (hn : ¬ n = 0) : EvOK m := (h.2.2 hn).2.1
theorem JN_try (I1 : ICp b n m L kb sm T f B e1 e2 rb hh sl tx) (I2 : IQ n m L kb sm T f B e1 e2 q) (I3 : SLK kb sl) (hT : ∀ e, Th e CD → thN EL e CD) : JN b (fun r u => (CD = 0 ∧ r = V) ∧ ROp m (rb, y) hh sl tx u) (fun e u => Th e CD ∧ ROp m (rb, y) hh sl tx u) (fun r u => QTp q CD u ∧ (CD = 0 → r = V)) EL := by
  obtain ⟨c, c1, hW⟩ := I1.1.1
  have hE : ¬ n = 0 → EvOK m := fun z => hW.ev z
  refine ⟨?_, ?_⟩
  · rintro v u r w ⟨⟨h0, rfl⟩, sx, ex, rfl⟩ ⟨hq, hr⟩
    exact ⟨by rw [hq.t, h0], (hr h0).symm, INV.mk (I1.mono (Nat.le_succ b)) (I2.tp hE hq) I3⟩
  · rintro e u r w ⟨ht, sx, ex, rfl⟩ ⟨hq, hr⟩
    obtain ⟨i, h1, h2, h3⟩ := hT e ht
    exact ⟨i, h1, h2, by rw [hq.t, h3], INV.mk (I1.mono (Nat.le_succ b)) (I2.tp hE hq) I3⟩
theorem JN_mu {m2 : Mg} (I1 : ICp b n m L kb sm T f B e1 e2 rb hh sl tx) (I2 : IQ n m L kb sm T f B e1 e2 q) (I3 : SLK kb sl) (hT : ∀ e, Th e CD → thN EL e CD) (hne : ∀ e, Th e CD → ¬ CD = 0) (hV : CD = 0 → V = V2) (hM : CD = 0 → ¬ n = 0 ∧ ∃ c2, c2 ≤ b + 1 ∧ MI n c2 m2) : JN b (fun r u => (CD = 0 ∧ r = V) ∧ MUp m2 ((m :: L).take 8) (rb, y) sl tx u) (fun e u => Th e CD ∧ ROp m (rb, y) hh sl tx u) (fun r u => (CD = 0 → r = V2 ∧ QMp q L.length m2 u) ∧ (¬ CD = 0 → u = tg q CD)) EL := by
  obtain ⟨c, c1, hW⟩ := id I1.1.1
  refine ⟨?_, ?_⟩
  · rintro v u r w ⟨⟨h0, rfl⟩, sx, ex, hx, rfl, hH⟩ ⟨hq, -⟩
    obtain ⟨hr, hq2⟩ := hq h0
    obtain ⟨hn, c2, hc2, hM2⟩ := hM h0
    exact ⟨hq2.t, (hV h0).trans hr.symm, INV.mk (I1.mu (Nat.le_succ b) hn hc2 hM2 hH) (I2.mp hn (hW.ev hn) (fun x hx => by obtain ⟨d, -, hd⟩ := I1.2.1.2 x hx; exact hd.2.1) hq2) I3⟩
  · rintro e u r w ⟨ht, sx, ex, rfl⟩ ⟨-, hr⟩
    obtain ⟨i, h1, h2, h3⟩ := hT e ht
    obtain rfl := hr (hne e ht)
    exact ⟨i, h1, h2, by rw [tg00, h3], INV.mk (I1.mono (Nat.le_succ b)) I2.tg I3⟩
theorem JN_tx {T2 : List Int32} (I1 : ICp b n m L kb sm T f B e1 e2 rb hh sl tx) (I2 : IQ n m L kb sm T f B e1 e2 q) (I3 : SLK kb sl) (hT : ∀ e, Th e CD → thN EL e CD) (hne : ∀ e, Th e CD → ¬ CD = 0) (hl : CD = 0 → T2.length ≤ 864) : JN b (fun r u => (CD = 0 ∧ r = V) ∧ TXp m T2 (rb, y) hh sl u) (fun e u => Th e CD ∧ ROp m (rb, y) hh sl tx u) (fun r u => (CD = 0 → r = V ∧ QTx T2 u ∧ txF (tg q 0) u) ∧ (¬ CD = 0 → u = tg q CD)) EL := by
  refine ⟨?_, ?_⟩
  · rintro v u r w ⟨⟨h0, rfl⟩, sx, ex, t2, rfl, hX⟩ ⟨hq, -⟩
    obtain ⟨hr, hq2, hf⟩ := hq h0
    exact ⟨by rw [hf.t, tg00], hr.symm, INV.mk ((I1.mono (Nat.le_succ b)).txt hX (hl h0)) (I2.tx hf hq2) I3⟩
  · rintro e u r w ⟨ht, sx, ex, rfl⟩ ⟨-, hr⟩
    obtain ⟨i, h1, h2, h3⟩ := hT e ht
    obtain rfl := hr (hne e ht)
    exact ⟨i, h1, h2, by rw [tg00, h3], INV.mk (I1.mono (Nat.le_succ b)) I2.tg I3⟩
end JNs
theorem Th3.ne {e : String} {k : Nat} (h : Th3 e k) : ¬ k = 0 := by rcases h with ⟨-, rfl⟩ | ⟨-, rfl⟩ | ⟨-, rfl⟩ <;> decide
theorem ThA.ne {e : String} {k : Nat} (h : ThA e k) : ¬ k = 0 := by rcases h with ⟨-, rfl⟩ | ⟨-, rfl⟩ <;> decide
theorem ThU.ne {e : String} {k : Nat} (h : ThU e k) : ¬ k = 0 := by obtain ⟨-, rfl⟩ := h; decide
theorem ThO.ne {e : String} {k : Nat} (h : ThO e k) : ¬ k = 0 := by obtain ⟨-, rfl⟩ := h; decide
theorem cd0 {b : Bool} {k : Nat} {t : List (Bool × Nat)} (hk : 0 < k) (h : cdL ((b, k) :: t) = 0) : b = false ∧ cdL t = 0 := by
  cases b
  · exact ⟨rfl, h⟩
  · exact absurd (show k = 0 from h) (by omega)
/-! what a change leaves is a memory again -/
section HM
variable {n b c : Nat} {m : Mg}
theorem dn0 {n : Nat} (h : decide (n = 0) = false) : ¬ n = 0 := of_decide_eq_false h
theorem hM_copy {f t k : Int32} (hW : WM n c m) (c1 : c ≤ b) (h0 : cdL [(decide (n = 0), 1), (!(refM m n f t k == 0), 2)] = 0) : ¬ n = 0 ∧ ∃ c2, c2 ≤ b + 1 ∧ MI n c2 (copyM n (tN f) (tN t) (tN k) m) := by
  obtain ⟨z1, h0⟩ := cd0 (by decide) h0
  obtain ⟨z2, -⟩ := cd0 (by decide) h0
  have hr : refM m n f t k = 0 := by simpa using z2
  obtain ⟨f1, t1, k1, rfl, rfl, rfl, b1, b2, b3⟩ := ref_at hW.2.1 hW.1 hr
  have h96 := hW.1
  rw [tN_nI (by omega), tN_nI (by omega), tN_nI (by omega)]
  exact ⟨dn0 z1, c + 1, by omega, (hW.2.2 (dn0 z1)).copy b1 b2 b3⟩
theorem hM_write {p v : Int32} (hW : WM n c m) (c1 : c ≤ b) (h0 : cdL [(decide (n = 0), 1), (!plB n p, 2), (!inB v 0 255, 3), (lockB m (tN p), 3)] = 0) : ¬ n = 0 ∧ ∃ c2, c2 ≤ b + 1 ∧ MI n c2 (fillM n (tN p) (tN p) v m).2 := by
  obtain ⟨z1, h0⟩ := cd0 (by decide) h0
  obtain ⟨z2, h0⟩ := cd0 (by decide) h0
  obtain ⟨z3, -⟩ := cd0 (by decide) h0
  obtain ⟨j, -, j2, -, rfl⟩ := in_at (v := v) (a := 0) (b := 255) (by simpa using z3)
  exact ⟨dn0 z1, c, by omega, (hW.2.2 (dn0 z1)).fill (by omega)⟩
theorem hM_fill {x y v : Int32} (hW : WM n c m) (c1 : c ≤ b) (h0 : cdL [(decide (n = 0), 1), (!plB n x, 2), (!plB n y, 2), (decide (y.toInt < x.toInt), 3), (!inB v 0 255, 3), (anyG (lockB m) (tN x) (tN y + 1 - tN x), 3)] = 0) : ¬ n = 0 ∧ ∃ c2, c2 ≤ b + 1 ∧ MI n c2 (fillM n (tN x) (tN y) v m).2 := by
  obtain ⟨z1, h0⟩ := cd0 (by decide) h0
  obtain ⟨z2, h0⟩ := cd0 (by decide) h0
  obtain ⟨z3, h0⟩ := cd0 (by decide) h0
  obtain ⟨z4, h0⟩ := cd0 (by decide) h0
  obtain ⟨z5, -⟩ := cd0 (by decide) h0
  obtain ⟨j, -, j2, -, rfl⟩ := in_at (v := v) (a := 0) (b := 255) (by simpa using z5)
  exact ⟨dn0 z1, c, by omega, (hW.2.2 (dn0 z1)).fill (by omega)⟩
theorem pl_tN {p : Int32} (hz : (!plB n p) = false) (h96 : n ≤ 96) : tN p < n := by
  obtain ⟨j, h1, rfl⟩ := pl_at (n := n) (p := p) (by simpa using hz)
  rw [tN_nI (by omega)]
  exact h1
theorem hM_swap {x y : Int32} (hW : WM n c m) (c1 : c ≤ b) (h0 : cdL [(decide (n = 0), 1), (!plB n x, 2), (!plB n y, 2), (x == y, 3), (lockB m (tN x), 3), (lockB m (tN y), 3)] = 0) : ¬ n = 0 ∧ ∃ c2, c2 ≤ b + 1 ∧ MI n c2 (swapM n (tN x) (tN y) m).2 := by
  obtain ⟨z1, h0⟩ := cd0 (by decide) h0
  obtain ⟨z2, h0⟩ := cd0 (by decide) h0
  obtain ⟨z3, h0⟩ := cd0 (by decide) h0
  exact ⟨dn0 z1, c, by omega, (hW.2.2 (dn0 z1)).swap (pl_tN z2 hW.1) (pl_tN z3 hW.1)⟩
theorem hM_move {f t k : Int32} {z : Bool} (hW : WM n c m) (c1 : c ≤ b) (h0 : cdL [(decide (n = 0), 1), (!(refM m n f t k == 0), 2), (z, 2)] = 0) : ¬ n = 0 ∧ ∃ c2, c2 ≤ b + 1 ∧ MI n c2 (movM n (tN f) (tN t) (tN k) m) := by
  obtain ⟨z1, h0⟩ := cd0 (by decide) h0
  obtain ⟨z2, -⟩ := cd0 (by decide) h0
  obtain ⟨hn, c2, hc, hM⟩ := hM_copy (f := f) (t := t) (k := k) hW c1 (by rw [cdL_f z1, cdL_f z2]; rfl)
  refine ⟨hn, c2, hc, ?_⟩
  unfold movM
  split
  · exact hM
  · exact hM.fill (v := 0) (by decide)
theorem hM_fetch {p : Int32} (hW : WM n c m) (c1 : c ≤ b) (h0 : cdL [(decide (n = 0), 1), (!plB n p, 2)] = 0) : ¬ n = 0 ∧ ∃ c2, c2 ≤ b + 1 ∧ MI n c2 (fetchM (tN p) m) := by
  obtain ⟨z1, h0⟩ := cd0 (by decide) h0
  obtain ⟨z2, h0⟩ := cd0 (by decide) h0
  exact ⟨dn0 z1, c, by omega, (hW.2.2 (dn0 z1)).fetch (pl_tN z2 hW.1)⟩
theorem hV_fetch {p : Int32} (hW : WM n c m) (h0 : cdL [(decide (n = 0), 1), (!plB n p, 2)] = 0) : valM (fetchM (tN p) m) (tN p) = valM m (tN p) := by
  obtain ⟨z1, h0⟩ := cd0 (by decide) h0
  obtain ⟨z2, h0⟩ := cd0 (by decide) h0
  have hp := pl_tN z2 hW.1
  have hI := (hW.2.2 (dn0 z1)).1
  unfold fetchM
  split
  · have hI2 : IM (fetM (tN p) m) n := hI
    rw [Pd.val (payO_Pd hp) hI2 _ hp, fetM_val]
  · exact fetM_val
theorem hM_tick {t : Int32} {k : Nat} (hW : WM n c m) (c1 : c ≤ b) (h0 : cdL [(decide (n = 0), 1), (!inB t 1 100, 2)] = 0) : ¬ n = 0 ∧ ∃ c2, c2 ≤ b + 1 ∧ MI n c2 (payK 1 n k m) := by
  obtain ⟨z1, h0⟩ := cd0 (by decide) h0
  exact ⟨dn0 z1, c, by omega, MI_payK (hW.2.2 (dn0 z1))⟩
theorem hM_row {x y : Int32} (hW : WM n c m) (c1 : c ≤ b) (h0 : cdL [(decide (n = 0), 1), (!plB n x, 2), (!plB n y, 2), (decide (y.toInt < x.toInt), 3)] = 0) : ¬ n = 0 ∧ ∃ c2, c2 ≤ b + 1 ∧ MI n c2 (rowM (tN x) (tN y) m) := by
  obtain ⟨z1, h0⟩ := cd0 (by decide) h0
  obtain ⟨z2, h0⟩ := cd0 (by decide) h0
  obtain ⟨z3, h0⟩ := cd0 (by decide) h0
  obtain ⟨z4, h0⟩ := cd0 (by decide) h0
  have h4 : ¬ y.toInt < x.toInt := of_decide_eq_false z4
  exact ⟨dn0 z1, c, by omega, (hW.2.2 (dn0 z1)).row (by unfold tN; omega) (pl_tN z3 hW.1)⟩
theorem hM_short {p : Int32} (hW : WM n c m) (c1 : c ≤ b) (h0 : cdL [(decide (n = 0), 1), (!plB n p, 2), (!owb m (tN p), 3)] = 0) : ¬ n = 0 ∧ ∃ c2, c2 ≤ b + 1 ∧ MI n c2 (srcM m (tN p) (nI (rootM m (tN p)))) := by
  obtain ⟨z1, h0⟩ := cd0 (by decide) h0
  obtain ⟨z2, h0⟩ := cd0 (by decide) h0
  obtain ⟨z3, h0⟩ := cd0 (by decide) h0
  exact ⟨dn0 z1, c, by omega, (hW.2.2 (dn0 z1)).short (pl_tN z2 hW.1) (by simpa using z3)⟩
theorem hM_lock {p : Int32} {al : Bool} (hW : WM n c m) (c1 : c ≤ b) (h0 : cdL [(decide (n = 0), 1), (!plB n p, 2)] = 0) : ¬ n = 0 ∧ ∃ c2, c2 ≤ b + 1 ∧ MI n c2 (slkM (tN p) al m) := by
  obtain ⟨z1, h0⟩ := cd0 (by decide) h0
  obtain ⟨z2, h0⟩ := cd0 (by decide) h0
  refine ⟨dn0 z1, c, by omega, ?_⟩
  cases al
  · exact (hW.2.2 (dn0 z1)).lck (b := false)
  · exact (hW.2.2 (dn0 z1)).lock (Nat.le_refl _) (pl_tN z2 hW.1)
theorem SBo_set {k : Nat} {v : Int32} (h : SBo m) (hk : k ≤ 2) (hv : inB v (lsV k) (gsV k) = true) : SBo (setM m k v) := by
  obtain ⟨w, lim, pol, h1, h2, h3, h4, h5, h6, h7⟩ := h
  have hk3 : k = 0 ∨ k = 1 ∨ k = 2 := by omega
  rcases hk3 with rfl | rfl | rfl
  · obtain ⟨j, j1, j2, -, rfl⟩ := in_at (a := 1) hv
    have j2 : (j : Int) ≤ 20 := j2
    exact ⟨j, lim, pol, rfl, j1, by omega, h4, h5, h6, h7⟩
  · obtain ⟨j, j1, j2, -, rfl⟩ := in_at (a := 0) hv
    have j2 : (j : Int) ≤ 96 := j2
    exact ⟨w, j, pol, h1, h2, h3, rfl, by omega, h6, h7⟩
  · obtain ⟨j, j1, j2, -, rfl⟩ := in_at (a := 0) hv
    have j2 : (j : Int) ≤ 3 := j2
    exact ⟨w, lim, j, h1, h2, h3, h4, h5, rfl, by omega⟩
theorem hM_set {w v : Int32} (hW : WM n c m) (c1 : c ≤ b) (h0 : cdL [(decide (n = 0), 1), (!inB w 0 4, 2), (!inB v (lsV (tN w)) (gsV (tN w)), 2)] = 0) : ¬ n = 0 ∧ ∃ c2, c2 ≤ b + 1 ∧ MI n c2 (klM n (setM m (tN w) v)) := by
  obtain ⟨z1, h0⟩ := cd0 (by decide) h0
  obtain ⟨z2, h0⟩ := cd0 (by decide) h0
  obtain ⟨z3, h0⟩ := cd0 (by decide) h0
  obtain ⟨j, -, j2, -, rfl⟩ := in_at (v := w) (a := 0) (b := 4) (by simpa using z2)
  rw [tN_nI (by omega)] at z3 ⊢
  have hM := hW.2.2 (dn0 z1)
  refine ⟨dn0 z1, c, by omega, MI.kl ?_⟩
  by_cases hj : j ≤ 2
  · exact hM.set (SBo_set hM.2.2.2.2.1 hj (by simpa using z3))
  · exact hM.rule (by omega)
end HM
/-! comparisons of numbers with themselves -/
theorem fp_dn {a b : Int32} (h : ¬ b = 0) : Jvm.FP.Core.val64 (FP.ddiv (FP.i2d a) (FP.i2d b)) ≠ .nan := by
  show Jvm.FP.Core.val64 (Jvm.FP.Core.ddiv (Jvm.FP.Core.i2d a) (Jvm.FP.Core.i2d b)) ≠ .nan
  rw [Jvm.FP.Core.val64_ddiv]
  intro z
  rw [Jvm.FP.Core.quotient_nan] at z
  obtain ⟨s1, c1, q1, e1⟩ := Jvm.FP.Core.i2d_fin a
  obtain ⟨s2, c2, q2, e2⟩ := Jvm.FP.Core.i2d_fin b
  rcases z with z | z | ⟨s, t, z, _⟩ | ⟨s, t, q, r, _, z⟩
  · rw [e1] at z; cases z
  · rw [e2] at z; cases z
  · rw [e1] at z; cases z
  · exact Jvm.FP.Core.i2d_ne_zero h ((Jvm.FP.Core.zero_bits2 _).mp ⟨t, r, z⟩)
theorem fp_wn {x : UInt32} (h : Jvm.FP.Core.val32 x ≠ .nan) : Jvm.FP.Core.val64 (FP.f2d x) ≠ .nan := by
  rw [← Jvm.FP.Core.notNaN_iff]
  have := FP.f2d_nan x
  rw [show FP.fIsNaN x = false from (Jvm.FP.Core.notNaN_iff32 x).mpr h] at this
  exact this
theorem fp_0n : Jvm.FP.Core.val64 0 ≠ .nan := (Jvm.FP.Core.ne_nan 0).mpr (by decide)
theorem dcmp_same {x : UInt64} {op : CmpOp} (h : Jvm.FP.Core.val64 x ≠ .nan) : Op.cmpValue (FP.dcmp x x) op = 0 := by
  have e : FP.dcmp x x = some .eq := Jvm.FP.Core.dcmp_self h
  rw [e]
  rfl
theorem lg_same {x : Int64} : lg_cmp x x = 0 := by
  unfold lg_cmp
  simp
theorem mhV_n {m : Mg} : Jvm.FP.Core.val64 (mhV m) ≠ .nan := by
  unfold mhV
  split
  · exact fp_0n
  · rename_i h
    exact fp_dn h
theorem isV_n {m : Mg} : Jvm.FP.Core.val32 (isV m) ≠ .nan := by
  unfold isV
  split
  · exact fp_0
  · rename_i h
    exact fp_fn h

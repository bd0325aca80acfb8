/-! the class between two calls -/
def ICp (b n : Nat) (m : Mg) (L : List Mg) (kb : Nat → Bool) (sm : Nat → Mg) (T : List Int32) (f : Nat) (B : Nat → Int32) (e1 e2 : Int32) (rb : G) (hh : Hg) (sl : Nat → Mg) (tx : G) : Prop :=
  ((∃ c, c ≤ b ∧ WM n c m) ∧ (n = 0 → L = [] ∧ m 0 8 = nI 0)) ∧ (HS L hh ∧ ∀ y ∈ L, ∃ c, c ≤ b ∧ MI n c y) ∧ (∀ j, j < 2 → (kb j = true → sl j = sm j ∧ ¬ n = 0 ∧ ∃ c, c ≤ b ∧ MI n c (sm j)) ∧ (kb j = false → sl j 0 7 = nI 0)) ∧ (TX T tx ∧ T.length ≤ 864) ∧ (rb 0 2 = nI f ∧ f ≤ 700 ∧ rb 13 = B ∧ BN0 B) ∧ (rb 0 3 = e1 ∧ rb 0 4 = e2)
section ICs
variable {b b2 n : Nat} {m : Mg} {L : List Mg} {kb : Nat → Bool} {sm : Nat → Mg} {T : List Int32} {f : Nat} {B : Nat → Int32} {e1 e2 : Int32} {rb : G} {hh hx : Hg} {sl : Nat → Mg} {tx : G}
theorem MI.wm {n c : Nat} {m : Mg} (h : MI n c m) : WM n c m := ⟨h.1.2.1, h.1.1, fun _ => h⟩
theorem ICp.mono (h : ICp b n m L kb sm T f B e1 e2 rb hh sl tx) (hb : b ≤ b2) : ICp b2 n m L kb sm T f B e1 e2 rb hh sl tx := by
  obtain ⟨⟨⟨c, c1, c2⟩, h0⟩, ⟨h1, h2⟩, h3, h4, h5, h6⟩ := h
  exact ⟨⟨⟨c, Nat.le_trans c1 hb, c2⟩, h0⟩, ⟨h1, fun y hy => by obtain ⟨d, d1, d2⟩ := h2 y hy; exact ⟨d, Nat.le_trans d1 hb, d2⟩⟩, fun j hj => ⟨fun z => by obtain ⟨a, e, d, d1, d2⟩ := (h3 j hj).1 z; exact ⟨a, e, d, Nat.le_trans d1 hb, d2⟩, (h3 j hj).2⟩, h4, h5, h6⟩
/-- what is remembered is a memory like those that are known -/
theorem ICp.mu {m2 : Mg} {c2 : Nat} (h : ICp b n m L kb sm T f B e1 e2 rb hh sl tx) (hb : b ≤ b2) (hn : ¬ n = 0) (hc : c2 ≤ b2) (hM : MI n c2 m2) (hH : HS ((m :: L).take 8) hx) : ICp b2 n m2 ((m :: L).take 8) kb sm T f B e1 e2 rb hx sl tx := by
  obtain ⟨⟨⟨c, c1, cW⟩, h0⟩, ⟨h1, h2⟩, h3, h4, h5, h6⟩ := h.mono hb
  refine ⟨⟨⟨c2, hc, hM.wm⟩, fun z => absurd z hn⟩, ⟨hH, fun y hy => ?_⟩, h3, h4, h5, h6⟩
  have hy := List.mem_of_mem_take hy
  rcases List.mem_cons.mp hy with rfl | hy
  · exact ⟨c, c1, cW.2.2 hn⟩
  · exact h2 y hy
theorem ICp.txt {T2 : List Int32} {tx2 : G} (h : ICp b n m L kb sm T f B e1 e2 rb hh sl tx) (hT : TX T2 tx2) (hl : T2.length ≤ 864) : ICp b n m L kb sm T2 f B e1 e2 rb hh sl tx2 := ⟨h.1, h.2.1, h.2.2.1, ⟨hT, hl⟩, h.2.2.2.2⟩
theorem ICp.app {a c d e g : Int32} (h : ICp b n m L kb sm T f B e1 e2 rb hh sl tx) (h20 : f + 20 ≤ 700) : ICp b n m L kb sm T (f + 20) (bfB B f 20 a c d e g) e1 e2 (ap5 rb f a c d e g) hh sl tx := by
  obtain ⟨h1, h2, h3, h4, ⟨q1, q2, q3, q4⟩, q5, q6⟩ := h
  exact ⟨h1, h2, h3, h4, ⟨ap5_2, h20, by rw [ap5_13, q3], BN0_bf q4⟩, (ap5_0 (by decide)).trans q5, (ap5_0 (by decide)).trans q6⟩
theorem ICp.und {y : Mg} (h : ICp b n m (y :: L) kb sm T f B e1 e2 rb hh sl tx) (hH : HS L hx) : ICp b n y L kb sm T f B e1 e2 rb hx sl tx := by
  obtain ⟨⟨⟨c, c1, cW⟩, h0⟩, ⟨h1, h2⟩, h3, h4, h5, h6⟩ := h
  obtain ⟨d, d1, d2⟩ := h2 y List.mem_cons_self
  exact ⟨⟨⟨d, d1, d2.wm⟩, fun z => by cases (h0 z).1⟩, ⟨hH, fun x hx => h2 x (List.mem_cons_of_mem _ hx)⟩, h3, h4, h5, h6⟩
theorem ICp.sav {j : Nat} (h : ICp b n m L kb sm T f B e1 e2 rb hh sl tx) (hn : ¬ n = 0) : ICp b n m L (fun i => if i = j then true else kb i) (fU sm j m) T f B e1 e2 rb hh (fU sl j m) tx := by
  obtain ⟨⟨⟨c, c1, cW⟩, h0⟩, h2, h3, h4, h5, h6⟩ := h
  refine ⟨⟨⟨c, c1, cW⟩, h0⟩, h2, fun i hi => ?_, h4, h5, h6⟩
  unfold fU
  dsimp only
  by_cases e : i = j
  · rw [if_pos e, if_pos e, if_pos e]
    exact ⟨fun _ => ⟨rfl, hn, c, c1, cW.2.2 hn⟩, fun z => by cases z⟩
  · rw [if_neg e, if_neg e, if_neg e]
    exact h3 i hi
theorem ICp.res {j : Nat} (h : ICp b n m L kb sm T f B e1 e2 rb hh sl tx) (hj : j < 2) (hk : kb j = true) (hH : HS [] hx) : ICp b n (sm j) [] kb sm T f B e1 e2 rb hx sl tx := by
  obtain ⟨h1, h2, h3, h4, h5, h6⟩ := h
  obtain ⟨a, hn, c, c1, cM⟩ := (h3 j hj).1 hk
  exact ⟨⟨⟨c, c1, cM.wm⟩, fun z => absurd z hn⟩, ⟨hH, fun y hy => by cases hy⟩, h3, h4, h5, h6⟩
end ICs

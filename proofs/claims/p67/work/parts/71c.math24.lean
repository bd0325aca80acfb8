section ANY2
variable {b : Nat → Int32} {T R : List Nat} {n : Nat} {m : Mg} {k : Cnt}
theorem lock_at {t : Tk} {q : Q4} (hb : Bt b T) (hl : Lat T) (hq : clOK n q m k) (h4 : q.1 = 4) (hn : n ≤ 14) (hno : ∀ p, p < n → owb m p = false) (ha : At T t.2.2.1 (32 :: (digs q.2.1 ++ (32 :: (digs q.2.2.1 ++ R))))) (hR : Nxt R) :
    ∃ t2, lnLock b T.length n (Z0 t, m, k) = (Z0 t2, clX n q m, clK q k) ∧ Hd R t2 ∧ At T t2.2.2.1 R.tail := by
  have hp : q.2.1 ≤ q.2.2.1 ∧ q.2.2.1 < n ∧ k.2.1 = 0 := by
    rcases hq with ⟨z, -⟩ | ⟨z, -⟩ | ⟨z, -⟩ | ⟨z, -⟩ | ⟨z, q1, q2, q3, -⟩ | ⟨z, -⟩ | ⟨z, -⟩
    · exact absurd (z.symm.trans h4) (by decide)
    · exact absurd (z.symm.trans h4) (by decide)
    · exact absurd (z.symm.trans h4) (by decide)
    · exact absurd (z.symm.trans h4) (by decide)
    · exact ⟨q1, q2, q3⟩
    · exact absurd (z.symm.trans h4) (by decide)
    · exact absurd (z.symm.trans h4) (by decide)
  obtain ⟨p1, p2, p3⟩ := hp
  obtain ⟨t1, e1, a1⟩ := num_at (lo := 0) (hi := n - 1) (sp := [32]) hb hl ha (Or.inr rfl) (by omega) (stop32 G32) (Nat.zero_le _) (by omega)
  obtain ⟨t2, e2, a2⟩ := num_at (lo := q.2.1) (hi := n - 1) (sp := [32]) hb hl a1 (Or.inr rfl) (by omega) hR.G p1 (by omega)
  obtain ⟨t3, e3, h3, a3⟩ := adv_nxt hb hl a2 hR
  have f1 : lok1 b T.length n (Z0 t) k = (Z0 t1, q.2.1) := by unfold lok1; rw [whenS_n (decide_eq_false (by omega)), e1]
  have f2 : lok2 b T.length n (Z0 t) k = (Z0 t2, q.2.2.1) := by unfold lok2; rw [f1]; exact e2
  have hX : clX n q m = setL q.2.1 (q.2.2.1 + 1 - q.2.1) m := by unfold clX; rw [h4]; rfl
  have hK : clK q k = (k.1, k.2.1 + 1, k.2.2) := by unfold clK; rw [h4]; rfl
  refine ⟨t3, ?_, h3, a3⟩
  unfold lnLock
  dsimp only
  rw [f1, f2, if_pos ok_Z, e3, hX, hK]
  unfold lockM
  rw [row_no (fun p _ h => hno p (by omega))]
theorem copy_at {t : Tk} {q : Q4} (hb : Bt b T) (hl : Lat T) (hq : clOK n q m k) (h5 : q.1 = 5) (hn : n ≤ 14) (hn7 : m 0 7 = nI n) (ha : At T t.2.2.1 (32 :: (digs q.2.1 ++ (32 :: (digs q.2.2.1 ++ (32 :: (digs q.2.2.2 ++ R))))))) (hR : Nxt R) :
    ∃ t2, lnCopy b T.length n (Z0 t, m, k) = (Z0 t2, clX n q m, clK q k) ∧ Hd R t2 ∧ At T t2.2.2.1 R.tail := by
  have hp : 0 < q.2.2.2 ∧ q.2.1 + q.2.2.2 ≤ n ∧ q.2.2.1 + q.2.2.2 ≤ n ∧ anyG (lockB m) q.2.2.1 q.2.2.2 = false ∧ k.2.2.1 < 4 := by
    rcases hq with ⟨z, -⟩ | ⟨z, -⟩ | ⟨z, -⟩ | ⟨z, -⟩ | ⟨z, -⟩ | ⟨z, q1⟩ | ⟨z, -⟩
    · exact absurd (z.symm.trans h5) (by decide)
    · exact absurd (z.symm.trans h5) (by decide)
    · exact absurd (z.symm.trans h5) (by decide)
    · exact absurd (z.symm.trans h5) (by decide)
    · exact absurd (z.symm.trans h5) (by decide)
    · exact q1
    · exact absurd (z.symm.trans h5) (by decide)
  obtain ⟨p1, p2, p3, p4, p5⟩ := hp
  obtain ⟨t1, e1, a1⟩ := num_at (lo := 0) (hi := n - 1) (sp := [32]) hb hl ha (Or.inr rfl) (by omega) (stop32 G32) (Nat.zero_le _) (by omega)
  obtain ⟨t2, e2, a2⟩ := num_at (lo := 0) (hi := n - 1) (sp := [32]) hb hl a1 (Or.inr rfl) (by omega) (stop32 G32) (Nat.zero_le _) (by omega)
  obtain ⟨t3, e3, a3⟩ := num_at (lo := 1) (hi := n) (sp := [32]) hb hl a2 (Or.inr rfl) (by omega) hR.G p1 (by omega)
  obtain ⟨t4, e4, h4, a4⟩ := adv_nxt hb hl a3 hR
  have f1 : cop1 b T.length n (Z0 t) k = (Z0 t1, q.2.1) := by unfold cop1; rw [whenS_n (decide_eq_false (by omega)), e1]
  have f2 : cop2 b T.length n (Z0 t) k = (Z0 t2, q.2.2.1) := by unfold cop2; rw [f1]; exact e2
  have f3 : cop3 b T.length n (Z0 t) k = (Z0 t3, q.2.2.2) := by unfold cop3; rw [f2]; exact e3
  have f4 : cop4 b T.length n (Z0 t) m k = Z0 t3 := by
    unfold cop4
    rw [f1, f2, f3, refM_ok hn7 (by omega) p1 p2 p3 p4]
    exact whenS_n (by decide)
  have hX : clX n q m = copyM n q.2.1 q.2.2.1 q.2.2.2 m := by unfold clX; rw [h5]; rfl
  have hK : clK q k = (k.1, k.2.1, k.2.2.1 + 1, k.2.2.2) := by unfold clK; rw [h5]; rfl
  refine ⟨t4, ?_, h4, a4⟩
  unfold lnCopy
  dsimp only
  rw [f4, f1, f2, f3, if_pos ok_Z, e4, hX, hK]
theorem fill_at {t : Tk} {q : Q4} (hb : Bt b T) (hl : Lat T) (hq : clOK n q m k) (h6 : q.1 = 6) (hn : n ≤ 14) (ha : At T t.2.2.1 (32 :: (digs q.2.1 ++ (32 :: (digs q.2.2.1 ++ (32 :: (digs 7 ++ R))))))) (hR : Nxt R) :
    ∃ t2, lnFill b T.length n (Z0 t, m, k) = (Z0 t2, clX n q m, clK q k) ∧ Hd R t2 ∧ At T t2.2.2.1 R.tail := by
  have hp : q.2.1 ≤ q.2.2.1 ∧ q.2.2.1 < n ∧ anyG (lockB m) q.2.1 (q.2.2.1 + 1 - q.2.1) = false ∧ k.2.2.2 = 0 := by
    rcases hq with ⟨z, -⟩ | ⟨z, -⟩ | ⟨z, -⟩ | ⟨z, -⟩ | ⟨z, -⟩ | ⟨z, -⟩ | ⟨z, q1⟩
    · exact absurd (z.symm.trans h6) (by decide)
    · exact absurd (z.symm.trans h6) (by decide)
    · exact absurd (z.symm.trans h6) (by decide)
    · exact absurd (z.symm.trans h6) (by decide)
    · exact absurd (z.symm.trans h6) (by decide)
    · exact absurd (z.symm.trans h6) (by decide)
    · exact q1
  obtain ⟨p1, p2, p3, p4⟩ := hp
  obtain ⟨t1, e1, a1⟩ := num_at (lo := 0) (hi := n - 1) (sp := [32]) hb hl ha (Or.inr rfl) (by omega) (stop32 G32) (Nat.zero_le _) (by omega)
  obtain ⟨t2, e2, a2⟩ := num_at (lo := q.2.1) (hi := n - 1) (sp := [32]) hb hl a1 (Or.inr rfl) (by omega) (stop32 G32) p1 (by omega)
  obtain ⟨t3, e3, a3⟩ := num_at (x := 7) (lo := 0) (hi := 255) (sp := [32]) hb hl a2 (Or.inr rfl) (by omega) hR.G (Nat.zero_le _) (by omega)
  obtain ⟨t4, e4, h4, a4⟩ := adv_nxt hb hl a3 hR
  have f1 : fil1 b T.length n (Z0 t) k = (Z0 t1, q.2.1) := by unfold fil1; rw [whenS_n (decide_eq_false (by omega)), e1]
  have f2 : fil2 b T.length n (Z0 t) k = (Z0 t2, q.2.2.1) := by unfold fil2; rw [f1]; exact e2
  have f3 : fil3 b T.length n (Z0 t) k = (Z0 t3, 7) := by unfold fil3; rw [f2]; exact e3
  have f4 : fil4 b T.length n (Z0 t) m k = Z0 t3 := by
    unfold fil4
    rw [f1, f2, f3]
    exact whenS_n p3
  have hX : clX n q m = (fillM n q.2.1 q.2.2.1 (nI 7) m).2 := by unfold clX; rw [h6]; rfl
  have hK : clK q k = (k.1, k.2.1, k.2.2.1, k.2.2.2 + 1) := by unfold clK; rw [h6]; rfl
  refine ⟨t4, ?_, h4, a4⟩
  unfold lnFill
  dsimp only
  rw [f4, f1, f2, f3, if_pos ok_Z, e4, hX, hK]
theorem rule_at {t : Tk} {j : Nat} (hb : Bt b T) (hl : Lat T) (h0 : m 5 j = nI 0) (ha : At T t.2.2.1 R) (hR : Nxt R) :
    ∃ t2, lnRule b T.length j (Z0 t, m, k) = (Z0 t2, setM m j (nI 1), k) ∧ Hd R t2 ∧ At T t2.2.2.1 R.tail := by
  obtain ⟨t4, e4, h4, a4⟩ := adv_nxt hb hl ha hR
  refine ⟨t4, ?_, h4, a4⟩
  unfold lnRule
  dsimp only
  rw [h0, whenS_n (by decide), e4]
/-- a line's words behind its semicolon -/
def clB (q : Q4) : List Nat := (clT q).tail
theorem clT_B (q : Q4) : clT q = 59 :: clB q := by
  unfold clB clT
  split
  · rfl
  split
  · rfl
  split
  · rfl
  split
  · rfl
  split
  · rfl
  split
  · rfl
  · rfl
theorem any_at {x : RX} {i len : Nat} (h : ∀ j, j < 10 → isW b (wd j) x.1.1 = decide (i = j)) : lnAny b len n x = (if i = 4 then lnPut b len n x else if i = 5 then lnLock b len n x else if i = 6 then lnCopy b len n x else if i = 7 then lnFill b len n x else if i = 8 then lnRule b len 3 x else if i = 9 then lnRule b len 4 x else (failS 1 x.1, x.2)) := by
  unfold lnAny
  simp only [h 4 (by decide), h 5 (by decide), h 6 (by decide), h 7 (by decide), h 8 (by decide), h 9 (by decide), decide_eq_true_eq]
theorem step_at {t : Tk} {q : Q4} (hb : Bt b T) (hl : Lat T) (hq : clOK n q m k) (hn : n ≤ 14) (hn7 : m 0 7 = nI n) (hno : k.2.2.1 = 0 → k.2.2.2 = 0 → ∀ p, p < n → owb m p = false) (ht : t.1 = 3) (ha : At T t.2.2.1 (clB q ++ R)) (hR : Nxt R) :
    ∃ t2, lnStep b T.length n (Z0 t, m, k) = (Z0 t2, clX n q m, clK q k) ∧ Hd R t2 ∧ At T t2.2.2.1 R.tail := by
  have hw : ∀ (i : Nat) (S : List Nat), i < 10 → At T t.2.2.1 (wd i ++ S) → Stop isL S → ∃ t1, t1 = (1, t.2.2.1, t.2.2.1 + (wd i).length, 0) ∧ lnStep b T.length n (Z0 t, m, k) = lnAny b T.length n (Z0 t1, m, k) ∧ At T t1.2.2.1 S ∧ ∀ j, j < 10 → isW b (wd j) t1 = decide (i = j) := by
    intro i S hi h1 h2
    refine ⟨_, rfl, ?_, h1.step, fun j hj => ?_⟩
    · have htk := tok_word (sp := []) hb hl h1 (Or.inl rfl) (wd_L hi) (wd_0lt hi) (wd_le i) h2
      unfold lnStep
      dsimp only
      rw [whenS_n (by show (!decide (t.1 = 3)) = false; rw [ht]; rfl), adv_Z, htk]
      rfl
    · rw [isW_at hb hl h1 (wd j) (wd_lat j)]
      by_cases e : i = j
      · subst e; simp
      · rw [decide_eq_false (wd_ne hi hj e), decide_eq_false e]
  obtain ⟨kd, x, y, z⟩ := q
  have hq0 := hq
  rcases hq with ⟨c, -⟩ | ⟨c, -⟩ | ⟨c, h53, -⟩ | ⟨c, h54, -⟩ | ⟨c, q1, q2, q3, q4, q5⟩ | ⟨c, -⟩ | ⟨c, -⟩
  · have c : kd = 0 := c
    subst c
    have hB : clB (0, x, y, z) ++ R = wd 4 ++ (32 :: (digs x ++ (32 :: (digs y ++ R)))) := by
      show ((((wd 4 ++ [32]) ++ digs x) ++ [32]) ++ digs y) ++ R = _
      simp only [List.append_assoc, List.cons_append, List.nil_append]
    rw [hB] at ha
    obtain ⟨t1, -, e1, a1, hI⟩ := hw 4 _ (by decide) ha (stop32 L32)
    rw [e1, any_at (x := (Z0 t1, m, k)) hI]
    exact put_at hb hl hq0 (Or.inl rfl) hn (by rw [if_pos rfl]; exact a1) hR
  · have c : kd = 1 := c
    subst c
    have hB : clB (1, x, y, z) ++ R = wd 4 ++ (32 :: (digs x ++ (32 :: (digs y ++ (32 :: (digs (y / 2) ++ R)))))) := by
      show ((((((wd 4 ++ [32]) ++ digs x) ++ [32]) ++ digs y) ++ [32]) ++ digs (y / 2)) ++ R = _
      simp only [List.append_assoc, List.cons_append, List.nil_append]
    rw [hB] at ha
    obtain ⟨t1, -, e1, a1, hI⟩ := hw 4 _ (by decide) ha (stop32 L32)
    rw [e1, any_at (x := (Z0 t1, m, k)) hI]
    exact put_at hb hl hq0 (Or.inr rfl) hn (by rw [if_neg (show ¬ (1 : Nat) = 0 by decide)]; exact a1) hR
  · have c : kd = 2 := c
    subst c
    have hB : clB (2, x, y, z) ++ R = wd 8 ++ R := rfl
    rw [hB] at ha
    obtain ⟨t1, -, e1, a1, hI⟩ := hw 8 _ (by decide) ha hR.L
    rw [e1, any_at (x := (Z0 t1, m, k)) hI]
    exact rule_at hb hl h53 a1 hR
  · have c : kd = 3 := c
    subst c
    have hB : clB (3, x, y, z) ++ R = wd 9 ++ R := rfl
    rw [hB] at ha
    obtain ⟨t1, -, e1, a1, hI⟩ := hw 9 _ (by decide) ha hR.L
    rw [e1, any_at (x := (Z0 t1, m, k)) hI]
    exact rule_at hb hl h54 a1 hR
  · have c : kd = 4 := c
    subst c
    have hB : clB (4, x, y, z) ++ R = wd 5 ++ (32 :: (digs x ++ (32 :: (digs y ++ R)))) := by
      show ((((wd 5 ++ [32]) ++ digs x) ++ [32]) ++ digs y) ++ R = _
      simp only [List.append_assoc, List.cons_append, List.nil_append]
    rw [hB] at ha
    obtain ⟨t1, -, e1, a1, hI⟩ := hw 5 _ (by decide) ha (stop32 L32)
    rw [e1, any_at (x := (Z0 t1, m, k)) hI]
    exact lock_at hb hl hq0 rfl hn (hno q4 q5) a1 hR
  · have c : kd = 5 := c
    subst c
    have hB : clB (5, x, y, z) ++ R = wd 6 ++ (32 :: (digs x ++ (32 :: (digs y ++ (32 :: (digs z ++ R)))))) := by
      show ((((((wd 6 ++ [32]) ++ digs x) ++ [32]) ++ digs y) ++ [32]) ++ digs z) ++ R = _
      simp only [List.append_assoc, List.cons_append, List.nil_append]
    rw [hB] at ha
    obtain ⟨t1, -, e1, a1, hI⟩ := hw 6 _ (by decide) ha (stop32 L32)
    rw [e1, any_at (x := (Z0 t1, m, k)) hI]
    exact copy_at hb hl hq0 rfl hn hn7 a1 hR
  · have c : kd = 6 := c
    subst c
    have hB : clB (6, x, y, z) ++ R = wd 7 ++ (32 :: (digs x ++ (32 :: (digs y ++ (32 :: (digs 7 ++ R)))))) := by
      show (((((wd 7 ++ [32]) ++ digs x) ++ [32]) ++ digs y) ++ (32 :: digs 7)) ++ R = _
      simp only [List.append_assoc, List.cons_append, List.nil_append]
    rw [hB] at ha
    obtain ⟨t1, -, e1, a1, hI⟩ := hw 7 _ (by decide) ha (stop32 L32)
    rw [e1, any_at (x := (Z0 t1, m, k)) hI]
    exact fill_at hb hl hq0 rfl hn a1 hR
/-- what a line leaves: no debts while there was no copy and no fill -/
theorem no_cl {q : Q4} (hq : clOK n q m k) (hno : k.2.2.1 = 0 → k.2.2.2 = 0 → ∀ p, p < n → owb m p = false) : (clK q k).2.2.1 = 0 → (clK q k).2.2.2 = 0 → ∀ p, p < n → owb (clX n q m) p = false := by
  obtain ⟨kd, x, y, z⟩ := q
  rcases hq with ⟨c, -⟩ | ⟨c, -⟩ | ⟨c, -⟩ | ⟨c, -⟩ | ⟨c, -⟩ | ⟨c, -⟩ | ⟨c, -⟩
  · have c : kd = 0 := c
    subst c
    exact fun h1 h2 p hp => hno h1 h2 p hp
  · have c : kd = 1 := c
    subst c
    exact fun h1 h2 p hp => hno h1 h2 p hp
  · have c : kd = 2 := c
    subst c
    exact fun h1 h2 p hp => hno h1 h2 p hp
  · have c : kd = 3 := c
    subst c
    exact fun h1 h2 p hp => hno h1 h2 p hp
  · have c : kd = 4 := c
    subst c
    intro h1 h2 p hp
    have e : setL x (y + 1 - x) m 2 = m 2 := by
      have := forG_inv (f := fun p y => lckM y p (nI 1)) (fun _ y => y 2 = m 2) (y + 1 - x) x m rfl (fun j y _ _ hy => hy)
      exact this
    show owb (setL x (y + 1 - x) m) p = false
    rw [owb_of e]
    exact hno h1 h2 p hp
  · have c : kd = 5 := c
    subst c
    exact fun h1 _ => absurd h1 (Nat.succ_ne_zero _)
  · have c : kd = 6 := c
    subst c
    exact fun _ h2 => absurd h2 (Nat.succ_ne_zero _)
end ANY2
def bdT (L : List Q4) : List Nat := L.foldr (fun q t => clT q ++ t) []
theorem bdT_nxt (L : List Q4) : Nxt (bdT L) := by
  cases L with
  | nil => exact Or.inl rfl
  | cons q L => exact Or.inr ⟨clB q ++ bdT L, by show clT q ++ bdT L = _; rw [clT_B]; rfl⟩
theorem txtL_bd {n a b c : Nat} : ∀ (L : List Q4), txtL n a b c L = hdT n a b c ++ bdT L := by
  have h : ∀ (L : List Q4) (t : List Nat), L.foldl (fun t q => t ++ clT q) t = t ++ bdT L := by
    intro L
    induction L with
    | nil => intro t; show t = t ++ []; rw [List.append_nil]
    | cons q L ih =>
      intro t
      show L.foldl (fun t q => t ++ clT q) (t ++ clT q) = t ++ (clT q ++ bdT L)
      rw [ih, List.append_assoc]
  exact fun L => h L _
theorem lines_at {b : Nat → Int32} {T : List Nat} {n : Nat} (hb : Bt b T) (hl : Lat T) (hn : n ≤ 14) : ∀ (L : List Q4) (f : Nat) (t : Tk) (m m2 : Mg) (k k2 : Cnt), L.length < f → Run n L m k m2 k2 → LI n m → (∃ j, j + L.length < 900 ∧ m 6 0 = nI j) → (k.2.2.1 = 0 → k.2.2.2 = 0 → ∀ p, p < n → owb m p = false) → Hd (bdT L) t → At T t.2.2.1 (bdT L).tail →
    ∃ t2, linesF b T.length n f (Z0 t, m, k) = (Z0 t2, m2, k2)
  | [], 0, t, m, m2, k, k2, hf, _, _, _, _, _, _ => absurd hf (by decide)
  | [], f + 1, t, m, m2, k, k2, hf, hR, _, _, _, hh, _ => by
    obtain ⟨rfl, rfl⟩ := hR
    have h0 : t.1 = 0 := by
      rcases hh with ⟨-, h⟩ | ⟨R2, h, -⟩
      · exact h
      · exact absurd h (by intro z; cases z)
    refine ⟨t, ?_⟩
    unfold linesF
    exact if_neg (by
      show ¬ (true && !decide (t.1 = 0)) = true
      rw [h0]
      decide)
  | q :: L, 0, t, m, m2, k, k2, hf, _, _, _, _, _, _ => absurd hf (Nat.not_lt_zero _)
  | q :: L, f + 1, t, m, m2, k, k2, hf, hR, hI, hj, hno, hh, ha => by
    obtain ⟨j, hj1, hj2⟩ := hj
    have hf2 : L.length + 1 < f + 1 := hf
    have hj3 : j + (L.length + 1) < 900 := hj1
    have e9 : bdT (q :: L) = 59 :: (clB q ++ bdT L) := by show clT q ++ bdT L = _; rw [clT_B]; rfl
    rw [e9] at hh ha
    have h3 : t.1 = 3 := by
      rcases hh with ⟨h, -⟩ | ⟨R2, -, h⟩
      · exact absurd h (by intro z; cases z)
      · exact h
    have hn7 : m 0 7 = nI n := by obtain ⟨-, ⟨c, hM, -⟩, -⟩ := hI; exact hM.1.1
    obtain ⟨t1, e1, h1, a1⟩ := step_at hb hl hR.1 hn hn7 hno h3 ha (bdT_nxt L)
    have hc := cl_60 hI hR.1 (by omega) hj2
    have hI2 := LI_cl hI hR.1 ⟨j, by omega, hj2⟩
    obtain ⟨t2, e2⟩ := lines_at hb hl hn L f t1 (clX n q m) m2 (clK q k) k2 (by omega) hR.2 hI2 ⟨_, by split <;> omega, hc⟩ (no_cl hR.1 hno) h1 a1
    refine ⟨t2, ?_⟩
    show (if ok (Z0 t) && !decide ((Z0 t).1.1 = 0) then linesF b T.length n f (lnStep b T.length n (Z0 t, m, k)) else (Z0 t, m, k)) = _
    rw [if_pos (by rw [ok_Z]; show (true && !decide (t.1 = 0)) = true; rw [h3]; rfl), e1, e2]
/-- the text that was drawn is read without an error, and gives the memory -/
theorem par_at {b : Nat → Int32} {n a0 b0 c0 : Nat} {L : List Q4} {m : Mg} {k : Cnt} (h1 : 1 ≤ n) (h14 : n ≤ 14) (ha : 1 ≤ a0 ∧ a0 ≤ 3) (hb0 : b0 ≤ 12) (hc0 : c0 ≤ 3) (hR : Run n L (hdL n a0 b0 c0) (0, 0, 0, 0) m k) (hb : Bt b (txtL n a0 b0 c0 L)) (hl : Lat (txtL n a0 b0 c0 L)) (hL : L.length < 301) :
    (hd1 b (txtL n a0 b0 c0 L).length).2 = n ∧ ∃ t, parS b (txtL n a0 b0 c0 L).length (fun _ => 0) = (Z0 t, m, k) := by
  have hT : txtL n a0 b0 c0 L = wd 0 ++ (32 :: (digs n ++ (32 :: (wd 1 ++ (32 :: (digs a0 ++ (32 :: (wd 2 ++ (32 :: (digs b0 ++ (32 :: (wd 3 ++ (32 :: (digs c0 ++ bdT L)))))))))))))) := by
    rw [txtL_bd]
    unfold hdT
    rw [wd_10, wd_11, wd_12, wd_13]
    simp only [List.append_assoc, List.cons_append, List.nil_append]
  generalize hTT : txtL n a0 b0 c0 L = T at hT hb hl
  have a0' : At T st0.1.2.2.1 ([] ++ (wd 0 ++ (32 :: (digs n ++ (32 :: (wd 1 ++ (32 :: (digs a0 ++ (32 :: (wd 2 ++ (32 :: (digs b0 ++ (32 :: (wd 3 ++ (32 :: (digs c0 ++ bdT L)))))))))))))))) := ⟨[], hT, rfl⟩
  obtain ⟨t1, e1, a1⟩ := nam_at (t := st0.1) (lo := 1) (hi := 96) hb hl a0' (Or.inl rfl) (wd_L (by decide)) (wd_0lt (by decide)) (wd_le 0) (by omega) (stop32 G32) h1 (by omega)
  obtain ⟨t2, e2, a2⟩ := nam_at (sp := [32]) (lo := 1) (hi := 20) hb hl a1 (Or.inr rfl) (wd_L (i := 1) (by decide)) (wd_0lt (by decide)) (wd_le 1) (by omega) (stop32 G32) ha.1 (by omega)
  obtain ⟨t3, e3, a3⟩ := nam_at (sp := [32]) (lo := 0) (hi := 96) hb hl a2 (Or.inr rfl) (wd_L (i := 2) (by decide)) (wd_0lt (by decide)) (wd_le 2) (by omega) (stop32 G32) (Nat.zero_le _) (by omega)
  obtain ⟨t4, e4, a4⟩ := nam_at (sp := [32]) (lo := 0) (hi := 3) hb hl a3 (Or.inr rfl) (wd_L (i := 3) (by decide)) (wd_0lt (by decide)) (wd_le 3) (by omega) (bdT_nxt L).G (Nat.zero_le _) (by omega)
  have d1 : hd1 b T.length = (Z0 t1, n) := e1
  have d2 : hd2 b T.length = (Z0 t2, a0) := by unfold hd2; rw [d1]; exact e2
  have d3 : hd3 b T.length = (Z0 t3, b0) := by unfold hd3; rw [d2]; exact e3
  have d4 : hd4 b T.length = (Z0 t4, c0) := by unfold hd4; rw [d3]; exact e4
  obtain ⟨t5, e5, h5, a5⟩ := adv_nxt hb hl a4 (bdT_nxt L)
  have hM : hdM b T.length (clrM (fun _ => 0)) = hdL n a0 b0 c0 := by
    unfold hdM
    rw [d1, d2, d3, d4]
    rfl
  have e2' : ∀ p, p < n → owb (hdL n a0 b0 c0) p = false := fun p hp => owb_f.mpr (if_pos (show p < 96 by omega))
  obtain ⟨t6, e6⟩ := lines_at hb hl h14 L 700 t5 (hdL n a0 b0 c0) m (0, 0, 0, 0) k (by omega) hR (LI_hd h1 h14 ha hb0 hc0) ⟨0, by omega, rfl⟩ (fun _ _ => e2') h5 a5
  refine ⟨by rw [d1], t6, ?_⟩
  unfold parS
  rw [d1, d4, hM, e5]
  exact e6

theorem ap5_fed {T : List Nat} {i : Nat} {r : G} (h : Lat T) (hF : Fed T i r) : Fed T (i + 20) (ap5 r i (wdsF T i 20 0) (wdsF T i 20 1) (wdsF T i 20 2) (wdsF T i 20 3) (wdsF T i 20 4)) := by
  have h0 := tk4_fed (i := i) (q := 0) h hF
  have h1 := tk4_fed (i := i) (q := 1) h h0
  have h2 := tk4_fed (i := i) (q := 2) h h1
  have h3 := tk4_fed (i := i) (q := 3) h h2
  exact tk4_fed (i := i) (q := 4) h h3
theorem Fed.bt {T : List Nat} {i : Nat} {r : G} (hF : Fed T i r) (hi : T.length ≤ i) : Bt (r 13) T := fun j hj => by
  rw [hF.2 j (by omega)]
  unfold chT
  rw [if_pos hj]
theorem LI.lkk {n : Nat} {m : Mg} (h : LI n m) : LK m := by
  obtain ⟨-, ⟨c, hM, -⟩, -⟩ := h
  exact hM.2.2.1
/-- there are fewer lines than letters -/
theorem bd_len {n a b c B : Nat} {L : List Q4} (h : (txtL n a b c L).length ≤ B) : L.length ≤ B := by
  have h1 : ∀ (L : List Q4), L.length ≤ (bdT L).length := by
    intro L
    induction L with
    | nil => exact Nat.zero_le _
    | cons q L ih =>
      show L.length + 1 ≤ (clT q ++ bdT L).length
      rw [clT_B, List.length_append, List.length_cons]
      omega
  rw [txtL_bd, List.length_append] at h
  have := h1 L
  omega

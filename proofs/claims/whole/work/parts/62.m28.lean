set_option maxHeartbeats 800000 in
theorem s_setting {l : Launch} (hl : l.stackTraces = false) {κ : Kp} {h : Nat → Nat} {bd : Nat} {x : Cg} {z : G} (hb : 20 ≤ bd ∧ bd ≤ 2000) (I : INV bd x z) (w : Int32) : Stq l κ h bd x z yX5_setting cX5_setting 2 (some FieldType.int) yX6_setting cX6_setting 2 [.int w] ri [EIS, EIA] (fun _ => True) := by
  obtain ⟨n, m, L, kb, sm, T, ff, B, e1, e2, s, sT, rb, sr, mT, mr, hh, sl, tx, rfl, I1, I2, I3⟩ := I
  obtain ⟨c, c1, hW⟩ := id I1.1.1
  exact ⟨_, _, _, _, _, _, _, ⟨by decide, by decide, by decide, by decide⟩, (c_X5_setting hl hW), (c_X6_setting hl I2.1 hW), fun e u hp => thN.mem (thA hp.1), (JN_read I1 I2 I3 (fun e ht => thA ht)), (fun _ _ _ => trivial)⟩
set_option maxHeartbeats 800000 in
theorem s_stored {l : Launch} (hl : l.stackTraces = false) {κ : Kp} {h : Nat → Nat} {bd : Nat} {x : Cg} {z : G} (hb : 20 ≤ bd ∧ bd ≤ 2000) (I : INV bd x z) (p : Int32) : Stq l κ h bd x z yX5_stored cX5_stored 2 (some FieldType.int) yX6_stored cX6_stored 2 [.int p] ri [EIS, EIO] (fun _ => True) := by
  obtain ⟨n, m, L, kb, sm, T, ff, B, e1, e2, s, sT, rb, sr, mT, mr, hh, sl, tx, rfl, I1, I2, I3⟩ := I
  obtain ⟨c, c1, hW⟩ := id I1.1.1
  exact ⟨_, _, _, _, _, _, _, ⟨by decide, by decide, by decide, by decide⟩, (c_X5_stored hl hW), (c_X6_stored hl I2.1 hW), fun e u hp => thN.mem (th3s (cdL_lt (by decide) (fun p hp => by simp only [List.mem_cons, List.not_mem_nil, or_false] at hp; rcases hp with rfl | rfl <;> exact Nat.le_of_ble_eq_true rfl)) hp.1), (JN_read I1 I2 I3 (fun e ht => th3s (cdL_lt (by decide) (fun p hp => by simp only [List.mem_cons, List.not_mem_nil, or_false] at hp; rcases hp with rfl | rfl <;> exact Nat.le_of_ble_eq_true rfl)) ht)), (fun _ _ _ => trivial)⟩
set_option maxHeartbeats 800000 in
theorem s_value {l : Launch} (hl : l.stackTraces = false) {κ : Kp} {h : Nat → Nat} {bd : Nat} {x : Cg} {z : G} (hb : 20 ≤ bd ∧ bd ≤ 2000) (I : INV bd x z) (p : Int32) : Stq l κ h bd x z yX5_value cX5_value 2 (some FieldType.int) yX6_value cX6_value 2 [.int p] ri [EIS, EIO] (fun _ => True) := by
  obtain ⟨n, m, L, kb, sm, T, ff, B, e1, e2, s, sT, rb, sr, mT, mr, hh, sl, tx, rfl, I1, I2, I3⟩ := I
  obtain ⟨c, c1, hW⟩ := id I1.1.1
  exact ⟨_, _, _, _, _, _, _, ⟨by decide, by decide, by decide, by decide⟩, (c_X5_value hl hW), (c_X6_value hl I2.1 hW), fun e u hp => thN.mem (th3s (cdL_lt (by decide) (fun p hp => by simp only [List.mem_cons, List.not_mem_nil, or_false] at hp; rcases hp with rfl | rfl <;> exact Nat.le_of_ble_eq_true rfl)) hp.1), (JN_read I1 I2 I3 (fun e ht => th3s (cdL_lt (by decide) (fun p hp => by simp only [List.mem_cons, List.not_mem_nil, or_false] at hp; rcases hp with rfl | rfl <;> exact Nat.le_of_ble_eq_true rfl)) ht)), (fun _ _ _ => trivial)⟩
set_option maxHeartbeats 800000 in
theorem s_source {l : Launch} (hl : l.stackTraces = false) {κ : Kp} {h : Nat → Nat} {bd : Nat} {x : Cg} {z : G} (hb : 20 ≤ bd ∧ bd ≤ 2000) (I : INV bd x z) (p : Int32) : Stq l κ h bd x z yX5_source cX5_source 2 (some FieldType.int) yX6_source cX6_source 2 [.int p] ri [EIS, EIO] (fun _ => True) := by
  obtain ⟨n, m, L, kb, sm, T, ff, B, e1, e2, s, sT, rb, sr, mT, mr, hh, sl, tx, rfl, I1, I2, I3⟩ := I
  obtain ⟨c, c1, hW⟩ := id I1.1.1
  exact ⟨_, _, _, _, _, _, _, ⟨by decide, by decide, by decide, by decide⟩, (c_X5_source hl hW), (c_X6_source hl I2.1 hW), fun e u hp => thN.mem (th3s (cdL_lt (by decide) (fun p hp => by simp only [List.mem_cons, List.not_mem_nil, or_false] at hp; rcases hp with rfl | rfl <;> exact Nat.le_of_ble_eq_true rfl)) hp.1), (JN_read I1 I2 I3 (fun e ht => th3s (cdL_lt (by decide) (fun p hp => by simp only [List.mem_cons, List.not_mem_nil, or_false] at hp; rcases hp with rfl | rfl <;> exact Nat.le_of_ble_eq_true rfl)) ht)), (fun _ _ _ => trivial)⟩
set_option maxHeartbeats 800000 in
theorem s_promise {l : Launch} (hl : l.stackTraces = false) {κ : Kp} {h : Nat → Nat} {bd : Nat} {x : Cg} {z : G} (hb : 20 ≤ bd ∧ bd ≤ 2000) (I : INV bd x z) (p : Int32) : Stq l κ h bd x z yX5_promise cX5_promise 2 (some FieldType.int) yX6_promise cX6_promise 2 [.int p] ri [EIS, EIO] (fun _ => True) := by
  obtain ⟨n, m, L, kb, sm, T, ff, B, e1, e2, s, sT, rb, sr, mT, mr, hh, sl, tx, rfl, I1, I2, I3⟩ := I
  obtain ⟨c, c1, hW⟩ := id I1.1.1
  exact ⟨_, _, _, _, _, _, _, ⟨by decide, by decide, by decide, by decide⟩, (c_X5_promise hl hW), (c_X6_promise hl I2.1 hW), fun e u hp => thN.mem (th3s (cdL_lt (by decide) (fun p hp => by simp only [List.mem_cons, List.not_mem_nil, or_false] at hp; rcases hp with rfl | rfl <;> exact Nat.le_of_ble_eq_true rfl)) hp.1), (JN_read I1 I2 I3 (fun e ht => th3s (cdL_lt (by decide) (fun p hp => by simp only [List.mem_cons, List.not_mem_nil, or_false] at hp; rcases hp with rfl | rfl <;> exact Nat.le_of_ble_eq_true rfl)) ht)), (fun _ _ _ => trivial)⟩
set_option maxHeartbeats 800000 in
theorem s_hops {l : Launch} (hl : l.stackTraces = false) {κ : Kp} {h : Nat → Nat} {bd : Nat} {x : Cg} {z : G} (hb : 20 ≤ bd ∧ bd ≤ 2000) (I : INV bd x z) (p : Int32) : Stq l κ h bd x z yX5_hops cX5_hops 2 (some FieldType.int) yX6_hops cX6_hops 2 [.int p] ri [EIS, EIO] (fun _ => True) := by
  obtain ⟨n, m, L, kb, sm, T, ff, B, e1, e2, s, sT, rb, sr, mT, mr, hh, sl, tx, rfl, I1, I2, I3⟩ := I
  obtain ⟨c, c1, hW⟩ := id I1.1.1
  exact ⟨_, _, _, _, _, _, _, ⟨by decide, by decide, by decide, by decide⟩, (c_X5_hops hl hW), (c_X6_hops hl I2.1 hW), fun e u hp => thN.mem (th3s (cdL_lt (by decide) (fun p hp => by simp only [List.mem_cons, List.not_mem_nil, or_false] at hp; rcases hp with rfl | rfl <;> exact Nat.le_of_ble_eq_true rfl)) hp.1), (JN_read I1 I2 I3 (fun e ht => th3s (cdL_lt (by decide) (fun p hp => by simp only [List.mem_cons, List.not_mem_nil, or_false] at hp; rcases hp with rfl | rfl <;> exact Nat.le_of_ble_eq_true rfl)) ht)), (fun _ _ _ => trivial)⟩
set_option maxHeartbeats 800000 in
theorem s_root {l : Launch} (hl : l.stackTraces = false) {κ : Kp} {h : Nat → Nat} {bd : Nat} {x : Cg} {z : G} (hb : 20 ≤ bd ∧ bd ≤ 2000) (I : INV bd x z) (p : Int32) : Stq l κ h bd x z yX5_root cX5_root 2 (some FieldType.int) yX6_root cX6_root 2 [.int p] ri [EIS, EIO] (fun _ => True) := by
  obtain ⟨n, m, L, kb, sm, T, ff, B, e1, e2, s, sT, rb, sr, mT, mr, hh, sl, tx, rfl, I1, I2, I3⟩ := I
  obtain ⟨c, c1, hW⟩ := id I1.1.1
  exact ⟨_, _, _, _, _, _, _, ⟨by decide, by decide, by decide, by decide⟩, (c_X5_root hl hW), (c_X6_root hl I2.1 hW), fun e u hp => thN.mem (th3s (cdL_lt (by decide) (fun p hp => by simp only [List.mem_cons, List.not_mem_nil, or_false] at hp; rcases hp with rfl | rfl <;> exact Nat.le_of_ble_eq_true rfl)) hp.1), (JN_read I1 I2 I3 (fun e ht => th3s (cdL_lt (by decide) (fun p hp => by simp only [List.mem_cons, List.not_mem_nil, or_false] at hp; rcases hp with rfl | rfl <;> exact Nat.le_of_ble_eq_true rfl)) ht)), (fun _ _ _ => trivial)⟩
set_option maxHeartbeats 800000 in
theorem s_isLocked {l : Launch} (hl : l.stackTraces = false) {κ : Kp} {h : Nat → Nat} {bd : Nat} {x : Cg} {z : G} (hb : 20 ≤ bd ∧ bd ≤ 2000) (I : INV bd x z) (p : Int32) : Stq l κ h bd x z yX5_isLocked cX5_isLocked 2 (some FieldType.boolean) yX6_isLocked cX6_isLocked 2 [.int p] ri [EIS, EIO] (fun _ => True) := by
  obtain ⟨n, m, L, kb, sm, T, ff, B, e1, e2, s, sT, rb, sr, mT, mr, hh, sl, tx, rfl, I1, I2, I3⟩ := I
  obtain ⟨c, c1, hW⟩ := id I1.1.1
  exact ⟨_, _, _, _, _, _, _, ⟨by decide, by decide, by decide, by decide⟩, (c_X5_isLocked hl hW), (c_X6_isLocked hl I2.1 hW), fun e u hp => thN.mem (th3s (cdL_lt (by decide) (fun p hp => by simp only [List.mem_cons, List.not_mem_nil, or_false] at hp; rcases hp with rfl | rfl <;> exact Nat.le_of_ble_eq_true rfl)) hp.1), (JN_read I1 I2 I3 (fun e ht => th3s (cdL_lt (by decide) (fun p hp => by simp only [List.mem_cons, List.not_mem_nil, or_false] at hp; rcases hp with rfl | rfl <;> exact Nat.le_of_ble_eq_true rfl)) ht)), (fun _ _ _ => trivial)⟩
set_option maxHeartbeats 800000 in
theorem s_dependents {l : Launch} (hl : l.stackTraces = false) {κ : Kp} {h : Nat → Nat} {bd : Nat} {x : Cg} {z : G} (hb : 20 ≤ bd ∧ bd ≤ 2000) (I : INV bd x z) (p : Int32) (al : Bool) : Stq l κ h bd x z yX5_dependents cX5_dependents 7 (some FieldType.int) yX6_dependents cX6_dependents 6 [.int p, .int (bI al)] ri [EIS, EIO] (fun _ => True) := by
  obtain ⟨n, m, L, kb, sm, T, ff, B, e1, e2, s, sT, rb, sr, mT, mr, hh, sl, tx, rfl, I1, I2, I3⟩ := I
  obtain ⟨c, c1, hW⟩ := id I1.1.1
  exact ⟨_, _, _, _, _, _, _, ⟨by decide, by decide, by decide, by decide⟩, (c_X5_dependents hl hW), (c_X6_dependents hl I2.1 hW), fun e u hp => thN.mem (th3s (cdL_lt (by decide) (fun p hp => by simp only [List.mem_cons, List.not_mem_nil, or_false] at hp; rcases hp with rfl | rfl <;> exact Nat.le_of_ble_eq_true rfl)) hp.1), (JN_read I1 I2 I3 (fun e ht => th3s (cdL_lt (by decide) (fun p hp => by simp only [List.mem_cons, List.not_mem_nil, or_false] at hp; rcases hp with rfl | rfl <;> exact Nat.le_of_ble_eq_true rfl)) ht)), (fun _ _ _ => trivial)⟩
set_option maxHeartbeats 800000 in
theorem s_owed {l : Launch} (hl : l.stackTraces = false) {κ : Kp} {h : Nat → Nat} {bd : Nat} {x : Cg} {z : G} (hb : 20 ≤ bd ∧ bd ≤ 2000) (I : INV bd x z) : Stq l κ h bd x z yX5_owed cX5_owed 1 (some FieldType.int) yX6_owed cX6_owed 1 [] ri [EIS] (fun _ => True) := by
  obtain ⟨n, m, L, kb, sm, T, ff, B, e1, e2, s, sT, rb, sr, mT, mr, hh, sl, tx, rfl, I1, I2, I3⟩ := I
  obtain ⟨c, c1, hW⟩ := id I1.1.1
  exact ⟨_, _, _, _, _, _, _, ⟨by decide, by decide, by decide, by decide⟩, (c_X5_owed hl hW), (c_X6_owed hl I2.1 hW), fun e u hp => thN.mem (thU hp.1), (JN_read I1 I2 I3 (fun e ht => thU ht)), (fun _ _ _ => trivial)⟩
set_option maxHeartbeats 800000 in
theorem s_owedIn {l : Launch} (hl : l.stackTraces = false) {κ : Kp} {h : Nat → Nat} {bd : Nat} {x : Cg} {z : G} (hb : 20 ≤ bd ∧ bd ≤ 2000) (I : INV bd x z) (a : Int32) (b : Int32) : Stq l κ h bd x z yX5_owedIn cX5_owedIn 3 (some FieldType.int) yX6_owedIn cX6_owedIn 5 [.int a, .int b] ri [EIS, EIO, EIA] (fun _ => True) := by
  obtain ⟨n, m, L, kb, sm, T, ff, B, e1, e2, s, sT, rb, sr, mT, mr, hh, sl, tx, rfl, I1, I2, I3⟩ := I
  obtain ⟨c, c1, hW⟩ := id I1.1.1
  exact ⟨_, _, _, _, _, _, _, ⟨by decide, by decide, by decide, by decide⟩, (c_X5_owedIn hl hW), (c_X6_owedIn hl I2.1 hW), fun e u hp => thN.mem (th3 hp.1), (JN_read I1 I2 I3 (fun e ht => th3 ht)), (fun _ _ _ => trivial)⟩
set_option maxHeartbeats 800000 in
theorem s_firstOwed {l : Launch} (hl : l.stackTraces = false) {κ : Kp} {h : Nat → Nat} {bd : Nat} {x : Cg} {z : G} (hb : 20 ≤ bd ∧ bd ≤ 2000) (I : INV bd x z) (p : Int32) : Stq l κ h bd x z yX5_firstOwed cX5_firstOwed 4 (some FieldType.int) yX6_firstOwed cX6_firstOwed 3 [.int p] ri [EIS, EIO] (fun _ => True) := by
  obtain ⟨n, m, L, kb, sm, T, ff, B, e1, e2, s, sT, rb, sr, mT, mr, hh, sl, tx, rfl, I1, I2, I3⟩ := I
  obtain ⟨c, c1, hW⟩ := id I1.1.1
  exact ⟨_, _, _, _, _, _, _, ⟨by decide, by decide, by decide, by decide⟩, (c_X5_firstOwed hl hW), (c_X6_firstOwed hl I2.1 hW), fun e u hp => thN.mem (th3s (cdL_lt (by decide) (fun p hp => by simp only [List.mem_cons, List.not_mem_nil, or_false] at hp; rcases hp with rfl | rfl <;> exact Nat.le_of_ble_eq_true rfl)) hp.1), (JN_read I1 I2 I3 (fun e ht => th3s (cdL_lt (by decide) (fun p hp => by simp only [List.mem_cons, List.not_mem_nil, or_false] at hp; rcases hp with rfl | rfl <;> exact Nat.le_of_ble_eq_true rfl)) ht)), (fun _ _ _ => trivial)⟩
set_option maxHeartbeats 800000 in
theorem s_debts {l : Launch} (hl : l.stackTraces = false) {κ : Kp} {h : Nat → Nat} {bd : Nat} {x : Cg} {z : G} (hb : 20 ≤ bd ∧ bd ≤ 2000) (I : INV bd x z) : Stq l κ h bd x z yX5_debts cX5_debts 4 (some FieldType.int) yX6_debts cX6_debts 1 [] ri [EIS] (fun _ => True) := by
  obtain ⟨n, m, L, kb, sm, T, ff, B, e1, e2, s, sT, rb, sr, mT, mr, hh, sl, tx, rfl, I1, I2, I3⟩ := I
  obtain ⟨c, c1, hW⟩ := id I1.1.1
  exact ⟨_, _, _, _, _, _, _, ⟨by decide, by decide, by decide, by decide⟩, (c_X5_debts hl hW), (c_X6_debts hl I2.1 hW), fun e u hp => thN.mem (thU hp.1), (JN_read I1 I2 I3 (fun e ht => thU ht)), (fun _ _ _ => trivial)⟩
set_option maxHeartbeats 800000 in
theorem s_debt {l : Launch} (hl : l.stackTraces = false) {κ : Kp} {h : Nat → Nat} {bd : Nat} {x : Cg} {z : G} (hb : 20 ≤ bd ∧ bd ≤ 2000) (I : INV bd x z) (k : Int32) (w : Int32) : Stq l κ h bd x z yX5_debt cX5_debt 5 (some FieldType.int) yX6_debt cX6_debt 5 [.int k, .int w] ri [EIS, EIO, EIA] (fun _ => True) := by
  obtain ⟨n, m, L, kb, sm, T, ff, B, e1, e2, s, sT, rb, sr, mT, mr, hh, sl, tx, rfl, I1, I2, I3⟩ := I
  obtain ⟨c, c1, hW⟩ := id I1.1.1
  exact ⟨_, _, _, _, _, _, _, ⟨by decide, by decide, by decide, by decide⟩, (c_X5_debt hl hW), (c_X6_debt hl I2.1 hW), fun e u hp => thN.mem (th3 hp.1), (JN_read I1 I2 I3 (fun e ht => th3 ht)), (fun _ _ _ => trivial)⟩
set_option maxHeartbeats 800000 in
theorem s_most {l : Launch} (hl : l.stackTraces = false) {κ : Kp} {h : Nat → Nat} {bd : Nat} {x : Cg} {z : G} (hb : 20 ≤ bd ∧ bd ≤ 2000) (I : INV bd x z) : Stq l κ h bd x z yX5_most cX5_most 2 (some FieldType.int) yX6_most cX6_most 2 [] ri [EIS] (fun _ => True) := by
  obtain ⟨n, m, L, kb, sm, T, ff, B, e1, e2, s, sT, rb, sr, mT, mr, hh, sl, tx, rfl, I1, I2, I3⟩ := I
  obtain ⟨c, c1, hW⟩ := id I1.1.1
  exact ⟨_, _, _, _, _, _, _, ⟨by decide, by decide, by decide, by decide⟩, (c_X5_most hl hW), (c_X6_most hl I2.1 hW), fun e u hp => thN.mem (thU hp.1), (JN_read I1 I2 I3 (fun e ht => thU ht)), (fun _ _ _ => trivial)⟩
set_option maxHeartbeats 800000 in
theorem s_deepest {l : Launch} (hl : l.stackTraces = false) {κ : Kp} {h : Nat → Nat} {bd : Nat} {x : Cg} {z : G} (hb : 20 ≤ bd ∧ bd ≤ 2000) (I : INV bd x z) : Stq l κ h bd x z yX5_deepest cX5_deepest 1 (some FieldType.int) yX6_deepest cX6_deepest 1 [] ri [EIS] (fun _ => True) := by
  obtain ⟨n, m, L, kb, sm, T, ff, B, e1, e2, s, sT, rb, sr, mT, mr, hh, sl, tx, rfl, I1, I2, I3⟩ := I
  obtain ⟨c, c1, hW⟩ := id I1.1.1
  exact ⟨_, _, _, _, _, _, _, ⟨by decide, by decide, by decide, by decide⟩, (c_X5_deepest hl hW), (c_X6_deepest hl I2.1 hW), fun e u hp => thN.mem (thU hp.1), (JN_read I1 I2 I3 (fun e ht => thU ht)), (fun _ _ _ => trivial)⟩
set_option maxHeartbeats 800000 in
theorem s_distance {l : Launch} (hl : l.stackTraces = false) {κ : Kp} {h : Nat → Nat} {bd : Nat} {x : Cg} {z : G} (hb : 20 ≤ bd ∧ bd ≤ 2000) (I : INV bd x z) (a : Int32) (b : Int32) : Stq l κ h bd x z yX5_distance cX5_distance 3 (some FieldType.int) yX6_distance cX6_distance 5 [.int a, .int b] ri [EIS, EIO] (fun _ => True) := by
  obtain ⟨n, m, L, kb, sm, T, ff, B, e1, e2, s, sT, rb, sr, mT, mr, hh, sl, tx, rfl, I1, I2, I3⟩ := I
  obtain ⟨c, c1, hW⟩ := id I1.1.1
  exact ⟨_, _, _, _, _, _, _, ⟨by decide, by decide, by decide, by decide⟩, (c_X5_distance hl hW), (c_X6_distance hl I2.1 hW), fun e u hp => thN.mem (th3s (cdL_lt (by decide) (fun p hp => by simp only [List.mem_cons, List.not_mem_nil, or_false] at hp; rcases hp with rfl | rfl | rfl <;> exact Nat.le_of_ble_eq_true rfl)) hp.1), (JN_read I1 I2 I3 (fun e ht => th3s (cdL_lt (by decide) (fun p hp => by simp only [List.mem_cons, List.not_mem_nil, or_false] at hp; rcases hp with rfl | rfl | rfl <;> exact Nat.le_of_ble_eq_true rfl)) ht)), (fun _ _ _ => trivial)⟩
set_option maxHeartbeats 800000 in
theorem s_oldest {l : Launch} (hl : l.stackTraces = false) {κ : Kp} {h : Nat → Nat} {bd : Nat} {x : Cg} {z : G} (hb : 20 ≤ bd ∧ bd ≤ 2000) (I : INV bd x z) : Stq l κ h bd x z yX5_oldest cX5_oldest 2 (some FieldType.int) yX6_oldest cX6_oldest 3 [] ri [EIS] (fun _ => True) := by
  obtain ⟨n, m, L, kb, sm, T, ff, B, e1, e2, s, sT, rb, sr, mT, mr, hh, sl, tx, rfl, I1, I2, I3⟩ := I
  obtain ⟨c, c1, hW⟩ := id I1.1.1
  exact ⟨_, _, _, _, _, _, _, ⟨by decide, by decide, by decide, by decide⟩, (c_X5_oldest hl hW), (c_X6_oldest hl I2.1 hW (by omega)), fun e u hp => thN.mem (thU hp.1), (JN_read I1 I2 I3 (fun e ht => thU ht)), (fun _ _ _ => trivial)⟩
set_option maxHeartbeats 800000 in
theorem s_creditors {l : Launch} (hl : l.stackTraces = false) {κ : Kp} {h : Nat → Nat} {bd : Nat} {x : Cg} {z : G} (hb : 20 ≤ bd ∧ bd ≤ 2000) (I : INV bd x z) : Stq l κ h bd x z yX5_creditors cX5_creditors 4 (some FieldType.int) yX6_creditors cX6_creditors 5 [] ri [EIS] (fun _ => True) := by
  obtain ⟨n, m, L, kb, sm, T, ff, B, e1, e2, s, sT, rb, sr, mT, mr, hh, sl, tx, rfl, I1, I2, I3⟩ := I
  obtain ⟨c, c1, hW⟩ := id I1.1.1
  exact ⟨_, _, _, _, _, _, _, ⟨by decide, by decide, by decide, by decide⟩, (c_X5_creditors hl hW), (c_X6_creditors hl I2.1 hW), fun e u hp => thN.mem (thU hp.1), (JN_read I1 I2 I3 (fun e ht => thU ht)), (fun _ _ _ => trivial)⟩
set_option maxHeartbeats 800000 in
theorem s_next {l : Launch} (hl : l.stackTraces = false) {κ : Kp} {h : Nat → Nat} {bd : Nat} {x : Cg} {z : G} (hb : 20 ≤ bd ∧ bd ≤ 2000) (I : INV bd x z) : Stq l κ h bd x z yX5_next cX5_next 1 (some FieldType.int) yX6_next cX6_next 1 [] ri [EIS] (fun _ => True) := by
  obtain ⟨n, m, L, kb, sm, T, ff, B, e1, e2, s, sT, rb, sr, mT, mr, hh, sl, tx, rfl, I1, I2, I3⟩ := I
  obtain ⟨c, c1, hW⟩ := id I1.1.1
  exact ⟨_, _, _, _, _, _, _, ⟨by decide, by decide, by decide, by decide⟩, (c_X5_next hl hW), (c_X6_next hl I2.1 hW), fun e u hp => thN.mem (thU hp.1), (JN_read I1 I2 I3 (fun e ht => thU ht)), (fun _ _ _ => trivial)⟩
set_option maxHeartbeats 800000 in
theorem s_stale {l : Launch} (hl : l.stackTraces = false) {κ : Kp} {h : Nat → Nat} {bd : Nat} {x : Cg} {z : G} (hb : 20 ≤ bd ∧ bd ≤ 2000) (I : INV bd x z) : Stq l κ h bd x z yX5_stale cX5_stale 4 (some FieldType.int) yX6_stale cX6_stale 3 [] ri [EIS] (fun _ => True) := by
  obtain ⟨n, m, L, kb, sm, T, ff, B, e1, e2, s, sT, rb, sr, mT, mr, hh, sl, tx, rfl, I1, I2, I3⟩ := I
  obtain ⟨c, c1, hW⟩ := id I1.1.1
  exact ⟨_, _, _, _, _, _, _, ⟨by decide, by decide, by decide, by decide⟩, (c_X5_stale hl hW), (c_X6_stale hl I2.1 hW), fun e u hp => thN.mem (thU hp.1), (JN_read I1 I2 I3 (fun e ht => thU ht)), (fun _ _ _ => trivial)⟩
set_option maxHeartbeats 800000 in
theorem s_sum {l : Launch} (hl : l.stackTraces = false) {κ : Kp} {h : Nat → Nat} {bd : Nat} {x : Cg} {z : G} (hb : 20 ≤ bd ∧ bd ≤ 2000) (I : INV bd x z) (a : Int32) (b : Int32) : Stq l κ h bd x z yX5_sum cX5_sum 5 (some FieldType.int) yX6_sum cX6_sum 5 [.int a, .int b] ri [EIS, EIO, EIA] (fun _ => True) := by
  obtain ⟨n, m, L, kb, sm, T, ff, B, e1, e2, s, sT, rb, sr, mT, mr, hh, sl, tx, rfl, I1, I2, I3⟩ := I
  obtain ⟨c, c1, hW⟩ := id I1.1.1
  exact ⟨_, _, _, _, _, _, _, ⟨by decide, by decide, by decide, by decide⟩, (c_X5_sum hl hW), (c_X6_sum hl I2.1 hW), fun e u hp => thN.mem (th3 hp.1), (JN_read I1 I2 I3 (fun e ht => th3 ht)), (fun _ _ _ => trivial)⟩
set_option maxHeartbeats 800000 in
theorem s_find {l : Launch} (hl : l.stackTraces = false) {κ : Kp} {h : Nat → Nat} {bd : Nat} {x : Cg} {z : G} (hb : 20 ≤ bd ∧ bd ≤ 2000) (I : INV bd x z) (v : Int32) (p : Int32) : Stq l κ h bd x z yX5_find cX5_find 5 (some FieldType.int) yX6_find cX6_find 4 [.int v, .int p] ri [EIS, EIO, EIA] (fun _ => True) := by
  obtain ⟨n, m, L, kb, sm, T, ff, B, e1, e2, s, sT, rb, sr, mT, mr, hh, sl, tx, rfl, I1, I2, I3⟩ := I
  obtain ⟨c, c1, hW⟩ := id I1.1.1
  exact ⟨_, _, _, _, _, _, _, ⟨by decide, by decide, by decide, by decide⟩, (c_X5_find hl hW), (c_X6_find hl I2.1 hW), fun e u hp => thN.mem (th3 hp.1), (JN_read I1 I2 I3 (fun e ht => th3 ht)), (fun _ _ _ => trivial)⟩
set_option maxHeartbeats 800000 in
theorem s_same {l : Launch} (hl : l.stackTraces = false) {κ : Kp} {h : Nat → Nat} {bd : Nat} {x : Cg} {z : G} (hb : 20 ≤ bd ∧ bd ≤ 2000) (I : INV bd x z) (a : Int32) (b : Int32) (k : Int32) : Stq l κ h bd x z yX5_same cX5_same 6 (some FieldType.boolean) yX6_same cX6_same 5 [.int a, .int b, .int k] ri [EIS, EIO, EIA] (fun _ => True) := by
  obtain ⟨n, m, L, kb, sm, T, ff, B, e1, e2, s, sT, rb, sr, mT, mr, hh, sl, tx, rfl, I1, I2, I3⟩ := I
  obtain ⟨c, c1, hW⟩ := id I1.1.1
  exact ⟨_, _, _, _, _, _, _, ⟨by decide, by decide, by decide, by decide⟩, (c_X5_same hl hW), (c_X6_same hl I2.1 hW), fun e u hp => thN.mem (th3 hp.1), (JN_read I1 I2 I3 (fun e ht => th3 ht)), (fun _ _ _ => trivial)⟩
set_option maxHeartbeats 800000 in
theorem s_checksum {l : Launch} (hl : l.stackTraces = false) {κ : Kp} {h : Nat → Nat} {bd : Nat} {x : Cg} {z : G} (hb : 20 ≤ bd ∧ bd ≤ 2000) (I : INV bd x z) : Stq l κ h bd x z yX5_checksum cX5_checksum 5 (some FieldType.long) yX6_checksum cX6_checksum 4 [] rl [EIS] (fun _ => True) := by
  obtain ⟨n, m, L, kb, sm, T, ff, B, e1, e2, s, sT, rb, sr, mT, mr, hh, sl, tx, rfl, I1, I2, I3⟩ := I
  obtain ⟨c, c1, hW⟩ := id I1.1.1
  exact ⟨_, _, _, _, _, _, _, ⟨by decide, by decide, by decide, by decide⟩, (c_X5_checksum hl hW), (c_X6_checksum hl I2.1 hW), fun e u hp => thN.mem (thU hp.1), (JN_read I1 I2 I3 (fun e ht => thU ht)), (fun _ _ _ => trivial)⟩
set_option maxHeartbeats 800000 in
theorem s_whyCopy {l : Launch} (hl : l.stackTraces = false) {κ : Kp} {h : Nat → Nat} {bd : Nat} {x : Cg} {z : G} (hb : 20 ≤ bd ∧ bd ≤ 2000) (I : INV bd x z) (f : Int32) (t : Int32) (k : Int32) : Stq l κ h bd x z yX5_whyCopy cX5_whyCopy 4 (some FieldType.int) yX6_whyCopy cX6_whyCopy 4 [.int f, .int t, .int k] ri [EIS] (fun _ => True) := by
  obtain ⟨n, m, L, kb, sm, T, ff, B, e1, e2, s, sT, rb, sr, mT, mr, hh, sl, tx, rfl, I1, I2, I3⟩ := I
  obtain ⟨c, c1, hW⟩ := id I1.1.1
  exact ⟨_, _, _, _, _, _, _, ⟨by decide, by decide, by decide, by decide⟩, (c_X5_whyCopy hl hW), (c_X6_whyCopy hl I2.1 hW), fun e u hp => thN.mem (thU hp.1), (JN_read I1 I2 I3 (fun e ht => thU ht)), (fun _ _ _ => trivial)⟩
set_option maxHeartbeats 800000 in
theorem s_forcedByCopy {l : Launch} (hl : l.stackTraces = false) {κ : Kp} {h : Nat → Nat} {bd : Nat} {x : Cg} {z : G} (hb : 20 ≤ bd ∧ bd ≤ 2000) (I : INV bd x z) (f : Int32) (t : Int32) (k : Int32) : Stq l κ h bd x z yX5_forcedByCopy cX5_forcedByCopy 4 (some FieldType.int) yX6_forcedByCopy cX6_forcedByCopy 4 [.int f, .int t, .int k] ri [EIS, EIA] (fun _ => True) := by
  obtain ⟨n, m, L, kb, sm, T, ff, B, e1, e2, s, sT, rb, sr, mT, mr, hh, sl, tx, rfl, I1, I2, I3⟩ := I
  obtain ⟨c, c1, hW⟩ := id I1.1.1
  exact ⟨_, _, _, _, _, _, _, ⟨by decide, by decide, by decide, by decide⟩, (c_X5_forcedByCopy hl hW), (c_X6_forcedByCopy hl I2.1 hW), fun e u hp => thN.mem (thA hp.1), (JN_try I1 I2 I3 (fun e ht => thA ht)), (fun _ _ _ => trivial)⟩
set_option maxHeartbeats 800000 in
theorem s_owedIfCopy {l : Launch} (hl : l.stackTraces = false) {κ : Kp} {h : Nat → Nat} {bd : Nat} {x : Cg} {z : G} (hb : 20 ≤ bd ∧ bd ≤ 2000) (I : INV bd x z) (f : Int32) (t : Int32) (k : Int32) : Stq l κ h bd x z yX5_owedIfCopy cX5_owedIfCopy 4 (some FieldType.int) yX6_owedIfCopy cX6_owedIfCopy 4 [.int f, .int t, .int k] ri [EIS, EIA] (fun _ => True) := by
  obtain ⟨n, m, L, kb, sm, T, ff, B, e1, e2, s, sT, rb, sr, mT, mr, hh, sl, tx, rfl, I1, I2, I3⟩ := I
  obtain ⟨c, c1, hW⟩ := id I1.1.1
  exact ⟨_, _, _, _, _, _, _, ⟨by decide, by decide, by decide, by decide⟩, (c_X5_owedIfCopy hl hW), (c_X6_owedIfCopy hl I2.1 hW), fun e u hp => thN.mem (thA hp.1), (JN_try I1 I2 I3 (fun e ht => thA ht)), (fun _ _ _ => trivial)⟩
set_option maxHeartbeats 800000 in
theorem s_costOfCopy {l : Launch} (hl : l.stackTraces = false) {κ : Kp} {h : Nat → Nat} {bd : Nat} {x : Cg} {z : G} (hb : 20 ≤ bd ∧ bd ≤ 2000) (I : INV bd x z) (f : Int32) (t : Int32) (k : Int32) : Stq l κ h bd x z yX5_costOfCopy cX5_costOfCopy 4 (some FieldType.int) yX6_costOfCopy cX6_costOfCopy 4 [.int f, .int t, .int k] ri [EIS, EIA] (fun _ => True) := by
  obtain ⟨n, m, L, kb, sm, T, ff, B, e1, e2, s, sT, rb, sr, mT, mr, hh, sl, tx, rfl, I1, I2, I3⟩ := I
  obtain ⟨c, c1, hW⟩ := id I1.1.1
  exact ⟨_, _, _, _, _, _, _, ⟨by decide, by decide, by decide, by decide⟩, (c_X5_costOfCopy hl hW), (c_X6_costOfCopy hl I2.1 hW), fun e u hp => thN.mem (thA hp.1), (JN_try I1 I2 I3 (fun e ht => thA ht)), (fun _ _ _ => trivial)⟩
set_option maxHeartbeats 800000 in
theorem s_forcedByWrite {l : Launch} (hl : l.stackTraces = false) {κ : Kp} {h : Nat → Nat} {bd : Nat} {x : Cg} {z : G} (hb : 20 ≤ bd ∧ bd ≤ 2000) (I : INV bd x z) (p : Int32) : Stq l κ h bd x z yX5_forcedByWrite cX5_forcedByWrite 2 (some FieldType.int) yX6_forcedByWrite cX6_forcedByWrite 4 [.int p] ri [EIS, EIO, EIA] (fun _ => True) := by
  obtain ⟨n, m, L, kb, sm, T, ff, B, e1, e2, s, sT, rb, sr, mT, mr, hh, sl, tx, rfl, I1, I2, I3⟩ := I
  obtain ⟨c, c1, hW⟩ := id I1.1.1
  exact ⟨_, _, _, _, _, _, _, ⟨by decide, by decide, by decide, by decide⟩, (c_X5_forcedByWrite hl hW), (c_X6_forcedByWrite hl I2.1 hW), fun e u hp => thN.mem (th3 hp.1), (JN_read I1 I2 I3 (fun e ht => th3 ht)), (fun _ _ _ => trivial)⟩
set_option maxHeartbeats 800000 in
theorem s_forcedByFill {l : Launch} (hl : l.stackTraces = false) {κ : Kp} {h : Nat → Nat} {bd : Nat} {x : Cg} {z : G} (hb : 20 ≤ bd ∧ bd ≤ 2000) (I : INV bd x z) (a : Int32) (b : Int32) : Stq l κ h bd x z yX5_forcedByFill cX5_forcedByFill 3 (some FieldType.int) yX6_forcedByFill cX6_forcedByFill 5 [.int a, .int b] ri [EIS, EIO, EIA] (fun _ => True) := by
  obtain ⟨n, m, L, kb, sm, T, ff, B, e1, e2, s, sT, rb, sr, mT, mr, hh, sl, tx, rfl, I1, I2, I3⟩ := I
  obtain ⟨c, c1, hW⟩ := id I1.1.1
  exact ⟨_, _, _, _, _, _, _, ⟨by decide, by decide, by decide, by decide⟩, (c_X5_forcedByFill hl hW), (c_X6_forcedByFill hl I2.1 hW), fun e u hp => thN.mem (th3 hp.1), (JN_read I1 I2 I3 (fun e ht => th3 ht)), (fun _ _ _ => trivial)⟩
set_option maxHeartbeats 800000 in
theorem s_ticksToClear {l : Launch} (hl : l.stackTraces = false) {κ : Kp} {h : Nat → Nat} {bd : Nat} {x : Cg} {z : G} (hb : 20 ≤ bd ∧ bd ≤ 2000) (I : INV bd x z) : Stq l κ h bd x z yX5_ticksToClear cX5_ticksToClear 1 (some FieldType.int) yX6_ticksToClear cX6_ticksToClear 1 [] ri [EIS] (fun _ => True) := by
  obtain ⟨n, m, L, kb, sm, T, ff, B, e1, e2, s, sT, rb, sr, mT, mr, hh, sl, tx, rfl, I1, I2, I3⟩ := I
  obtain ⟨c, c1, hW⟩ := id I1.1.1
  exact ⟨_, _, _, _, _, _, _, ⟨by decide, by decide, by decide, by decide⟩, (c_X5_ticksToClear hl hW), (c_X6_ticksToClear hl I2.1 hW), fun e u hp => thN.mem (thU hp.1), (JN_read I1 I2 I3 (fun e ht => thU ht)), (fun _ _ _ => trivial)⟩
set_option maxHeartbeats 800000 in
theorem s_owedAfter {l : Launch} (hl : l.stackTraces = false) {κ : Kp} {h : Nat → Nat} {bd : Nat} {x : Cg} {z : G} (hb : 20 ≤ bd ∧ bd ≤ 2000) (I : INV bd x z) (t : Int32) : Stq l κ h bd x z yX5_owedAfter cX5_owedAfter 3 (some FieldType.int) yX6_owedAfter cX6_owedAfter 2 [.int t] ri [EIS, EIA] (fun _ => True) := by
  obtain ⟨n, m, L, kb, sm, T, ff, B, e1, e2, s, sT, rb, sr, mT, mr, hh, sl, tx, rfl, I1, I2, I3⟩ := I
  obtain ⟨c, c1, hW⟩ := id I1.1.1
  exact ⟨_, _, _, _, _, _, _, ⟨by decide, by decide, by decide, by decide⟩, (c_X5_owedAfter hl hW), (c_X6_owedAfter hl I2.1 hW), fun e u hp => thN.mem (thA hp.1), (JN_read I1 I2 I3 (fun e ht => thA ht)), (fun _ _ _ => trivial)⟩
set_option maxHeartbeats 800000 in
theorem s_paidIn {l : Launch} (hl : l.stackTraces = false) {κ : Kp} {h : Nat → Nat} {bd : Nat} {x : Cg} {z : G} (hb : 20 ≤ bd ∧ bd ≤ 2000) (I : INV bd x z) (p : Int32) : Stq l κ h bd x z yX5_paidIn cX5_paidIn 2 (some FieldType.int) yX6_paidIn cX6_paidIn 4 [.int p] ri [EIS, EIO] (fun _ => True) := by
  obtain ⟨n, m, L, kb, sm, T, ff, B, e1, e2, s, sT, rb, sr, mT, mr, hh, sl, tx, rfl, I1, I2, I3⟩ := I
  obtain ⟨c, c1, hW⟩ := id I1.1.1
  exact ⟨_, _, _, _, _, _, _, ⟨by decide, by decide, by decide, by decide⟩, (c_X5_paidIn hl hW), (c_X6_paidIn hl I2.1 hW), fun e u hp => thN.mem (th3s (cdL_lt (by decide) (fun p hp => by simp only [List.mem_cons, List.not_mem_nil, or_false] at hp; rcases hp with rfl | rfl <;> exact Nat.le_of_ble_eq_true rfl)) hp.1), (JN_try I1 I2 I3 (fun e ht => th3s (cdL_lt (by decide) (fun p hp => by simp only [List.mem_cons, List.not_mem_nil, or_false] at hp; rcases hp with rfl | rfl <;> exact Nat.le_of_ble_eq_true rfl)) ht)), (fun _ _ _ => trivial)⟩
set_option maxHeartbeats 800000 in
theorem s_bestPolicy {l : Launch} (hl : l.stackTraces = false) {κ : Kp} {h : Nat → Nat} {bd : Nat} {x : Cg} {z : G} (hb : 20 ≤ bd ∧ bd ≤ 2000) (I : INV bd x z) : Stq l κ h bd x z yX5_bestPolicy cX5_bestPolicy 5 (some FieldType.int) yX6_bestPolicy cX6_bestPolicy 3 [] ri [EIS] (fun _ => True) := by
  obtain ⟨n, m, L, kb, sm, T, ff, B, e1, e2, s, sT, rb, sr, mT, mr, hh, sl, tx, rfl, I1, I2, I3⟩ := I
  obtain ⟨c, c1, hW⟩ := id I1.1.1
  exact ⟨_, _, _, _, _, _, _, ⟨by decide, by decide, by decide, by decide⟩, (c_X5_bestPolicy hl hW), (c_X6_bestPolicy hl I2.1 hW), fun e u hp => thN.mem (thU hp.1), (JN_try I1 I2 I3 (fun e ht => thU ht)), (fun _ _ _ => trivial)⟩
set_option maxHeartbeats 800000 in
theorem s_account {l : Launch} (hl : l.stackTraces = false) {κ : Kp} {h : Nat → Nat} {bd : Nat} {x : Cg} {z : G} (hb : 20 ≤ bd ∧ bd ≤ 2000) (I : INV bd x z) (w : Int32) : Stq l κ h bd x z yX5_account cX5_account 2 (some FieldType.int) yX6_account cX6_account 2 [.int w] ri [EIS, EIA] (fun _ => True) := by
  obtain ⟨n, m, L, kb, sm, T, ff, B, e1, e2, s, sT, rb, sr, mT, mr, hh, sl, tx, rfl, I1, I2, I3⟩ := I
  obtain ⟨c, c1, hW⟩ := id I1.1.1
  exact ⟨_, _, _, _, _, _, _, ⟨by decide, by decide, by decide, by decide⟩, (c_X5_account hl hW), (c_X6_account hl I2.1 hW), fun e u hp => thN.mem (thA hp.1), (JN_read I1 I2 I3 (fun e ht => thA ht)), (fun _ _ _ => trivial)⟩
set_option maxHeartbeats 800000 in
theorem s_meanHops {l : Launch} (hl : l.stackTraces = false) {κ : Kp} {h : Nat → Nat} {bd : Nat} {x : Cg} {z : G} (hb : 20 ≤ bd ∧ bd ≤ 2000) (I : INV bd x z) : Stq l κ h bd x z yX5_meanHops cX5_meanHops 2 (some FieldType.double) yX6_meanHops cX6_meanHops 1 [] rd8 [EIS] (fun v => Jvm.FP.Core.val64 v ≠ .nan) := by
  obtain ⟨n, m, L, kb, sm, T, ff, B, e1, e2, s, sT, rb, sr, mT, mr, hh, sl, tx, rfl, I1, I2, I3⟩ := I
  obtain ⟨c, c1, hW⟩ := id I1.1.1
  exact ⟨_, _, _, _, _, _, _, ⟨by decide, by decide, by decide, by decide⟩, (c_X5_meanHops hl hW), (c_X6_meanHops hl I2.1 hW), fun e u hp => thN.mem (thU hp.1), (JN_read I1 I2 I3 (fun e ht => thU ht)), (fun v u hp => by rw [hp.1.2]; exact mhV_n)⟩
set_option maxHeartbeats 800000 in
theorem s_idleShare {l : Launch} (hl : l.stackTraces = false) {κ : Kp} {h : Nat → Nat} {bd : Nat} {x : Cg} {z : G} (hb : 20 ≤ bd ∧ bd ≤ 2000) (I : INV bd x z) : Stq l κ h bd x z yX5_idleShare cX5_idleShare 4 (some FieldType.float) yX6_idleShare cX6_idleShare 2 [] rf4 [EIS] (fun v => Jvm.FP.Core.val32 v ≠ .nan) := by
  obtain ⟨n, m, L, kb, sm, T, ff, B, e1, e2, s, sT, rb, sr, mT, mr, hh, sl, tx, rfl, I1, I2, I3⟩ := I
  obtain ⟨c, c1, hW⟩ := id I1.1.1
  exact ⟨_, _, _, _, _, _, _, ⟨by decide, by decide, by decide, by decide⟩, (c_X5_idleShare hl hW), (c_X6_idleShare hl I2.1 hW), fun e u hp => thN.mem (thU hp.1), (JN_read I1 I2 I3 (fun e ht => thU ht)), (fun v u hp => by rw [hp.1.2]; exact isV_n)⟩
set_option maxHeartbeats 800000 in
theorem s_event {l : Launch} (hl : l.stackTraces = false) {κ : Kp} {h : Nat → Nat} {bd : Nat} {x : Cg} {z : G} (hb : 20 ≤ bd ∧ bd ≤ 2000) (I : INV bd x z) (k : Int32) (w : Int32) : Stq l κ h bd x z yX5_event cX5_event 3 (some FieldType.int) yX6_event cX6_event 3 [.int k, .int w] ri [EIS, EIO, EIA] (fun _ => True) := by
  obtain ⟨n, m, L, kb, sm, T, ff, B, e1, e2, s, sT, rb, sr, mT, mr, hh, sl, tx, rfl, I1, I2, I3⟩ := I
  obtain ⟨c, c1, hW⟩ := id I1.1.1
  exact ⟨_, _, _, _, _, _, _, ⟨by decide, by decide, by decide, by decide⟩, (c_X5_event hl hW), (c_X6_event hl I2.1 hW), fun e u hp => thN.mem (th3 hp.1), (JN_read I1 I2 I3 (fun e ht => th3 ht)), (fun _ _ _ => trivial)⟩
set_option maxHeartbeats 800000 in
theorem s_writeDebts {l : Launch} (hl : l.stackTraces = false) {κ : Kp} {h : Nat → Nat} {bd : Nat} {x : Cg} {z : G} (hb : 20 ≤ bd ∧ bd ≤ 2000) (I : INV bd x z) : Stq l κ h bd x z yX5_writeDebts cX5_writeDebts 3 (some FieldType.int) yX6_writeDebts cX6_writeDebts 2 [] ri [EIS] (fun _ => True) := by
  obtain ⟨n, m, L, kb, sm, T, ff, B, e1, e2, s, sT, rb, sr, mT, mr, hh, sl, tx, rfl, I1, I2, I3⟩ := I
  obtain ⟨c, c1, hW⟩ := id I1.1.1
  exact ⟨_, _, _, _, _, _, _, ⟨by decide, by decide, by decide, by decide⟩, (c_X5_writeDebts hl hW), (c_X6_writeDebts hl I2.1 hW), fun e u hp => thN.mem (thU hp.1), (JN_tx I1 I2 I3 (fun e ht => thU ht) (fun e ht => ThU.ne ht) (fun h0 => by obtain ⟨z1, -⟩ := cd0 (by decide) h0; exact dbsT_len (hW.2.2 (dn0 z1)).1)), (fun _ _ _ => trivial)⟩
set_option maxHeartbeats 800000 in
theorem s_writeChain {l : Launch} (hl : l.stackTraces = false) {κ : Kp} {h : Nat → Nat} {bd : Nat} {x : Cg} {z : G} (hb : 20 ≤ bd ∧ bd ≤ 2000) (I : INV bd x z) (p : Int32) : Stq l κ h bd x z yX5_writeChain cX5_writeChain 5 (some FieldType.int) yX6_writeChain cX6_writeChain 3 [.int p] ri [EIS, EIO] (fun _ => True) := by
  obtain ⟨n, m, L, kb, sm, T, ff, B, e1, e2, s, sT, rb, sr, mT, mr, hh, sl, tx, rfl, I1, I2, I3⟩ := I
  obtain ⟨c, c1, hW⟩ := id I1.1.1
  exact ⟨_, _, _, _, _, _, _, ⟨by decide, by decide, by decide, by decide⟩, (c_X5_writeChain hl hW), (c_X6_writeChain hl I2.1 hW), fun e u hp => thN.mem (th3s (cdL_lt (by decide) (fun p hp => by simp only [List.mem_cons, List.not_mem_nil, or_false] at hp; rcases hp with rfl | rfl <;> exact Nat.le_of_ble_eq_true rfl)) hp.1), (JN_tx I1 I2 I3 (fun e ht => th3s (cdL_lt (by decide) (fun p hp => by simp only [List.mem_cons, List.not_mem_nil, or_false] at hp; rcases hp with rfl | rfl <;> exact Nat.le_of_ble_eq_true rfl)) ht) (fun e ht => Th3.ne ht) (fun h0 => by obtain ⟨z1, h0⟩ := cd0 (by decide) h0; obtain ⟨z2, -⟩ := cd0 (by decide) h0; exact chnT_len (hW.2.2 (dn0 z1)).1 (pl_tN z2 hW.1))), (fun _ _ _ => trivial)⟩
set_option maxHeartbeats 800000 in
theorem s_copy {l : Launch} (hl : l.stackTraces = false) {κ : Kp} {h : Nat → Nat} {bd : Nat} {x : Cg} {z : G} (hb : 20 ≤ bd ∧ bd ≤ 2000) (I : INV bd x z) (f : Int32) (t : Int32) (k : Int32) : Stq l κ h bd x z yX5_copy cX5_copy 4 (some FieldType.int) yX6_copy cX6_copy 4 [.int f, .int t, .int k] ri [EIS, EIA] (fun _ => True) := by
  obtain ⟨n, m, L, kb, sm, T, ff, B, e1, e2, s, sT, rb, sr, mT, mr, hh, sl, tx, rfl, I1, I2, I3⟩ := I
  obtain ⟨c, c1, hW⟩ := id I1.1.1
  exact ⟨_, _, _, _, _, _, _, ⟨by decide, by decide, by decide, by decide⟩, (c_X5_copy hl hW I1.2.1.1), (c_X6_copy hl I2.1 hW I2.2.2.1), fun e u hp => thN.mem (thA hp.1), (JN_mu I1 I2 I3 (fun e ht => thA ht) (fun e ht => ThA.ne ht) (fun _ => rfl) (fun h0 => hM_copy hW c1 h0)), (fun _ _ _ => trivial)⟩
set_option maxHeartbeats 800000 in
theorem s_write {l : Launch} (hl : l.stackTraces = false) {κ : Kp} {h : Nat → Nat} {bd : Nat} {x : Cg} {z : G} (hb : 20 ≤ bd ∧ bd ≤ 2000) (I : INV bd x z) (p : Int32) (v : Int32) : Stq l κ h bd x z yX5_write cX5_write 3 (some FieldType.int) yX6_write cX6_write 3 [.int p, .int v] ri [EIS, EIO, EIA] (fun _ => True) := by
  obtain ⟨n, m, L, kb, sm, T, ff, B, e1, e2, s, sT, rb, sr, mT, mr, hh, sl, tx, rfl, I1, I2, I3⟩ := I
  obtain ⟨c, c1, hW⟩ := id I1.1.1
  exact ⟨_, _, _, _, _, _, _, ⟨by decide, by decide, by decide, by decide⟩, (c_X5_write hl hW I1.2.1.1), (c_X6_write hl I2.1 hW I2.2.2.1), fun e u hp => thN.mem (th3 hp.1), (JN_mu I1 I2 I3 (fun e ht => th3 ht) (fun e ht => Th3.ne ht) (fun _ => rfl) (fun h0 => hM_write hW c1 h0)), (fun _ _ _ => trivial)⟩
set_option maxHeartbeats 800000 in
theorem s_fill {l : Launch} (hl : l.stackTraces = false) {κ : Kp} {h : Nat → Nat} {bd : Nat} {x : Cg} {z : G} (hb : 20 ≤ bd ∧ bd ≤ 2000) (I : INV bd x z) (a : Int32) (b : Int32) (v : Int32) : Stq l κ h bd x z yX5_fill cX5_fill 4 (some FieldType.int) yX6_fill cX6_fill 4 [.int a, .int b, .int v] ri [EIS, EIO, EIA] (fun _ => True) := by
  obtain ⟨n, m, L, kb, sm, T, ff, B, e1, e2, s, sT, rb, sr, mT, mr, hh, sl, tx, rfl, I1, I2, I3⟩ := I
  obtain ⟨c, c1, hW⟩ := id I1.1.1
  exact ⟨_, _, _, _, _, _, _, ⟨by decide, by decide, by decide, by decide⟩, (c_X5_fill hl hW I1.2.1.1), (c_X6_fill hl I2.1 hW I2.2.2.1), fun e u hp => thN.mem (th3 hp.1), (JN_mu I1 I2 I3 (fun e ht => th3 ht) (fun e ht => Th3.ne ht) (fun _ => rfl) (fun h0 => hM_fill hW c1 h0)), (fun _ _ _ => trivial)⟩
set_option maxHeartbeats 800000 in
theorem s_exchange {l : Launch} (hl : l.stackTraces = false) {κ : Kp} {h : Nat → Nat} {bd : Nat} {x : Cg} {z : G} (hb : 20 ≤ bd ∧ bd ≤ 2000) (I : INV bd x z) (a : Int32) (b : Int32) : Stq l κ h bd x z yX5_exchange cX5_exchange 3 (some FieldType.int) yX6_exchange cX6_exchange 3 [.int a, .int b] ri [EIS, EIO, EIA] (fun _ => True) := by
  obtain ⟨n, m, L, kb, sm, T, ff, B, e1, e2, s, sT, rb, sr, mT, mr, hh, sl, tx, rfl, I1, I2, I3⟩ := I
  obtain ⟨c, c1, hW⟩ := id I1.1.1
  exact ⟨_, _, _, _, _, _, _, ⟨by decide, by decide, by decide, by decide⟩, (c_X5_exchange hl hW I1.2.1.1), (c_X6_exchange hl I2.1 hW I2.2.2.1), fun e u hp => thN.mem (th3 hp.1), (JN_mu I1 I2 I3 (fun e ht => th3 ht) (fun e ht => Th3.ne ht) (fun _ => rfl) (fun h0 => hM_swap hW c1 h0)), (fun _ _ _ => trivial)⟩
set_option maxHeartbeats 800000 in
theorem s_move {l : Launch} (hl : l.stackTraces = false) {κ : Kp} {h : Nat → Nat} {bd : Nat} {x : Cg} {z : G} (hb : 20 ≤ bd ∧ bd ≤ 2000) (I : INV bd x z) (f : Int32) (t : Int32) (k : Int32) : Stq l κ h bd x z yX5_move cX5_move 8 (some FieldType.int) yX6_move cX6_move 7 [.int f, .int t, .int k] ri [EIS, EIA] (fun _ => True) := by
  obtain ⟨n, m, L, kb, sm, T, ff, B, e1, e2, s, sT, rb, sr, mT, mr, hh, sl, tx, rfl, I1, I2, I3⟩ := I
  obtain ⟨c, c1, hW⟩ := id I1.1.1
  exact ⟨_, _, _, _, _, _, _, ⟨by decide, by decide, by decide, by decide⟩, (c_X5_move hl hW I1.2.1.1), (c_X6_move hl I2.1 hW I2.2.2.1), fun e u hp => thN.mem (thA hp.1), (JN_mu I1 I2 I3 (fun e ht => thA ht) (fun e ht => ThA.ne ht) (fun _ => rfl) (fun h0 => hM_move hW c1 h0)), (fun _ _ _ => trivial)⟩
set_option maxHeartbeats 800000 in
theorem s_fetch {l : Launch} (hl : l.stackTraces = false) {κ : Kp} {h : Nat → Nat} {bd : Nat} {x : Cg} {z : G} (hb : 20 ≤ bd ∧ bd ≤ 2000) (I : INV bd x z) (p : Int32) : Stq l κ h bd x z yX5_fetch cX5_fetch 2 (some FieldType.int) yX6_fetch cX6_fetch 3 [.int p] ri [EIS, EIO] (fun _ => True) := by
  obtain ⟨n, m, L, kb, sm, T, ff, B, e1, e2, s, sT, rb, sr, mT, mr, hh, sl, tx, rfl, I1, I2, I3⟩ := I
  obtain ⟨c, c1, hW⟩ := id I1.1.1
  exact ⟨_, _, _, _, _, _, _, ⟨by decide, by decide, by decide, by decide⟩, (c_X5_fetch hl hW I1.2.1.1), (c_X6_fetch hl I2.1 hW I2.2.2.1), fun e u hp => thN.mem (th3s (cdL_lt (by decide) (fun p hp => by simp only [List.mem_cons, List.not_mem_nil, or_false] at hp; rcases hp with rfl | rfl <;> exact Nat.le_of_ble_eq_true rfl)) hp.1), (JN_mu I1 I2 I3 (fun e ht => th3s (cdL_lt (by decide) (fun p hp => by simp only [List.mem_cons, List.not_mem_nil, or_false] at hp; rcases hp with rfl | rfl <;> exact Nat.le_of_ble_eq_true rfl)) ht) (fun e ht => Th3.ne ht) (fun h0 => hV_fetch hW h0) (fun h0 => hM_fetch hW c1 h0)), (fun _ _ _ => trivial)⟩
set_option maxHeartbeats 800000 in
theorem s_tick {l : Launch} (hl : l.stackTraces = false) {κ : Kp} {h : Nat → Nat} {bd : Nat} {x : Cg} {z : G} (hb : 20 ≤ bd ∧ bd ≤ 2000) (I : INV bd x z) (t : Int32) : Stq l κ h bd x z yX5_tick cX5_tick 2 (some FieldType.int) yX6_tick cX6_tick 2 [.int t] ri [EIS, EIA] (fun _ => True) := by
  obtain ⟨n, m, L, kb, sm, T, ff, B, e1, e2, s, sT, rb, sr, mT, mr, hh, sl, tx, rfl, I1, I2, I3⟩ := I
  obtain ⟨c, c1, hW⟩ := id I1.1.1
  exact ⟨_, _, _, _, _, _, _, ⟨by decide, by decide, by decide, by decide⟩, (c_X5_tick hl hW I1.2.1.1), (c_X6_tick hl I2.1 hW I2.2.2.1), fun e u hp => thN.mem (thA hp.1), (JN_mu I1 I2 I3 (fun e ht => thA ht) (fun e ht => ThA.ne ht) (fun _ => rfl) (fun h0 => hM_tick hW c1 h0)), (fun _ _ _ => trivial)⟩
set_option maxHeartbeats 800000 in
theorem s_payRange {l : Launch} (hl : l.stackTraces = false) {κ : Kp} {h : Nat → Nat} {bd : Nat} {x : Cg} {z : G} (hb : 20 ≤ bd ∧ bd ≤ 2000) (I : INV bd x z) (a : Int32) (b : Int32) : Stq l κ h bd x z yX5_payRange cX5_payRange 3 (some FieldType.int) yX6_payRange cX6_payRange 5 [.int a, .int b] ri [EIS, EIO, EIA] (fun _ => True) := by
  obtain ⟨n, m, L, kb, sm, T, ff, B, e1, e2, s, sT, rb, sr, mT, mr, hh, sl, tx, rfl, I1, I2, I3⟩ := I
  obtain ⟨c, c1, hW⟩ := id I1.1.1
  exact ⟨_, _, _, _, _, _, _, ⟨by decide, by decide, by decide, by decide⟩, (c_X5_payRange hl hW I1.2.1.1), (c_X6_payRange hl I2.1 hW I2.2.2.1), fun e u hp => thN.mem (th3 hp.1), (JN_mu I1 I2 I3 (fun e ht => th3 ht) (fun e ht => Th3.ne ht) (fun _ => rfl) (fun h0 => hM_row hW c1 h0)), (fun _ _ _ => trivial)⟩
set_option maxHeartbeats 800000 in
theorem s_shorten {l : Launch} (hl : l.stackTraces = false) {κ : Kp} {h : Nat → Nat} {bd : Nat} {x : Cg} {z : G} (hb : 20 ≤ bd ∧ bd ≤ 2000) (I : INV bd x z) (p : Int32) : Stq l κ h bd x z yX5_shorten cX5_shorten 3 (some FieldType.int) yX6_shorten cX6_shorten 3 [.int p] ri [EIS, EIO, EIA] (fun _ => True) := by
  obtain ⟨n, m, L, kb, sm, T, ff, B, e1, e2, s, sT, rb, sr, mT, mr, hh, sl, tx, rfl, I1, I2, I3⟩ := I
  obtain ⟨c, c1, hW⟩ := id I1.1.1
  exact ⟨_, _, _, _, _, _, _, ⟨by decide, by decide, by decide, by decide⟩, (c_X5_shorten hl hW I1.2.1.1), (c_X6_shorten hl I2.1 hW I2.2.2.1), fun e u hp => thN.mem (th3 hp.1), (JN_mu I1 I2 I3 (fun e ht => th3 ht) (fun e ht => Th3.ne ht) (fun _ => rfl) (fun h0 => hM_short hW c1 h0)), (fun _ _ _ => trivial)⟩
set_option maxHeartbeats 800000 in
theorem s_setLock {l : Launch} (hl : l.stackTraces = false) {κ : Kp} {h : Nat → Nat} {bd : Nat} {x : Cg} {z : G} (hb : 20 ≤ bd ∧ bd ≤ 2000) (I : INV bd x z) (p : Int32) (al : Bool) : Stq l κ h bd x z yX5_setLock cX5_setLock 3 (some FieldType.int) yX6_setLock cX6_setLock 3 [.int p, .int (bI al)] ri [EIS, EIO] (fun _ => True) := by
  obtain ⟨n, m, L, kb, sm, T, ff, B, e1, e2, s, sT, rb, sr, mT, mr, hh, sl, tx, rfl, I1, I2, I3⟩ := I
  obtain ⟨c, c1, hW⟩ := id I1.1.1
  exact ⟨_, _, _, _, _, _, _, ⟨by decide, by decide, by decide, by decide⟩, (c_X5_setLock hl hW I1.2.1.1), (c_X6_setLock hl I2.1 hW I2.2.2.1), fun e u hp => thN.mem (th3s (cdL_lt (by decide) (fun p hp => by simp only [List.mem_cons, List.not_mem_nil, or_false] at hp; rcases hp with rfl | rfl <;> exact Nat.le_of_ble_eq_true rfl)) hp.1), (JN_mu I1 I2 I3 (fun e ht => th3s (cdL_lt (by decide) (fun p hp => by simp only [List.mem_cons, List.not_mem_nil, or_false] at hp; rcases hp with rfl | rfl <;> exact Nat.le_of_ble_eq_true rfl)) ht) (fun e ht => Th3.ne ht) (fun _ => rfl) (fun h0 => hM_lock hW c1 h0)), (fun _ _ _ => trivial)⟩
set_option maxHeartbeats 800000 in
theorem s_setSetting {l : Launch} (hl : l.stackTraces = false) {κ : Kp} {h : Nat → Nat} {bd : Nat} {x : Cg} {z : G} (hb : 20 ≤ bd ∧ bd ≤ 2000) (I : INV bd x z) (w : Int32) (v : Int32) : Stq l κ h bd x z yX5_setSetting cX5_setSetting 4 (some FieldType.int) yX6_setSetting cX6_setSetting 4 [.int w, .int v] ri [EIS, EIA] (fun _ => True) := by
  obtain ⟨n, m, L, kb, sm, T, ff, B, e1, e2, s, sT, rb, sr, mT, mr, hh, sl, tx, rfl, I1, I2, I3⟩ := I
  obtain ⟨c, c1, hW⟩ := id I1.1.1
  exact ⟨_, _, _, _, _, _, _, ⟨by decide, by decide, by decide, by decide⟩, (c_X5_setSetting hl hW I1.2.1.1), (c_X6_setSetting hl I2.1 hW I2.2.2.1), fun e u hp => thN.mem (thA hp.1), (JN_mu I1 I2 I3 (fun e ht => thA ht) (fun e ht => ThA.ne ht) (fun _ => rfl) (fun h0 => hM_set hW c1 h0)), (fun _ _ _ => trivial)⟩

theorem TT_t {w : Cond} (i : Nat) (h : tables_1[i]? = some w) (hg : goodWord w = true) : w ∈ TT := List.mem_filter.mpr ⟨List.mem_append_right _ (List.mem_of_getElem? h), hg⟩
theorem TT_p {w : Cond} (i : Nat) (h : (k2_sels lw_privs)[i]? = some w) (hg : goodWord w = true) : w ∈ TT := List.mem_filter.mpr ⟨List.mem_append_left _ (List.mem_of_getElem? h), hg⟩
theorem TD_t {w : Cond} (i : Nat) (h : tables_1[i]? = some w) (hg : isD w = true) : w ∈ TD := List.mem_filter.mpr ⟨List.mem_append_right _ (List.mem_of_getElem? h), hg⟩
theorem inTX0 : ∀ w ∈ u_ws RX0 TX0 4, w ∈ TT := by
  have h : ∀ k, k < 4 → u_lay RX0 TX0 k ∈ TT := by
    intro k hk
    match k, hk with
    | 0, _ => exact TT_t 103 (by decide +kernel) (by decide +kernel)
    | 1, _ => exact TT_t 105 (by decide +kernel) (by decide +kernel)
    | 2, _ => exact TT_t 107 (by decide +kernel) (by decide +kernel)
    | 3, _ => exact TT_t 109 (by decide +kernel) (by decide +kernel)
    | k + 4, hk => exact absurd hk (by omega)
  intro w hw
  obtain ⟨k, hk, rfl⟩ := List.mem_map.mp hw
  exact h k (List.mem_range.mp hk)
theorem inTX1 : ∀ w ∈ u_ws RX1 TX1 3, w ∈ TT := by
  have h : ∀ k, k < 3 → u_lay RX1 TX1 k ∈ TT := by
    intro k hk
    match k, hk with
    | 0, _ => exact TT_t 180 (by decide +kernel) (by decide +kernel)
    | 1, _ => exact TT_t 182 (by decide +kernel) (by decide +kernel)
    | 2, _ => exact TT_t 184 (by decide +kernel) (by decide +kernel)
    | k + 3, hk => exact absurd hk (by omega)
  intro w hw
  obtain ⟨k, hk, rfl⟩ := List.mem_map.mp hw
  exact h k (List.mem_range.mp hk)
theorem inTX2 : ∀ w ∈ u_ws RX2 TX2 9, w ∈ TT := by
  have h : ∀ k, k < 9 → u_lay RX2 TX2 k ∈ TT := by
    intro k hk
    match k, hk with
    | 0, _ => exact TT_t 76 (by decide +kernel) (by decide +kernel)
    | 1, _ => exact TT_t 78 (by decide +kernel) (by decide +kernel)
    | 2, _ => exact TT_t 80 (by decide +kernel) (by decide +kernel)
    | 3, _ => exact TT_t 82 (by decide +kernel) (by decide +kernel)
    | 4, _ => exact TT_t 84 (by decide +kernel) (by decide +kernel)
    | 5, _ => exact TT_t 86 (by decide +kernel) (by decide +kernel)
    | 6, _ => exact TT_t 88 (by decide +kernel) (by decide +kernel)
    | 7, _ => exact TT_t 90 (by decide +kernel) (by decide +kernel)
    | 8, _ => exact TT_t 92 (by decide +kernel) (by decide +kernel)
    | k + 9, hk => exact absurd hk (by omega)
  intro w hw
  obtain ⟨k, hk, rfl⟩ := List.mem_map.mp hw
  exact h k (List.mem_range.mp hk)
theorem inTX3 : ∀ w ∈ u_ws RX3 TX3 14, w ∈ TT := by
  have h : ∀ k, k < 14 → u_lay RX3 TX3 k ∈ TT := by
    intro k hk
    match k, hk with
    | 0, _ => exact TT_t 138 (by decide +kernel) (by decide +kernel)
    | 1, _ => exact TT_t 140 (by decide +kernel) (by decide +kernel)
    | 2, _ => exact TT_t 142 (by decide +kernel) (by decide +kernel)
    | 3, _ => exact TT_t 144 (by decide +kernel) (by decide +kernel)
    | 4, _ => exact TT_t 146 (by decide +kernel) (by decide +kernel)
    | 5, _ => exact TT_t 148 (by decide +kernel) (by decide +kernel)
    | 6, _ => exact TT_t 150 (by decide +kernel) (by decide +kernel)
    | 7, _ => exact TT_t 152 (by decide +kernel) (by decide +kernel)
    | 8, _ => exact TT_t 154 (by decide +kernel) (by decide +kernel)
    | 9, _ => exact TT_t 156 (by decide +kernel) (by decide +kernel)
    | 10, _ => exact TT_t 158 (by decide +kernel) (by decide +kernel)
    | 11, _ => exact TT_t 160 (by decide +kernel) (by decide +kernel)
    | 12, _ => exact TT_t 162 (by decide +kernel) (by decide +kernel)
    | 13, _ => exact TT_t 164 (by decide +kernel) (by decide +kernel)
    | k + 14, hk => exact absurd hk (by omega)
  intro w hw
  obtain ⟨k, hk, rfl⟩ := List.mem_map.mp hw
  exact h k (List.mem_range.mp hk)
theorem inTX4 : ∀ w ∈ u_ws RX4 TX4 2, w ∈ TT := by
  have h : ∀ k, k < 2 → u_lay RX4 TX4 k ∈ TT := by
    intro k hk
    match k, hk with
    | 0, _ => exact TT_t 198 (by decide +kernel) (by decide +kernel)
    | 1, _ => exact TT_t 200 (by decide +kernel) (by decide +kernel)
    | k + 2, hk => exact absurd hk (by omega)
  intro w hw
  obtain ⟨k, hk, rfl⟩ := List.mem_map.mp hw
  exact h k (List.mem_range.mp hk)
theorem inTX5 : ∀ w ∈ u_ws RX5 TX5 6, w ∈ TT := by
  have h : ∀ k, k < 6 → u_lay RX5 TX5 k ∈ TT := by
    intro k hk
    match k, hk with
    | 0, _ => exact TT_t 210 (by decide +kernel) (by decide +kernel)
    | 1, _ => exact TT_t 212 (by decide +kernel) (by decide +kernel)
    | 2, _ => exact TT_t 214 (by decide +kernel) (by decide +kernel)
    | 3, _ => exact TT_t 216 (by decide +kernel) (by decide +kernel)
    | 4, _ => exact TT_t 218 (by decide +kernel) (by decide +kernel)
    | 5, _ => exact TT_t 220 (by decide +kernel) (by decide +kernel)
    | k + 6, hk => exact absurd hk (by omega)
  intro w hw
  obtain ⟨k, hk, rfl⟩ := List.mem_map.mp hw
  exact h k (List.mem_range.mp hk)
theorem inTX6 : ∀ w ∈ u_ws RX6 TX6 2, w ∈ TT := by
  have h : ∀ k, k < 2 → u_lay RX6 TX6 k ∈ TT := by
    intro k hk
    match k, hk with
    | 0, _ => exact TT_t 251 (by decide +kernel) (by decide +kernel)
    | 1, _ => exact TT_t 253 (by decide +kernel) (by decide +kernel)
    | k + 2, hk => exact absurd hk (by omega)
  intro w hw
  obtain ⟨k, hk, rfl⟩ := List.mem_map.mp hw
  exact h k (List.mem_range.mp hk)
theorem inTX7 : ∀ w ∈ u_ws RX7 TX7 7, w ∈ TT := by
  have h : ∀ k, k < 7 → u_lay RX7 TX7 k ∈ TT := by
    intro k hk
    match k, hk with
    | 0, _ => exact TT_t 596 (by decide +kernel) (by decide +kernel)
    | 1, _ => exact TT_t 598 (by decide +kernel) (by decide +kernel)
    | 2, _ => exact TT_t 600 (by decide +kernel) (by decide +kernel)
    | 3, _ => exact TT_t 602 (by decide +kernel) (by decide +kernel)
    | 4, _ => exact TT_t 604 (by decide +kernel) (by decide +kernel)
    | 5, _ => exact TT_t 606 (by decide +kernel) (by decide +kernel)
    | 6, _ => exact TT_t 608 (by decide +kernel) (by decide +kernel)
    | k + 7, hk => exact absurd hk (by omega)
  intro w hw
  obtain ⟨k, hk, rfl⟩ := List.mem_map.mp hw
  exact h k (List.mem_range.mp hk)
theorem inTX8 : ∀ w ∈ u_ws RX8 TX8 5, w ∈ TT := by
  have h : ∀ k, k < 5 → u_lay RX8 TX8 k ∈ TT := by
    intro k hk
    match k, hk with
    | 0, _ => exact TT_t 450 (by decide +kernel) (by decide +kernel)
    | 1, _ => exact TT_t 452 (by decide +kernel) (by decide +kernel)
    | 2, _ => exact TT_t 454 (by decide +kernel) (by decide +kernel)
    | 3, _ => exact TT_t 456 (by decide +kernel) (by decide +kernel)
    | 4, _ => exact TT_t 458 (by decide +kernel) (by decide +kernel)
    | k + 5, hk => exact absurd hk (by omega)
  intro w hw
  obtain ⟨k, hk, rfl⟩ := List.mem_map.mp hw
  exact h k (List.mem_range.mp hk)
theorem inTJ0 : ∀ w ∈ u_ws RJ0 TJ0 4, w ∈ TT := by
  have h : ∀ k, k < 4 → u_lay RJ0 TJ0 k ∈ TT := by
    intro k hk
    match k, hk with
    | 0, _ => exact TT_t 1472 (by decide +kernel) (by decide +kernel)
    | 1, _ => exact TT_t 1474 (by decide +kernel) (by decide +kernel)
    | 2, _ => exact TT_t 1476 (by decide +kernel) (by decide +kernel)
    | 3, _ => exact TT_t 1478 (by decide +kernel) (by decide +kernel)
    | k + 4, hk => exact absurd hk (by omega)
  intro w hw
  obtain ⟨k, hk, rfl⟩ := List.mem_map.mp hw
  exact h k (List.mem_range.mp hk)
theorem inTJ4 : ∀ w ∈ u_ws RJ4 TJ4 4, w ∈ TT := by
  have h : ∀ k, k < 4 → u_lay RJ4 TJ4 k ∈ TT := by
    intro k hk
    match k, hk with
    | 0, _ => exact TT_t 417 (by decide +kernel) (by decide +kernel)
    | 1, _ => exact TT_t 419 (by decide +kernel) (by decide +kernel)
    | 2, _ => exact TT_t 421 (by decide +kernel) (by decide +kernel)
    | 3, _ => exact TT_t 423 (by decide +kernel) (by decide +kernel)
    | k + 4, hk => exact absurd hk (by omega)
  intro w hw
  obtain ⟨k, hk, rfl⟩ := List.mem_map.mp hw
  exact h k (List.mem_range.mp hk)
theorem fl_X2_9 : FL RX2 9 2 0 := ⟨(RX2, TX2, 9), rfl, inTX2, by decide, TT_t 48 (by decide +kernel) (by decide +kernel), trivial⟩
theorem fl_X0_51 : FL RX0 51 2 0 := ⟨(RX2, TX2, 9), rfl, inTX2, by decide, TT_t 49 (by decide +kernel) (by decide +kernel), trivial⟩
theorem fl_X5_114 : FL RX5 114 2 0 := ⟨(RX2, TX2, 9), rfl, inTX2, by decide, TT_t 50 (by decide +kernel) (by decide +kernel), trivial⟩
theorem fl_X3_150 : FL RX3 150 2 0 := ⟨(RX2, TX2, 9), rfl, inTX2, by decide, TT_t 51 (by decide +kernel) (by decide +kernel), trivial⟩
theorem fl_X2_15 : FL RX2 15 2 1 := ⟨(RX2, TX2, 9), rfl, inTX2, by decide, TT_t 52 (by decide +kernel) (by decide +kernel), trivial⟩
theorem fl_X0_67 : FL RX0 67 2 1 := ⟨(RX2, TX2, 9), rfl, inTX2, by decide, TT_t 53 (by decide +kernel) (by decide +kernel), trivial⟩
theorem fl_X5_121 : FL RX5 121 2 1 := ⟨(RX2, TX2, 9), rfl, inTX2, by decide, TT_t 54 (by decide +kernel) (by decide +kernel), trivial⟩
theorem fl_X2_18 : FL RX2 18 2 2 := ⟨(RX2, TX2, 9), rfl, inTX2, by decide, TT_t 55 (by decide +kernel) (by decide +kernel), trivial⟩
theorem fl_X0_73 : FL RX0 73 2 2 := ⟨(RX2, TX2, 9), rfl, inTX2, by decide, TT_t 56 (by decide +kernel) (by decide +kernel), trivial⟩
theorem fl_X5_124 : FL RX5 124 2 2 := ⟨(RX2, TX2, 9), rfl, inTX2, by decide, TT_t 57 (by decide +kernel) (by decide +kernel), trivial⟩
theorem fl_X2_21 : FL RX2 21 2 3 := ⟨(RX2, TX2, 9), rfl, inTX2, by decide, TT_t 58 (by decide +kernel) (by decide +kernel), trivial⟩
theorem fl_X0_100 : FL RX0 100 2 3 := ⟨(RX2, TX2, 9), rfl, inTX2, by decide, TT_t 59 (by decide +kernel) (by decide +kernel), trivial⟩
theorem fl_X5_133 : FL RX5 133 2 3 := ⟨(RX2, TX2, 9), rfl, inTX2, by decide, TT_t 60 (by decide +kernel) (by decide +kernel), trivial⟩
theorem fl_X2_25 : FL RX2 25 2 4 := ⟨(RX2, TX2, 9), rfl, inTX2, by decide, TT_t 61 (by decide +kernel) (by decide +kernel), trivial⟩
theorem fl_X0_64 : FL RX0 64 2 4 := ⟨(RX2, TX2, 9), rfl, inTX2, by decide, TT_t 62 (by decide +kernel) (by decide +kernel), trivial⟩
theorem fl_X3_124 : FL RX3 124 2 4 := ⟨(RX2, TX2, 9), rfl, inTX2, by decide, TT_t 63 (by decide +kernel) (by decide +kernel), trivial⟩
theorem fl_X5_107 : FL RX5 107 2 4 := ⟨(RX2, TX2, 9), rfl, inTX2, by decide, TT_t 64 (by decide +kernel) (by decide +kernel), trivial⟩
theorem fl_X2_28 : FL RX2 28 2 5 := ⟨(RX2, TX2, 9), rfl, inTX2, by decide, TT_t 65 (by decide +kernel) (by decide +kernel), trivial⟩
theorem fl_X0_29 : FL RX0 29 2 5 := ⟨(RX2, TX2, 9), rfl, inTX2, by decide, TT_t 66 (by decide +kernel) (by decide +kernel), trivial⟩
theorem fl_X5_226 : FL RX5 226 2 5 := ⟨(RX2, TX2, 9), rfl, inTX2, by decide, TT_t 67 (by decide +kernel) (by decide +kernel), trivial⟩
theorem fl_X2_31 : FL RX2 31 2 6 := ⟨(RX2, TX2, 9), rfl, inTX2, by decide, TT_t 68 (by decide +kernel) (by decide +kernel), trivial⟩
theorem fl_X5_234 : FL RX5 234 2 6 := ⟨(RX2, TX2, 9), rfl, inTX2, by decide, TT_t 69 (by decide +kernel) (by decide +kernel), trivial⟩
theorem fl_X2_40 : FL RX2 40 2 7 := ⟨(RX2, TX2, 9), rfl, inTX2, by decide, TT_t 70 (by decide +kernel) (by decide +kernel), trivial⟩
theorem fl_X5_91 : FL RX5 91 2 7 := ⟨(RX2, TX2, 9), rfl, inTX2, by decide, TT_t 71 (by decide +kernel) (by decide +kernel), trivial⟩
theorem fl_X3_121 : FL RX3 121 2 7 := ⟨(RX2, TX2, 9), rfl, inTX2, by decide, TT_t 72 (by decide +kernel) (by decide +kernel), trivial⟩
theorem fl_X0_107 : FL RX0 107 2 7 := ⟨(RX2, TX2, 9), rfl, inTX2, by decide, TT_t 73 (by decide +kernel) (by decide +kernel), trivial⟩
theorem fl_X2_44 : FL RX2 44 2 8 := ⟨(RX2, TX2, 9), rfl, inTX2, by decide, TT_t 74 (by decide +kernel) (by decide +kernel), trivial⟩
theorem fl_X5_229 : FL RX5 229 2 8 := ⟨(RX2, TX2, 9), rfl, inTX2, by decide, TT_t 75 (by decide +kernel) (by decide +kernel), trivial⟩
theorem fl_X0_12 : FL RX0 12 0 0 := ⟨(RX0, TX0, 4), rfl, inTX0, by decide, TT_t 97 (by decide +kernel) (by decide +kernel), trivial⟩
theorem fl_X5_74 : FL RX5 74 0 0 := ⟨(RX0, TX0, 4), rfl, inTX0, by decide, TT_t 98 (by decide +kernel) (by decide +kernel), trivial⟩
theorem fl_X3_107 : FL RX3 107 0 0 := ⟨(RX0, TX0, 4), rfl, inTX0, by decide, TT_t 99 (by decide +kernel) (by decide +kernel), trivial⟩
theorem fl_X0_18 : FL RX0 18 0 1 := ⟨(RX0, TX0, 4), rfl, inTX0, by decide, TT_t 100 (by decide +kernel) (by decide +kernel), trivial⟩
theorem fl_X0_22 : FL RX0 22 0 2 := ⟨(RX0, TX0, 4), rfl, inTX0, by decide, TT_t 101 (by decide +kernel) (by decide +kernel), trivial⟩
theorem fl_X0_26 : FL RX0 26 0 3 := ⟨(RX0, TX0, 4), rfl, inTX0, by decide, TT_t 102 (by decide +kernel) (by decide +kernel), trivial⟩
theorem fl_X3_12 : FL RX3 12 3 0 := ⟨(RX3, TX3, 14), rfl, inTX3, by decide, TT_t 120 (by decide +kernel) (by decide +kernel), trivial⟩
theorem fl_X5_78 : FL RX5 78 3 0 := ⟨(RX3, TX3, 14), rfl, inTX3, by decide, TT_t 121 (by decide +kernel) (by decide +kernel), trivial⟩
theorem fl_X3_18 : FL RX3 18 3 1 := ⟨(RX3, TX3, 14), rfl, inTX3, by decide, TT_t 122 (by decide +kernel) (by decide +kernel), trivial⟩
theorem fl_X3_26 : FL RX3 26 3 2 := ⟨(RX3, TX3, 14), rfl, inTX3, by decide, TT_t 123 (by decide +kernel) (by decide +kernel), trivial⟩
theorem fl_X5_55 : FL RX5 55 3 2 := ⟨(RX3, TX3, 14), rfl, inTX3, by decide, TT_t 124 (by decide +kernel) (by decide +kernel), trivial⟩
theorem fl_X5_94 : FL RX5 94 3 3 := ⟨(RX3, TX3, 14), rfl, inTX3, by decide, TT_t 125 (by decide +kernel) (by decide +kernel), trivial⟩
theorem fl_X3_40 : FL RX3 40 3 3 := ⟨(RX3, TX3, 14), rfl, inTX3, by decide, TT_t 126 (by decide +kernel) (by decide +kernel), trivial⟩
theorem fl_X3_22 : FL RX3 22 3 4 := ⟨(RX3, TX3, 14), rfl, inTX3, by decide, TT_t 127 (by decide +kernel) (by decide +kernel), trivial⟩
theorem fl_X5_97 : FL RX5 97 3 4 := ⟨(RX3, TX3, 14), rfl, inTX3, by decide, TT_t 128 (by decide +kernel) (by decide +kernel), trivial⟩
theorem fl_X3_89 : FL RX3 89 3 5 := ⟨(RX3, TX3, 14), rfl, inTX3, by decide, TT_t 129 (by decide +kernel) (by decide +kernel), trivial⟩
theorem fl_X3_43 : FL RX3 43 3 6 := ⟨(RX3, TX3, 14), rfl, inTX3, by decide, TT_t 130 (by decide +kernel) (by decide +kernel), trivial⟩
theorem fl_X3_170 : FL RX3 170 3 7 := ⟨(RX3, TX3, 14), rfl, inTX3, by decide, TT_t 131 (by decide +kernel) (by decide +kernel), trivial⟩
theorem fl_X3_92 : FL RX3 92 3 8 := ⟨(RX3, TX3, 14), rfl, inTX3, by decide, TT_t 132 (by decide +kernel) (by decide +kernel), trivial⟩
theorem fl_X3_136 : FL RX3 136 3 9 := ⟨(RX3, TX3, 14), rfl, inTX3, by decide, TT_t 133 (by decide +kernel) (by decide +kernel), trivial⟩
theorem fl_X3_95 : FL RX3 95 3 10 := ⟨(RX3, TX3, 14), rfl, inTX3, by decide, TT_t 134 (by decide +kernel) (by decide +kernel), trivial⟩
theorem fl_X3_98 : FL RX3 98 3 11 := ⟨(RX3, TX3, 14), rfl, inTX3, by decide, TT_t 135 (by decide +kernel) (by decide +kernel), trivial⟩
theorem fl_X3_101 : FL RX3 101 3 12 := ⟨(RX3, TX3, 14), rfl, inTX3, by decide, TT_t 136 (by decide +kernel) (by decide +kernel), trivial⟩
theorem fl_X3_104 : FL RX3 104 3 13 := ⟨(RX3, TX3, 14), rfl, inTX3, by decide, TT_t 137 (by decide +kernel) (by decide +kernel), trivial⟩
theorem fl_X1_11 : FL RX1 11 1 0 := ⟨(RX1, TX1, 3), rfl, inTX1, by decide, TT_t 176 (by decide +kernel) (by decide +kernel), trivial⟩
theorem fl_X1_22 : FL RX1 22 1 1 := ⟨(RX1, TX1, 3), rfl, inTX1, by decide, TT_t 177 (by decide +kernel) (by decide +kernel), trivial⟩
theorem fl_X1_18 : FL RX1 18 1 2 := ⟨(RX1, TX1, 3), rfl, inTX1, by decide, TT_t 178 (by decide +kernel) (by decide +kernel), trivial⟩
theorem fl_X5_294 : FL RX5 294 1 2 := ⟨(RX1, TX1, 3), rfl, inTX1, by decide, TT_t 179 (by decide +kernel) (by decide +kernel), trivial⟩
theorem fl_X4_9 : FL RX4 9 4 0 := ⟨(RX4, TX4, 2), rfl, inTX4, by decide, TT_t 194 (by decide +kernel) (by decide +kernel), trivial⟩
theorem fl_X5_252 : FL RX5 252 4 0 := ⟨(RX4, TX4, 2), rfl, inTX4, by decide, TT_t 195 (by decide +kernel) (by decide +kernel), trivial⟩
theorem fl_X4_15 : FL RX4 15 4 1 := ⟨(RX4, TX4, 2), rfl, inTX4, by decide, TT_t 196 (by decide +kernel) (by decide +kernel), trivial⟩
theorem fl_X5_241 : FL RX5 241 4 1 := ⟨(RX4, TX4, 2), rfl, inTX4, by decide, TT_t 197 (by decide +kernel) (by decide +kernel), trivial⟩
theorem fl_X5_10 : FL RX5 10 5 0 := ⟨(RX5, TX5, 6), rfl, inTX5, by decide, TT_t 204 (by decide +kernel) (by decide +kernel), trivial⟩
theorem fl_X5_16 : FL RX5 16 5 1 := ⟨(RX5, TX5, 6), rfl, inTX5, by decide, TT_t 205 (by decide +kernel) (by decide +kernel), trivial⟩
theorem fl_X5_22 : FL RX5 22 5 2 := ⟨(RX5, TX5, 6), rfl, inTX5, by decide, TT_t 206 (by decide +kernel) (by decide +kernel), trivial⟩
theorem fl_X5_29 : FL RX5 29 5 3 := ⟨(RX5, TX5, 6), rfl, inTX5, by decide, TT_t 207 (by decide +kernel) (by decide +kernel), trivial⟩
theorem fl_X5_35 : FL RX5 35 5 4 := ⟨(RX5, TX5, 6), rfl, inTX5, by decide, TT_t 208 (by decide +kernel) (by decide +kernel), trivial⟩
theorem fl_X5_42 : FL RX5 42 5 5 := ⟨(RX5, TX5, 6), rfl, inTX5, by decide, TT_t 209 (by decide +kernel) (by decide +kernel), trivial⟩
theorem fl_X6_7 : FL RX6 7 6 0 := ⟨(RX6, TX6, 2), rfl, inTX6, by decide, TT_t 249 (by decide +kernel) (by decide +kernel), trivial⟩
theorem fl_X6_13 : FL RX6 13 6 1 := ⟨(RX6, TX6, 2), rfl, inTX6, by decide, TT_t 250 (by decide +kernel) (by decide +kernel), trivial⟩
theorem fl_J5_15 : FL RJ5 15 10 0 := ⟨(RJ4, TJ4, 4), rfl, inTJ4, by decide, TT_t 413 (by decide +kernel) (by decide +kernel), trivial⟩
theorem fl_J5_22 : FL RJ5 22 10 1 := ⟨(RJ4, TJ4, 4), rfl, inTJ4, by decide, TT_t 414 (by decide +kernel) (by decide +kernel), trivial⟩
theorem fl_J0_1048 : FL RJ0 1048 10 2 := ⟨(RJ4, TJ4, 4), rfl, inTJ4, by decide, TT_t 415 (by decide +kernel) (by decide +kernel), trivial⟩
theorem fl_J5_79 : FL RJ5 79 10 3 := ⟨(RJ4, TJ4, 4), rfl, inTJ4, by decide, TT_t 416 (by decide +kernel) (by decide +kernel), trivial⟩
theorem fl_X8_13 : FL RX8 13 8 0 := ⟨(RX8, TX8, 5), rfl, inTX8, by decide, TT_t 436 (by decide +kernel) (by decide +kernel), trivial⟩
theorem fln_L_175 : FLN RL 175 8 0 := ⟨(RX8, TX8, 5), "CopyDebtsLaw", rfl, inTX8, by decide, TD_t 437 (by decide +kernel) rfl⟩
theorem fln_X7_124 : FLN RX7 124 8 0 := ⟨(RX8, TX8, 5), "CopyDebtsLaw", rfl, inTX8, by decide, TD_t 438 (by decide +kernel) rfl⟩
theorem fln_X7_65 : FLN RX7 65 8 1 := ⟨(RX8, TX8, 5), "CopyDebtsLaw", rfl, inTX8, by decide, TD_t 439 (by decide +kernel) rfl⟩
theorem fl_X8_28 : FL RX8 28 8 1 := ⟨(RX8, TX8, 5), rfl, inTX8, by decide, TT_t 440 (by decide +kernel) (by decide +kernel), trivial⟩
theorem fln_L_183 : FLN RL 183 8 1 := ⟨(RX8, TX8, 5), "CopyDebtsLaw", rfl, inTX8, by decide, TD_t 441 (by decide +kernel) rfl⟩
theorem fl_X8_7 : FL RX8 7 8 2 := ⟨(RX8, TX8, 5), rfl, inTX8, by decide, TT_t 442 (by decide +kernel) (by decide +kernel), trivial⟩
theorem fln_L_196 : FLN RL 196 8 2 := ⟨(RX8, TX8, 5), "CopyDebtsLaw", rfl, inTX8, by decide, TD_t 443 (by decide +kernel) rfl⟩
theorem fln_X7_121 : FLN RX7 121 8 2 := ⟨(RX8, TX8, 5), "CopyDebtsLaw", rfl, inTX8, by decide, TD_t 444 (by decide +kernel) rfl⟩
theorem fl_X8_16 : FL RX8 16 8 3 := ⟨(RX8, TX8, 5), rfl, inTX8, by decide, TT_t 445 (by decide +kernel) (by decide +kernel), trivial⟩
theorem fln_X7_109 : FLN RX7 109 8 3 := ⟨(RX8, TX8, 5), "CopyDebtsLaw", rfl, inTX8, by decide, TD_t 446 (by decide +kernel) rfl⟩
theorem fln_L_190 : FLN RL 190 8 3 := ⟨(RX8, TX8, 5), "CopyDebtsLaw", rfl, inTX8, by decide, TD_t 447 (by decide +kernel) rfl⟩
theorem fln_X7_80 : FLN RX7 80 8 4 := ⟨(RX8, TX8, 5), "CopyDebtsLaw", rfl, inTX8, by decide, TD_t 448 (by decide +kernel) rfl⟩
theorem fln_L_202 : FLN RL 202 8 4 := ⟨(RX8, TX8, 5), "CopyDebtsLaw", rfl, inTX8, by decide, TD_t 449 (by decide +kernel) rfl⟩
theorem fl_X7_14 : FL RX7 14 7 0 := ⟨(RX7, TX7, 7), rfl, inTX7, by decide, TT_t 582 (by decide +kernel) (by decide +kernel), trivial⟩
theorem fln_L_350 : FLN RL 350 7 0 := ⟨(RX7, TX7, 7), "CopyDebtsLaw", rfl, inTX7, by decide, TD_t 583 (by decide +kernel) rfl⟩
theorem fl_X7_40 : FL RX7 40 7 1 := ⟨(RX7, TX7, 7), rfl, inTX7, by decide, TT_t 584 (by decide +kernel) (by decide +kernel), trivial⟩
theorem fln_L_154 : FLN RL 154 7 1 := ⟨(RX7, TX7, 7), "CopyDebtsLaw", rfl, inTX7, by decide, TD_t 585 (by decide +kernel) rfl⟩
theorem fl_X7_20 : FL RX7 20 7 2 := ⟨(RX7, TX7, 7), rfl, inTX7, by decide, TT_t 586 (by decide +kernel) (by decide +kernel), trivial⟩
theorem fln_L_168 : FLN RL 168 7 2 := ⟨(RX7, TX7, 7), "CopyDebtsLaw", rfl, inTX7, by decide, TD_t 587 (by decide +kernel) rfl⟩
theorem fl_X7_24 : FL RX7 24 7 3 := ⟨(RX7, TX7, 7), rfl, inTX7, by decide, TT_t 588 (by decide +kernel) (by decide +kernel), trivial⟩
theorem fln_L_172 : FLN RL 172 7 3 := ⟨(RX7, TX7, 7), "CopyDebtsLaw", rfl, inTX7, by decide, TD_t 589 (by decide +kernel) rfl⟩
theorem fl_X7_28 : FL RX7 28 7 4 := ⟨(RX7, TX7, 7), rfl, inTX7, by decide, TT_t 590 (by decide +kernel) (by decide +kernel), trivial⟩
theorem fln_L_329 : FLN RL 329 7 4 := ⟨(RX7, TX7, 7), "CopyDebtsLaw", rfl, inTX7, by decide, TD_t 591 (by decide +kernel) rfl⟩
theorem fln_L_236 : FLN RL 236 7 5 := ⟨(RX7, TX7, 7), "CopyDebtsLaw", rfl, inTX7, by decide, TD_t 592 (by decide +kernel) rfl⟩
theorem fl_X7_133 : FL RX7 133 7 5 := ⟨(RX7, TX7, 7), rfl, inTX7, by decide, TT_t 593 (by decide +kernel) (by decide +kernel), trivial⟩
theorem fl_X7_136 : FL RX7 136 7 6 := ⟨(RX7, TX7, 7), rfl, inTX7, by decide, TT_t 594 (by decide +kernel) (by decide +kernel), trivial⟩
theorem fln_L_164 : FLN RL 164 7 6 := ⟨(RX7, TX7, 7), "CopyDebtsLaw", rfl, inTX7, by decide, TD_t 595 (by decide +kernel) rfl⟩
theorem fl_J0_9 : FL RJ0 9 9 0 := ⟨(RJ0, TJ0, 4), rfl, inTJ0, by decide, TT_t 1470 (by decide +kernel) (by decide +kernel), trivial⟩
theorem fl_J0_15 : FL RJ0 15 9 1 := ⟨(RJ0, TJ0, 4), rfl, inTJ0, by decide, TT_t 1471 (by decide +kernel) (by decide +kernel), trivial⟩
theorem fw_X1_1 : FW 1 1 .int := ⟨(RX1, TX1, 3), tyX1, rfl, tyX1_ok, nmX1, rfl, by decide +kernel⟩
theorem fw_X1_2 : FW 1 2 .int := ⟨(RX1, TX1, 3), tyX1, rfl, tyX1_ok, nmX1, rfl, by decide +kernel⟩
theorem fw_X2_7 : FW 2 7 .int := ⟨(RX2, TX2, 9), tyX2, rfl, tyX2_ok, nmX2, rfl, by decide +kernel⟩
theorem fw_X2_8 : FW 2 8 .int := ⟨(RX2, TX2, 9), tyX2, rfl, tyX2_ok, nmX2, rfl, by decide +kernel⟩
theorem fw_X3_2 : FW 3 2 .int := ⟨(RX3, TX3, 14), tyX3, rfl, tyX3_ok, nmX3, rfl, by decide +kernel⟩
theorem fw_X3_3 : FW 3 3 .int := ⟨(RX3, TX3, 14), tyX3, rfl, tyX3_ok, nmX3, rfl, by decide +kernel⟩
theorem fw_X3_4 : FW 3 4 .int := ⟨(RX3, TX3, 14), tyX3, rfl, tyX3_ok, nmX3, rfl, by decide +kernel⟩
theorem fw_X3_5 : FW 3 5 .int := ⟨(RX3, TX3, 14), tyX3, rfl, tyX3_ok, nmX3, rfl, by decide +kernel⟩
theorem fw_X3_6 : FW 3 6 .int := ⟨(RX3, TX3, 14), tyX3, rfl, tyX3_ok, nmX3, rfl, by decide +kernel⟩
theorem fw_X3_7 : FW 3 7 .int := ⟨(RX3, TX3, 14), tyX3, rfl, tyX3_ok, nmX3, rfl, by decide +kernel⟩
theorem fw_X3_8 : FW 3 8 .int := ⟨(RX3, TX3, 14), tyX3, rfl, tyX3_ok, nmX3, rfl, by decide +kernel⟩
theorem fw_X3_9 : FW 3 9 .int := ⟨(RX3, TX3, 14), tyX3, rfl, tyX3_ok, nmX3, rfl, by decide +kernel⟩
theorem fw_X3_10 : FW 3 10 .int := ⟨(RX3, TX3, 14), tyX3, rfl, tyX3_ok, nmX3, rfl, by decide +kernel⟩
theorem fw_X3_11 : FW 3 11 .int := ⟨(RX3, TX3, 14), tyX3, rfl, tyX3_ok, nmX3, rfl, by decide +kernel⟩
theorem fw_X3_12 : FW 3 12 .int := ⟨(RX3, TX3, 14), tyX3, rfl, tyX3_ok, nmX3, rfl, by decide +kernel⟩
theorem fw_X3_13 : FW 3 13 .int := ⟨(RX3, TX3, 14), tyX3, rfl, tyX3_ok, nmX3, rfl, by decide +kernel⟩
theorem fw_X4_1 : FW 4 1 .int := ⟨(RX4, TX4, 2), tyX4, rfl, tyX4_ok, nmX4, rfl, by decide +kernel⟩
theorem fw_X6_1 : FW 6 1 .int := ⟨(RX6, TX6, 2), tyX6, rfl, tyX6_ok, nmX6, rfl, by decide +kernel⟩
theorem fw_X7_5 : FW 7 5 .int := ⟨(RX7, TX7, 7), tyX7, rfl, tyX7_ok, nmX7, rfl, by decide +kernel⟩
theorem fw_X7_6 : FW 7 6 .int := ⟨(RX7, TX7, 7), tyX7, rfl, tyX7_ok, nmX7, rfl, by decide +kernel⟩
theorem fw_X8_1 : FW 8 1 .int := ⟨(RX8, TX8, 5), tyX8, rfl, tyX8_ok, nmX8, rfl, by decide +kernel⟩
theorem fw_X8_2 : FW 8 2 .int := ⟨(RX8, TX8, 5), tyX8, rfl, tyX8_ok, nmX8, rfl, by decide +kernel⟩
theorem fw_X8_3 : FW 8 3 (.object "CopyDebtsLaw$Place") := ⟨(RX8, TX8, 5), tyX8, rfl, tyX8_ok, nmX8, rfl, by decide +kernel⟩
theorem fw_X8_4 : FW 8 4 .boolean := ⟨(RX8, TX8, 5), tyX8, rfl, tyX8_ok, nmX8, rfl, by decide +kernel⟩
theorem fw_J0_2 : FW 9 2 .int := ⟨(RJ0, TJ0, 4), tyJ0, rfl, tyJ0_ok, nmJ0, rfl, by decide +kernel⟩
theorem fw_J0_3 : FW 9 3 .boolean := ⟨(RJ0, TJ0, 4), tyJ0, rfl, tyJ0_ok, nmJ0, rfl, by decide +kernel⟩
theorem fw_J4_0 : FW 10 0 (.array .byte) := ⟨(RJ4, TJ4, 4), tyJ4, rfl, tyJ4_ok, nmJ4, rfl, by decide +kernel⟩
theorem fw_J4_1 : FW 10 1 .byte := ⟨(RJ4, TJ4, 4), tyJ4, rfl, tyJ4_ok, nmJ4, rfl, by decide +kernel⟩
theorem fw_J4_2 : FW 10 2 .boolean := ⟨(RJ4, TJ4, 4), tyJ4, rfl, tyJ4_ok, nmJ4, rfl, by decide +kernel⟩
theorem fw_J4_3 : FW 10 3 .int := ⟨(RJ4, TJ4, 4), tyJ4, rfl, tyJ4_ok, nmJ4, rfl, by decide +kernel⟩
theorem ym_X0_makeCopy : Ym RX0 yX0_makeCopy cX0_makeCopy 6 (some FieldType.int) 3 := ⟨⟨TT_t 851 (by decide +kernel) (by decide +kernel), TT_t 852 (by decide +kernel) (by decide +kernel), TT_t 17 (by decide +kernel) (by decide +kernel), TT_t 853 (by decide +kernel) (by decide +kernel)⟩, rfl, by decide +kernel, by decide +kernel, by decide +kernel, by decide⟩
theorem ym_X0_owe : Ym RX0 yX0_owe cX0_owe 5 none 3 := ⟨⟨TT_t 873 (by decide +kernel) (by decide +kernel), TT_p 20 (by decide +kernel) (by decide +kernel), TT_t 17 (by decide +kernel) (by decide +kernel), TT_t 874 (by decide +kernel) (by decide +kernel)⟩, rfl, by decide +kernel, by decide +kernel, by decide +kernel, by decide⟩
theorem ym_X0_fillRow : Ym RX0 yX0_fillRow cX0_fillRow 6 (some FieldType.int) 3 := ⟨⟨TT_t 903 (by decide +kernel) (by decide +kernel), TT_t 904 (by decide +kernel) (by decide +kernel), TT_t 17 (by decide +kernel) (by decide +kernel), TT_t 905 (by decide +kernel) (by decide +kernel)⟩, rfl, by decide +kernel, by decide +kernel, by decide +kernel, by decide⟩
theorem ym_X0_swapPlaces : Ym RX0 yX0_swapPlaces cX0_swapPlaces 6 (some FieldType.int) 2 := ⟨⟨TT_t 1236 (by decide +kernel) (by decide +kernel), TT_t 1237 (by decide +kernel) (by decide +kernel), TT_t 17 (by decide +kernel) (by decide +kernel), TT_t 1238 (by decide +kernel) (by decide +kernel)⟩, rfl, by decide +kernel, by decide +kernel, by decide +kernel, by decide⟩
theorem ym_X0_fetchPlace : Ym RX0 yX0_fetchPlace cX0_fetchPlace 2 (some FieldType.int) 1 := ⟨⟨TT_t 1153 (by decide +kernel) (by decide +kernel), TT_t 1154 (by decide +kernel) (by decide +kernel), TT_t 17 (by decide +kernel) (by decide +kernel), TT_t 1155 (by decide +kernel) (by decide +kernel)⟩, rfl, by decide +kernel, by decide +kernel, by decide +kernel, by decide⟩
theorem ym_X0_passTicks : Ym RX0 yX0_passTicks cX0_passTicks 4 (some FieldType.int) 1 := ⟨⟨TT_t 1166 (by decide +kernel) (by decide +kernel), TT_t 1167 (by decide +kernel) (by decide +kernel), TT_t 17 (by decide +kernel) (by decide +kernel), TT_t 1168 (by decide +kernel) (by decide +kernel)⟩, rfl, by decide +kernel, by decide +kernel, by decide +kernel, by decide⟩
theorem ym_X0_payRow : Ym RX0 yX0_payRow cX0_payRow 5 (some FieldType.int) 2 := ⟨⟨TT_t 801 (by decide +kernel) (by decide +kernel), TT_t 802 (by decide +kernel) (by decide +kernel), TT_t 17 (by decide +kernel) (by decide +kernel), TT_t 803 (by decide +kernel) (by decide +kernel)⟩, rfl, by decide +kernel, by decide +kernel, by decide +kernel, by decide⟩
theorem ym_X0_lockRow : Ym RX0 yX0_lockRow cX0_lockRow 5 (some FieldType.int) 2 := ⟨⟨TT_t 797 (by decide +kernel) (by decide +kernel), TT_t 798 (by decide +kernel) (by decide +kernel), TT_t 17 (by decide +kernel) (by decide +kernel), TT_t 799 (by decide +kernel) (by decide +kernel)⟩, rfl, by decide +kernel, by decide +kernel, by decide +kernel, by decide⟩
theorem ym_X0_keepLimit : Ym RX0 yX0_keepLimit cX0_keepLimit 3 none 0 := ⟨⟨TT_t 876 (by decide +kernel) (by decide +kernel), TT_t 877 (by decide +kernel) (by decide +kernel), TT_t 17 (by decide +kernel) (by decide +kernel), TT_t 878 (by decide +kernel) (by decide +kernel)⟩, rfl, by decide +kernel, by decide +kernel, by decide +kernel, by decide⟩
theorem ym_X0_payUntilPaid : Ym RX0 yX0_payUntilPaid cX0_payUntilPaid 3 (some FieldType.int) 1 := ⟨⟨TT_t 1091 (by decide +kernel) (by decide +kernel), TT_t 1092 (by decide +kernel) (by decide +kernel), TT_t 17 (by decide +kernel) (by decide +kernel), TT_t 1093 (by decide +kernel) (by decide +kernel)⟩, rfl, by decide +kernel, by decide +kernel, by decide +kernel, by decide⟩
theorem ym_X0_ticksFor : Ym RX0 yX0_ticksFor cX0_ticksFor 3 (some FieldType.int) 1 := ⟨⟨TT_t 1095 (by decide +kernel) (by decide +kernel), TT_t 1096 (by decide +kernel) (by decide +kernel), TT_t 17 (by decide +kernel) (by decide +kernel), TT_t 1097 (by decide +kernel) (by decide +kernel)⟩, rfl, by decide +kernel, by decide +kernel, by decide +kernel, by decide⟩
theorem ym_X0_touchRow : Ym RX0 yX0_touchRow cX0_touchRow 4 none 2 := ⟨⟨TT_t 856 (by decide +kernel) (by decide +kernel), TT_p 17 (by decide +kernel) (by decide +kernel), TT_t 17 (by decide +kernel) (by decide +kernel), TT_t 857 (by decide +kernel) (by decide +kernel)⟩, rfl, by decide +kernel, by decide +kernel, by decide +kernel, by decide⟩
theorem ym_X0_payDependents : Ym RX0 yX0_payDependents cX0_payDependents 3 (some FieldType.int) 0 := ⟨⟨TT_t 860 (by decide +kernel) (by decide +kernel), TT_p 18 (by decide +kernel) (by decide +kernel), TT_t 17 (by decide +kernel) (by decide +kernel), TT_t 861 (by decide +kernel) (by decide +kernel)⟩, rfl, by decide +kernel, by decide +kernel, by decide +kernel, by decide⟩
theorem ym_X0_dropTouched : Ym RX0 yX0_dropTouched cX0_dropTouched 2 none 0 := ⟨⟨TT_t 869 (by decide +kernel) (by decide +kernel), TT_p 19 (by decide +kernel) (by decide +kernel), TT_t 17 (by decide +kernel) (by decide +kernel), TT_t 870 (by decide +kernel) (by decide +kernel)⟩, rfl, by decide +kernel, by decide +kernel, by decide +kernel, by decide⟩
theorem ym_X0_pay : Ym RX0 yX0_pay cX0_pay 3 none 2 := ⟨⟨TT_t 810 (by decide +kernel) (by decide +kernel), TT_p 15 (by decide +kernel) (by decide +kernel), TT_t 17 (by decide +kernel) (by decide +kernel), TT_t 811 (by decide +kernel) (by decide +kernel)⟩, rfl, by decide +kernel, by decide +kernel, by decide +kernel, by decide⟩
theorem ym_X0_placeFor : Ym RX0 yX0_placeFor cX0_placeFor 6 (some FieldType.int) 1 := ⟨⟨TT_t 885 (by decide +kernel) (by decide +kernel), TT_t 886 (by decide +kernel) (by decide +kernel), TT_t 17 (by decide +kernel) (by decide +kernel), TT_t 887 (by decide +kernel) (by decide +kernel)⟩, rfl, by decide +kernel, by decide +kernel, by decide +kernel, by decide⟩
theorem ym_X0_rankOf : Ym RX0 yX0_rankOf cX0_rankOf 3 (some FieldType.int) 2 := ⟨⟨TT_t 894 (by decide +kernel) (by decide +kernel), TT_p 22 (by decide +kernel) (by decide +kernel), TT_t 17 (by decide +kernel) (by decide +kernel), TT_t 895 (by decide +kernel) (by decide +kernel)⟩, rfl, by decide +kernel, by decide +kernel, by decide +kernel, by decide⟩
theorem ym_X0_measureDepths : Ym RX0 yX0_measureDepths cX0_measureDepths 6 none 0 := ⟨⟨TT_t 890 (by decide +kernel) (by decide +kernel), TT_p 21 (by decide +kernel) (by decide +kernel), TT_t 17 (by decide +kernel) (by decide +kernel), TT_t 891 (by decide +kernel) (by decide +kernel)⟩, rfl, by decide +kernel, by decide +kernel, by decide +kernel, by decide⟩
theorem ym_X1_forget : Ym RX1 yX1_forget cX1_forget 1 none 0 := ⟨⟨TT_t 934 (by decide +kernel) (by decide +kernel), TT_t 935 (by decide +kernel) (by decide +kernel), TT_t 20 (by decide +kernel) (by decide +kernel), TT_t 936 (by decide +kernel) (by decide +kernel)⟩, rfl, by decide +kernel, by decide +kernel, by decide +kernel, by decide⟩
theorem ym_X1_remember : Ym RX1 yX1_remember cX1_remember 2 none 1 := ⟨⟨TT_t 1135 (by decide +kernel) (by decide +kernel), TT_t 1136 (by decide +kernel) (by decide +kernel), TT_t 20 (by decide +kernel) (by decide +kernel), TT_t 1137 (by decide +kernel) (by decide +kernel)⟩, rfl, by decide +kernel, by decide +kernel, by decide +kernel, by decide⟩
theorem ym_X1_goBack : Ym RX1 yX1_goBack cX1_goBack 2 none 1 := ⟨⟨TT_t 1198 (by decide +kernel) (by decide +kernel), TT_t 1199 (by decide +kernel) (by decide +kernel), TT_t 20 (by decide +kernel) (by decide +kernel), TT_t 1200 (by decide +kernel) (by decide +kernel)⟩, rfl, by decide +kernel, by decide +kernel, by decide +kernel, by decide⟩
theorem ym_X2_clear : Ym RX2 yX2_clear cX2_clear 2 none 0 := ⟨⟨TT_t 730 (by decide +kernel) (by decide +kernel), TT_t 731 (by decide +kernel) (by decide +kernel), TT_t 18 (by decide +kernel) (by decide +kernel), TT_t 732 (by decide +kernel) (by decide +kernel)⟩, rfl, by decide +kernel, by decide +kernel, by decide +kernel, by decide⟩
theorem ym_X2_takeFrom : Ym RX2 yX2_takeFrom cX2_takeFrom 3 none 1 := ⟨⟨TT_t 929 (by decide +kernel) (by decide +kernel), TT_t 930 (by decide +kernel) (by decide +kernel), TT_t 18 (by decide +kernel) (by decide +kernel), TT_t 931 (by decide +kernel) (by decide +kernel)⟩, rfl, by decide +kernel, by decide +kernel, by decide +kernel, by decide⟩
theorem ym_X2_isPlace : Ym RX2 yX2_isPlace cX2_isPlace 2 (some FieldType.boolean) 1 := ⟨⟨TT_t 788 (by decide +kernel) (by decide +kernel), TT_t 789 (by decide +kernel) (by decide +kernel), TT_t 18 (by decide +kernel) (by decide +kernel), TT_t 790 (by decide +kernel) (by decide +kernel)⟩, rfl, by decide +kernel, by decide +kernel, by decide +kernel, by decide⟩
theorem ym_X2_hasRow : Ym RX2 yX2_hasRow cX2_hasRow 3 (some FieldType.boolean) 2 := ⟨⟨TT_t 842 (by decide +kernel) (by decide +kernel), TT_t 843 (by decide +kernel) (by decide +kernel), TT_t 18 (by decide +kernel) (by decide +kernel), TT_t 844 (by decide +kernel) (by decide +kernel)⟩, rfl, by decide +kernel, by decide +kernel, by decide +kernel, by decide⟩
theorem ym_X2_owes : Ym RX2 yX2_owes cX2_owes 2 (some FieldType.boolean) 1 := ⟨⟨TT_t 813 (by decide +kernel) (by decide +kernel), TT_t 814 (by decide +kernel) (by decide +kernel), TT_t 18 (by decide +kernel) (by decide +kernel), TT_t 815 (by decide +kernel) (by decide +kernel)⟩, rfl, by decide +kernel, by decide +kernel, by decide +kernel, by decide⟩
theorem ym_X2_rootOf : Ym RX2 yX2_rootOf cX2_rootOf 4 (some FieldType.int) 1 := ⟨⟨TT_t 817 (by decide +kernel) (by decide +kernel), TT_t 818 (by decide +kernel) (by decide +kernel), TT_t 18 (by decide +kernel) (by decide +kernel), TT_t 819 (by decide +kernel) (by decide +kernel)⟩, rfl, by decide +kernel, by decide +kernel, by decide +kernel, by decide⟩
theorem ym_X2_hopsOf : Ym RX2 yX2_hopsOf cX2_hopsOf 2 (some FieldType.int) 1 := ⟨⟨TT_t 1157 (by decide +kernel) (by decide +kernel), TT_t 1158 (by decide +kernel) (by decide +kernel), TT_t 18 (by decide +kernel) (by decide +kernel), TT_t 1159 (by decide +kernel) (by decide +kernel)⟩, rfl, by decide +kernel, by decide +kernel, by decide +kernel, by decide⟩
theorem ym_X2_valueOf : Ym RX2 yX2_valueOf cX2_valueOf 2 (some FieldType.int) 1 := ⟨⟨TT_t 863 (by decide +kernel) (by decide +kernel), TT_t 864 (by decide +kernel) (by decide +kernel), TT_t 18 (by decide +kernel) (by decide +kernel), TT_t 865 (by decide +kernel) (by decide +kernel)⟩, rfl, by decide +kernel, by decide +kernel, by decide +kernel, by decide⟩
theorem ym_X2_hopsBetween : Ym RX2 yX2_hopsBetween cX2_hopsBetween 5 (some FieldType.int) 2 := ⟨⟨TT_t 992 (by decide +kernel) (by decide +kernel), TT_t 993 (by decide +kernel) (by decide +kernel), TT_t 18 (by decide +kernel) (by decide +kernel), TT_t 994 (by decide +kernel) (by decide +kernel)⟩, rfl, by decide +kernel, by decide +kernel, by decide +kernel, by decide⟩
theorem ym_X2_countOwed : Ym RX2 yX2_countOwed cX2_countOwed 1 (some FieldType.int) 0 := ⟨⟨TT_t 880 (by decide +kernel) (by decide +kernel), TT_t 881 (by decide +kernel) (by decide +kernel), TT_t 18 (by decide +kernel) (by decide +kernel), TT_t 882 (by decide +kernel) (by decide +kernel)⟩, rfl, by decide +kernel, by decide +kernel, by decide +kernel, by decide⟩
theorem ym_X2_countOwedIn : Ym RX2 yX2_countOwedIn cX2_countOwedIn 5 (some FieldType.int) 2 := ⟨⟨TT_t 805 (by decide +kernel) (by decide +kernel), TT_t 806 (by decide +kernel) (by decide +kernel), TT_t 18 (by decide +kernel) (by decide +kernel), TT_t 807 (by decide +kernel) (by decide +kernel)⟩, rfl, by decide +kernel, by decide +kernel, by decide +kernel, by decide⟩
theorem ym_X2_isSource : Ym RX2 yX2_isSource cX2_isSource 3 (some FieldType.boolean) 1 := ⟨⟨TT_t 1346 (by decide +kernel) (by decide +kernel), TT_t 1347 (by decide +kernel) (by decide +kernel), TT_t 18 (by decide +kernel) (by decide +kernel), TT_t 1348 (by decide +kernel) (by decide +kernel)⟩, rfl, by decide +kernel, by decide +kernel, by decide +kernel, by decide⟩
theorem ym_X2_hasLockIn : Ym RX2 yX2_hasLockIn cX2_hasLockIn 4 (some FieldType.boolean) 2 := ⟨⟨TT_t 847 (by decide +kernel) (by decide +kernel), TT_t 848 (by decide +kernel) (by decide +kernel), TT_t 18 (by decide +kernel) (by decide +kernel), TT_t 849 (by decide +kernel) (by decide +kernel)⟩, rfl, by decide +kernel, by decide +kernel, by decide +kernel, by decide⟩
theorem ym_X2_refusalOf : Ym RX2 yX2_refusalOf cX2_refusalOf 4 (some FieldType.int) 3 := ⟨⟨TT_t 838 (by decide +kernel) (by decide +kernel), TT_t 839 (by decide +kernel) (by decide +kernel), TT_t 18 (by decide +kernel) (by decide +kernel), TT_t 840 (by decide +kernel) (by decide +kernel)⟩, rfl, by decide +kernel, by decide +kernel, by decide +kernel, by decide⟩
theorem ym_X2_continuesDebt : Ym RX2 yX2_continuesDebt cX2_continuesDebt 2 (some FieldType.boolean) 1 := ⟨⟨TT_t 1009 (by decide +kernel) (by decide +kernel), TT_t 1010 (by decide +kernel) (by decide +kernel), TT_t 18 (by decide +kernel) (by decide +kernel), TT_t 1011 (by decide +kernel) (by decide +kernel)⟩, rfl, by decide +kernel, by decide +kernel, by decide +kernel, by decide⟩
theorem ym_X2_startsDebt : Ym RX2 yX2_startsDebt cX2_startsDebt 2 (some FieldType.boolean) 1 := ⟨⟨TT_t 1005 (by decide +kernel) (by decide +kernel), TT_t 1006 (by decide +kernel) (by decide +kernel), TT_t 18 (by decide +kernel) (by decide +kernel), TT_t 1007 (by decide +kernel) (by decide +kernel)⟩, rfl, by decide +kernel, by decide +kernel, by decide +kernel, by decide⟩

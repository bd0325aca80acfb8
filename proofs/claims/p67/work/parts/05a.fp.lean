/-! quotients are numbers -/
theorem n64_of {r : UInt64} (h : Jvm.FP.Core.val64 r ≠ .nan) : vf_n64 r := by
  have h1 := (Jvm.FP.Core.ne_nan r).mp h
  unfold vf_n64
  rw [UInt64.le_iff_toNat_le, UInt64.toNat_and]
  show r.toNat &&& 9223372036854775807 ≤ 9218868437227405312
  rw [show (9223372036854775807 : Nat) = 2 ^ 63 - 1 by decide, Nat.and_two_pow_sub_one_eq_mod]
  exact h1
theorem n32_of {r : UInt32} (h : Jvm.FP.Core.val32 r ≠ .nan) : vf_n32 r := by
  have h1 := (Jvm.FP.Core.ne_nan32 r).mp h
  unfold vf_n32
  rw [UInt32.le_iff_toNat_le, UInt32.toNat_and]
  show r.toNat &&& 2147483647 ≤ 2139095040
  rw [show (2147483647 : Nat) = 2 ^ 31 - 1 by decide, Nat.and_two_pow_sub_one_eq_mod]
  exact h1
theorem fp_d {a b : Int32} (h : ¬ b = 0) : vf_n64 (FP.ddiv (FP.i2d a) (FP.i2d b)) := by
  refine n64_of ?_
  show Jvm.FP.Core.val64 (Jvm.FP.Core.ddiv (Jvm.FP.Core.i2d a) (Jvm.FP.Core.i2d b)) ≠ .nan
  rw [Jvm.FP.Core.val64_ddiv]
  intro z
  rw [Jvm.FP.Core.quotient_nan] at z
  obtain ⟨s1, c1, q1, e1⟩ := Jvm.FP.Core.i2d_fin a
  obtain ⟨s2, c2, q2, e2⟩ := Jvm.FP.Core.i2d_fin b
  rcases z with z | z | ⟨s, t, z, _⟩ | ⟨s, t, q, r, _, z⟩
  · rw [e1] at z; cases z
  · rw [e2] at z; cases z
  · rw [e1] at z; cases z
  · exact Jvm.FP.Core.i2d_ne_zero h ((Jvm.FP.Core.zero_bits2 _).mp ⟨t, r, z⟩)
theorem fp_fn {a b : Int32} (h : ¬ b = 0) : Jvm.FP.Core.val32 (FP.fdiv (FP.i2f a) (FP.i2f b)) ≠ .nan := by
  show Jvm.FP.Core.val32 (Jvm.FP.Core.fdiv (Jvm.FP.Core.i2f a) (Jvm.FP.Core.i2f b)) ≠ .nan
  rw [Jvm.FP.Core.val32_fdiv]
  intro z
  rw [Jvm.FP.Core.quotient_nan] at z
  obtain ⟨s1, c1, q1, e1⟩ := Jvm.FP.Core.i2f_fin a
  obtain ⟨s2, c2, q2, e2⟩ := Jvm.FP.Core.i2f_fin b
  rcases z with z | z | ⟨s, t, z, _⟩ | ⟨s, t, q, r, _, z⟩
  · rw [e1] at z; cases z
  · rw [e2] at z; cases z
  · rw [e1] at z; cases z
  · exact Jvm.FP.Core.i2f_ne_zero h ((Jvm.FP.Core.zero_bits232 _).mp ⟨t, r, z⟩)
theorem fp_f {a b : Int32} (h : ¬ b = 0) : vf_n32 (FP.fdiv (FP.i2f a) (FP.i2f b)) := n32_of (fp_fn h)
theorem fp_w {x : UInt32} (h : Jvm.FP.Core.val32 x ≠ .nan) : vf_n64 (FP.f2d x) := by
  refine n64_of ?_
  rw [← Jvm.FP.Core.notNaN_iff]
  have := FP.f2d_nan x
  rw [show FP.fIsNaN x = false from (Jvm.FP.Core.notNaN_iff32 x).mpr h] at this
  exact this
theorem fp_0 : Jvm.FP.Core.val32 0 ≠ .nan := (Jvm.FP.Core.ne_nan32 0).mpr (by decide)

def fU {α : Type} (f : Nat → α) (j : Nat) (v : α) : Nat → α := fun i => if i = j then v else f i
def h2at (a b : Nat) (h : Nat → Nat) : Nat → Nat := fun i => if i < 8 then h (a + i) else h (b + (i - 8))
def hmat (h : Nat → Nat) : Nat → Nat := fun i => if i < 66 then h (39 + i) else h (5 + (i - 66))
section F_mS
variable {κ : Kp} {h : Nat → Nat}
theorem fix_mS : FixW (mS κ h) := fun _ _ => rfl
theorem or_mS_0_0 : OR (mS κ h) 0 (h 0) 2 0 (h 1) := fun g => ⟨_, rfl, rfl⟩
theorem or_mS_0_1 : OR (mS κ h) 0 (h 0) 2 1 (h 2) := fun g => ⟨_, rfl, rfl⟩
theorem or_mS_0_2 : OR (mS κ h) 0 (h 0) 2 2 (h 3) := fun g => ⟨_, rfl, rfl⟩
theorem or_mS_0_3 : OR (mS κ h) 0 (h 0) 2 3 (h 4) := fun g => ⟨_, rfl, rfl⟩
theorem or_mS_0_4 : OR (mS κ h) 0 (h 0) 2 4 (h 5) := fun g => ⟨_, rfl, rfl⟩
theorem or_mS_0_5 : OR (mS κ h) 0 (h 0) 2 5 (h 6) := fun g => ⟨_, rfl, rfl⟩
theorem or_mS_0_6 : OR (mS κ h) 0 (h 0) 2 6 (h 7) := fun g => ⟨_, rfl, rfl⟩
theorem oi_mS_0_7 : OI (mS κ h) 0 (h 0) 2 7 (fun g => (g) 0 7) (fun g x => (sG (g) 0 (upd ((g) 0) 7 x))) := fun g => ⟨_, rfl, rfl, fun x => rfl⟩
theorem oi_mS_0_8 : OI (mS κ h) 0 (h 0) 2 8 (fun g => (g) 0 8) (fun g x => (sG (g) 0 (upd ((g) 0) 8 x))) := fun g => ⟨_, rfl, rfl, fun x => rfl⟩
theorem ar_mS_1 : AI κ (mS κ h) 1 (h 1) 96 (fun g => (g) 1) (fun g f => (sG (g) 1 f)) := fun g => ⟨rfl, fun f => rfl⟩
theorem ar_mS_2 : AI κ (mS κ h) 2 (h 2) 96 (fun g => (g) 2) (fun g f => (sG (g) 2 f)) := fun g => ⟨rfl, fun f => rfl⟩
theorem ar_mS_3 : AI κ (mS κ h) 3 (h 3) 96 (fun g => (g) 3) (fun g f => (sG (g) 3 f)) := fun g => ⟨rfl, fun f => rfl⟩
theorem ar_mS_4 : AZ κ (mS κ h) 4 (h 4) 96 (fun g => (g) 4) (fun g f => (sG (g) 4 f)) := fun g => ⟨rfl, fun f => rfl⟩
theorem ar_mS_5 : AI κ (mS κ h) 5 (h 5) 5 (fun g => (g) 5) (fun g f => (sG (g) 5 f)) := fun g => ⟨rfl, fun f => rfl⟩
theorem ar_mS_6 : AI κ (mS κ h) 6 (h 6) 9 (fun g => (g) 6) (fun g f => (sG (g) 6 f)) := fun g => ⟨rfl, fun f => rfl⟩
theorem ar_mS_7 : AI κ (mS κ h) 7 (h 7) 240 (fun g => (g) 7) (fun g f => (sG (g) 7 f)) := fun g => ⟨rfl, fun f => rfl⟩
end F_mS
section F_mmS
variable {κ : Kp} {h : Nat → Nat}
theorem fix_mmS : FixW (mmS κ h) := fun _ _ => rfl
theorem or_mmS_0_0 : OR (mmS κ h) 0 (h 0) 2 0 (h 1) := fun g => ⟨_, rfl, rfl⟩
theorem or_mmS_0_1 : OR (mmS κ h) 0 (h 0) 2 1 (h 2) := fun g => ⟨_, rfl, rfl⟩
theorem or_mmS_0_2 : OR (mmS κ h) 0 (h 0) 2 2 (h 3) := fun g => ⟨_, rfl, rfl⟩
theorem or_mmS_0_3 : OR (mmS κ h) 0 (h 0) 2 3 (h 4) := fun g => ⟨_, rfl, rfl⟩
theorem or_mmS_0_4 : OR (mmS κ h) 0 (h 0) 2 4 (h 5) := fun g => ⟨_, rfl, rfl⟩
theorem or_mmS_0_5 : OR (mmS κ h) 0 (h 0) 2 5 (h 6) := fun g => ⟨_, rfl, rfl⟩
theorem or_mmS_0_6 : OR (mmS κ h) 0 (h 0) 2 6 (h 7) := fun g => ⟨_, rfl, rfl⟩
theorem oi_mmS_0_7 : OI (mmS κ h) 0 (h 0) 2 7 (fun g => (g.1) 0 7) (fun g x => ((sG (g.1) 0 (upd ((g.1) 0) 7 x)), g.2)) := fun g => ⟨_, rfl, rfl, fun x => rfl⟩
theorem oi_mmS_0_8 : OI (mmS κ h) 0 (h 0) 2 8 (fun g => (g.1) 0 8) (fun g x => ((sG (g.1) 0 (upd ((g.1) 0) 8 x)), g.2)) := fun g => ⟨_, rfl, rfl, fun x => rfl⟩
theorem ar_mmS_1 : AI κ (mmS κ h) 1 (h 1) 96 (fun g => (g.1) 1) (fun g f => ((sG (g.1) 1 f), g.2)) := fun g => ⟨rfl, fun f => rfl⟩
theorem ar_mmS_2 : AI κ (mmS κ h) 2 (h 2) 96 (fun g => (g.1) 2) (fun g f => ((sG (g.1) 2 f), g.2)) := fun g => ⟨rfl, fun f => rfl⟩
theorem ar_mmS_3 : AI κ (mmS κ h) 3 (h 3) 96 (fun g => (g.1) 3) (fun g f => ((sG (g.1) 3 f), g.2)) := fun g => ⟨rfl, fun f => rfl⟩
theorem ar_mmS_4 : AZ κ (mmS κ h) 4 (h 4) 96 (fun g => (g.1) 4) (fun g f => ((sG (g.1) 4 f), g.2)) := fun g => ⟨rfl, fun f => rfl⟩
theorem ar_mmS_5 : AI κ (mmS κ h) 5 (h 5) 5 (fun g => (g.1) 5) (fun g f => ((sG (g.1) 5 f), g.2)) := fun g => ⟨rfl, fun f => rfl⟩
theorem ar_mmS_6 : AI κ (mmS κ h) 6 (h 6) 9 (fun g => (g.1) 6) (fun g f => ((sG (g.1) 6 f), g.2)) := fun g => ⟨rfl, fun f => rfl⟩
theorem ar_mmS_7 : AI κ (mmS κ h) 7 (h 7) 240 (fun g => (g.1) 7) (fun g f => ((sG (g.1) 7 f), g.2)) := fun g => ⟨rfl, fun f => rfl⟩
theorem or_mmS_8_0 : OR (mmS κ h) 8 (h 8) 2 0 (h 9) := fun g => ⟨_, rfl, rfl⟩
theorem or_mmS_8_1 : OR (mmS κ h) 8 (h 8) 2 1 (h 10) := fun g => ⟨_, rfl, rfl⟩
theorem or_mmS_8_2 : OR (mmS κ h) 8 (h 8) 2 2 (h 11) := fun g => ⟨_, rfl, rfl⟩
theorem or_mmS_8_3 : OR (mmS κ h) 8 (h 8) 2 3 (h 12) := fun g => ⟨_, rfl, rfl⟩
theorem or_mmS_8_4 : OR (mmS κ h) 8 (h 8) 2 4 (h 13) := fun g => ⟨_, rfl, rfl⟩
theorem or_mmS_8_5 : OR (mmS κ h) 8 (h 8) 2 5 (h 14) := fun g => ⟨_, rfl, rfl⟩
theorem or_mmS_8_6 : OR (mmS κ h) 8 (h 8) 2 6 (h 15) := fun g => ⟨_, rfl, rfl⟩
theorem oi_mmS_8_7 : OI (mmS κ h) 8 (h 8) 2 7 (fun g => (g.2) 0 7) (fun g x => (g.1, (sG (g.2) 0 (upd ((g.2) 0) 7 x)))) := fun g => ⟨_, rfl, rfl, fun x => rfl⟩
theorem oi_mmS_8_8 : OI (mmS κ h) 8 (h 8) 2 8 (fun g => (g.2) 0 8) (fun g x => (g.1, (sG (g.2) 0 (upd ((g.2) 0) 8 x)))) := fun g => ⟨_, rfl, rfl, fun x => rfl⟩
theorem ar_mmS_9 : AI κ (mmS κ h) 9 (h 9) 96 (fun g => (g.2) 1) (fun g f => (g.1, (sG (g.2) 1 f))) := fun g => ⟨rfl, fun f => rfl⟩
theorem ar_mmS_10 : AI κ (mmS κ h) 10 (h 10) 96 (fun g => (g.2) 2) (fun g f => (g.1, (sG (g.2) 2 f))) := fun g => ⟨rfl, fun f => rfl⟩
theorem ar_mmS_11 : AI κ (mmS κ h) 11 (h 11) 96 (fun g => (g.2) 3) (fun g f => (g.1, (sG (g.2) 3 f))) := fun g => ⟨rfl, fun f => rfl⟩
theorem ar_mmS_12 : AZ κ (mmS κ h) 12 (h 12) 96 (fun g => (g.2) 4) (fun g f => (g.1, (sG (g.2) 4 f))) := fun g => ⟨rfl, fun f => rfl⟩
theorem ar_mmS_13 : AI κ (mmS κ h) 13 (h 13) 5 (fun g => (g.2) 5) (fun g f => (g.1, (sG (g.2) 5 f))) := fun g => ⟨rfl, fun f => rfl⟩
theorem ar_mmS_14 : AI κ (mmS κ h) 14 (h 14) 9 (fun g => (g.2) 6) (fun g f => (g.1, (sG (g.2) 6 f))) := fun g => ⟨rfl, fun f => rfl⟩
theorem ar_mmS_15 : AI κ (mmS κ h) 15 (h 15) 240 (fun g => (g.2) 7) (fun g f => (g.1, (sG (g.2) 7 f))) := fun g => ⟨rfl, fun f => rfl⟩
end F_mmS
section F_eS
variable {κ : Kp} {h : Nat → Nat}
theorem fix_eS : FixW (eS κ h) := fun _ _ => rfl
theorem or_eS_0_0 : OR (eS κ h) 0 (h 0) 0 0 (h 4) := fun g => ⟨_, rfl, rfl⟩
theorem or_eS_0_1 : OR (eS κ h) 0 (h 0) 0 1 (h 1) := fun g => ⟨_, rfl, rfl⟩
theorem or_eS_0_2 : OR (eS κ h) 0 (h 0) 0 2 (h 2) := fun g => ⟨_, rfl, rfl⟩
theorem or_eS_0_3 : OR (eS κ h) 0 (h 0) 0 3 (h 3) := fun g => ⟨_, rfl, rfl⟩
theorem ar_eS_1 : AZ κ (eS κ h) 1 (h 1) 96 (fun g => ((g).1) 1) (fun g f => ((sG ((g).1) 1 f), (g).2)) := fun g => ⟨rfl, fun f => rfl⟩
theorem ar_eS_2 : AI κ (eS κ h) 2 (h 2) 96 (fun g => ((g).1) 2) (fun g f => ((sG ((g).1) 2 f), (g).2)) := fun g => ⟨rfl, fun f => rfl⟩
theorem ar_eS_3 : AI κ (eS κ h) 3 (h 3) 96 (fun g => ((g).1) 3) (fun g f => ((sG ((g).1) 3 f), (g).2)) := fun g => ⟨rfl, fun f => rfl⟩
theorem or_eS_4_0 : OR (eS κ h) 4 (h 4) 2 0 (h 5) := fun g => ⟨_, rfl, rfl⟩
theorem or_eS_4_1 : OR (eS κ h) 4 (h 4) 2 1 (h 6) := fun g => ⟨_, rfl, rfl⟩
theorem or_eS_4_2 : OR (eS κ h) 4 (h 4) 2 2 (h 7) := fun g => ⟨_, rfl, rfl⟩
theorem or_eS_4_3 : OR (eS κ h) 4 (h 4) 2 3 (h 8) := fun g => ⟨_, rfl, rfl⟩
theorem or_eS_4_4 : OR (eS κ h) 4 (h 4) 2 4 (h 9) := fun g => ⟨_, rfl, rfl⟩
theorem or_eS_4_5 : OR (eS κ h) 4 (h 4) 2 5 (h 10) := fun g => ⟨_, rfl, rfl⟩
theorem or_eS_4_6 : OR (eS κ h) 4 (h 4) 2 6 (h 11) := fun g => ⟨_, rfl, rfl⟩
theorem oi_eS_4_7 : OI (eS κ h) 4 (h 4) 2 7 (fun g => ((g).2) 0 7) (fun g x => ((g).1, (sG ((g).2) 0 (upd (((g).2) 0) 7 x)))) := fun g => ⟨_, rfl, rfl, fun x => rfl⟩
theorem oi_eS_4_8 : OI (eS κ h) 4 (h 4) 2 8 (fun g => ((g).2) 0 8) (fun g x => ((g).1, (sG ((g).2) 0 (upd (((g).2) 0) 8 x)))) := fun g => ⟨_, rfl, rfl, fun x => rfl⟩
theorem ar_eS_5 : AI κ (eS κ h) 5 (h 5) 96 (fun g => ((g).2) 1) (fun g f => ((g).1, (sG ((g).2) 1 f))) := fun g => ⟨rfl, fun f => rfl⟩
theorem ar_eS_6 : AI κ (eS κ h) 6 (h 6) 96 (fun g => ((g).2) 2) (fun g f => ((g).1, (sG ((g).2) 2 f))) := fun g => ⟨rfl, fun f => rfl⟩
theorem ar_eS_7 : AI κ (eS κ h) 7 (h 7) 96 (fun g => ((g).2) 3) (fun g f => ((g).1, (sG ((g).2) 3 f))) := fun g => ⟨rfl, fun f => rfl⟩
theorem ar_eS_8 : AZ κ (eS κ h) 8 (h 8) 96 (fun g => ((g).2) 4) (fun g f => ((g).1, (sG ((g).2) 4 f))) := fun g => ⟨rfl, fun f => rfl⟩
theorem ar_eS_9 : AI κ (eS κ h) 9 (h 9) 5 (fun g => ((g).2) 5) (fun g f => ((g).1, (sG ((g).2) 5 f))) := fun g => ⟨rfl, fun f => rfl⟩
theorem ar_eS_10 : AI κ (eS κ h) 10 (h 10) 9 (fun g => ((g).2) 6) (fun g f => ((g).1, (sG ((g).2) 6 f))) := fun g => ⟨rfl, fun f => rfl⟩
theorem ar_eS_11 : AI κ (eS κ h) 11 (h 11) 240 (fun g => ((g).2) 7) (fun g f => ((g).1, (sG ((g).2) 7 f))) := fun g => ⟨rfl, fun f => rfl⟩
end F_eS
section F_tS
variable {κ : Kp} {h : Nat → Nat}
theorem fix_tS : FixW (tS κ h) := fun _ _ => rfl
theorem or_tS_0_0 : OR (tS κ h) 0 (h 0) 4 0 (h 1) := fun g => ⟨_, rfl, rfl⟩
theorem oi_tS_0_1 : OI (tS κ h) 0 (h 0) 4 1 (fun g => (g) 0 1) (fun g x => (sG (g) 0 (upd ((g) 0) 1 x))) := fun g => ⟨_, rfl, rfl, fun x => rfl⟩
theorem ar_tS_1 : AI κ (tS κ h) 1 (h 1) 864 (fun g => (g) 1) (fun g f => (sG (g) 1 f)) := fun g => ⟨rfl, fun f => rfl⟩
end F_tS
section F_rS
variable {κ : Kp} {h : Nat → Nat}
theorem fix_rS : FixW (rS κ h) := fun _ _ => rfl
theorem or_rS_0_0 : OR (rS κ h) 0 (h 0) 3 0 (h 1) := fun g => ⟨_, rfl, rfl⟩
theorem or_rS_0_1 : OR (rS κ h) 0 (h 0) 3 1 (h 13) := fun g => ⟨_, rfl, rfl⟩
theorem oi_rS_0_2 : OI (rS κ h) 0 (h 0) 3 2 (fun g => ((g).1) 0 2) (fun g x => ((sG ((g).1) 0 (upd (((g).1) 0) 2 x)), (g).2)) := fun g => ⟨_, rfl, rfl, fun x => rfl⟩
theorem oi_rS_0_3 : OI (rS κ h) 0 (h 0) 3 3 (fun g => ((g).1) 0 3) (fun g x => ((sG ((g).1) 0 (upd (((g).1) 0) 3 x)), (g).2)) := fun g => ⟨_, rfl, rfl, fun x => rfl⟩
theorem oi_rS_0_4 : OI (rS κ h) 0 (h 0) 3 4 (fun g => ((g).1) 0 4) (fun g x => ((sG ((g).1) 0 (upd (((g).1) 0) 4 x)), (g).2)) := fun g => ⟨_, rfl, rfl, fun x => rfl⟩
theorem oi_rS_0_5 : OI (rS κ h) 0 (h 0) 3 5 (fun g => ((g).1) 0 5) (fun g x => ((sG ((g).1) 0 (upd (((g).1) 0) 5 x)), (g).2)) := fun g => ⟨_, rfl, rfl, fun x => rfl⟩
theorem oi_rS_0_6 : OI (rS κ h) 0 (h 0) 3 6 (fun g => ((g).1) 0 6) (fun g x => ((sG ((g).1) 0 (upd (((g).1) 0) 6 x)), (g).2)) := fun g => ⟨_, rfl, rfl, fun x => rfl⟩
theorem oi_rS_0_7 : OI (rS κ h) 0 (h 0) 3 7 (fun g => ((g).1) 0 7) (fun g x => ((sG ((g).1) 0 (upd (((g).1) 0) 7 x)), (g).2)) := fun g => ⟨_, rfl, rfl, fun x => rfl⟩
theorem oi_rS_0_8 : OI (rS κ h) 0 (h 0) 3 8 (fun g => ((g).1) 0 8) (fun g x => ((sG ((g).1) 0 (upd (((g).1) 0) 8 x)), (g).2)) := fun g => ⟨_, rfl, rfl, fun x => rfl⟩
theorem oi_rS_0_9 : OI (rS κ h) 0 (h 0) 3 9 (fun g => ((g).1) 0 9) (fun g x => ((sG ((g).1) 0 (upd (((g).1) 0) 9 x)), (g).2)) := fun g => ⟨_, rfl, rfl, fun x => rfl⟩
theorem oi_rS_0_10 : OI (rS κ h) 0 (h 0) 3 10 (fun g => ((g).1) 0 10) (fun g x => ((sG ((g).1) 0 (upd (((g).1) 0) 10 x)), (g).2)) := fun g => ⟨_, rfl, rfl, fun x => rfl⟩
theorem oi_rS_0_11 : OI (rS κ h) 0 (h 0) 3 11 (fun g => ((g).1) 0 11) (fun g x => ((sG ((g).1) 0 (upd (((g).1) 0) 11 x)), (g).2)) := fun g => ⟨_, rfl, rfl, fun x => rfl⟩
theorem oi_rS_0_12 : OI (rS κ h) 0 (h 0) 3 12 (fun g => ((g).1) 0 12) (fun g x => ((sG ((g).1) 0 (upd (((g).1) 0) 12 x)), (g).2)) := fun g => ⟨_, rfl, rfl, fun x => rfl⟩
theorem oi_rS_0_13 : OI (rS κ h) 0 (h 0) 3 13 (fun g => ((g).1) 0 13) (fun g x => ((sG ((g).1) 0 (upd (((g).1) 0) 13 x)), (g).2)) := fun g => ⟨_, rfl, rfl, fun x => rfl⟩
theorem or_rS_1_0 : OR (rS κ h) 1 (h 1) 0 0 (h 5) := fun g => ⟨_, rfl, rfl⟩
theorem or_rS_1_1 : OR (rS κ h) 1 (h 1) 0 1 (h 2) := fun g => ⟨_, rfl, rfl⟩
theorem or_rS_1_2 : OR (rS κ h) 1 (h 1) 0 2 (h 3) := fun g => ⟨_, rfl, rfl⟩
theorem or_rS_1_3 : OR (rS κ h) 1 (h 1) 0 3 (h 4) := fun g => ⟨_, rfl, rfl⟩
theorem ar_rS_2 : AZ κ (rS κ h) 2 (h 2) 96 (fun g => (((g).2).1) 1) (fun g f => ((g).1, ((sG (((g).2).1) 1 f), ((g).2).2))) := fun g => ⟨rfl, fun f => rfl⟩
theorem ar_rS_3 : AI κ (rS κ h) 3 (h 3) 96 (fun g => (((g).2).1) 2) (fun g f => ((g).1, ((sG (((g).2).1) 2 f), ((g).2).2))) := fun g => ⟨rfl, fun f => rfl⟩
theorem ar_rS_4 : AI κ (rS κ h) 4 (h 4) 96 (fun g => (((g).2).1) 3) (fun g f => ((g).1, ((sG (((g).2).1) 3 f), ((g).2).2))) := fun g => ⟨rfl, fun f => rfl⟩
theorem or_rS_5_0 : OR (rS κ h) 5 (h 5) 2 0 (h 6) := fun g => ⟨_, rfl, rfl⟩
theorem or_rS_5_1 : OR (rS κ h) 5 (h 5) 2 1 (h 7) := fun g => ⟨_, rfl, rfl⟩
theorem or_rS_5_2 : OR (rS κ h) 5 (h 5) 2 2 (h 8) := fun g => ⟨_, rfl, rfl⟩
theorem or_rS_5_3 : OR (rS κ h) 5 (h 5) 2 3 (h 9) := fun g => ⟨_, rfl, rfl⟩
theorem or_rS_5_4 : OR (rS κ h) 5 (h 5) 2 4 (h 10) := fun g => ⟨_, rfl, rfl⟩
theorem or_rS_5_5 : OR (rS κ h) 5 (h 5) 2 5 (h 11) := fun g => ⟨_, rfl, rfl⟩
theorem or_rS_5_6 : OR (rS κ h) 5 (h 5) 2 6 (h 12) := fun g => ⟨_, rfl, rfl⟩
theorem oi_rS_5_7 : OI (rS κ h) 5 (h 5) 2 7 (fun g => (((g).2).2) 0 7) (fun g x => ((g).1, (((g).2).1, (sG (((g).2).2) 0 (upd ((((g).2).2) 0) 7 x))))) := fun g => ⟨_, rfl, rfl, fun x => rfl⟩
theorem oi_rS_5_8 : OI (rS κ h) 5 (h 5) 2 8 (fun g => (((g).2).2) 0 8) (fun g x => ((g).1, (((g).2).1, (sG (((g).2).2) 0 (upd ((((g).2).2) 0) 8 x))))) := fun g => ⟨_, rfl, rfl, fun x => rfl⟩
theorem ar_rS_6 : AI κ (rS κ h) 6 (h 6) 96 (fun g => (((g).2).2) 1) (fun g f => ((g).1, (((g).2).1, (sG (((g).2).2) 1 f)))) := fun g => ⟨rfl, fun f => rfl⟩
theorem ar_rS_7 : AI κ (rS κ h) 7 (h 7) 96 (fun g => (((g).2).2) 2) (fun g f => ((g).1, (((g).2).1, (sG (((g).2).2) 2 f)))) := fun g => ⟨rfl, fun f => rfl⟩
theorem ar_rS_8 : AI κ (rS κ h) 8 (h 8) 96 (fun g => (((g).2).2) 3) (fun g f => ((g).1, (((g).2).1, (sG (((g).2).2) 3 f)))) := fun g => ⟨rfl, fun f => rfl⟩
theorem ar_rS_9 : AZ κ (rS κ h) 9 (h 9) 96 (fun g => (((g).2).2) 4) (fun g f => ((g).1, (((g).2).1, (sG (((g).2).2) 4 f)))) := fun g => ⟨rfl, fun f => rfl⟩
theorem ar_rS_10 : AI κ (rS κ h) 10 (h 10) 5 (fun g => (((g).2).2) 5) (fun g f => ((g).1, (((g).2).1, (sG (((g).2).2) 5 f)))) := fun g => ⟨rfl, fun f => rfl⟩
theorem ar_rS_11 : AI κ (rS κ h) 11 (h 11) 9 (fun g => (((g).2).2) 6) (fun g f => ((g).1, (((g).2).1, (sG (((g).2).2) 6 f)))) := fun g => ⟨rfl, fun f => rfl⟩
theorem ar_rS_12 : AI κ (rS κ h) 12 (h 12) 240 (fun g => (((g).2).2) 7) (fun g f => ((g).1, (((g).2).1, (sG (((g).2).2) 7 f)))) := fun g => ⟨rfl, fun f => rfl⟩
theorem ar_rS_13 : AI κ (rS κ h) 13 (h 13) 700 (fun g => ((g).1) 13) (fun g f => ((sG ((g).1) 13 f), (g).2)) := fun g => ⟨rfl, fun f => rfl⟩
end F_rS
section F_hS
variable {κ : Kp} {h : Nat → Nat}
end F_hS
section F_hmS
variable {κ : Kp} {h : Nat → Nat}
end F_hmS
section F_cS
variable {κ : Kp} {h : Nat → Nat}
end F_cS
section F_qS
variable {κ : Kp} {h : Nat → Nat}
theorem fix_qS : FixW (qS κ h) := fun _ _ => rfl
theorem oi_qS_0_0 : OI (qS κ h) 0 (h 0) 6 0 (fun g => g 0 0) (fun g x => (sG g 0 (upd (g 0) 0 x))) := fun g => ⟨_, rfl, rfl, fun x => rfl⟩
theorem oi_qS_0_1 : OI (qS κ h) 0 (h 0) 6 1 (fun g => g 0 1) (fun g x => (sG g 0 (upd (g 0) 1 x))) := fun g => ⟨_, rfl, rfl, fun x => rfl⟩
theorem oi_qS_0_2 : OI (qS κ h) 0 (h 0) 6 2 (fun g => g 0 2) (fun g x => (sG g 0 (upd (g 0) 2 x))) := fun g => ⟨_, rfl, rfl, fun x => rfl⟩
theorem or_qS_0_3 : OR (qS κ h) 0 (h 0) 6 3 (h 1) := fun g => ⟨_, rfl, rfl⟩
theorem or_qS_0_4 : OR (qS κ h) 0 (h 0) 6 4 (h 2) := fun g => ⟨_, rfl, rfl⟩
theorem oi_qS_0_5 : OI (qS κ h) 0 (h 0) 6 5 (fun g => g 0 5) (fun g x => (sG g 0 (upd (g 0) 5 x))) := fun g => ⟨_, rfl, rfl, fun x => rfl⟩
theorem or_qS_0_6 : OR (qS κ h) 0 (h 0) 6 6 (h 3) := fun g => ⟨_, rfl, rfl⟩
theorem or_qS_0_7 : OR (qS κ h) 0 (h 0) 6 7 (h 4) := fun g => ⟨_, rfl, rfl⟩
theorem oi_qS_0_8 : OI (qS κ h) 0 (h 0) 6 8 (fun g => g 0 8) (fun g x => (sG g 0 (upd (g 0) 8 x))) := fun g => ⟨_, rfl, rfl, fun x => rfl⟩
theorem oi_qS_0_9 : OI (qS κ h) 0 (h 0) 6 9 (fun g => g 0 9) (fun g x => (sG g 0 (upd (g 0) 9 x))) := fun g => ⟨_, rfl, rfl, fun x => rfl⟩
theorem oi_qS_0_10 : OI (qS κ h) 0 (h 0) 6 10 (fun g => g 0 10) (fun g x => (sG g 0 (upd (g 0) 10 x))) := fun g => ⟨_, rfl, rfl, fun x => rfl⟩
theorem oi_qS_0_11 : OI (qS κ h) 0 (h 0) 6 11 (fun g => g 0 11) (fun g x => (sG g 0 (upd (g 0) 11 x))) := fun g => ⟨_, rfl, rfl, fun x => rfl⟩
theorem oi_qS_0_12 : OI (qS κ h) 0 (h 0) 6 12 (fun g => g 0 12) (fun g x => (sG g 0 (upd (g 0) 12 x))) := fun g => ⟨_, rfl, rfl, fun x => rfl⟩
theorem oi_qS_0_13 : OI (qS κ h) 0 (h 0) 6 13 (fun g => g 0 13) (fun g x => (sG g 0 (upd (g 0) 13 x))) := fun g => ⟨_, rfl, rfl, fun x => rfl⟩
theorem oi_qS_0_14 : OI (qS κ h) 0 (h 0) 6 14 (fun g => g 0 14) (fun g x => (sG g 0 (upd (g 0) 14 x))) := fun g => ⟨_, rfl, rfl, fun x => rfl⟩
theorem oi_qS_0_15 : OI (qS κ h) 0 (h 0) 6 15 (fun g => g 0 15) (fun g x => (sG g 0 (upd (g 0) 15 x))) := fun g => ⟨_, rfl, rfl, fun x => rfl⟩
theorem oi_qS_0_16 : OI (qS κ h) 0 (h 0) 6 16 (fun g => g 0 16) (fun g x => (sG g 0 (upd (g 0) 16 x))) := fun g => ⟨_, rfl, rfl, fun x => rfl⟩
theorem oi_qS_0_17 : OI (qS κ h) 0 (h 0) 6 17 (fun g => g 0 17) (fun g x => (sG g 0 (upd (g 0) 17 x))) := fun g => ⟨_, rfl, rfl, fun x => rfl⟩
theorem oi_qS_0_18 : OI (qS κ h) 0 (h 0) 6 18 (fun g => g 0 18) (fun g x => (sG g 0 (upd (g 0) 18 x))) := fun g => ⟨_, rfl, rfl, fun x => rfl⟩
theorem oi_qS_0_19 : OI (qS κ h) 0 (h 0) 6 19 (fun g => g 0 19) (fun g x => (sG g 0 (upd (g 0) 19 x))) := fun g => ⟨_, rfl, rfl, fun x => rfl⟩
theorem oi_qS_0_20 : OI (qS κ h) 0 (h 0) 6 20 (fun g => g 0 20) (fun g x => (sG g 0 (upd (g 0) 20 x))) := fun g => ⟨_, rfl, rfl, fun x => rfl⟩
theorem oi_qS_0_21 : OI (qS κ h) 0 (h 0) 6 21 (fun g => g 0 21) (fun g x => (sG g 0 (upd (g 0) 21 x))) := fun g => ⟨_, rfl, rfl, fun x => rfl⟩
theorem or_qS_0_22 : OR (qS κ h) 0 (h 0) 6 22 (h 5) := fun g => ⟨_, rfl, rfl⟩
theorem or_qS_0_23 : OR (qS κ h) 0 (h 0) 6 23 (h 6) := fun g => ⟨_, rfl, rfl⟩
theorem oi_qS_0_24 : OI (qS κ h) 0 (h 0) 6 24 (fun g => g 0 24) (fun g x => (sG g 0 (upd (g 0) 24 x))) := fun g => ⟨_, rfl, rfl, fun x => rfl⟩
theorem ar_qS_1 : AI κ (qS κ h) 1 (h 1) 640 (fun g => g 1) (fun g f => (sG g 1 f)) := fun g => ⟨rfl, fun f => rfl⟩
theorem ar_qS_2 : AI κ (qS κ h) 2 (h 2) 7040 (fun g => g 2) (fun g f => (sG g 2 f)) := fun g => ⟨rfl, fun f => rfl⟩
theorem ar_qS_3 : AZ κ (qS κ h) 3 (h 3) 2 (fun g => g 3) (fun g f => (sG g 3 f)) := fun g => ⟨rfl, fun f => rfl⟩
theorem ar_qS_4 : AI κ (qS κ h) 4 (h 4) 700 (fun g => g 4) (fun g f => (sG g 4 f)) := fun g => ⟨rfl, fun f => rfl⟩
theorem ar_qS_5 : AI κ (qS κ h) 5 (h 5) 96 (fun g => g 5) (fun g f => (sG g 5 f)) := fun g => ⟨rfl, fun f => rfl⟩
theorem ar_qS_6 : AI κ (qS κ h) 6 (h 6) 1000 (fun g => g 6) (fun g f => (sG g 6 f)) := fun g => ⟨rfl, fun f => rfl⟩
end F_qS
theorem fix_nS : FixW nS := fun _ _ => rfl
section F_emb
variable {κ : Kp} {h : Nat → Nat}
theorem emb_n {σ : Type} {Wd : σ → va_W} (F : FixW Wd) : Emb Wd nS (fun _ => ()) (fun g _ => g) [] := ⟨F, List.nodup_nil, fun _ => rfl, fun _ _ => ⟨rfl, rfl⟩⟩
theorem emb_e_m : Emb (eS κ h) (mS κ (sh 4 h)) (fun g => g.2) (fun g u => (g.1, u)) [4, 5, 6, 7, 8, 9, 10, 11] := ⟨fix_eS, by decide, fun g => rfl, fun g u => ⟨rfl, rfl⟩⟩
theorem emb_r_e : Emb (rS κ h) (eS κ (sh 1 h)) (fun g => g.2) (fun g u => (g.1, u)) [1, 2, 3, 4, 5, 6, 7, 8, 9, 10, 11, 12] := ⟨fix_rS, by decide, fun g => rfl, fun g u => ⟨rfl, rfl⟩⟩
theorem emb_r_m : Emb (rS κ h) (mS κ (sh 5 h)) (fun g => g.2.2) (fun g u => (g.1, g.2.1, u)) [5, 6, 7, 8, 9, 10, 11, 12] := ⟨fix_rS, by decide, fun g => rfl, fun g u => ⟨rfl, rfl⟩⟩
end F_emb

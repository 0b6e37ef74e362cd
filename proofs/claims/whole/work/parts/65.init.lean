/-! ===== the start: what the cells hold behind the constructors ===== -/
def zI0 (hf xf : Nat → Int32) : zI := fun c =>
  bif Nat.beq c 1000 then hf else bif Nat.beq c 1004 then xf else
  bif Nat.beq c 19 then (fun _ => -1) else bif Nat.beq c 20 then (fun _ => -1) else bif Nat.beq c 24 then (fun _ => -1) else bif Nat.beq c 26 then (fun _ => -1) else
  bif Nat.beq c 39 then (fun _ => -1) else bif Nat.beq c 40 then (fun _ => -1) else bif Nat.beq c 44 then (fun _ => -1) else bif Nat.beq c 46 then (fun _ => -1) else
  bif Nat.beq c 66 then upd (upd (upd (upd (fun _ => 0) 0 (-1)) 1 (-1)) 2 (-1)) 3 (-1) else
  bif Nat.beq c 8 then (fun k => bif Nat.beq k 14 then 12 else 0) else bif Nat.beq c 28 then (fun k => bif Nat.beq k 14 then 12 else 0) else
  bif Nat.beq c 65 then (fun k => bif Nat.beq k 13 then 12 else 0) else
  bif Nat.beq c 2 then (fun k => bif Nat.beq k 1 then 1 else 0) else bif Nat.beq c 4 then (fun k => bif Nat.beq k 1 then 1 else 0) else
  bif Nat.beq c 53 then (fun k => bif Nat.beq k 0 then 1 else 0) else bif Nat.beq c 55 then (fun k => bif Nat.beq k 0 then 1 else 0) else
  bif Nat.beq c 57 then (fun k => bif Nat.beq k 0 then 1 else 0) else bif Nat.beq c 59 then (fun k => bif Nat.beq k 0 then 1 else 0) else fun _ => 0
theorem tn0 : tn (0 : Int32) = 0 := by decide
theorem nn0 : (0 : Int32) = nI 0 := by decide
theorem TXR0 {T H : Nat} {lf : Int32} {C A F : Nat} {I : zI} (e3 : I T 3 = 0) (e1 : I T 1 = lf) (e8 : I 8 F = 0) : TXR T H lf C A F I := by
  have ep : ∀ f, sp_pn H lf f 0 = 0 := fun f => by unfold sp_pn; split <;> rfl
  unfold TXR
  rw [e3, tn0, ep, e1, e8]
  exact ⟨Nat.zero_le _, nn0, rfl, fun j hj => absurd hj (by omega), nn0, fun k hk => absurd hk (by omega)⟩
theorem ix0 {n : Nat} (h : 0 < n) : ixN (0 : Int32) n := ⟨by decide, by show (0 : Int) < n; omega⟩
section
variable {hf xf : Nat → Int32}
theorem inv0 (h0 : hf 0 = 1) (h1 : hf 1 = 3) (h2 : hf 2 = 5) : Inv (zI0 hf xf) := by
  have hd : HD (zI0 hf xf) := ⟨h0, h1, h2⟩
  have z : ∀ {P : Nat → Prop}, ∀ k, k < tn (0 : Int32) → P k := fun k hk => absurd hk (by rw [tn0]; omega)
  refine ⟨⟨⟨TXR0 rfl rfl rfl, TXR0 rfl rfl rfl, TXR0 rfl rfl rfl, ix0 (by decide), rfl, hd⟩, ⟨nn0, by show tn (0 : Int32) ≤ 8; rw [tn0]; omega, z⟩, fun s hs => ?_, ⟨⟨Ag_sym (pD_ag _), ⟨ix0 (by decide), ix0 (by decide), ix0 (by decide), ix0 (by decide), z, z⟩, pD_hd hd, hd⟩, rfl, ?_⟩⟩, ⟨rfl, z⟩, ⟨rfl, z⟩, ⟨rfl, z⟩, ⟨rfl, rfl, rfl, z⟩, ⟨rfl, z⟩, fun s hs => ?_, rfl⟩
  · have hs : s = 0 ∨ s = 1 ∨ s = 2 ∨ s = 3 := by omega
    rcases hs with rfl | rfl | rfl | rfl <;> exact ⟨Or.inr rfl, ix0 (by decide), ix0 (by decide)⟩
  · have e : Nt (pD (zI0 hf xf)) = zfg 38 0 (pD (zI0 hf xf)) := by
      show zps 38 28 _ = _
      unfold zps
      have : tn (pD (zI0 hf xf) 28 6) = 0 := tn0
      rw [this]
      rfl
    rw [e]
    unfold zfg
    refine ⟨fun k hk => ?_, fun r hr => ?_, z⟩
    · simp (disch := omega) only [zr_n, zr_s, zfil, hk, if_true]
      exact ⟨rfl, rfl, rfl⟩
    · simp (disch := omega) only [zr_n, zr_s, zfil, hr, if_true]
      exact ⟨rfl, rfl, rfl, rfl⟩
  · have hs : s = 0 ∨ s = 1 ∨ s = 2 ∨ s = 3 := by omega
    rcases hs with rfl | rfl | rfl | rfl <;> exact ⟨by show (-1 : Int32) = if (1 : Int32) = 0 then 0 else -1; decide, rfl, z⟩
end

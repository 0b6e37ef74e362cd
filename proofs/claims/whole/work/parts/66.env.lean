/-! ===== the start: what the Statement gives ===== -/
theorem ar_prim {s : State} {args : Array Value} {ty : FieldType} (h : (Cond.arrayClass ty).before args s = true) : ∃ cA : ClassId, ArrOfT s cA ty ∧ s.vm.findClass ("[" ++ ty.toString) = some cA := by
  obtain ⟨cA, kA, comp, h1, h2, h3⟩ := Cond.arrayClass_spec h
  exact ⟨cA, fun n z => ⟨fun k h => (by cases h), kA, h2, comp, h3⟩, h1⟩
theorem ar_obj {s : State} {args : Array Value} {C : String} (h : (Cond.arrayOver (.object C)).before args s = true) : ∃ cA : ClassId, ArrOfT s cA (.object C) ∧ va_RA s cA (.object C) := by
  obtain ⟨comp, cA, kA, h1, -, h2, h3, h4⟩ := Cond.arrayOver_spec h
  exact ⟨cA, fun n z => ⟨fun k h => (by cases h), kA, h2, comp, h3⟩, kA, comp, h2, h3, h1, h4⟩
theorem lw_K {s : State} {args : Array Value} (hts : ∀ w ∈ zT, w.before args s = true) (h3 : (Cond.arrayOver (.object "ProofDay$Text")).before args s = true) (h4 : (Cond.arrayOver (.object "ProofDay$Sheet")).before args s = true) : ∃ (D : va_G) (ac : Nat → ClassId), va_K D zVC (ztys ac) s := by
  obtain ⟨c0, i0, k0⟩ := u_known (C := RX0) (T := TX0) (N := 10) (n := 10) hts uws_X0 (hts _ (zin 187 (by decide +kernel) (by decide +kernel)))
  obtain ⟨c1, i1, k1⟩ := u_known (C := RX1) (T := TX1) (N := 15) (n := 15) hts uws_X1 (hts _ (zin 113 (by decide +kernel) (by decide +kernel)))
  obtain ⟨c2, i2, k2⟩ := u_known (C := RX2) (T := TX2) (N := 4) (n := 4) hts uws_X2 (hts _ (zin 262 (by decide +kernel) (by decide +kernel)))
  obtain ⟨c3, i3, k3⟩ := u_known (C := RX3) (T := TX3) (N := 4) (n := 4) hts uws_X3 (hts _ (zin 241 (by decide +kernel) (by decide +kernel)))
  obtain ⟨c4, i4, k4⟩ := u_known (C := RX4) (T := TX4) (N := 4) (n := 4) hts uws_X4 (hts _ (zin 87 (by decide +kernel) (by decide +kernel)))
  obtain ⟨c5, i5, k5⟩ := u_known (C := RX5) (T := TX5) (N := 12) (n := 12) hts uws_X5 (hts _ (zin 78 (by decide +kernel) (by decide +kernel)))
  obtain ⟨c6, i6, k6⟩ := u_known (C := RX6) (T := TX6) (N := 32) (n := 32) hts uws_X6 (hts _ (zin 804 (by decide +kernel) (by decide +kernel)))
  obtain ⟨a0, b0, d0⟩ := ar_prim (ty := .int) (hts _ (zin 109 (by decide +kernel) (by decide +kernel)))
  obtain ⟨a1, b1, d1⟩ := ar_prim (ty := .long) (hts _ (zin 321 (by decide +kernel) (by decide +kernel)))
  obtain ⟨a2, b2, d2⟩ := ar_prim (ty := .boolean) (hts _ (zin 906 (by decide +kernel) (by decide +kernel)))
  obtain ⟨a3, b3, d3⟩ := ar_obj h3
  obtain ⟨a4, b4, d4⟩ := ar_obj h4
  refine ⟨(fun k => match k with | 0 => c0 | 1 => c1 | 2 => c2 | 3 => c3 | 4 => c4 | 5 => c5 | _ => c6, fun k => match k with | 0 => i0 | 1 => i1 | 2 => i2 | 3 => i3 | 4 => i4 | 5 => i5 | _ => i6), fun k => match k with | 0 => a0 | 1 => a1 | 2 => a2 | 3 => a3 | _ => a4, fun k q hq => ?_, fun k q hq => ?_⟩
  · match k, hq with
    | 0, hq => cases hq; exact k0
    | 1, hq => cases hq; exact k1
    | 2, hq => cases hq; exact k2
    | 3, hq => cases hq; exact k3
    | 4, hq => cases hq; exact k4
    | 5, hq => cases hq; exact k5
    | 6, hq => cases hq; exact k6
    | k + 7, hq => simp [zVC] at hq
  · match k, hq with
    | 0, hq => cases hq; exact ⟨b0, d0⟩
    | 1, hq => cases hq; exact ⟨b1, d1⟩
    | 2, hq => cases hq; exact ⟨b2, d2⟩
    | 3, hq => cases hq; exact ⟨b3, d3⟩
    | 4, hq => cases hq; exact ⟨b4, d4⟩
    | k + 5, hq => simp [ztys] at hq
def zhf (j : Nat) : Int32 := ([1, 3, 5] : List Int32).getD j 0
def ztm (i : Nat) : Term := .string "ProofDay" (([9, 16, 18] : List Nat).getD i 0)
def lw_En (s : State) (b L : Nat) (xs : Nat → Int32) (A : Nat → Prop) (hd : Nat) (adK adV : Nat → Nat) : Prop := va_Z "ProofDay" "HARD" "[I" (.ref hd) A s s.heap ∧ va_T .int hd 3 (fun j => .int (zhf j)) A s s.heap ∧ va_T .int b L (fun j => .int (xs j)) A s s.heap ∧ vk_S 3 [3, 3, 6] [[108, 100, 116], [97, 113, 111], [48, 49, 50, 51, 52, 53]] adK adV A s s.heap ∧ va_Z "java/lang/String" "COMPACT_STRINGS" "Z" (.int 1) A s s.heap
set_option maxRecDepth 20000 in
set_option maxHeartbeats 4000000 in
theorem lw_env {s : State} {b L : Nat} {xs : Nat → Int32} {A : Nat → Prop} (hts : ∀ w ∈ lw_tbl, w.before #[Value.ref b] s = true) (hX : va_X b L xs s s.heap) (hA : ∀ a : Nat, a < s.heap.size → ¬ A a) (hbl : b < s.heap.size) (hgv : (Jvm.Cond.and given_1 narrow_1).before #[Value.ref b] s = true) : ∃ (hd : Nat) (adK adV : Nat → Nat), lw_En s b L xs A hd adK adV ∧ ∀ i, i < 3 → (ztm i).eval #[Value.ref b] s none [] s = some (.ref (adK i)) := by
  have hs := flat_of_before _ hgv
  obtain ⟨hd, ht, hT⟩ := va_Tof (tm := .static "ProofDay" "HARD" "[I") (ty := .int) (N := 3) (f := fun j => .int (zhf j)) (A := A) (by decide) (hs _ (by decide +kernel)) (va_eqt (hs _ (by decide +kernel))) (fun j hj => by
    rcases (show j = 0 ∨ j = 1 ∨ j = 2 by omega) with rfl | rfl | rfl
    · exact va_eqt (z := 1) (hs _ (by decide +kernel))
    · exact va_eqt (z := 3) (hs _ (by decide +kernel))
    · exact va_eqt (z := 5) (hs _ (by decide +kernel))) hA
  have i3 : ∀ {P : Nat → Prop}, P 0 → P 1 → P 2 → ∀ i, i < 3 → P i := by
    intro P p0 p1 p2 i hi
    rcases (show i = 0 ∨ i = 1 ∨ i = 2 by omega) with rfl | rfl | rfl
    · exact p0
    · exact p1
    · exact p2
  have ns : ∀ i j : Nat, i < 3 → j < 3 → i ≠ j → (Cond.not (Cond.eq (ztm i) (ztm j))).before #[Value.ref b] s = true ∨ (Cond.not (Cond.eq (ztm j) (ztm i))).before #[Value.ref b] s = true := by
    intro i j hi hj hij
    rcases (show i = 0 ∨ i = 1 ∨ i = 2 by omega) with rfl | rfl | rfl <;> rcases (show j = 0 ∨ j = 1 ∨ j = 2 by omega) with rfl | rfl | rfl <;> first | exact absurd rfl hij | exact Or.inl (hs _ (by decide +kernel)) | exact Or.inr (hs _ (by decide +kernel))
  obtain ⟨adK, adV, hSt, hev⟩ := vk_Sof (args := #[Value.ref b]) (s := s) (N := 3) (tm := ztm) (len := [3, 3, 6]) (byt := [[108, 100, 116], [97, 113, 111], [48, 49, 50, 51, 52, 53]]) (A := A) (i3 (by decide) (by decide) (by decide)) (i3 (hs _ (by decide +kernel)) (hs _ (by decide +kernel)) (hs _ (by decide +kernel))) (i3 (hs _ (by decide +kernel)) (hs _ (by decide +kernel)) (hs _ (by decide +kernel))) (i3 (hs _ (by decide +kernel)) (hs _ (by decide +kernel)) (hs _ (by decide +kernel))) (i3 (hs _ (by decide +kernel)) (hs _ (by decide +kernel)) (hs _ (by decide +kernel)))
    (i3 (i3 (hs _ (by decide +kernel)) (hs _ (by decide +kernel)) (hs _ (by decide +kernel))) (i3 (hs _ (by decide +kernel)) (hs _ (by decide +kernel)) (hs _ (by decide +kernel))) (fun j hj => by
      have hj : j < 6 := hj
      rcases (show j = 0 ∨ j = 1 ∨ j = 2 ∨ j = 3 ∨ j = 4 ∨ j = 5 by omega) with rfl | rfl | rfl | rfl | rfl | rfl
      · exact hs _ (by decide +kernel)
      · exact hs _ (by decide +kernel)
      · exact hs _ (by decide +kernel)
      · exact hs _ (by decide +kernel)
      · exact hs _ (by decide +kernel)
      · exact hs _ (by decide +kernel))) ns hA
  obtain ⟨scr, x1, x2, x3, x4, x5⟩ := hX
  exact ⟨hd, adK, adV, ⟨va_Zof (hts (.laysStatic "ProofDay" "HARD" "[I") (by decide +kernel)) (hts (.initialized "ProofDay") (by decide +kernel)) ht hA, hT, ⟨scr, x1, x2, x3, by omega, by rw [x4], x5, hA b hbl⟩, hSt, va_Zof (hts (.laysStatic "java/lang/String" "COMPACT_STRINGS" "Z") (by decide +kernel)) (hts (.initialized "java/lang/String") (by decide +kernel)) (va_eqi (hs _ (by decide +kernel))) hA⟩, hev⟩

/-! ===== a night of the class and a night of the reference ===== -/
theorem fo_snoc {α : Type} (f : Nat → α → α) : ∀ (d k : Nat) (s : α), fo f (d + 1) k s = f (k + d) (fo f d k s) := by
  intro d
  induction d with
  | zero => intro k s; rfl
  | succ d ih =>
    intro k s
    rw [fo, ih (k + 1) (f k s), fo, show k + 1 + d = k + (d + 1) by omega]
theorem and1 (y : Int32) : y &&& 1 = 0 ∨ y &&& 1 = 1 := by
  have h : (y &&& 1).toBitVec = BitVec.setWidth 32 (BitVec.ofBool (y.toBitVec.getLsbD 0)) := by
    show y.toBitVec &&& 1#32 = _
    exact BitVec.and_one_eq_setWidth_ofBool_getLsbD
  cases hb : y.toBitVec.getLsbD 0 with
  | false =>
    left
    rw [hb] at h
    exact Int32.toBitVec_inj.mp (h.trans (by decide))
  | true =>
    right
    rw [hb] at h
    exact Int32.toBitVec_inj.mp (h.trans (by decide))
theorem isI0 (g k : Int32) : (isI g k = 0) = (g >>> (k &&& 31) &&& 1 = 0) := by
  unfold isI
  rcases and1 (g >>> (k &&& 31)) with h | h
  · simp [h]
  · simp [h]
/-- the plan of the class (rows P ..) and the reference's own say the same -/
def PAg (P : Nat) (I M : zI) : Prop := (M 65 7 = I P 0 ∧ M 65 9 = I P 3 ∧ M 65 11 = I P 6 ∧ M 65 13 = I P 14 ∧ M 65 14 = I P 9 ∧ M 65 16 = I P 13) ∧ (∀ k, k < tn (I P 0) → M 72 (2 * k) = I (P + 1) k ∧ M 72 (2 * k + 1) = I (P + 2) k) ∧ (∀ r, r < tn (I P 3) → M 73 (2 * r) = I (P + 3) r ∧ M 73 (2 * r + 1) = I (P + 4) r) ∧ (∀ i, i < tn (I P 6) → M 74 (2 * i) = I (P + 5) i ∧ M 74 (2 * i + 1) = I (P + 6) i) ∧ (∀ e, e < tn (I P 9) → M 75 (3 * e) = I (P + 7) e ∧ M 75 (3 * e + 1) = I (P + 8) e ∧ M 75 (3 * e + 2) = I (P + 9) e)
theorem many_eq {P : Nat} {I M : zI} (h : PAg P I M) (hn : ixN (I P 9) 9) (c r a b : Int32) : mny (M 75) (M 65 16) (tn (M 65 14)) c r a b = sp_en P I c r a b := by
  obtain ⟨⟨h0, h1, h2, h3, h4, h5⟩, -, -, -, he⟩ := h
  rw [mny, sp_en, h4, h5]
  refine fo_congr (n := tn (I P 9)) (fun k s hk => ?_) _ 0 _ (Nat.zero_add _)
  obtain ⟨e1, e2, e3⟩ := he k hk
  rw [mny1, sp_ev, e1, e2, e3]
  simp only [isI0]
  by_cases q1 : I P 13 >>> (nI k &&& 31) &&& 1 = 0
  all_goals by_cases q2 : I (P + 7) k = c
  all_goals by_cases q3 : I (P + 8) k = r
  all_goals by_cases q4 : I (P + 9) k < a
  all_goals by_cases q5 : b < I (P + 9) k
  all_goals simp [q1, q2, q3, q4, q5]
/-- the reference's day behind i shifts beside the class's -/
def NR (N P i : Nat) (A M : zI) : Prop :=
  (∀ r, r < 6 → ∃ d, d ≤ i ∧ A (N + 4) r = nI d ∧ M 80 r = nI d ∧ M 79 r = A (N + 5) r ∧ M 81 r = A (N + 7) r ∧ M 78 r = nI d * sp_pc P A (nI r) ∧ M 78 r - 1 = A (N + 6) r ∧ M 82 r = (if d = 0 then -1 else nI (d - 1) * sp_pc P A (nI r)) ∧ (¬ M 83 r = 0 → ¬ nI d * sp_pc P A (nI r) + sp_pc P A (nI r) - 1 < A P 14)) ∧
  (∀ k, k < 10 → M 84 k = A (N + 1) k ∧ M 85 k = A (N + 2) k ∧ M 86 k = A (N + 3) k) ∧
  (∀ j, j < i → M 76 j = A (N + 8) j ∧ M 77 j = A (N + 9) j) ∧
  (∀ j, i ≤ j → j < 17 → A (N + 8) j = -1 ∧ A (N + 9) j = 0)
theorem NR_0 {N P : Nat} {I I2 M : zI} {x : Int32} (hN : P + 9 < N) (h : lF2 I2 10 M) : NR N P 0 (zfg N x I) M := by
  obtain ⟨m1, m2, m3, m4, m5, m6, m7, m8, m9, mc⟩ := h
  refine ⟨fun r hr => ⟨0, Nat.le_refl _, ?_⟩, fun k hk => ?_, fun j hj => by omega, fun j _ hj => ?_⟩
  · rw [m1, m2, m3, m4, m5, m6]
    simp (disch := omega) only [zfg, zr_n, zr_s, zfil, hr, if_true]
    refine ⟨rfl, rfl, trivial, trivial, ?_, ?_, trivial, fun z => (z trivial).elim⟩
    · rw [nI_0, Int32.zero_mul]
    · decide
  · rw [m7, m8, m9]
    simp (disch := omega) only [zfg, zr_n, zr_s, zfil, hk, if_true]
    exact ⟨trivial, trivial, trivial⟩
  · simp (disch := omega) only [zfg, zr_n, zr_s, zfil, hj, if_true]
    exact ⟨trivial, trivial⟩

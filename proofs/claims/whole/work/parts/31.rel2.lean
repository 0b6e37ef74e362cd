/-! ===== one shift of the class, row by row ===== -/
theorem bt_in {x : Int32} {a n : Nat} (hx : ixN x a) (ha : a < 1000) (hn : n < 1000) : (bt x 0 (nI n - 1) = 0) = ¬ x < nI n := by
  obtain ⟨k, hk, rfl⟩ := (ixN_iff (by omega)).mp hx
  have h1 : ¬ nI k < 0 := nI_pos (by omega)
  have h2 : (nI n - 1 < nI k) ↔ ¬ nI k < nI n := by
    rw [Int32.lt_iff_toInt_lt, show (1 : Int32) = nI 1 from rfl, pk_sub_toInt (by omega) (by decide), nI_toInt (by omega), nI_ltI (by omega) (by omega)]
    omega
  unfold bt
  rw [if_neg h1]
  by_cases h3 : nI n - 1 < nI k
  · simp [h3, h2.mp h3]
  · have h4 : nI k < nI n := Decidable.not_not.mp (fun z => h3 (h2.mpr z))
    simp [h3, h4]
/-- what a done shift leaves: F: it finds -/
def zF1 (N P i : Nat) (A : zI) (r k : Int32) : Int32 := if sp_fd N P (sp_1 N P i A r k) r k = 0 then 0 else if sp_en P A 0 r (sp_b N P A r) (sp_e N P A r) = 0 then 1 else 0
def zfs (N : Nat) (A : zI) (l r e : Int32) : Prop := A (N + 1) (tn l) = -1 ∨ e < A (N + 2) (tn l) ∨ (e = A (N + 2) (tn l) ∧ r < A (N + 1) (tn l))
theorem zds_rows {N P i : Nat} {A : zI} {r k : Int32} (hN : P + 9 < N) (hr : A (P + 5) i = r) (hk : A (P + 6) i = k) (he : sp_e N P A r < A P 14) :
    zds N P i A (N + 8) = upd (A (N + 8)) i (sp_b N P A r) ∧ zds N P i A (N + 3) = upd (A (N + 3)) (tn k) (A (N + 3) (tn k) + 1) ∧ zds N P i A (N + 5) = upd (A (N + 5)) (tn r) (sp_td N P A r + sp_pc P A r) ∧ zds N P i A (N + 4) = upd (A (N + 4)) (tn r) (A (N + 4) (tn r) + 1) ∧ zds N P i A (N + 6) = upd (A (N + 6)) (tn r) (sp_e N P A r) ∧
    (zF1 N P i A r k = 0 → zds N P i A (N + 9) = A (N + 9) ∧ zds N P i A (N + 7) = A (N + 7) ∧ zds N P i A (N + 1) = A (N + 1) ∧ zds N P i A (N + 2) = A (N + 2)) ∧
    (¬ zF1 N P i A r k = 0 → zds N P i A (N + 9) = upd (A (N + 9)) i 1 ∧ zds N P i A (N + 7) = upd (A (N + 7)) (tn r) (A (N + 7) (tn r) + 1) ∧ (zfs N A k r (sp_e N P A r) → zds N P i A (N + 1) = upd (A (N + 1)) (tn k) r ∧ zds N P i A (N + 2) = upd (A (N + 2)) (tn k) (sp_e N P A r)) ∧ (¬ zfs N A k r (sp_e N P A r) → zds N P i A (N + 1) = A (N + 1) ∧ zds N P i A (N + 2) = A (N + 2))) := by
  have e0 : zds N P i A = sp_3 N P (sp_2 N P i (sp_1 N P i A r k) r k (sp_b N P A r) (sp_e N P A r)) r (sp_pc P A r) (sp_e N P A r) := by
    unfold zds
    rw [hr, hk, if_pos he]
  have eN : sp_en P (sp_1 N P i A r k) 0 r (sp_b N P A r) (sp_e N P A r) = sp_en P A 0 r (sp_b N P A r) (sp_e N P A r) := by
    apply sp_en_f <;> (unfold sp_1; simp (disch := omega) only [zr_n])
  rw [e0]
  by_cases h1 : sp_fd N P (sp_1 N P i A r k) r k = 0
  · have hF : zF1 N P i A r k = 0 := by unfold zF1; rw [if_pos h1]
    have e2 : sp_2 N P i (sp_1 N P i A r k) r k (sp_b N P A r) (sp_e N P A r) = sp_1 N P i A r k := by unfold sp_2; rw [if_pos h1]
    rw [e2]
    simp (disch := omega) only [sp_3, sp_1, zr_n, zr_s, upd_s, upd_upd, hF, not_true_eq_false, true_and, and_true, forall_const, false_implies, true_implies, implies_true]
  · by_cases h2 : sp_en P A 0 r (sp_b N P A r) (sp_e N P A r) = 0
    · have hF : ¬ zF1 N P i A r k = 0 := by unfold zF1; rw [if_neg h1, if_pos h2]; decide
      have e2 : sp_2 N P i (sp_1 N P i A r k) r k (sp_b N P A r) (sp_e N P A r) = sp_ct N (zr (zr (sp_1 N P i A r k) (N + 9) (upd (A (N + 9)) i 1)) (N + 7) (upd (A (N + 7)) (tn r) (A (N + 7) (tn r) + 1))) k r (sp_e N P A r) := by
        unfold sp_2
        rw [if_neg h1, eN, if_pos h2]
        simp (disch := omega) only [sp_1, zr_n]
      rw [e2]
      have hs : (zfs N A k r (sp_e N P A r)) = ((zr (zr (sp_1 N P i A r k) (N + 9) (upd (A (N + 9)) i 1)) (N + 7) (upd (A (N + 7)) (tn r) (A (N + 7) (tn r) + 1))) (N + 1) (tn k) = -1 ∨ sp_e N P A r < (zr (zr (sp_1 N P i A r k) (N + 9) (upd (A (N + 9)) i 1)) (N + 7) (upd (A (N + 7)) (tn r) (A (N + 7) (tn r) + 1))) (N + 2) (tn k) ∨ (sp_e N P A r = (zr (zr (sp_1 N P i A r k) (N + 9) (upd (A (N + 9)) i 1)) (N + 7) (upd (A (N + 7)) (tn r) (A (N + 7) (tn r) + 1))) (N + 2) (tn k) ∧ r < (zr (zr (sp_1 N P i A r k) (N + 9) (upd (A (N + 9)) i 1)) (N + 7) (upd (A (N + 7)) (tn r) (A (N + 7) (tn r) + 1))) (N + 1) (tn k))) := by
        simp (disch := omega) only [sp_1, zr_n, zfs]
      by_cases h3 : zfs N A k r (sp_e N P A r)
      · have e3 := h3
        rw [hs] at e3
        unfold sp_ct
        rw [if_pos e3]
        simp (disch := omega) only [sp_3, sp_1, zr_n, zr_s, upd_s, upd_upd, hF, h3, not_true_eq_false, not_false_eq_true, true_and, and_true, forall_const, false_implies, true_implies, implies_true]
      · have e3 := h3
        rw [hs] at e3
        unfold sp_ct
        rw [if_neg e3]
        simp (disch := omega) only [sp_3, sp_1, zr_n, zr_s, upd_s, upd_upd, hF, h3, not_true_eq_false, not_false_eq_true, true_and, and_true, forall_const, false_implies, true_implies, implies_true]
    · have hF : zF1 N P i A r k = 0 := by unfold zF1; rw [if_neg h1, if_neg h2]
      have e2 : sp_2 N P i (sp_1 N P i A r k) r k (sp_b N P A r) (sp_e N P A r) = sp_1 N P i A r k := by
        unfold sp_2
        rw [if_neg h1, eN, if_neg h2]
      rw [e2]
      simp (disch := omega) only [sp_3, sp_1, zr_n, zr_s, upd_s, upd_upd, hF, not_true_eq_false, true_and, and_true, forall_const, false_implies, true_implies, implies_true]

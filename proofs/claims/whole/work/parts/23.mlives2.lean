/-! ===== the reference: lives() ===== -/
def lF1 (I : zI) (k : Nat) (M : zI) : Prop := M 78 = zfil k 0 (I 78) ∧ M 79 = zfil k 0 (I 79) ∧ M 80 = zfil k 0 (I 80) ∧ M 81 = zfil k 0 (I 81) ∧ M 82 = zfil k (-1) (I 82) ∧ M 83 = zfil k 0 (I 83) ∧ ∀ c, c < 78 ∨ 83 < c → M c = I c
def lF2 (I : zI) (k : Nat) (M : zI) : Prop := M 78 = zfil 6 0 (I 78) ∧ M 79 = zfil 6 0 (I 79) ∧ M 80 = zfil 6 0 (I 80) ∧ M 81 = zfil 6 0 (I 81) ∧ M 82 = zfil 6 (-1) (I 82) ∧ M 83 = zfil 6 0 (I 83) ∧ M 84 = zfil k (-1) (I 84) ∧ M 85 = zfil k (-1) (I 85) ∧ M 86 = zfil k 0 (I 86) ∧ ∀ c, c < 78 ∨ 86 < c → M c = I c
theorem nlt_6 {k : Nat} (h : k < 2 ^ 31) : (nI k < 6) = (k < 6) := propext (nI_ltI h (by decide))
theorem nlt_10 {k : Nat} (h : k < 2 ^ 31) : (nI k < 10) = (k < 10) := propext (nI_ltI h (by decide))
section
variable {xl : Nat} {I : zI} {J : zJ}
theorem m_lives1 : ∀ (d k : Nat) (M : zI), k + d = 6 → lF1 I k M → ∃ M' : zI, (∀ Q : zQ, Rn (zG xl) 140 2 [.ref 65, .int (nI k)] [] M J Q = Rn (zG xl) 140 58 [.ref 65, .int (nI 0)] [] M' J Q) ∧ lF1 I 6 M' := by
  intro d
  induction d with
  | zero =>
    intro k M h hM
    have h : k = 6 := h
    subst h
    refine ⟨M, fun Q => ?_, hM⟩
    rw [h140_2]
    simp (disch := omega) only [x140_3, x140_5, x140_8, x140_9_65, x140_12, x140_13, x140_14, x140_15, x140_16_65, x140_19, x140_20, x140_21, x140_22, x140_23_65, x140_26, x140_27, x140_28, x140_29, x140_30_65, x140_33, x140_34, x140_35, x140_36, x140_37_65, x140_40, x140_41, x140_42, x140_43, x140_44_65, x140_47, x140_48, x140_49, x140_50, x140_53, x140_56, x140_57, ↓reduceIte, zkl_i, zkl_r, zkl_n, zkl_z, zkl_l, Option.toList_some, Option.toList_none, List.cons_append, List.nil_append, zcs_0, zcs_i, zcs_l, zcs_r, zle8, true_and, and_true, true_or, or_true, nlt_6, Nat.lt_irrefl, if_false]
    rfl
  | succ d ih =>
    intro k M h hM
    have hk : k < 6 := by omega
    obtain ⟨m1, m2, m3, m4, m5, m6, mc⟩ := hM
    have e : ∃ M1 : zI, (∀ Q : zQ, Rn (zG xl) 140 2 [.ref 65, .int (nI k)] [] M J Q = Rn (zG xl) 140 2 [.ref 65, .int (nI (k + 1))] [] M1 J Q) ∧ lF1 I (k + 1) M1 := by
      refine ⟨zr (zr (zr (zr (zr (zr M 78 (upd (M 78) k 0)) 79 (upd (M 79) k 0)) 80 (upd (M 80) k 0)) 81 (upd (M 81) k 0)) 82 (upd (M 82) k (-1))) 83 (upd (M 83) k 0), fun Q => ?_, ?_⟩
      · rw [h140_2]
        simp (disch := first | assumption | omega | (simp (disch := omega) only [zr_n, zr_s]; assumption)) only [x140_3, x140_5, x140_8, x140_9_65, x140_12, x140_13, x140_14, x140_15, x140_16_65, x140_19, x140_20, x140_21, x140_22, x140_23_65, x140_26, x140_27, x140_28, x140_29, x140_30_65, x140_33, x140_34, x140_35, x140_36, x140_37_65, x140_40, x140_41, x140_42, x140_43, x140_44_65, x140_47, x140_48, x140_49, x140_50, x140_53, bi_78, bs_78, bi_79, bs_79, bi_80, bs_80, bi_81, bs_81, bi_82, bs_82, bb_83, bc_83, zbv_83, ↓reduceIte, zkl_i, zkl_r, zkl_n, zkl_z, zkl_l, Option.toList_some, Option.toList_none, List.cons_append, List.nil_append, zcs_0, zcs_i, zcs_l, zcs_r, zle8, true_and, and_true, true_or, or_true, nlt_6, hk, if_true, ixN_nI, nI_clamp, zr_n, na_1]
      · unfold lF1
        simp (disch := first | assumption | omega | (simp (disch := omega) only [zr_n, zr_s]; assumption)) only [zr_n, zr_s, m1, m2, m3, m4, m5, m6, zfil_upd, true_and]
        intro c hc
        simp (disch := first | assumption | omega | (simp (disch := omega) only [zr_n, zr_s]; assumption)) only [zr_n]
        exact mc c hc
    obtain ⟨M1, e1, e2⟩ := e
    obtain ⟨M', e3, e4⟩ := ih (k + 1) M1 (by omega) e2
    exact ⟨M', fun Q => (e1 Q).trans (e3 Q), e4⟩
theorem m_lives2 : ∀ (d k : Nat) (M : zI), k + d = 10 → lF2 I k M → ∃ M' : zI, (∀ Q : zQ, Rn (zG xl) 140 58 [.ref 65, .int (nI k)] [] M J Q = Rn (zG xl) 140 93 [.ref 65, .int (nI 0)] [] M' J Q) ∧ lF2 I 10 M' := by
  intro d
  induction d with
  | zero =>
    intro k M h hM
    have h : k = 10 := h
    subst h
    refine ⟨M, fun Q => ?_, hM⟩
    rw [h140_58]
    simp (disch := omega) only [x140_59, x140_61, x140_64, x140_65_65, x140_68, x140_69, x140_70, x140_71, x140_72_65, x140_75, x140_76, x140_77, x140_78, x140_79_65, x140_82, x140_83, x140_84, x140_85, x140_88, x140_91, x140_92, ↓reduceIte, zkl_i, zkl_r, zkl_n, zkl_z, zkl_l, Option.toList_some, Option.toList_none, List.cons_append, List.nil_append, zcs_0, zcs_i, zcs_l, zcs_r, zle8, true_and, and_true, true_or, or_true, nlt_10, Nat.lt_irrefl, if_false]
    rfl
  | succ d ih =>
    intro k M h hM
    have hk : k < 10 := by omega
    obtain ⟨m1, m2, m3, m4, m5, m6, m7, m8, m9, mc⟩ := hM
    have e : ∃ M1 : zI, (∀ Q : zQ, Rn (zG xl) 140 58 [.ref 65, .int (nI k)] [] M J Q = Rn (zG xl) 140 58 [.ref 65, .int (nI (k + 1))] [] M1 J Q) ∧ lF2 I (k + 1) M1 := by
      refine ⟨zr (zr (zr M 84 (upd (M 84) k (-1))) 85 (upd (M 85) k (-1))) 86 (upd (M 86) k 0), fun Q => ?_, ?_⟩
      · rw [h140_58]
        simp (disch := first | assumption | omega | (simp (disch := omega) only [zr_n, zr_s]; assumption)) only [x140_59, x140_61, x140_64, x140_65_65, x140_68, x140_69, x140_70, x140_71, x140_72_65, x140_75, x140_76, x140_77, x140_78, x140_79_65, x140_82, x140_83, x140_84, x140_85, x140_88, bi_84, bs_84, bi_85, bs_85, bi_86, bs_86, ↓reduceIte, zkl_i, zkl_r, zkl_n, zkl_z, zkl_l, Option.toList_some, Option.toList_none, List.cons_append, List.nil_append, zcs_0, zcs_i, zcs_l, zcs_r, zle8, true_and, and_true, true_or, or_true, nlt_10, hk, if_true, ixN_nI, nI_clamp, zr_n, na_1]
      · unfold lF2
        simp (disch := first | assumption | omega | (simp (disch := omega) only [zr_n, zr_s]; assumption)) only [zr_n, zr_s, m1, m2, m3, m4, m5, m6, m7, m8, m9, zfil_upd, true_and]
        intro c hc
        simp (disch := first | assumption | omega | (simp (disch := omega) only [zr_n, zr_s]; assumption)) only [zr_n]
        exact mc c hc
    obtain ⟨M1, e1, e2⟩ := e
    obtain ⟨M', e3, e4⟩ := ih (k + 1) M1 (by omega) e2
    exact ⟨M', fun Q => (e1 Q).trans (e3 Q), e4⟩
/-- lives(): whatever is kept by each does() holds behind it -/
theorem m_lives {n : Nat} (P : Nat → zI → Prop) (hn : n ≤ 17) (hs : ∀ k M, P k M → M 65 11 = nI n) (h0 : ∀ M, lF2 I 10 M → P 0 M) (hd : ∀ k M, k < n → P k M → ∃ M' : zI, (∀ Q : zQ, Rn (zG xl) 139 0 [.ref 65, .int (nI k), .null, .null, .null, .null, .null, .null, .null, .null] [] M J Q = Q none M' J) ∧ P (k + 1) M') : ∃ M : zI, (∀ Q : zQ, Rn (zG xl) 140 0 [.ref 65, .null] [] I J Q = Q none M J) ∧ P n M := by
  obtain ⟨M1, e1, f1⟩ := m_lives1 (xl := xl) (I := I) (J := J) 6 0 I rfl ⟨(zfil_0 _ _).symm, (zfil_0 _ _).symm, (zfil_0 _ _).symm, (zfil_0 _ _).symm, (zfil_0 _ _).symm, (zfil_0 _ _).symm, fun _ _ => rfl⟩
  obtain ⟨m1, m2, m3, m4, m5, m6, mc⟩ := f1
  obtain ⟨M2, e2, f2⟩ := m_lives2 (xl := xl) (I := I) (J := J) 10 0 M1 rfl ⟨m1, m2, m3, m4, m5, m6, by rw [mc 84 (by omega), zfil_0], by rw [mc 85 (by omega), zfil_0], by rw [mc 86 (by omega), zfil_0], fun c hc => mc c (by omega)⟩
  have key : ∀ (d k : Nat) (M : zI), k + d = n → P k M → ∃ M' : zI, (∀ Q : zQ, Rn (zG xl) 140 93 [.ref 65, .int (nI k)] [] M J Q = Q none M' J) ∧ P n M' := by
    intro d
    induction d with
    | zero =>
      intro k M h hM
      have h : k = n := h
      subst h
      refine ⟨M, fun Q => ?_, hM⟩
      rw [h140_93]
      simp (disch := omega) only [x140_94, x140_95_65, x140_98, x140_101, x140_102, x140_103, x140_106, x140_109, x140_112, ↓reduceIte, zkl_i, zkl_r, zkl_n, zkl_z, zkl_l, Option.toList_some, Option.toList_none, List.cons_append, List.nil_append, zcs_0, zcs_i, zcs_l, zcs_r, zle8, true_and, and_true, true_or, or_true, hs k M hM, nI_ltI, Nat.lt_irrefl, if_false]
    | succ d ih =>
      intro k M h hM
      have hk : k < n := by omega
      obtain ⟨M', d1, d2⟩ := hd k M hk hM
      obtain ⟨M3, d3, d4⟩ := ih (k + 1) M' (by omega) d2
      refine ⟨M3, fun Q => ?_, d4⟩
      rw [← d3 Q, h140_93]
      simp (disch := omega) only [x140_94, x140_95_65, x140_98, x140_101, x140_102, x140_103, x140_106, x140_109, x140_112, gc_65, ↓reduceIte, zkl_i, zkl_r, zkl_n, zkl_z, zkl_l, Option.toList_some, Option.toList_none, List.cons_append, List.nil_append, zcs_0, zcs_i, zcs_l, zcs_r, zle8, true_and, and_true, true_or, or_true, hs k M hM, nI_ltI, hk, if_true, d1, na_1]
  obtain ⟨M3, e3, f3⟩ := key n 0 M2 (Nat.zero_add n) (h0 M2 f2)
  refine ⟨M3, fun Q => ?_, f3⟩
  rw [← e3 Q, ← e2 Q, ← e1 Q]
  simp only [x140_0, x140_1, ↓reduceIte, zkl_i, zkl_r, zkl_n, zkl_z, zkl_l, Option.toList_some, Option.toList_none, List.cons_append, List.nil_append, zcs_0, zcs_i, zcs_l, zcs_r, zle8, true_and, and_true, true_or, or_true]
  rfl
end

/-! ===== write, read ===== -/
theorem mn_c {L : Nat} (h : L ≤ 60) : (if nI L ≤ 10 then nI L else 10) = nI (min L 10) := by
  by_cases z : L ≤ 10
  · rw [if_pos (show nI L ≤ 10 from (nI_leI (b := 10) (by omega) (by decide)).mpr z), Nat.min_eq_left z]
  · rw [if_neg (show ¬ nI L ≤ 10 from fun q => z ((nI_leI (b := 10) (by omega) (by decide)).mp q)), Nat.min_eq_right (by omega)]
    rfl
theorem mn_m {L : Nat} (h : L ≤ 60) : (if nI L < 10 then nI L else 10) = nI (min L 10) := by
  by_cases z : L < 10
  · rw [if_pos (show nI L < 10 from (nI_ltI (b := 10) (by omega) (by decide)).mpr z), Nat.min_eq_left (by omega)]
  · rw [if_neg (show ¬ nI L < 10 from fun q => z ((nI_ltI (b := 10) (by omega) (by decide)).mp q)), Nat.min_eq_right (by omega)]
    rfl
/-- what holds while events are read -/
def RRc (I X : zI) : Prop := (∀ c, c ≠ 8 → c ≠ 15 → c ≠ 16 → c ≠ 17 → X c = I c) ∧ (∀ j, j ≠ 9 → X 8 j = I 8 j) ∧ X 8 9 = nI (tn (X 8 9)) ∧ tn (X 8 9) ≤ 8
def RRm (M X M' : zI) : Prop := (∀ c, c ≠ 65 → c ≠ 75 → M' c = M c) ∧ (∀ j, j ≠ 14 → M' 65 j = M 65 j) ∧ EVm X M'
section
variable {xl : Nat} {J : zJ} {I M : zI} {a : Int32}
theorem k_write_0 (h : Inv I) : KI xl 72 183 [.ref 0, .int (nI 0), .null, .null, .null] [.ref 65, .int (nI 0), .null, .null] I J := by
  have c1 : (if nI 0 < 0 then (0 : Int32) else if nI 0 < 4 then 1 else 0) = 1 := bl1 (n := 4) (by decide) (by decide)
  have r1 : bt (nI 0) 0 3 = 1 := in1 (m := 3) (by decide) (by decide)
  obtain ⟨⟨s1, s2, s3, s4⟩, -⟩ := sh_0 h.1 h.2
  by_cases hz : I 53 0 = 0
  · have hmn := mn_c s4
    have hmm := mn_m s4
    have hb10 : min (tn (I 53 2)) 10 ≤ 10 := Nat.min_le_right _ _
    have hbL : min (tn (I 53 2)) 10 ≤ tn (I 53 2) := Nat.min_le_left _ _
    generalize hq : min (tn (I 53 2)) 10 = q at hmn hmm hb10 hbL
    have lp := lpE (R := fun k (u v : Unit) X Q => Rn (zG xl) 72 44 [.ref 0, .int (nI 0), .ref 53, .int (nI q), .int (nI k)] [] X J Q) (E := fun (u : Unit) X' Q => Q (some (.int (nI q))) X' J) (f := fun _ u => u) (n := q) (P := fun k (u : Unit) X => (∀ c, c ≠ 54 → X c = I c) ∧ (∀ j, j < k → X 54 j = cutv (I 53 1) (I 20 j)) ∧ ∀ j, k ≤ j → X 54 j = I 54 j) (P' := fun u X => (∀ c, c ≠ 54 → X c = I c) ∧ (∀ j, j < q → X 54 j = cutv (I 53 1) (I 20 j)) ∧ ∀ j, q ≤ j → X 54 j = I 54 j) (fun k u v X hk hP => by
      obtain ⟨p1, p2, p3⟩ := hP
      refine ⟨(), zr X 54 (upd (X 54) k (cutv (X 53 1) (X 20 k))), fun Q => ?_, fun c hc => by rw [zr_n hc]; exact p1 c hc, fun j hj => ?_, fun j hj => by rw [zr_s, upd_n (by omega)]; exact p3 j (by omega)⟩
      · show Rn _ _ _ _ _ _ _ _ = Rn _ _ _ _ _ _ _ _
        rw [h72_44]
        simp (disch := first | assumption | omega | (simp (disch := omega) only [zr_n, zr_s]; assumption)) only [x72_46, x72_47, x72_50, x72_51, x72_53, x72_54_0, x72_57_18, x72_57_38, x72_60, x72_62, x72_63, x72_66, x72_69, gc_53, bi_20, bs_20, ↓reduceIte, zkl_i, zkl_r, zkl_n, zkl_z, zkl_l, Option.toList_some, Option.toList_none, List.cons_append, List.nil_append, zcs_0, zcs_i, zcs_l, zcs_r, zle8, true_and, and_true, true_or, or_true, nI_ltI, hk, if_true, ixN_nI, nI_clamp, na_1, c_put_53]
      · rw [zr_s]
        by_cases e : j = k
        · subst e; rw [upd_s, p1 53 (by decide), p1 20 (by decide)]
        · rw [upd_n e]; exact p2 j (by omega)) (fun u v X hP => by
      refine ⟨X, fun Q => ?_, hP⟩
      show Rn _ _ _ _ _ _ _ _ = _
      rw [h72_44]
      simp (disch := first | assumption | omega | (simp (disch := omega) only [zr_n, zr_s]; assumption)) only [x72_46, x72_47, x72_50, x72_51, x72_53, x72_54_0, x72_57_18, x72_57_38, x72_60, x72_62, x72_63, x72_66, x72_69, x72_72, x72_73, ↓reduceIte, zkl_i, zkl_r, zkl_n, zkl_z, zkl_l, Option.toList_some, Option.toList_none, List.cons_append, List.nil_append, zcs_0, zcs_i, zcs_l, zcs_r, zle8, true_and, and_true, true_or, or_true, nI_ltI, Nat.lt_irrefl, if_false]) q 0 () () I (Nat.zero_add _) ⟨fun c hc => rfl, fun j hj => by omega, fun j hj => rfl⟩
    obtain ⟨X, l1, l2, l3, l4⟩ := lp
    refine mkU (v := nI q) (I1 := X) h (fun Q => ?_) (RC_sh h.1 (fun c c1 c2 => l2 c (by omega)) (l2 1000 (by decide)) (fun s hs => by rw [l2 (53 + 2 * s) (by omega)]; exact h.1.2.2.1 s hs)) (fun c hc => l2 c (by omega)) (fun M J hM => ?_)
    · refine Eq.trans ?_ (l1 Q)
      rw [← s3] at hmn
      simp (disch := first | assumption | omega | (simp (disch := omega) only [zr_n, zr_s]; assumption)) only [x72_0, x72_1, x72_2, x72_5, x72_8, x72_10, x72_11, x72_12_0, x72_15, x72_16, x72_17, x72_18, x72_19_53, x72_19_55, x72_19_57, x72_19_59, x72_22, x72_25, x72_26, x72_27, x72_30, x72_31, x72_32_53, x72_32_55, x72_32_57, x72_32_59, x72_35, x72_37, x72_40, x72_41, x72_42, gc_0, br_52, aa_52_0, aa_52_1, aa_52_2, aa_52_3, gc_53, ↓reduceIte, zkl_i, zkl_r, zkl_n, zkl_z, zkl_l, Option.toList_some, Option.toList_none, List.cons_append, List.nil_append, zcs_0, zcs_i, zcs_l, zcs_r, zle8, true_and, and_true, true_or, or_true, c_below, c1, i1_0, if_false, ixN_nI, nI_clamp, hz, if_true, hmn]
      rfl
    · obtain ⟨M1, f1, f2, f3, f4⟩ := rq_find (xl := xl) (J := J) h.1 hM
      obtain ⟨-, -, -, o4, -⟩ := sh_0 h.1 hM
      obtain ⟨o1, on⟩ := o4 hz
      obtain ⟨-, w2, w3, w4, -⟩ := sh_0 h.1 f3
      obtain ⟨w1, wn⟩ := w4 hz
      have e85 : ∀ k, k < 10 → M1 85 k = I 20 k := fun k hk => ((f2.2.1 k hk).2.1).trans (h.1.2.2.2.2.2.1 k hk).2.1.symm
      have lp := lpE (R := fun k (u v : Unit) X Q => Rn (zG xl) 183 43 [.ref 65, .int (nI 0), .int (nI q), .int (nI k)] [] X J Q) (E := fun (u : Unit) X' Q => Q (some (.int (nI q))) X' J) (f := fun _ u => u) (n := q) (P := fun k (u : Unit) X => (∀ c, c ≠ 68 → X c = M1 c) ∧ (∀ j, j < k → X 68 (60 * 0 + j) = cutv (I 53 1) (I 20 j)) ∧ ∀ x, x < 60 * 0 ∨ 60 * 0 + k ≤ x → X 68 x = M1 68 x) (P' := fun u X => (∀ c, c ≠ 68 → X c = M1 c) ∧ (∀ j, j < q → X 68 (60 * 0 + j) = cutv (I 53 1) (I 20 j)) ∧ ∀ x, x < 60 * 0 ∨ 60 * 0 + q ≤ x → X 68 x = M1 68 x) (fun k u v X hk hP => by
        obtain ⟨p1, p2, p3⟩ := hP
        refine ⟨(), zr X 68 (upd (X 68) (60 * 0 + k) (cutv (I 53 1) (I 20 k))), fun Q => ?_, fun c hc => by rw [zr_n hc]; exact p1 c hc, fun j hj => ?_, fun x hx => by rw [zr_s, upd_n (by omega)]; exact p3 x (by omega)⟩
        · show Rn _ _ _ _ _ _ _ _ = Rn _ _ _ _ _ _ _ _
          rw [h183_43]
          simp (disch := first | assumption | omega | (simp (disch := omega) only [zr_n, zr_s]; assumption)) only [x183_44, x183_45, x183_48, x183_49_65, x183_52, x183_54, x183_55, x183_56, x183_57, x183_58, x183_59_65, x183_62, x183_63, x183_64, x183_65_65, x183_68, x183_69, x183_70, x183_73, x183_74, x183_77, bi_66, bs_66, bi_68, bs_68, bi_85, bs_85, ↓reduceIte, zkl_i, zkl_r, zkl_n, zkl_z, zkl_l, Option.toList_some, Option.toList_none, List.cons_append, List.nil_append, zcs_0, zcs_i, zcs_l, zcs_r, zle8, true_and, and_true, true_or, or_true, nI_ltI, hk, if_true, nm_60, nI_add, ixN_nI, nI_clamp, na_1, p1 66 (by decide), p1 85 (by decide), w1, e85 k (by omega), m_cut, cut_eq]
        · rw [zr_s]
          by_cases e : j = k
          · subst e; rw [upd_s]
          · rw [upd_n (by omega)]; exact p2 j (by omega)) (fun u v X hP => by
        refine ⟨X, fun Q => ?_, hP⟩
        show Rn _ _ _ _ _ _ _ _ = _
        rw [h183_43]
        simp (disch := first | assumption | omega | (simp (disch := omega) only [zr_n, zr_s]; assumption)) only [x183_44, x183_45, x183_48, x183_49_65, x183_52, x183_54, x183_55, x183_56, x183_57, x183_58, x183_59_65, x183_62, x183_63, x183_64, x183_65_65, x183_68, x183_69, x183_70, x183_73, x183_74, x183_77, x183_80, x183_81, ↓reduceIte, zkl_i, zkl_r, zkl_n, zkl_z, zkl_l, Option.toList_some, Option.toList_none, List.cons_append, List.nil_append, zcs_0, zcs_i, zcs_l, zcs_r, zle8, true_and, and_true, true_or, or_true, nI_ltI, Nat.lt_irrefl, if_false]) q 0 () () M1 (Nat.zero_add _) ⟨fun c hc => rfl, fun j hj => by omega, fun x hx => rfl⟩
      obtain ⟨M2, m1, m2, m3, m4⟩ := lp
      refine ⟨M2, fun Q => ?_, RM_sh f3 (fun c c1 c2 => l2 c (by omega)) (by rw [m2 65 (by decide), l2 0 (by decide)]; exact f3.2.2.2.2.2.2) (SHm_0 h.1 f3 (fun c c1 c2 c3 c4 => l2 c c4) (fun s e => by rw [m2 66 (by decide)]) (fun s e => by rw [m2 67 (by decide)]) (fun j e => m4 j (by omega)) ?_ ?_ ?_) (m2 70 (by decide)) (m2 71 (by decide)) (m2 75 (by decide)) (m2 87 (by decide)) (fun j hj => by rw [m2 65 (by decide)]), fun c hc => (m2 c (by omega)).trans (f4.1 c (by omega))⟩
      · refine Eq.trans ?_ (m1 Q)
        rw [← s3] at hmm
        simp (disch := first | assumption | omega | (simp (disch := omega) only [zr_n, zr_s]; assumption)) only [x183_0, x183_1, x183_4, x183_7, x183_9, x183_10, x183_11_65, x183_14, x183_15, x183_16, x183_19, x183_20, x183_21, x183_24, x183_25, x183_26, x183_29, x183_30_65, x183_33, x183_34, x183_35, x183_37, x183_40, x183_41, x183_42, gc_65, bi_66, bs_66, bi_67, bs_67, ↓reduceIte, zkl_i, zkl_r, zkl_n, zkl_z, zkl_l, Option.toList_some, Option.toList_none, List.cons_append, List.nil_append, zcs_0, zcs_i, zcs_l, zcs_r, zle8, true_and, and_true, true_or, or_true, m_isSheet, r1, i1_0, if_false, ixN_nI, nI_clamp, o1, on, f1, w2, m_lesser, hmm]
        rfl
      · rw [m2 66 (by decide), l2 53 (by decide), if_pos hz]; exact w1
      · rw [m2 67 (by decide), l2 53 (by decide)]; exact w2
      · rw [l2 53 (by decide)]
        intro j hj
        by_cases e : j < q
        · rw [m3 j e, l3 j e]
        · rw [m4 _ (by omega), l4 j (by omega)]
          exact w3 j hj
  · refine mkF (v := -11) (k := 1) h (fun Q => ?_) (fun M J hM Q => ?_)
    · simp (disch := first | assumption | omega | (simp (disch := omega) only [zr_n, zr_s]; assumption)) only [x72_0, x72_1, x72_2, x72_5, x72_8, x72_10, x72_11, x72_12_0, x72_15, x72_16, x72_17, x72_18, x72_19_53, x72_19_55, x72_19_57, x72_19_59, x72_22, x72_25, x72_26, x72_27, x72_30, x72_31, x72_32_53, x72_32_55, x72_32_57, x72_32_59, x72_35, x72_37, x72_40, x72_41, x72_42, gc_0, br_52, aa_52_0, aa_52_1, aa_52_2, aa_52_3, gc_53, ↓reduceIte, zkl_i, zkl_r, zkl_n, zkl_z, zkl_l, Option.toList_some, Option.toList_none, List.cons_append, List.nil_append, zcs_0, zcs_i, zcs_l, zcs_r, zle8, true_and, and_true, true_or, or_true, c_below, c1, i1_0, if_false, ixN_nI, nI_clamp, hz, c_found, v11]
    · have o1 := (sh_0 h.1 hM).2.2.2.2 hz
      simp (disch := first | assumption | omega | (simp (disch := omega) only [zr_n, zr_s]; assumption)) only [x183_0, x183_1, x183_4, x183_7, x183_9, x183_10, x183_11_65, x183_14, x183_15, x183_16, x183_19, x183_20, x183_21, x183_24, x183_25, x183_26, x183_29, x183_30_65, x183_33, x183_34, x183_35, x183_37, x183_40, x183_41, x183_42, gc_65, bi_66, bs_66, bi_67, bs_67, ↓reduceIte, zkl_i, zkl_r, zkl_n, zkl_z, zkl_l, Option.toList_some, Option.toList_none, List.cons_append, List.nil_append, zcs_0, zcs_i, zcs_l, zcs_r, zle8, true_and, and_true, true_or, or_true, m_isSheet, r1, i1_0, if_false, ixN_nI, nI_clamp, o1, m1_0, if_true, m_finds, v11]
theorem rd_loop_0 (hI : RC I) (hM : RM I M) : ∀ (d n : Nat) (X M' : zI) (v5 v6 v7 w4 : Value) (J2 : zJ), n + d = 20 → RRc I X → RRm M X M' → ∃ (r : Nat) (X1 M1 : zI) (y4 y5 y6 y7 : Value), (∀ Q : zQ, Rn (zG xl) 47 36 [.ref 0, .int (nI 0), .ref 53, .int (nI n), .int (nI (3 * n)), v5, v6, v7] [] X J Q = Rn (zG xl) 47 127 [.ref 0, .int (nI 0), .ref 53, .int (nI r), y4, y5, y6, y7] [] X1 J Q) ∧ (∀ Q : zQ, Rn (zG xl) 137 29 [.ref 65, .int (nI 0), .int (nI n), .int 1, w4] [] M' J2 Q = Q (some (.int (nI r))) M1 J2) ∧ RRc I X1 ∧ RRm M X1 M1 := by
  obtain ⟨⟨s1, s2, s3, s4⟩, o2, o3, -⟩ := sh_0 hI hM
  intro d
  induction d with
  | zero =>
    intro n X M' v5 v6 v7 w4 J2 hn hX hM'
    have hn : n = 20 := hn
    subst hn
    have e1 : X 53 2 = nI (tn (I 53 2)) := by rw [hX.1 53 (by decide) (by decide) (by decide) (by decide)]; exact s3
    have e2 : M' 67 0 = nI (tn (I 53 2)) := by rw [hM'.1 67 (by decide) (by decide), o2]; exact s3
    have q1 : ¬ nI (3 * 20 + 2) < nI (tn (I 53 2)) := by rw [nI_ltI (by decide) (by omega)]; omega
    have q2 : nI (tn (I 53 2)) < nI (3 * 20 + 3) := by rw [nI_ltI (by omega) (by decide)]; omega
    refine ⟨20, X, M', .int (nI (3 * 20)), v5, v6, v7, fun Q => ?_, fun Q => ?_, hX, hM'⟩
    · rw [h47_36]
      simp (disch := first | assumption | omega | (simp (disch := omega) only [zr_n, zr_s]; assumption)) only [x47_38, x47_39, x47_40, x47_41_53, x47_41_55, x47_41_57, x47_41_59, x47_44, x47_47, x47_48_0, x47_51_8, x47_51_28, x47_54, x47_56, ↓reduceIte, zkl_i, zkl_r, zkl_n, zkl_z, zkl_l, Option.toList_some, Option.toList_none, List.cons_append, List.nil_append, zcs_0, zcs_i, zcs_l, zcs_r, zle8, true_and, and_true, true_or, or_true, na_2, e1, q1, if_false]
    · rw [h137_29]
      simp (disch := first | assumption | omega | (simp (disch := omega) only [zr_n, zr_s]; assumption)) only [x137_30, x137_33, x137_34, x137_35, x137_36, x137_37, x137_38, x137_39_65, x137_42, x137_43, x137_44, x137_110, x137_111, bi_67, bs_67, ↓reduceIte, zkl_i, zkl_r, zkl_n, zkl_z, zkl_l, Option.toList_some, Option.toList_none, List.cons_append, List.nil_append, zcs_0, zcs_i, zcs_l, zcs_r, zle8, true_and, and_true, true_or, or_true, i1_0, if_false, nm_3, na_3, ixN_nI, nI_clamp, e2, q2, if_true]
  | succ d ih =>
    intro n X M' v5 v6 v7 w4 J2 hn hX hM'
    have hXr := hX
    have hMr := hM'
    obtain ⟨x1, x2, x3, x4⟩ := hX
    obtain ⟨m1, m2, m3⟩ := hM'
    have e1 : X 53 2 = nI (tn (I 53 2)) := by rw [x1 53 (by decide) (by decide) (by decide) (by decide)]; exact s3
    have e2 : M' 67 0 = nI (tn (I 53 2)) := by rw [m1 67 (by decide) (by decide), o2]; exact s3
    by_cases hL : 3 * n + 2 < tn (I 53 2)
    · have q1 : nI (3 * n + 2) < nI (tn (I 53 2)) := by rw [nI_ltI (by omega) (by omega)]; omega
      have q2 : ¬ nI (tn (I 53 2)) < nI (3 * n + 3) := by rw [nI_ltI (by omega) (by omega)]; omega
      have i0 : M' 68 (60 * 0 + 3 * n) = X 54 (3 * n) := by rw [m1 68 (by decide) (by decide), x1 54 (by decide) (by decide) (by decide) (by decide)]; exact o3 _ (by omega)
      have i1 : M' 68 (60 * 0 + 3 * n + 1) = X 54 (3 * n + 1) := by rw [m1 68 (by decide) (by decide), x1 54 (by decide) (by decide) (by decide) (by decide)]; exact o3 (3 * n + 1) (by omega)
      have i2 : M' 68 (60 * 0 + 3 * n + 2) = X 54 (3 * n + 2) := by rw [m1 68 (by decide) (by decide), x1 54 (by decide) (by decide) (by decide) (by decide)]; exact o3 (3 * n + 2) (by omega)
      generalize he : tn (X 8 9) = e at x3 x4
      have m14 : M' 65 14 = nI e := m3.2.1.trans x3
      generalize ha : X 54 (3 * n) = va at i0
      generalize hb : X 54 (3 * n + 1) = vb at i1
      generalize hc : X 54 (3 * n + 2) = vc at i2
      have stop : ∀ (v : Int32), v < 0 → (∀ Q : zQ, Rn (zG xl) 135 0 [.ref 65, .int va, .int vb, .int vc] [] M' J2 Q = Q (some (.int v)) M' J2) → ∀ Q : zQ, Rn (zG xl) 137 29 [.ref 65, .int (nI 0), .int (nI n), .int 1, w4] [] M' J2 Q = Q (some (.int (nI n))) M' J2 := by
        intro v hv hev Q
        rw [h137_29]
        simp (disch := first | assumption | omega | (simp (disch := omega) only [zr_n, zr_s]; assumption)) only [x137_30, x137_33, x137_34, x137_35, x137_36, x137_37, x137_38, x137_39_65, x137_42, x137_43, x137_44, x137_47, x137_49, x137_50, x137_51, x137_52, x137_53, x137_54, x137_55, x137_57, x137_58, x137_59_65, x137_62, x137_64, x137_65, x137_66_65, x137_69, x137_71, x137_72, x137_73, x137_74, x137_75_65, x137_78, x137_80, x137_81, x137_82, x137_83, x137_86, x137_89, x137_90, x137_93, x137_94, x137_95, x137_96, x137_97, x137_100, x137_101, x137_104, x137_105, x137_106, x137_107, gc_65, bi_67, bs_67, bi_68, bs_68, ↓reduceIte, zkl_i, zkl_r, zkl_n, zkl_z, zkl_l, Option.toList_some, Option.toList_none, List.cons_append, List.nil_append, zcs_0, zcs_i, zcs_l, zcs_r, zle8, true_and, and_true, true_or, or_true, i1_0, if_false, nm_3, na_3, ixN_nI, nI_clamp, e2, q2, nm_60, nI_add, na_1, na_2, i0, i1, i2, hev, hv, if_true, Int32.add_zero]
        rw [h137_29]
        simp (disch := first | assumption | omega | (simp (disch := omega) only [zr_n, zr_s]; assumption)) only [x137_30, x137_33, x137_34, x137_35, x137_36, x137_37, x137_38, x137_39_65, x137_42, x137_43, x137_44, x137_47, x137_49, x137_50, x137_51, x137_52, x137_53, x137_54, x137_55, x137_57, x137_58, x137_59_65, x137_62, x137_64, x137_65, x137_66_65, x137_69, x137_71, x137_72, x137_73, x137_74, x137_75_65, x137_78, x137_80, x137_81, x137_82, x137_83, x137_86, x137_89, x137_90, x137_93, x137_94, x137_95, x137_96, x137_97, x137_100, x137_101, x137_104, x137_105, x137_106, x137_107, x137_110, x137_111, ↓reduceIte, zkl_i, zkl_r, zkl_n, zkl_z, zkl_l, Option.toList_some, Option.toList_none, List.cons_append, List.nil_append, zcs_0, zcs_i, zcs_l, zcs_r, zle8, true_and, and_true, true_or, or_true, if_true]
      by_cases hv : IN va 2 ∧ IN vb 6 ∧ IN vc 24
      · by_cases h8 : e = 8
        · have n8 : ¬ nI e < 8 := by rw [h8]; decide
          obtain ⟨⟨i, hi, rfl⟩, ⟨j, hj, rfl⟩, ⟨k, hk, rfl⟩⟩ := hv
          refine ⟨n, X, M', .int (nI (3 * n)), v5, v6, v7, fun Q => ?_, stop (-4) (by decide) (fun Q => by rw [m_event_ok hi hj hk m14 x4, if_pos h8]), hXr, hMr⟩
          rw [h47_36]
          simp (disch := first | assumption | omega | (simp (disch := omega) only [zr_n, zr_s]; assumption)) only [x47_38, x47_39, x47_40, x47_41_53, x47_41_55, x47_41_57, x47_41_59, x47_44, x47_47, x47_48_0, x47_51_8, x47_51_28, x47_54, x47_56, ↓reduceIte, zkl_i, zkl_r, zkl_n, zkl_z, zkl_l, Option.toList_some, Option.toList_none, List.cons_append, List.nil_append, zcs_0, zcs_i, zcs_l, zcs_r, zle8, true_and, and_true, true_or, or_true, na_2, e1, q1, if_true, x3, n8, if_false]
        · have n8 : nI e < 8 := (nI_ltI (b := 8) (by omega) (by decide)).mpr (by omega)
          obtain ⟨⟨i, hi, rfl⟩, ⟨j, hj, rfl⟩, ⟨k, hk, rfl⟩⟩ := hv
          have hmay := may1 hi hj hk
          have hx : ixN (X 8 9) 8 := by rw [x3, ixN_nI (by omega) (by decide)]; trivial
          have e9' : zae X (nI i) (nI j) (nI k) 8 9 = nI (e + 1) := by
            unfold zae
            rw [zr_s, upd_s, x3, na_1]
          have te : tn (nI (e + 1)) = e + 1 := nI_clamp (by omega)
          obtain ⟨r, X1, M1, y4, y5, y6, y7, g1, g2, g3, g4⟩ := ih (n + 1) (zae X (nI i) (nI j) (nI k)) (evM e (nI i) (nI j) (nI k) M') (.int (nI i)) (.int (nI j)) (.int (nI k)) (.int (nI (60 * 0 + 3 * n))) J2 (by omega) ⟨fun c c1 c2 c3 c4 => (zae_f (by omega)).trans (x1 c c1 c2 c3 c4), fun j hj => by unfold zae; rw [zr_s, upd_n hj]; exact x2 j hj, by rw [e9', te], by rw [e9', te]; omega⟩ ⟨fun c c1 c2 => by unfold evM; rw [zr_n c1, zr_n c2]; exact m1 c c1 c2, fun j hj => by unfold evM; rw [zr_s, upd_n hj]; exact m2 j hj, evM_ev x3 (by omega) m3⟩
          refine ⟨r, X1, M1, y4, y5, y6, y7, fun Q => ?_, fun Q => ?_, g3, g4⟩
          · rw [← g1 Q, h47_36]
            have e3 : 3 * n + 3 = 3 * (n + 1) := by omega
            simp (disch := first | assumption | omega | (simp (disch := omega) only [zr_n, zr_s]; assumption)) only [x47_38, x47_39, x47_40, x47_41_53, x47_41_55, x47_41_57, x47_41_59, x47_44, x47_47, x47_48_0, x47_51_8, x47_51_28, x47_54, x47_56, x47_59, x47_60_53, x47_60_55, x47_60_57, x47_60_59, x47_63, x47_65, x47_66, x47_68, x47_69_53, x47_69_55, x47_69_57, x47_69_59, x47_72, x47_74, x47_75, x47_76, x47_77, x47_79, x47_80_53, x47_80_55, x47_80_57, x47_80_59, x47_83, x47_85, x47_86, x47_87, x47_88, x47_90, x47_92, x47_94, x47_96, x47_99, x47_102, x47_105, x47_106_0, x47_109, x47_111, x47_113, x47_115, x47_118, x47_121, x47_124, gc_8, bi_54, bs_54, ↓reduceIte, zkl_i, zkl_r, zkl_n, zkl_z, zkl_l, Option.toList_some, Option.toList_none, List.cons_append, List.nil_append, zcs_0, zcs_i, zcs_l, zcs_r, zle8, true_and, and_true, true_or, or_true, na_2, na_1, na_3, e1, q1, if_true, n8, ixN_nI, nI_clamp, ha, hb, hc, c_mayBeEvent, hmay, i1_0, if_false, c_addEvent, e3, x3]
          · refine Eq.trans ?_ (g2 Q)
            have hev := fun Q => m_event_ok (xl := xl) (J := J2) (Q := Q) (M := M') hi hj hk m14 x4
            simp only [if_neg h8] at hev
            have np : ¬ nI (e + 1) < 0 := nI_pos (by omega)
            rw [h137_29]
            simp (disch := first | assumption | omega | (simp (disch := omega) only [zr_n, zr_s]; assumption)) only [x137_30, x137_33, x137_34, x137_35, x137_36, x137_37, x137_38, x137_39_65, x137_42, x137_43, x137_44, x137_47, x137_49, x137_50, x137_51, x137_52, x137_53, x137_54, x137_55, x137_57, x137_58, x137_59_65, x137_62, x137_64, x137_65, x137_66_65, x137_69, x137_71, x137_72, x137_73, x137_74, x137_75_65, x137_78, x137_80, x137_81, x137_82, x137_83, x137_86, x137_89, x137_90, x137_93, x137_94, x137_95, x137_96, x137_97, x137_100, x137_101, x137_104, x137_105, x137_106, x137_107, gc_65, bi_67, bs_67, bi_68, bs_68, ↓reduceIte, zkl_i, zkl_r, zkl_n, zkl_z, zkl_l, Option.toList_some, Option.toList_none, List.cons_append, List.nil_append, zcs_0, zcs_i, zcs_l, zcs_r, zle8, true_and, and_true, true_or, or_true, i1_0, if_false, nm_3, na_3, ixN_nI, nI_clamp, e2, q2, nm_60, nI_add, na_1, na_2, i0, i1, i2, hev, np]
      · have hmay := may0 hv
        have hbad := fun Q => m_event_bad (xl := xl) (J := J2) (Q := Q) (M := M') hv
        by_cases h8 : e = 8
        · have n8 : ¬ nI e < 8 := by rw [h8]; decide
          refine ⟨n, X, M', .int (nI (3 * n)), v5, v6, v7, fun Q => ?_, stop (-2) (by decide) hbad, hXr, hMr⟩
          rw [h47_36]
          simp (disch := first | assumption | omega | (simp (disch := omega) only [zr_n, zr_s]; assumption)) only [x47_38, x47_39, x47_40, x47_41_53, x47_41_55, x47_41_57, x47_41_59, x47_44, x47_47, x47_48_0, x47_51_8, x47_51_28, x47_54, x47_56, ↓reduceIte, zkl_i, zkl_r, zkl_n, zkl_z, zkl_l, Option.toList_some, Option.toList_none, List.cons_append, List.nil_append, zcs_0, zcs_i, zcs_l, zcs_r, zle8, true_and, and_true, true_or, or_true, na_2, e1, q1, if_true, x3, n8, if_false]
        · have n8 : nI e < 8 := (nI_ltI (b := 8) (by omega) (by decide)).mpr (by omega)
          refine ⟨n, X, M', .int (nI (3 * n)), .int va, .int vb, .int vc, fun Q => ?_, stop (-2) (by decide) hbad, hXr, hMr⟩
          rw [h47_36]
          simp (disch := first | assumption | omega | (simp (disch := omega) only [zr_n, zr_s]; assumption)) only [x47_38, x47_39, x47_40, x47_41_53, x47_41_55, x47_41_57, x47_41_59, x47_44, x47_47, x47_48_0, x47_51_8, x47_51_28, x47_54, x47_56, x47_59, x47_60_53, x47_60_55, x47_60_57, x47_60_59, x47_63, x47_65, x47_66, x47_68, x47_69_53, x47_69_55, x47_69_57, x47_69_59, x47_72, x47_74, x47_75, x47_76, x47_77, x47_79, x47_80_53, x47_80_55, x47_80_57, x47_80_59, x47_83, x47_85, x47_86, x47_87, x47_88, x47_90, x47_92, x47_94, x47_96, x47_99, x47_102, x47_105, x47_106_0, x47_109, x47_111, x47_113, x47_115, x47_118, x47_121, x47_124, gc_8, bi_54, bs_54, ↓reduceIte, zkl_i, zkl_r, zkl_n, zkl_z, zkl_l, Option.toList_some, Option.toList_none, List.cons_append, List.nil_append, zcs_0, zcs_i, zcs_l, zcs_r, zle8, true_and, and_true, true_or, or_true, na_2, na_1, e1, q1, if_true, n8, ixN_nI, nI_clamp, ha, hb, hc, c_mayBeEvent, hmay, x3]
    · have q1 : ¬ nI (3 * n + 2) < nI (tn (I 53 2)) := by rw [nI_ltI (by omega) (by omega)]; omega
      have q2 : nI (tn (I 53 2)) < nI (3 * n + 3) := by rw [nI_ltI (by omega) (by omega)]; omega
      refine ⟨n, X, M', .int (nI (3 * n)), v5, v6, v7, fun Q => ?_, fun Q => ?_, hXr, hMr⟩
      · rw [h47_36]
        simp (disch := first | assumption | omega | (simp (disch := omega) only [zr_n, zr_s]; assumption)) only [x47_38, x47_39, x47_40, x47_41_53, x47_41_55, x47_41_57, x47_41_59, x47_44, x47_47, x47_48_0, x47_51_8, x47_51_28, x47_54, x47_56, ↓reduceIte, zkl_i, zkl_r, zkl_n, zkl_z, zkl_l, Option.toList_some, Option.toList_none, List.cons_append, List.nil_append, zcs_0, zcs_i, zcs_l, zcs_r, zle8, true_and, and_true, true_or, or_true, na_2, e1, q1, if_false]
      · rw [h137_29]
        simp (disch := first | assumption | omega | (simp (disch := omega) only [zr_n, zr_s]; assumption)) only [x137_30, x137_33, x137_34, x137_35, x137_36, x137_37, x137_38, x137_39_65, x137_42, x137_43, x137_44, x137_110, x137_111, bi_67, bs_67, ↓reduceIte, zkl_i, zkl_r, zkl_n, zkl_z, zkl_l, Option.toList_some, Option.toList_none, List.cons_append, List.nil_append, zcs_0, zcs_i, zcs_l, zcs_r, zle8, true_and, and_true, true_or, or_true, i1_0, if_false, nm_3, na_3, ixN_nI, nI_clamp, e2, q2, if_true]
theorem k_read_0 (h : Inv I) : KI xl 47 137 [.ref 0, .int (nI 0), .null, .null, .null, .null, .null, .null] [.ref 65, .int (nI 0), .null, .null, .null] I J := by
  have c1 : (if nI 0 < 0 then (0 : Int32) else if nI 0 < 4 then 1 else 0) = 1 := bl1 (n := 4) (by decide) (by decide)
  have r1 : bt (nI 0) 0 3 = 1 := in1 (m := 3) (by decide) (by decide)
  by_cases hz : I 53 0 = 0
  · have hX0 : RRc I I := by
      obtain ⟨e0, e3, e6, e9⟩ := RC_8 h.1
      have b9 := (RC_l h.1).2.2.2
      have : tn (I 8 9) = tn (pD I 28 9) := rfl
      exact ⟨fun c _ _ _ _ => rfl, fun j _ => rfl, by rw [this]; exact e9, by rw [this]; exact b9⟩
    obtain ⟨r, X, M0, y4, y5, y6, y7, g1, g2, g3, g4⟩ := rd_loop_0 (xl := xl) (J := J) h.1 h.2 20 0 I I .null .null .null .null J rfl hX0 ⟨fun c _ _ => rfl, fun j _ => rfl, h.2.2.2.2.1⟩
    have hR : RP X := RP_8 (fun c c1 c2 => g3.1 c c2 (by omega) (by omega) (by omega)) (g3.2.1 0 (by decide)) (g3.2.1 3 (by decide)) (g3.2.1 6 (by decide)) (by rw [g3.2.2.1, ixN_nI (by have := g3.2.2.2; omega) (by decide)]; trivial) (g3.2.1 13 (by decide)) (g3.1 1000 (by decide) (by decide) (by decide) (by decide)) h.1.1
    have hp := fun Q => d_pass_18 (xl := xl) (J := J) (Q := Q) (RP_CD hR)
    refine mkU (v := nI r) (I1 := zps 18 8 X) h (fun Q => ?_) (RC_ps hR (SG_f (fun c c1 c2 => g3.1 c (by omega) (by omega) (by omega) (by omega)) h.1.2.1) (SHc_f (fun c c1 c2 => g3.1 c (by omega) (by omega) (by omega) (by omega)) h.1.2.2.1)) (fun c hc => by rw [zps_f (by omega)]; exact g3.1 c (by omega) (by omega) (by omega) (by omega)) (fun M J' hM => ?_)
    · have st : Rn (zG xl) 47 0 [.ref 0, .int (nI 0), .null, .null, .null, .null, .null, .null] [] I J Q = Rn (zG xl) 47 36 [.ref 0, .int (nI 0), .ref 53, .int (nI 0), .int (nI (3 * 0)), .null, .null, .null] [] I J Q := by
        simp (disch := first | assumption | omega | (simp (disch := omega) only [zr_n, zr_s]; assumption)) only [x47_0, x47_1, x47_2, x47_5, x47_8, x47_10, x47_11, x47_12_0, x47_15, x47_16, x47_17, x47_18, x47_19_53, x47_19_55, x47_19_57, x47_19_59, x47_22, x47_25, x47_26, x47_27, x47_30, x47_31, x47_32, x47_33, x47_34, gc_0, br_52, aa_52_0, aa_52_1, aa_52_2, aa_52_3, gc_53, ↓reduceIte, zkl_i, zkl_r, zkl_n, zkl_z, zkl_l, Option.toList_some, Option.toList_none, List.cons_append, List.nil_append, zcs_0, zcs_i, zcs_l, zcs_r, zle8, true_and, and_true, true_or, or_true, c_below, c1, i1_0, if_false, ixN_nI, nI_clamp, hz, if_true]
        rfl
      rw [st, g1 Q]
      simp (disch := first | assumption | omega | (simp (disch := omega) only [zr_n, zr_s]; assumption)) only [x47_127, x47_128_0, x47_131, x47_132_0, x47_135, x47_138, x47_139, gc_18, ↓reduceIte, zkl_i, zkl_r, zkl_n, zkl_z, zkl_l, Option.toList_some, Option.toList_none, List.cons_append, List.nil_append, zcs_0, zcs_i, zcs_l, zcs_r, zle8, true_and, and_true, true_or, or_true, hp]
    · obtain ⟨-, o2, o3, o4, -⟩ := sh_0 h.1 hM
      obtain ⟨o1, on⟩ := o4 hz
      obtain ⟨r', X', M1, z4, z5, z6, z7, f1, f2, f3, f4⟩ := rd_loop_0 (xl := xl) (J := J) h.1 hM 20 0 I M .null .null .null .null J' rfl hX0 ⟨fun c _ _ => rfl, fun j _ => rfl, hM.2.2.2.1⟩
      have hR' : RP X' := RP_8 (fun c c1 c2 => f3.1 c c2 (by omega) (by omega) (by omega)) (f3.2.1 0 (by decide)) (f3.2.1 3 (by decide)) (f3.2.1 6 (by decide)) (by rw [f3.2.2.1, ixN_nI (by have := f3.2.2.2; omega) (by decide)]; trivial) (f3.2.1 13 (by decide)) (f3.1 1000 (by decide) (by decide) (by decide) (by decide)) h.1.1
      have hp' := fun Q => d_pass_18 (xl := xl) (J := J) (Q := Q) (RP_CD hR')
      have en : ∀ Q : zQ, Q (some (.int (nI r))) (zps 18 8 X) J = Q (some (.int (nI r'))) (zps 18 8 X') J := by
        intro Q
        have q1 := (g1 Q).symm.trans (f1 Q)
        simp (disch := first | assumption | omega | (simp (disch := omega) only [zr_n, zr_s]; assumption)) only [x47_127, x47_128_0, x47_131, x47_132_0, x47_135, x47_138, x47_139, gc_18, ↓reduceIte, zkl_i, zkl_r, zkl_n, zkl_z, zkl_l, Option.toList_some, Option.toList_none, List.cons_append, List.nil_append, zcs_0, zcs_i, zcs_l, zcs_r, zle8, true_and, and_true, true_or, or_true, hp, hp'] at q1
        exact q1
      have eX : zps 18 8 X' = zps 18 8 X := ((en (fun _ Y _ => Y = zps 18 8 X)).mp rfl)
      have er : nI r' = nI r := by
        have q2 := (en (fun v _ _ => v = some (.int (nI r)))).mp rfl
        injection q2 with q2
        injection q2
      refine ⟨M1, fun Q => ?_, ?_, fun c hc => f4.1 c (by omega) (by omega)⟩
      rotate_left
      · rw [← eX]
        exact RM_ev hM (fun c hc => f3.1 c (by omega) (by omega) (by omega) (by omega)) f4.2.2 (fun c c1 c2 c3 => f4.1 c (by omega) c3) (f4.2.1 4 (by decide)) (f4.2.1 28 (by decide))
      rw [← er]
      refine Eq.trans ?_ (f2 Q)
      simp (disch := first | assumption | omega | (simp (disch := omega) only [zr_n, zr_s]; assumption)) only [x137_0, x137_1, x137_4, x137_7, x137_9, x137_10, x137_11_65, x137_14, x137_15, x137_16, x137_19, x137_20, x137_21, x137_24, x137_25, x137_26, x137_27, x137_28, gc_65, bi_66, bs_66, ↓reduceIte, zkl_i, zkl_r, zkl_n, zkl_z, zkl_l, Option.toList_some, Option.toList_none, List.cons_append, List.nil_append, zcs_0, zcs_i, zcs_l, zcs_r, zle8, true_and, and_true, true_or, or_true, m_isSheet, r1, i1_0, if_false, ixN_nI, nI_clamp, o1, on]
      rfl
  · refine mkF (v := -11) (k := 1) h (fun Q => ?_) (fun M J hM Q => ?_)
    · simp (disch := first | assumption | omega | (simp (disch := omega) only [zr_n, zr_s]; assumption)) only [x47_0, x47_1, x47_2, x47_5, x47_8, x47_10, x47_11, x47_12_0, x47_15, x47_16, x47_17, x47_18, x47_19_53, x47_19_55, x47_19_57, x47_19_59, x47_22, x47_25, x47_26, x47_27, x47_30, x47_31, x47_32, x47_33, x47_34, gc_0, br_52, aa_52_0, aa_52_1, aa_52_2, aa_52_3, gc_53, ↓reduceIte, zkl_i, zkl_r, zkl_n, zkl_z, zkl_l, Option.toList_some, Option.toList_none, List.cons_append, List.nil_append, zcs_0, zcs_i, zcs_l, zcs_r, zle8, true_and, and_true, true_or, or_true, c_below, c1, i1_0, if_false, ixN_nI, nI_clamp, hz, c_found, v11]
    · have o1 := (sh_0 h.1 hM).2.2.2.2 hz
      simp (disch := first | assumption | omega | (simp (disch := omega) only [zr_n, zr_s]; assumption)) only [x137_0, x137_1, x137_4, x137_7, x137_9, x137_10, x137_11_65, x137_14, x137_15, x137_16, x137_19, x137_20, x137_21, x137_24, x137_25, x137_26, x137_27, x137_28, gc_65, bi_66, bs_66, bi_67, bs_67, ↓reduceIte, zkl_i, zkl_r, zkl_n, zkl_z, zkl_l, Option.toList_some, Option.toList_none, List.cons_append, List.nil_append, zcs_0, zcs_i, zcs_l, zcs_r, zle8, true_and, and_true, true_or, or_true, m_isSheet, r1, i1_0, if_false, ixN_nI, nI_clamp, o1, m1_0, if_true, m_finds, v11]
theorem k_write_1 (h : Inv I) : KI xl 72 183 [.ref 0, .int (nI 1), .null, .null, .null] [.ref 65, .int (nI 1), .null, .null] I J := by
  have c1 : (if nI 1 < 0 then (0 : Int32) else if nI 1 < 4 then 1 else 0) = 1 := bl1 (n := 4) (by decide) (by decide)
  have r1 : bt (nI 1) 0 3 = 1 := in1 (m := 3) (by decide) (by decide)
  obtain ⟨⟨s1, s2, s3, s4⟩, -⟩ := sh_1 h.1 h.2
  by_cases hz : I 55 0 = 0
  · have hmn := mn_c s4
    have hmm := mn_m s4
    have hb10 : min (tn (I 55 2)) 10 ≤ 10 := Nat.min_le_right _ _
    have hbL : min (tn (I 55 2)) 10 ≤ tn (I 55 2) := Nat.min_le_left _ _
    generalize hq : min (tn (I 55 2)) 10 = q at hmn hmm hb10 hbL
    have lp := lpE (R := fun k (u v : Unit) X Q => Rn (zG xl) 72 44 [.ref 0, .int (nI 1), .ref 55, .int (nI q), .int (nI k)] [] X J Q) (E := fun (u : Unit) X' Q => Q (some (.int (nI q))) X' J) (f := fun _ u => u) (n := q) (P := fun k (u : Unit) X => (∀ c, c ≠ 56 → X c = I c) ∧ (∀ j, j < k → X 56 j = cutv (I 55 1) (I 20 j)) ∧ ∀ j, k ≤ j → X 56 j = I 56 j) (P' := fun u X => (∀ c, c ≠ 56 → X c = I c) ∧ (∀ j, j < q → X 56 j = cutv (I 55 1) (I 20 j)) ∧ ∀ j, q ≤ j → X 56 j = I 56 j) (fun k u v X hk hP => by
      obtain ⟨p1, p2, p3⟩ := hP
      refine ⟨(), zr X 56 (upd (X 56) k (cutv (X 55 1) (X 20 k))), fun Q => ?_, fun c hc => by rw [zr_n hc]; exact p1 c hc, fun j hj => ?_, fun j hj => by rw [zr_s, upd_n (by omega)]; exact p3 j (by omega)⟩
      · show Rn _ _ _ _ _ _ _ _ = Rn _ _ _ _ _ _ _ _
        rw [h72_44]
        simp (disch := first | assumption | omega | (simp (disch := omega) only [zr_n, zr_s]; assumption)) only [x72_46, x72_47, x72_50, x72_51, x72_53, x72_54_0, x72_57_18, x72_57_38, x72_60, x72_62, x72_63, x72_66, x72_69, gc_55, bi_20, bs_20, ↓reduceIte, zkl_i, zkl_r, zkl_n, zkl_z, zkl_l, Option.toList_some, Option.toList_none, List.cons_append, List.nil_append, zcs_0, zcs_i, zcs_l, zcs_r, zle8, true_and, and_true, true_or, or_true, nI_ltI, hk, if_true, ixN_nI, nI_clamp, na_1, c_put_55]
      · rw [zr_s]
        by_cases e : j = k
        · subst e; rw [upd_s, p1 55 (by decide), p1 20 (by decide)]
        · rw [upd_n e]; exact p2 j (by omega)) (fun u v X hP => by
      refine ⟨X, fun Q => ?_, hP⟩
      show Rn _ _ _ _ _ _ _ _ = _
      rw [h72_44]
      simp (disch := first | assumption | omega | (simp (disch := omega) only [zr_n, zr_s]; assumption)) only [x72_46, x72_47, x72_50, x72_51, x72_53, x72_54_0, x72_57_18, x72_57_38, x72_60, x72_62, x72_63, x72_66, x72_69, x72_72, x72_73, ↓reduceIte, zkl_i, zkl_r, zkl_n, zkl_z, zkl_l, Option.toList_some, Option.toList_none, List.cons_append, List.nil_append, zcs_0, zcs_i, zcs_l, zcs_r, zle8, true_and, and_true, true_or, or_true, nI_ltI, Nat.lt_irrefl, if_false]) q 0 () () I (Nat.zero_add _) ⟨fun c hc => rfl, fun j hj => by omega, fun j hj => rfl⟩
    obtain ⟨X, l1, l2, l3, l4⟩ := lp
    refine mkU (v := nI q) (I1 := X) h (fun Q => ?_) (RC_sh h.1 (fun c c1 c2 => l2 c (by omega)) (l2 1000 (by decide)) (fun s hs => by rw [l2 (53 + 2 * s) (by omega)]; exact h.1.2.2.1 s hs)) (fun c hc => l2 c (by omega)) (fun M J hM => ?_)
    · refine Eq.trans ?_ (l1 Q)
      rw [← s3] at hmn
      simp (disch := first | assumption | omega | (simp (disch := omega) only [zr_n, zr_s]; assumption)) only [x72_0, x72_1, x72_2, x72_5, x72_8, x72_10, x72_11, x72_12_0, x72_15, x72_16, x72_17, x72_18, x72_19_53, x72_19_55, x72_19_57, x72_19_59, x72_22, x72_25, x72_26, x72_27, x72_30, x72_31, x72_32_53, x72_32_55, x72_32_57, x72_32_59, x72_35, x72_37, x72_40, x72_41, x72_42, gc_0, br_52, aa_52_0, aa_52_1, aa_52_2, aa_52_3, gc_55, ↓reduceIte, zkl_i, zkl_r, zkl_n, zkl_z, zkl_l, Option.toList_some, Option.toList_none, List.cons_append, List.nil_append, zcs_0, zcs_i, zcs_l, zcs_r, zle8, true_and, and_true, true_or, or_true, c_below, c1, i1_0, if_false, ixN_nI, nI_clamp, hz, if_true, hmn]
      rfl
    · obtain ⟨M1, f1, f2, f3, f4⟩ := rq_find (xl := xl) (J := J) h.1 hM
      obtain ⟨-, -, -, o4, -⟩ := sh_1 h.1 hM
      obtain ⟨o1, on⟩ := o4 hz
      obtain ⟨-, w2, w3, w4, -⟩ := sh_1 h.1 f3
      obtain ⟨w1, wn⟩ := w4 hz
      have e85 : ∀ k, k < 10 → M1 85 k = I 20 k := fun k hk => ((f2.2.1 k hk).2.1).trans (h.1.2.2.2.2.2.1 k hk).2.1.symm
      have lp := lpE (R := fun k (u v : Unit) X Q => Rn (zG xl) 183 43 [.ref 65, .int (nI 1), .int (nI q), .int (nI k)] [] X J Q) (E := fun (u : Unit) X' Q => Q (some (.int (nI q))) X' J) (f := fun _ u => u) (n := q) (P := fun k (u : Unit) X => (∀ c, c ≠ 68 → X c = M1 c) ∧ (∀ j, j < k → X 68 (60 * 1 + j) = cutv (I 55 1) (I 20 j)) ∧ ∀ x, x < 60 * 1 ∨ 60 * 1 + k ≤ x → X 68 x = M1 68 x) (P' := fun u X => (∀ c, c ≠ 68 → X c = M1 c) ∧ (∀ j, j < q → X 68 (60 * 1 + j) = cutv (I 55 1) (I 20 j)) ∧ ∀ x, x < 60 * 1 ∨ 60 * 1 + q ≤ x → X 68 x = M1 68 x) (fun k u v X hk hP => by
        obtain ⟨p1, p2, p3⟩ := hP
        refine ⟨(), zr X 68 (upd (X 68) (60 * 1 + k) (cutv (I 55 1) (I 20 k))), fun Q => ?_, fun c hc => by rw [zr_n hc]; exact p1 c hc, fun j hj => ?_, fun x hx => by rw [zr_s, upd_n (by omega)]; exact p3 x (by omega)⟩
        · show Rn _ _ _ _ _ _ _ _ = Rn _ _ _ _ _ _ _ _
          rw [h183_43]
          simp (disch := first | assumption | omega | (simp (disch := omega) only [zr_n, zr_s]; assumption)) only [x183_44, x183_45, x183_48, x183_49_65, x183_52, x183_54, x183_55, x183_56, x183_57, x183_58, x183_59_65, x183_62, x183_63, x183_64, x183_65_65, x183_68, x183_69, x183_70, x183_73, x183_74, x183_77, bi_66, bs_66, bi_68, bs_68, bi_85, bs_85, ↓reduceIte, zkl_i, zkl_r, zkl_n, zkl_z, zkl_l, Option.toList_some, Option.toList_none, List.cons_append, List.nil_append, zcs_0, zcs_i, zcs_l, zcs_r, zle8, true_and, and_true, true_or, or_true, nI_ltI, hk, if_true, nm_60, nI_add, ixN_nI, nI_clamp, na_1, p1 66 (by decide), p1 85 (by decide), w1, e85 k (by omega), m_cut, cut_eq]
        · rw [zr_s]
          by_cases e : j = k
          · subst e; rw [upd_s]
          · rw [upd_n (by omega)]; exact p2 j (by omega)) (fun u v X hP => by
        refine ⟨X, fun Q => ?_, hP⟩
        show Rn _ _ _ _ _ _ _ _ = _
        rw [h183_43]
        simp (disch := first | assumption | omega | (simp (disch := omega) only [zr_n, zr_s]; assumption)) only [x183_44, x183_45, x183_48, x183_49_65, x183_52, x183_54, x183_55, x183_56, x183_57, x183_58, x183_59_65, x183_62, x183_63, x183_64, x183_65_65, x183_68, x183_69, x183_70, x183_73, x183_74, x183_77, x183_80, x183_81, ↓reduceIte, zkl_i, zkl_r, zkl_n, zkl_z, zkl_l, Option.toList_some, Option.toList_none, List.cons_append, List.nil_append, zcs_0, zcs_i, zcs_l, zcs_r, zle8, true_and, and_true, true_or, or_true, nI_ltI, Nat.lt_irrefl, if_false]) q 0 () () M1 (Nat.zero_add _) ⟨fun c hc => rfl, fun j hj => by omega, fun x hx => rfl⟩
      obtain ⟨M2, m1, m2, m3, m4⟩ := lp
      refine ⟨M2, fun Q => ?_, RM_sh f3 (fun c c1 c2 => l2 c (by omega)) (by rw [m2 65 (by decide), l2 0 (by decide)]; exact f3.2.2.2.2.2.2) (SHm_1 h.1 f3 (fun c c1 c2 c3 c4 => l2 c c4) (fun s e => by rw [m2 66 (by decide)]) (fun s e => by rw [m2 67 (by decide)]) (fun j e => m4 j (by omega)) ?_ ?_ ?_) (m2 70 (by decide)) (m2 71 (by decide)) (m2 75 (by decide)) (m2 87 (by decide)) (fun j hj => by rw [m2 65 (by decide)]), fun c hc => (m2 c (by omega)).trans (f4.1 c (by omega))⟩
      · refine Eq.trans ?_ (m1 Q)
        rw [← s3] at hmm
        simp (disch := first | assumption | omega | (simp (disch := omega) only [zr_n, zr_s]; assumption)) only [x183_0, x183_1, x183_4, x183_7, x183_9, x183_10, x183_11_65, x183_14, x183_15, x183_16, x183_19, x183_20, x183_21, x183_24, x183_25, x183_26, x183_29, x183_30_65, x183_33, x183_34, x183_35, x183_37, x183_40, x183_41, x183_42, gc_65, bi_66, bs_66, bi_67, bs_67, ↓reduceIte, zkl_i, zkl_r, zkl_n, zkl_z, zkl_l, Option.toList_some, Option.toList_none, List.cons_append, List.nil_append, zcs_0, zcs_i, zcs_l, zcs_r, zle8, true_and, and_true, true_or, or_true, m_isSheet, r1, i1_0, if_false, ixN_nI, nI_clamp, o1, on, f1, w2, m_lesser, hmm]
        rfl
      · rw [m2 66 (by decide), l2 55 (by decide), if_pos hz]; exact w1
      · rw [m2 67 (by decide), l2 55 (by decide)]; exact w2
      · rw [l2 55 (by decide)]
        intro j hj
        by_cases e : j < q
        · rw [m3 j e, l3 j e]
        · rw [m4 _ (by omega), l4 j (by omega)]
          exact w3 j hj
  · refine mkF (v := -11) (k := 1) h (fun Q => ?_) (fun M J hM Q => ?_)
    · simp (disch := first | assumption | omega | (simp (disch := omega) only [zr_n, zr_s]; assumption)) only [x72_0, x72_1, x72_2, x72_5, x72_8, x72_10, x72_11, x72_12_0, x72_15, x72_16, x72_17, x72_18, x72_19_53, x72_19_55, x72_19_57, x72_19_59, x72_22, x72_25, x72_26, x72_27, x72_30, x72_31, x72_32_53, x72_32_55, x72_32_57, x72_32_59, x72_35, x72_37, x72_40, x72_41, x72_42, gc_0, br_52, aa_52_0, aa_52_1, aa_52_2, aa_52_3, gc_55, ↓reduceIte, zkl_i, zkl_r, zkl_n, zkl_z, zkl_l, Option.toList_some, Option.toList_none, List.cons_append, List.nil_append, zcs_0, zcs_i, zcs_l, zcs_r, zle8, true_and, and_true, true_or, or_true, c_below, c1, i1_0, if_false, ixN_nI, nI_clamp, hz, c_found, v11]
    · have o1 := (sh_1 h.1 hM).2.2.2.2 hz
      simp (disch := first | assumption | omega | (simp (disch := omega) only [zr_n, zr_s]; assumption)) only [x183_0, x183_1, x183_4, x183_7, x183_9, x183_10, x183_11_65, x183_14, x183_15, x183_16, x183_19, x183_20, x183_21, x183_24, x183_25, x183_26, x183_29, x183_30_65, x183_33, x183_34, x183_35, x183_37, x183_40, x183_41, x183_42, gc_65, bi_66, bs_66, bi_67, bs_67, ↓reduceIte, zkl_i, zkl_r, zkl_n, zkl_z, zkl_l, Option.toList_some, Option.toList_none, List.cons_append, List.nil_append, zcs_0, zcs_i, zcs_l, zcs_r, zle8, true_and, and_true, true_or, or_true, m_isSheet, r1, i1_0, if_false, ixN_nI, nI_clamp, o1, m1_0, if_true, m_finds, v11]
theorem rd_loop_1 (hI : RC I) (hM : RM I M) : ∀ (d n : Nat) (X M' : zI) (v5 v6 v7 w4 : Value) (J2 : zJ), n + d = 20 → RRc I X → RRm M X M' → ∃ (r : Nat) (X1 M1 : zI) (y4 y5 y6 y7 : Value), (∀ Q : zQ, Rn (zG xl) 47 36 [.ref 0, .int (nI 1), .ref 55, .int (nI n), .int (nI (3 * n)), v5, v6, v7] [] X J Q = Rn (zG xl) 47 127 [.ref 0, .int (nI 1), .ref 55, .int (nI r), y4, y5, y6, y7] [] X1 J Q) ∧ (∀ Q : zQ, Rn (zG xl) 137 29 [.ref 65, .int (nI 1), .int (nI n), .int 1, w4] [] M' J2 Q = Q (some (.int (nI r))) M1 J2) ∧ RRc I X1 ∧ RRm M X1 M1 := by
  obtain ⟨⟨s1, s2, s3, s4⟩, o2, o3, -⟩ := sh_1 hI hM
  intro d
  induction d with
  | zero =>
    intro n X M' v5 v6 v7 w4 J2 hn hX hM'
    have hn : n = 20 := hn
    subst hn
    have e1 : X 55 2 = nI (tn (I 55 2)) := by rw [hX.1 55 (by decide) (by decide) (by decide) (by decide)]; exact s3
    have e2 : M' 67 1 = nI (tn (I 55 2)) := by rw [hM'.1 67 (by decide) (by decide), o2]; exact s3
    have q1 : ¬ nI (3 * 20 + 2) < nI (tn (I 55 2)) := by rw [nI_ltI (by decide) (by omega)]; omega
    have q2 : nI (tn (I 55 2)) < nI (3 * 20 + 3) := by rw [nI_ltI (by omega) (by decide)]; omega
    refine ⟨20, X, M', .int (nI (3 * 20)), v5, v6, v7, fun Q => ?_, fun Q => ?_, hX, hM'⟩
    · rw [h47_36]
      simp (disch := first | assumption | omega | (simp (disch := omega) only [zr_n, zr_s]; assumption)) only [x47_38, x47_39, x47_40, x47_41_53, x47_41_55, x47_41_57, x47_41_59, x47_44, x47_47, x47_48_0, x47_51_8, x47_51_28, x47_54, x47_56, ↓reduceIte, zkl_i, zkl_r, zkl_n, zkl_z, zkl_l, Option.toList_some, Option.toList_none, List.cons_append, List.nil_append, zcs_0, zcs_i, zcs_l, zcs_r, zle8, true_and, and_true, true_or, or_true, na_2, e1, q1, if_false]
    · rw [h137_29]
      simp (disch := first | assumption | omega | (simp (disch := omega) only [zr_n, zr_s]; assumption)) only [x137_30, x137_33, x137_34, x137_35, x137_36, x137_37, x137_38, x137_39_65, x137_42, x137_43, x137_44, x137_110, x137_111, bi_67, bs_67, ↓reduceIte, zkl_i, zkl_r, zkl_n, zkl_z, zkl_l, Option.toList_some, Option.toList_none, List.cons_append, List.nil_append, zcs_0, zcs_i, zcs_l, zcs_r, zle8, true_and, and_true, true_or, or_true, i1_0, if_false, nm_3, na_3, ixN_nI, nI_clamp, e2, q2, if_true]
  | succ d ih =>
    intro n X M' v5 v6 v7 w4 J2 hn hX hM'
    have hXr := hX
    have hMr := hM'
    obtain ⟨x1, x2, x3, x4⟩ := hX
    obtain ⟨m1, m2, m3⟩ := hM'
    have e1 : X 55 2 = nI (tn (I 55 2)) := by rw [x1 55 (by decide) (by decide) (by decide) (by decide)]; exact s3
    have e2 : M' 67 1 = nI (tn (I 55 2)) := by rw [m1 67 (by decide) (by decide), o2]; exact s3
    by_cases hL : 3 * n + 2 < tn (I 55 2)
    · have q1 : nI (3 * n + 2) < nI (tn (I 55 2)) := by rw [nI_ltI (by omega) (by omega)]; omega
      have q2 : ¬ nI (tn (I 55 2)) < nI (3 * n + 3) := by rw [nI_ltI (by omega) (by omega)]; omega
      have i0 : M' 68 (60 * 1 + 3 * n) = X 56 (3 * n) := by rw [m1 68 (by decide) (by decide), x1 56 (by decide) (by decide) (by decide) (by decide)]; exact o3 _ (by omega)
      have i1 : M' 68 (60 * 1 + 3 * n + 1) = X 56 (3 * n + 1) := by rw [m1 68 (by decide) (by decide), x1 56 (by decide) (by decide) (by decide) (by decide)]; exact o3 (3 * n + 1) (by omega)
      have i2 : M' 68 (60 * 1 + 3 * n + 2) = X 56 (3 * n + 2) := by rw [m1 68 (by decide) (by decide), x1 56 (by decide) (by decide) (by decide) (by decide)]; exact o3 (3 * n + 2) (by omega)
      generalize he : tn (X 8 9) = e at x3 x4
      have m14 : M' 65 14 = nI e := m3.2.1.trans x3
      generalize ha : X 56 (3 * n) = va at i0
      generalize hb : X 56 (3 * n + 1) = vb at i1
      generalize hc : X 56 (3 * n + 2) = vc at i2
      have stop : ∀ (v : Int32), v < 0 → (∀ Q : zQ, Rn (zG xl) 135 0 [.ref 65, .int va, .int vb, .int vc] [] M' J2 Q = Q (some (.int v)) M' J2) → ∀ Q : zQ, Rn (zG xl) 137 29 [.ref 65, .int (nI 1), .int (nI n), .int 1, w4] [] M' J2 Q = Q (some (.int (nI n))) M' J2 := by
        intro v hv hev Q
        rw [h137_29]
        simp (disch := first | assumption | omega | (simp (disch := omega) only [zr_n, zr_s]; assumption)) only [x137_30, x137_33, x137_34, x137_35, x137_36, x137_37, x137_38, x137_39_65, x137_42, x137_43, x137_44, x137_47, x137_49, x137_50, x137_51, x137_52, x137_53, x137_54, x137_55, x137_57, x137_58, x137_59_65, x137_62, x137_64, x137_65, x137_66_65, x137_69, x137_71, x137_72, x137_73, x137_74, x137_75_65, x137_78, x137_80, x137_81, x137_82, x137_83, x137_86, x137_89, x137_90, x137_93, x137_94, x137_95, x137_96, x137_97, x137_100, x137_101, x137_104, x137_105, x137_106, x137_107, gc_65, bi_67, bs_67, bi_68, bs_68, ↓reduceIte, zkl_i, zkl_r, zkl_n, zkl_z, zkl_l, Option.toList_some, Option.toList_none, List.cons_append, List.nil_append, zcs_0, zcs_i, zcs_l, zcs_r, zle8, true_and, and_true, true_or, or_true, i1_0, if_false, nm_3, na_3, ixN_nI, nI_clamp, e2, q2, nm_60, nI_add, na_1, na_2, i0, i1, i2, hev, hv, if_true, Int32.add_zero]
        rw [h137_29]
        simp (disch := first | assumption | omega | (simp (disch := omega) only [zr_n, zr_s]; assumption)) only [x137_30, x137_33, x137_34, x137_35, x137_36, x137_37, x137_38, x137_39_65, x137_42, x137_43, x137_44, x137_47, x137_49, x137_50, x137_51, x137_52, x137_53, x137_54, x137_55, x137_57, x137_58, x137_59_65, x137_62, x137_64, x137_65, x137_66_65, x137_69, x137_71, x137_72, x137_73, x137_74, x137_75_65, x137_78, x137_80, x137_81, x137_82, x137_83, x137_86, x137_89, x137_90, x137_93, x137_94, x137_95, x137_96, x137_97, x137_100, x137_101, x137_104, x137_105, x137_106, x137_107, x137_110, x137_111, ↓reduceIte, zkl_i, zkl_r, zkl_n, zkl_z, zkl_l, Option.toList_some, Option.toList_none, List.cons_append, List.nil_append, zcs_0, zcs_i, zcs_l, zcs_r, zle8, true_and, and_true, true_or, or_true, if_true]
      by_cases hv : IN va 2 ∧ IN vb 6 ∧ IN vc 24
      · by_cases h8 : e = 8
        · have n8 : ¬ nI e < 8 := by rw [h8]; decide
          obtain ⟨⟨i, hi, rfl⟩, ⟨j, hj, rfl⟩, ⟨k, hk, rfl⟩⟩ := hv
          refine ⟨n, X, M', .int (nI (3 * n)), v5, v6, v7, fun Q => ?_, stop (-4) (by decide) (fun Q => by rw [m_event_ok hi hj hk m14 x4, if_pos h8]), hXr, hMr⟩
          rw [h47_36]
          simp (disch := first | assumption | omega | (simp (disch := omega) only [zr_n, zr_s]; assumption)) only [x47_38, x47_39, x47_40, x47_41_53, x47_41_55, x47_41_57, x47_41_59, x47_44, x47_47, x47_48_0, x47_51_8, x47_51_28, x47_54, x47_56, ↓reduceIte, zkl_i, zkl_r, zkl_n, zkl_z, zkl_l, Option.toList_some, Option.toList_none, List.cons_append, List.nil_append, zcs_0, zcs_i, zcs_l, zcs_r, zle8, true_and, and_true, true_or, or_true, na_2, e1, q1, if_true, x3, n8, if_false]
        · have n8 : nI e < 8 := (nI_ltI (b := 8) (by omega) (by decide)).mpr (by omega)
          obtain ⟨⟨i, hi, rfl⟩, ⟨j, hj, rfl⟩, ⟨k, hk, rfl⟩⟩ := hv
          have hmay := may1 hi hj hk
          have hx : ixN (X 8 9) 8 := by rw [x3, ixN_nI (by omega) (by decide)]; trivial
          have e9' : zae X (nI i) (nI j) (nI k) 8 9 = nI (e + 1) := by
            unfold zae
            rw [zr_s, upd_s, x3, na_1]
          have te : tn (nI (e + 1)) = e + 1 := nI_clamp (by omega)
          obtain ⟨r, X1, M1, y4, y5, y6, y7, g1, g2, g3, g4⟩ := ih (n + 1) (zae X (nI i) (nI j) (nI k)) (evM e (nI i) (nI j) (nI k) M') (.int (nI i)) (.int (nI j)) (.int (nI k)) (.int (nI (60 * 1 + 3 * n))) J2 (by omega) ⟨fun c c1 c2 c3 c4 => (zae_f (by omega)).trans (x1 c c1 c2 c3 c4), fun j hj => by unfold zae; rw [zr_s, upd_n hj]; exact x2 j hj, by rw [e9', te], by rw [e9', te]; omega⟩ ⟨fun c c1 c2 => by unfold evM; rw [zr_n c1, zr_n c2]; exact m1 c c1 c2, fun j hj => by unfold evM; rw [zr_s, upd_n hj]; exact m2 j hj, evM_ev x3 (by omega) m3⟩
          refine ⟨r, X1, M1, y4, y5, y6, y7, fun Q => ?_, fun Q => ?_, g3, g4⟩
          · rw [← g1 Q, h47_36]
            have e3 : 3 * n + 3 = 3 * (n + 1) := by omega
            simp (disch := first | assumption | omega | (simp (disch := omega) only [zr_n, zr_s]; assumption)) only [x47_38, x47_39, x47_40, x47_41_53, x47_41_55, x47_41_57, x47_41_59, x47_44, x47_47, x47_48_0, x47_51_8, x47_51_28, x47_54, x47_56, x47_59, x47_60_53, x47_60_55, x47_60_57, x47_60_59, x47_63, x47_65, x47_66, x47_68, x47_69_53, x47_69_55, x47_69_57, x47_69_59, x47_72, x47_74, x47_75, x47_76, x47_77, x47_79, x47_80_53, x47_80_55, x47_80_57, x47_80_59, x47_83, x47_85, x47_86, x47_87, x47_88, x47_90, x47_92, x47_94, x47_96, x47_99, x47_102, x47_105, x47_106_0, x47_109, x47_111, x47_113, x47_115, x47_118, x47_121, x47_124, gc_8, bi_56, bs_56, ↓reduceIte, zkl_i, zkl_r, zkl_n, zkl_z, zkl_l, Option.toList_some, Option.toList_none, List.cons_append, List.nil_append, zcs_0, zcs_i, zcs_l, zcs_r, zle8, true_and, and_true, true_or, or_true, na_2, na_1, na_3, e1, q1, if_true, n8, ixN_nI, nI_clamp, ha, hb, hc, c_mayBeEvent, hmay, i1_0, if_false, c_addEvent, e3, x3]
          · refine Eq.trans ?_ (g2 Q)
            have hev := fun Q => m_event_ok (xl := xl) (J := J2) (Q := Q) (M := M') hi hj hk m14 x4
            simp only [if_neg h8] at hev
            have np : ¬ nI (e + 1) < 0 := nI_pos (by omega)
            rw [h137_29]
            simp (disch := first | assumption | omega | (simp (disch := omega) only [zr_n, zr_s]; assumption)) only [x137_30, x137_33, x137_34, x137_35, x137_36, x137_37, x137_38, x137_39_65, x137_42, x137_43, x137_44, x137_47, x137_49, x137_50, x137_51, x137_52, x137_53, x137_54, x137_55, x137_57, x137_58, x137_59_65, x137_62, x137_64, x137_65, x137_66_65, x137_69, x137_71, x137_72, x137_73, x137_74, x137_75_65, x137_78, x137_80, x137_81, x137_82, x137_83, x137_86, x137_89, x137_90, x137_93, x137_94, x137_95, x137_96, x137_97, x137_100, x137_101, x137_104, x137_105, x137_106, x137_107, gc_65, bi_67, bs_67, bi_68, bs_68, ↓reduceIte, zkl_i, zkl_r, zkl_n, zkl_z, zkl_l, Option.toList_some, Option.toList_none, List.cons_append, List.nil_append, zcs_0, zcs_i, zcs_l, zcs_r, zle8, true_and, and_true, true_or, or_true, i1_0, if_false, nm_3, na_3, ixN_nI, nI_clamp, e2, q2, nm_60, nI_add, na_1, na_2, i0, i1, i2, hev, np]
      · have hmay := may0 hv
        have hbad := fun Q => m_event_bad (xl := xl) (J := J2) (Q := Q) (M := M') hv
        by_cases h8 : e = 8
        · have n8 : ¬ nI e < 8 := by rw [h8]; decide
          refine ⟨n, X, M', .int (nI (3 * n)), v5, v6, v7, fun Q => ?_, stop (-2) (by decide) hbad, hXr, hMr⟩
          rw [h47_36]
          simp (disch := first | assumption | omega | (simp (disch := omega) only [zr_n, zr_s]; assumption)) only [x47_38, x47_39, x47_40, x47_41_53, x47_41_55, x47_41_57, x47_41_59, x47_44, x47_47, x47_48_0, x47_51_8, x47_51_28, x47_54, x47_56, ↓reduceIte, zkl_i, zkl_r, zkl_n, zkl_z, zkl_l, Option.toList_some, Option.toList_none, List.cons_append, List.nil_append, zcs_0, zcs_i, zcs_l, zcs_r, zle8, true_and, and_true, true_or, or_true, na_2, e1, q1, if_true, x3, n8, if_false]
        · have n8 : nI e < 8 := (nI_ltI (b := 8) (by omega) (by decide)).mpr (by omega)
          refine ⟨n, X, M', .int (nI (3 * n)), .int va, .int vb, .int vc, fun Q => ?_, stop (-2) (by decide) hbad, hXr, hMr⟩
          rw [h47_36]
          simp (disch := first | assumption | omega | (simp (disch := omega) only [zr_n, zr_s]; assumption)) only [x47_38, x47_39, x47_40, x47_41_53, x47_41_55, x47_41_57, x47_41_59, x47_44, x47_47, x47_48_0, x47_51_8, x47_51_28, x47_54, x47_56, x47_59, x47_60_53, x47_60_55, x47_60_57, x47_60_59, x47_63, x47_65, x47_66, x47_68, x47_69_53, x47_69_55, x47_69_57, x47_69_59, x47_72, x47_74, x47_75, x47_76, x47_77, x47_79, x47_80_53, x47_80_55, x47_80_57, x47_80_59, x47_83, x47_85, x47_86, x47_87, x47_88, x47_90, x47_92, x47_94, x47_96, x47_99, x47_102, x47_105, x47_106_0, x47_109, x47_111, x47_113, x47_115, x47_118, x47_121, x47_124, gc_8, bi_56, bs_56, ↓reduceIte, zkl_i, zkl_r, zkl_n, zkl_z, zkl_l, Option.toList_some, Option.toList_none, List.cons_append, List.nil_append, zcs_0, zcs_i, zcs_l, zcs_r, zle8, true_and, and_true, true_or, or_true, na_2, na_1, e1, q1, if_true, n8, ixN_nI, nI_clamp, ha, hb, hc, c_mayBeEvent, hmay, x3]
    · have q1 : ¬ nI (3 * n + 2) < nI (tn (I 55 2)) := by rw [nI_ltI (by omega) (by omega)]; omega
      have q2 : nI (tn (I 55 2)) < nI (3 * n + 3) := by rw [nI_ltI (by omega) (by omega)]; omega
      refine ⟨n, X, M', .int (nI (3 * n)), v5, v6, v7, fun Q => ?_, fun Q => ?_, hXr, hMr⟩
      · rw [h47_36]
        simp (disch := first | assumption | omega | (simp (disch := omega) only [zr_n, zr_s]; assumption)) only [x47_38, x47_39, x47_40, x47_41_53, x47_41_55, x47_41_57, x47_41_59, x47_44, x47_47, x47_48_0, x47_51_8, x47_51_28, x47_54, x47_56, ↓reduceIte, zkl_i, zkl_r, zkl_n, zkl_z, zkl_l, Option.toList_some, Option.toList_none, List.cons_append, List.nil_append, zcs_0, zcs_i, zcs_l, zcs_r, zle8, true_and, and_true, true_or, or_true, na_2, e1, q1, if_false]
      · rw [h137_29]
        simp (disch := first | assumption | omega | (simp (disch := omega) only [zr_n, zr_s]; assumption)) only [x137_30, x137_33, x137_34, x137_35, x137_36, x137_37, x137_38, x137_39_65, x137_42, x137_43, x137_44, x137_110, x137_111, bi_67, bs_67, ↓reduceIte, zkl_i, zkl_r, zkl_n, zkl_z, zkl_l, Option.toList_some, Option.toList_none, List.cons_append, List.nil_append, zcs_0, zcs_i, zcs_l, zcs_r, zle8, true_and, and_true, true_or, or_true, i1_0, if_false, nm_3, na_3, ixN_nI, nI_clamp, e2, q2, if_true]
theorem k_read_1 (h : Inv I) : KI xl 47 137 [.ref 0, .int (nI 1), .null, .null, .null, .null, .null, .null] [.ref 65, .int (nI 1), .null, .null, .null] I J := by
  have c1 : (if nI 1 < 0 then (0 : Int32) else if nI 1 < 4 then 1 else 0) = 1 := bl1 (n := 4) (by decide) (by decide)
  have r1 : bt (nI 1) 0 3 = 1 := in1 (m := 3) (by decide) (by decide)
  by_cases hz : I 55 0 = 0
  · have hX0 : RRc I I := by
      obtain ⟨e0, e3, e6, e9⟩ := RC_8 h.1
      have b9 := (RC_l h.1).2.2.2
      have : tn (I 8 9) = tn (pD I 28 9) := rfl
      exact ⟨fun c _ _ _ _ => rfl, fun j _ => rfl, by rw [this]; exact e9, by rw [this]; exact b9⟩
    obtain ⟨r, X, M0, y4, y5, y6, y7, g1, g2, g3, g4⟩ := rd_loop_1 (xl := xl) (J := J) h.1 h.2 20 0 I I .null .null .null .null J rfl hX0 ⟨fun c _ _ => rfl, fun j _ => rfl, h.2.2.2.2.1⟩
    have hR : RP X := RP_8 (fun c c1 c2 => g3.1 c c2 (by omega) (by omega) (by omega)) (g3.2.1 0 (by decide)) (g3.2.1 3 (by decide)) (g3.2.1 6 (by decide)) (by rw [g3.2.2.1, ixN_nI (by have := g3.2.2.2; omega) (by decide)]; trivial) (g3.2.1 13 (by decide)) (g3.1 1000 (by decide) (by decide) (by decide) (by decide)) h.1.1
    have hp := fun Q => d_pass_18 (xl := xl) (J := J) (Q := Q) (RP_CD hR)
    refine mkU (v := nI r) (I1 := zps 18 8 X) h (fun Q => ?_) (RC_ps hR (SG_f (fun c c1 c2 => g3.1 c (by omega) (by omega) (by omega) (by omega)) h.1.2.1) (SHc_f (fun c c1 c2 => g3.1 c (by omega) (by omega) (by omega) (by omega)) h.1.2.2.1)) (fun c hc => by rw [zps_f (by omega)]; exact g3.1 c (by omega) (by omega) (by omega) (by omega)) (fun M J' hM => ?_)
    · have st : Rn (zG xl) 47 0 [.ref 0, .int (nI 1), .null, .null, .null, .null, .null, .null] [] I J Q = Rn (zG xl) 47 36 [.ref 0, .int (nI 1), .ref 55, .int (nI 0), .int (nI (3 * 0)), .null, .null, .null] [] I J Q := by
        simp (disch := first | assumption | omega | (simp (disch := omega) only [zr_n, zr_s]; assumption)) only [x47_0, x47_1, x47_2, x47_5, x47_8, x47_10, x47_11, x47_12_0, x47_15, x47_16, x47_17, x47_18, x47_19_53, x47_19_55, x47_19_57, x47_19_59, x47_22, x47_25, x47_26, x47_27, x47_30, x47_31, x47_32, x47_33, x47_34, gc_0, br_52, aa_52_0, aa_52_1, aa_52_2, aa_52_3, gc_55, ↓reduceIte, zkl_i, zkl_r, zkl_n, zkl_z, zkl_l, Option.toList_some, Option.toList_none, List.cons_append, List.nil_append, zcs_0, zcs_i, zcs_l, zcs_r, zle8, true_and, and_true, true_or, or_true, c_below, c1, i1_0, if_false, ixN_nI, nI_clamp, hz, if_true]
        rfl
      rw [st, g1 Q]
      simp (disch := first | assumption | omega | (simp (disch := omega) only [zr_n, zr_s]; assumption)) only [x47_127, x47_128_0, x47_131, x47_132_0, x47_135, x47_138, x47_139, gc_18, ↓reduceIte, zkl_i, zkl_r, zkl_n, zkl_z, zkl_l, Option.toList_some, Option.toList_none, List.cons_append, List.nil_append, zcs_0, zcs_i, zcs_l, zcs_r, zle8, true_and, and_true, true_or, or_true, hp]
    · obtain ⟨-, o2, o3, o4, -⟩ := sh_1 h.1 hM
      obtain ⟨o1, on⟩ := o4 hz
      obtain ⟨r', X', M1, z4, z5, z6, z7, f1, f2, f3, f4⟩ := rd_loop_1 (xl := xl) (J := J) h.1 hM 20 0 I M .null .null .null .null J' rfl hX0 ⟨fun c _ _ => rfl, fun j _ => rfl, hM.2.2.2.1⟩
      have hR' : RP X' := RP_8 (fun c c1 c2 => f3.1 c c2 (by omega) (by omega) (by omega)) (f3.2.1 0 (by decide)) (f3.2.1 3 (by decide)) (f3.2.1 6 (by decide)) (by rw [f3.2.2.1, ixN_nI (by have := f3.2.2.2; omega) (by decide)]; trivial) (f3.2.1 13 (by decide)) (f3.1 1000 (by decide) (by decide) (by decide) (by decide)) h.1.1
      have hp' := fun Q => d_pass_18 (xl := xl) (J := J) (Q := Q) (RP_CD hR')
      have en : ∀ Q : zQ, Q (some (.int (nI r))) (zps 18 8 X) J = Q (some (.int (nI r'))) (zps 18 8 X') J := by
        intro Q
        have q1 := (g1 Q).symm.trans (f1 Q)
        simp (disch := first | assumption | omega | (simp (disch := omega) only [zr_n, zr_s]; assumption)) only [x47_127, x47_128_0, x47_131, x47_132_0, x47_135, x47_138, x47_139, gc_18, ↓reduceIte, zkl_i, zkl_r, zkl_n, zkl_z, zkl_l, Option.toList_some, Option.toList_none, List.cons_append, List.nil_append, zcs_0, zcs_i, zcs_l, zcs_r, zle8, true_and, and_true, true_or, or_true, hp, hp'] at q1
        exact q1
      have eX : zps 18 8 X' = zps 18 8 X := ((en (fun _ Y _ => Y = zps 18 8 X)).mp rfl)
      have er : nI r' = nI r := by
        have q2 := (en (fun v _ _ => v = some (.int (nI r)))).mp rfl
        injection q2 with q2
        injection q2
      refine ⟨M1, fun Q => ?_, ?_, fun c hc => f4.1 c (by omega) (by omega)⟩
      rotate_left
      · rw [← eX]
        exact RM_ev hM (fun c hc => f3.1 c (by omega) (by omega) (by omega) (by omega)) f4.2.2 (fun c c1 c2 c3 => f4.1 c (by omega) c3) (f4.2.1 4 (by decide)) (f4.2.1 28 (by decide))
      rw [← er]
      refine Eq.trans ?_ (f2 Q)
      simp (disch := first | assumption | omega | (simp (disch := omega) only [zr_n, zr_s]; assumption)) only [x137_0, x137_1, x137_4, x137_7, x137_9, x137_10, x137_11_65, x137_14, x137_15, x137_16, x137_19, x137_20, x137_21, x137_24, x137_25, x137_26, x137_27, x137_28, gc_65, bi_66, bs_66, ↓reduceIte, zkl_i, zkl_r, zkl_n, zkl_z, zkl_l, Option.toList_some, Option.toList_none, List.cons_append, List.nil_append, zcs_0, zcs_i, zcs_l, zcs_r, zle8, true_and, and_true, true_or, or_true, m_isSheet, r1, i1_0, if_false, ixN_nI, nI_clamp, o1, on]
      rfl
  · refine mkF (v := -11) (k := 1) h (fun Q => ?_) (fun M J hM Q => ?_)
    · simp (disch := first | assumption | omega | (simp (disch := omega) only [zr_n, zr_s]; assumption)) only [x47_0, x47_1, x47_2, x47_5, x47_8, x47_10, x47_11, x47_12_0, x47_15, x47_16, x47_17, x47_18, x47_19_53, x47_19_55, x47_19_57, x47_19_59, x47_22, x47_25, x47_26, x47_27, x47_30, x47_31, x47_32, x47_33, x47_34, gc_0, br_52, aa_52_0, aa_52_1, aa_52_2, aa_52_3, gc_55, ↓reduceIte, zkl_i, zkl_r, zkl_n, zkl_z, zkl_l, Option.toList_some, Option.toList_none, List.cons_append, List.nil_append, zcs_0, zcs_i, zcs_l, zcs_r, zle8, true_and, and_true, true_or, or_true, c_below, c1, i1_0, if_false, ixN_nI, nI_clamp, hz, c_found, v11]
    · have o1 := (sh_1 h.1 hM).2.2.2.2 hz
      simp (disch := first | assumption | omega | (simp (disch := omega) only [zr_n, zr_s]; assumption)) only [x137_0, x137_1, x137_4, x137_7, x137_9, x137_10, x137_11_65, x137_14, x137_15, x137_16, x137_19, x137_20, x137_21, x137_24, x137_25, x137_26, x137_27, x137_28, gc_65, bi_66, bs_66, bi_67, bs_67, ↓reduceIte, zkl_i, zkl_r, zkl_n, zkl_z, zkl_l, Option.toList_some, Option.toList_none, List.cons_append, List.nil_append, zcs_0, zcs_i, zcs_l, zcs_r, zle8, true_and, and_true, true_or, or_true, m_isSheet, r1, i1_0, if_false, ixN_nI, nI_clamp, o1, m1_0, if_true, m_finds, v11]
theorem k_write_2 (h : Inv I) : KI xl 72 183 [.ref 0, .int (nI 2), .null, .null, .null] [.ref 65, .int (nI 2), .null, .null] I J := by
  have c1 : (if nI 2 < 0 then (0 : Int32) else if nI 2 < 4 then 1 else 0) = 1 := bl1 (n := 4) (by decide) (by decide)
  have r1 : bt (nI 2) 0 3 = 1 := in1 (m := 3) (by decide) (by decide)
  obtain ⟨⟨s1, s2, s3, s4⟩, -⟩ := sh_2 h.1 h.2
  by_cases hz : I 57 0 = 0
  · have hmn := mn_c s4
    have hmm := mn_m s4
    have hb10 : min (tn (I 57 2)) 10 ≤ 10 := Nat.min_le_right _ _
    have hbL : min (tn (I 57 2)) 10 ≤ tn (I 57 2) := Nat.min_le_left _ _
    generalize hq : min (tn (I 57 2)) 10 = q at hmn hmm hb10 hbL
    have lp := lpE (R := fun k (u v : Unit) X Q => Rn (zG xl) 72 44 [.ref 0, .int (nI 2), .ref 57, .int (nI q), .int (nI k)] [] X J Q) (E := fun (u : Unit) X' Q => Q (some (.int (nI q))) X' J) (f := fun _ u => u) (n := q) (P := fun k (u : Unit) X => (∀ c, c ≠ 58 → X c = I c) ∧ (∀ j, j < k → X 58 j = cutv (I 57 1) (I 20 j)) ∧ ∀ j, k ≤ j → X 58 j = I 58 j) (P' := fun u X => (∀ c, c ≠ 58 → X c = I c) ∧ (∀ j, j < q → X 58 j = cutv (I 57 1) (I 20 j)) ∧ ∀ j, q ≤ j → X 58 j = I 58 j) (fun k u v X hk hP => by
      obtain ⟨p1, p2, p3⟩ := hP
      refine ⟨(), zr X 58 (upd (X 58) k (cutv (X 57 1) (X 20 k))), fun Q => ?_, fun c hc => by rw [zr_n hc]; exact p1 c hc, fun j hj => ?_, fun j hj => by rw [zr_s, upd_n (by omega)]; exact p3 j (by omega)⟩
      · show Rn _ _ _ _ _ _ _ _ = Rn _ _ _ _ _ _ _ _
        rw [h72_44]
        simp (disch := first | assumption | omega | (simp (disch := omega) only [zr_n, zr_s]; assumption)) only [x72_46, x72_47, x72_50, x72_51, x72_53, x72_54_0, x72_57_18, x72_57_38, x72_60, x72_62, x72_63, x72_66, x72_69, gc_57, bi_20, bs_20, ↓reduceIte, zkl_i, zkl_r, zkl_n, zkl_z, zkl_l, Option.toList_some, Option.toList_none, List.cons_append, List.nil_append, zcs_0, zcs_i, zcs_l, zcs_r, zle8, true_and, and_true, true_or, or_true, nI_ltI, hk, if_true, ixN_nI, nI_clamp, na_1, c_put_57]
      · rw [zr_s]
        by_cases e : j = k
        · subst e; rw [upd_s, p1 57 (by decide), p1 20 (by decide)]
        · rw [upd_n e]; exact p2 j (by omega)) (fun u v X hP => by
      refine ⟨X, fun Q => ?_, hP⟩
      show Rn _ _ _ _ _ _ _ _ = _
      rw [h72_44]
      simp (disch := first | assumption | omega | (simp (disch := omega) only [zr_n, zr_s]; assumption)) only [x72_46, x72_47, x72_50, x72_51, x72_53, x72_54_0, x72_57_18, x72_57_38, x72_60, x72_62, x72_63, x72_66, x72_69, x72_72, x72_73, ↓reduceIte, zkl_i, zkl_r, zkl_n, zkl_z, zkl_l, Option.toList_some, Option.toList_none, List.cons_append, List.nil_append, zcs_0, zcs_i, zcs_l, zcs_r, zle8, true_and, and_true, true_or, or_true, nI_ltI, Nat.lt_irrefl, if_false]) q 0 () () I (Nat.zero_add _) ⟨fun c hc => rfl, fun j hj => by omega, fun j hj => rfl⟩
    obtain ⟨X, l1, l2, l3, l4⟩ := lp
    refine mkU (v := nI q) (I1 := X) h (fun Q => ?_) (RC_sh h.1 (fun c c1 c2 => l2 c (by omega)) (l2 1000 (by decide)) (fun s hs => by rw [l2 (53 + 2 * s) (by omega)]; exact h.1.2.2.1 s hs)) (fun c hc => l2 c (by omega)) (fun M J hM => ?_)
    · refine Eq.trans ?_ (l1 Q)
      rw [← s3] at hmn
      simp (disch := first | assumption | omega | (simp (disch := omega) only [zr_n, zr_s]; assumption)) only [x72_0, x72_1, x72_2, x72_5, x72_8, x72_10, x72_11, x72_12_0, x72_15, x72_16, x72_17, x72_18, x72_19_53, x72_19_55, x72_19_57, x72_19_59, x72_22, x72_25, x72_26, x72_27, x72_30, x72_31, x72_32_53, x72_32_55, x72_32_57, x72_32_59, x72_35, x72_37, x72_40, x72_41, x72_42, gc_0, br_52, aa_52_0, aa_52_1, aa_52_2, aa_52_3, gc_57, ↓reduceIte, zkl_i, zkl_r, zkl_n, zkl_z, zkl_l, Option.toList_some, Option.toList_none, List.cons_append, List.nil_append, zcs_0, zcs_i, zcs_l, zcs_r, zle8, true_and, and_true, true_or, or_true, c_below, c1, i1_0, if_false, ixN_nI, nI_clamp, hz, if_true, hmn]
      rfl
    · obtain ⟨M1, f1, f2, f3, f4⟩ := rq_find (xl := xl) (J := J) h.1 hM
      obtain ⟨-, -, -, o4, -⟩ := sh_2 h.1 hM
      obtain ⟨o1, on⟩ := o4 hz
      obtain ⟨-, w2, w3, w4, -⟩ := sh_2 h.1 f3
      obtain ⟨w1, wn⟩ := w4 hz
      have e85 : ∀ k, k < 10 → M1 85 k = I 20 k := fun k hk => ((f2.2.1 k hk).2.1).trans (h.1.2.2.2.2.2.1 k hk).2.1.symm
      have lp := lpE (R := fun k (u v : Unit) X Q => Rn (zG xl) 183 43 [.ref 65, .int (nI 2), .int (nI q), .int (nI k)] [] X J Q) (E := fun (u : Unit) X' Q => Q (some (.int (nI q))) X' J) (f := fun _ u => u) (n := q) (P := fun k (u : Unit) X => (∀ c, c ≠ 68 → X c = M1 c) ∧ (∀ j, j < k → X 68 (60 * 2 + j) = cutv (I 57 1) (I 20 j)) ∧ ∀ x, x < 60 * 2 ∨ 60 * 2 + k ≤ x → X 68 x = M1 68 x) (P' := fun u X => (∀ c, c ≠ 68 → X c = M1 c) ∧ (∀ j, j < q → X 68 (60 * 2 + j) = cutv (I 57 1) (I 20 j)) ∧ ∀ x, x < 60 * 2 ∨ 60 * 2 + q ≤ x → X 68 x = M1 68 x) (fun k u v X hk hP => by
        obtain ⟨p1, p2, p3⟩ := hP
        refine ⟨(), zr X 68 (upd (X 68) (60 * 2 + k) (cutv (I 57 1) (I 20 k))), fun Q => ?_, fun c hc => by rw [zr_n hc]; exact p1 c hc, fun j hj => ?_, fun x hx => by rw [zr_s, upd_n (by omega)]; exact p3 x (by omega)⟩
        · show Rn _ _ _ _ _ _ _ _ = Rn _ _ _ _ _ _ _ _
          rw [h183_43]
          simp (disch := first | assumption | omega | (simp (disch := omega) only [zr_n, zr_s]; assumption)) only [x183_44, x183_45, x183_48, x183_49_65, x183_52, x183_54, x183_55, x183_56, x183_57, x183_58, x183_59_65, x183_62, x183_63, x183_64, x183_65_65, x183_68, x183_69, x183_70, x183_73, x183_74, x183_77, bi_66, bs_66, bi_68, bs_68, bi_85, bs_85, ↓reduceIte, zkl_i, zkl_r, zkl_n, zkl_z, zkl_l, Option.toList_some, Option.toList_none, List.cons_append, List.nil_append, zcs_0, zcs_i, zcs_l, zcs_r, zle8, true_and, and_true, true_or, or_true, nI_ltI, hk, if_true, nm_60, nI_add, ixN_nI, nI_clamp, na_1, p1 66 (by decide), p1 85 (by decide), w1, e85 k (by omega), m_cut, cut_eq]
        · rw [zr_s]
          by_cases e : j = k
          · subst e; rw [upd_s]
          · rw [upd_n (by omega)]; exact p2 j (by omega)) (fun u v X hP => by
        refine ⟨X, fun Q => ?_, hP⟩
        show Rn _ _ _ _ _ _ _ _ = _
        rw [h183_43]
        simp (disch := first | assumption | omega | (simp (disch := omega) only [zr_n, zr_s]; assumption)) only [x183_44, x183_45, x183_48, x183_49_65, x183_52, x183_54, x183_55, x183_56, x183_57, x183_58, x183_59_65, x183_62, x183_63, x183_64, x183_65_65, x183_68, x183_69, x183_70, x183_73, x183_74, x183_77, x183_80, x183_81, ↓reduceIte, zkl_i, zkl_r, zkl_n, zkl_z, zkl_l, Option.toList_some, Option.toList_none, List.cons_append, List.nil_append, zcs_0, zcs_i, zcs_l, zcs_r, zle8, true_and, and_true, true_or, or_true, nI_ltI, Nat.lt_irrefl, if_false]) q 0 () () M1 (Nat.zero_add _) ⟨fun c hc => rfl, fun j hj => by omega, fun x hx => rfl⟩
      obtain ⟨M2, m1, m2, m3, m4⟩ := lp
      refine ⟨M2, fun Q => ?_, RM_sh f3 (fun c c1 c2 => l2 c (by omega)) (by rw [m2 65 (by decide), l2 0 (by decide)]; exact f3.2.2.2.2.2.2) (SHm_2 h.1 f3 (fun c c1 c2 c3 c4 => l2 c c4) (fun s e => by rw [m2 66 (by decide)]) (fun s e => by rw [m2 67 (by decide)]) (fun j e => m4 j (by omega)) ?_ ?_ ?_) (m2 70 (by decide)) (m2 71 (by decide)) (m2 75 (by decide)) (m2 87 (by decide)) (fun j hj => by rw [m2 65 (by decide)]), fun c hc => (m2 c (by omega)).trans (f4.1 c (by omega))⟩
      · refine Eq.trans ?_ (m1 Q)
        rw [← s3] at hmm
        simp (disch := first | assumption | omega | (simp (disch := omega) only [zr_n, zr_s]; assumption)) only [x183_0, x183_1, x183_4, x183_7, x183_9, x183_10, x183_11_65, x183_14, x183_15, x183_16, x183_19, x183_20, x183_21, x183_24, x183_25, x183_26, x183_29, x183_30_65, x183_33, x183_34, x183_35, x183_37, x183_40, x183_41, x183_42, gc_65, bi_66, bs_66, bi_67, bs_67, ↓reduceIte, zkl_i, zkl_r, zkl_n, zkl_z, zkl_l, Option.toList_some, Option.toList_none, List.cons_append, List.nil_append, zcs_0, zcs_i, zcs_l, zcs_r, zle8, true_and, and_true, true_or, or_true, m_isSheet, r1, i1_0, if_false, ixN_nI, nI_clamp, o1, on, f1, w2, m_lesser, hmm]
        rfl
      · rw [m2 66 (by decide), l2 57 (by decide), if_pos hz]; exact w1
      · rw [m2 67 (by decide), l2 57 (by decide)]; exact w2
      · rw [l2 57 (by decide)]
        intro j hj
        by_cases e : j < q
        · rw [m3 j e, l3 j e]
        · rw [m4 _ (by omega), l4 j (by omega)]
          exact w3 j hj
  · refine mkF (v := -11) (k := 1) h (fun Q => ?_) (fun M J hM Q => ?_)
    · simp (disch := first | assumption | omega | (simp (disch := omega) only [zr_n, zr_s]; assumption)) only [x72_0, x72_1, x72_2, x72_5, x72_8, x72_10, x72_11, x72_12_0, x72_15, x72_16, x72_17, x72_18, x72_19_53, x72_19_55, x72_19_57, x72_19_59, x72_22, x72_25, x72_26, x72_27, x72_30, x72_31, x72_32_53, x72_32_55, x72_32_57, x72_32_59, x72_35, x72_37, x72_40, x72_41, x72_42, gc_0, br_52, aa_52_0, aa_52_1, aa_52_2, aa_52_3, gc_57, ↓reduceIte, zkl_i, zkl_r, zkl_n, zkl_z, zkl_l, Option.toList_some, Option.toList_none, List.cons_append, List.nil_append, zcs_0, zcs_i, zcs_l, zcs_r, zle8, true_and, and_true, true_or, or_true, c_below, c1, i1_0, if_false, ixN_nI, nI_clamp, hz, c_found, v11]
    · have o1 := (sh_2 h.1 hM).2.2.2.2 hz
      simp (disch := first | assumption | omega | (simp (disch := omega) only [zr_n, zr_s]; assumption)) only [x183_0, x183_1, x183_4, x183_7, x183_9, x183_10, x183_11_65, x183_14, x183_15, x183_16, x183_19, x183_20, x183_21, x183_24, x183_25, x183_26, x183_29, x183_30_65, x183_33, x183_34, x183_35, x183_37, x183_40, x183_41, x183_42, gc_65, bi_66, bs_66, bi_67, bs_67, ↓reduceIte, zkl_i, zkl_r, zkl_n, zkl_z, zkl_l, Option.toList_some, Option.toList_none, List.cons_append, List.nil_append, zcs_0, zcs_i, zcs_l, zcs_r, zle8, true_and, and_true, true_or, or_true, m_isSheet, r1, i1_0, if_false, ixN_nI, nI_clamp, o1, m1_0, if_true, m_finds, v11]
theorem rd_loop_2 (hI : RC I) (hM : RM I M) : ∀ (d n : Nat) (X M' : zI) (v5 v6 v7 w4 : Value) (J2 : zJ), n + d = 20 → RRc I X → RRm M X M' → ∃ (r : Nat) (X1 M1 : zI) (y4 y5 y6 y7 : Value), (∀ Q : zQ, Rn (zG xl) 47 36 [.ref 0, .int (nI 2), .ref 57, .int (nI n), .int (nI (3 * n)), v5, v6, v7] [] X J Q = Rn (zG xl) 47 127 [.ref 0, .int (nI 2), .ref 57, .int (nI r), y4, y5, y6, y7] [] X1 J Q) ∧ (∀ Q : zQ, Rn (zG xl) 137 29 [.ref 65, .int (nI 2), .int (nI n), .int 1, w4] [] M' J2 Q = Q (some (.int (nI r))) M1 J2) ∧ RRc I X1 ∧ RRm M X1 M1 := by
  obtain ⟨⟨s1, s2, s3, s4⟩, o2, o3, -⟩ := sh_2 hI hM
  intro d
  induction d with
  | zero =>
    intro n X M' v5 v6 v7 w4 J2 hn hX hM'
    have hn : n = 20 := hn
    subst hn
    have e1 : X 57 2 = nI (tn (I 57 2)) := by rw [hX.1 57 (by decide) (by decide) (by decide) (by decide)]; exact s3
    have e2 : M' 67 2 = nI (tn (I 57 2)) := by rw [hM'.1 67 (by decide) (by decide), o2]; exact s3
    have q1 : ¬ nI (3 * 20 + 2) < nI (tn (I 57 2)) := by rw [nI_ltI (by decide) (by omega)]; omega
    have q2 : nI (tn (I 57 2)) < nI (3 * 20 + 3) := by rw [nI_ltI (by omega) (by decide)]; omega
    refine ⟨20, X, M', .int (nI (3 * 20)), v5, v6, v7, fun Q => ?_, fun Q => ?_, hX, hM'⟩
    · rw [h47_36]
      simp (disch := first | assumption | omega | (simp (disch := omega) only [zr_n, zr_s]; assumption)) only [x47_38, x47_39, x47_40, x47_41_53, x47_41_55, x47_41_57, x47_41_59, x47_44, x47_47, x47_48_0, x47_51_8, x47_51_28, x47_54, x47_56, ↓reduceIte, zkl_i, zkl_r, zkl_n, zkl_z, zkl_l, Option.toList_some, Option.toList_none, List.cons_append, List.nil_append, zcs_0, zcs_i, zcs_l, zcs_r, zle8, true_and, and_true, true_or, or_true, na_2, e1, q1, if_false]
    · rw [h137_29]
      simp (disch := first | assumption | omega | (simp (disch := omega) only [zr_n, zr_s]; assumption)) only [x137_30, x137_33, x137_34, x137_35, x137_36, x137_37, x137_38, x137_39_65, x137_42, x137_43, x137_44, x137_110, x137_111, bi_67, bs_67, ↓reduceIte, zkl_i, zkl_r, zkl_n, zkl_z, zkl_l, Option.toList_some, Option.toList_none, List.cons_append, List.nil_append, zcs_0, zcs_i, zcs_l, zcs_r, zle8, true_and, and_true, true_or, or_true, i1_0, if_false, nm_3, na_3, ixN_nI, nI_clamp, e2, q2, if_true]
  | succ d ih =>
    intro n X M' v5 v6 v7 w4 J2 hn hX hM'
    have hXr := hX
    have hMr := hM'
    obtain ⟨x1, x2, x3, x4⟩ := hX
    obtain ⟨m1, m2, m3⟩ := hM'
    have e1 : X 57 2 = nI (tn (I 57 2)) := by rw [x1 57 (by decide) (by decide) (by decide) (by decide)]; exact s3
    have e2 : M' 67 2 = nI (tn (I 57 2)) := by rw [m1 67 (by decide) (by decide), o2]; exact s3
    by_cases hL : 3 * n + 2 < tn (I 57 2)
    · have q1 : nI (3 * n + 2) < nI (tn (I 57 2)) := by rw [nI_ltI (by omega) (by omega)]; omega
      have q2 : ¬ nI (tn (I 57 2)) < nI (3 * n + 3) := by rw [nI_ltI (by omega) (by omega)]; omega
      have i0 : M' 68 (60 * 2 + 3 * n) = X 58 (3 * n) := by rw [m1 68 (by decide) (by decide), x1 58 (by decide) (by decide) (by decide) (by decide)]; exact o3 _ (by omega)
      have i1 : M' 68 (60 * 2 + 3 * n + 1) = X 58 (3 * n + 1) := by rw [m1 68 (by decide) (by decide), x1 58 (by decide) (by decide) (by decide) (by decide)]; exact o3 (3 * n + 1) (by omega)
      have i2 : M' 68 (60 * 2 + 3 * n + 2) = X 58 (3 * n + 2) := by rw [m1 68 (by decide) (by decide), x1 58 (by decide) (by decide) (by decide) (by decide)]; exact o3 (3 * n + 2) (by omega)
      generalize he : tn (X 8 9) = e at x3 x4
      have m14 : M' 65 14 = nI e := m3.2.1.trans x3
      generalize ha : X 58 (3 * n) = va at i0
      generalize hb : X 58 (3 * n + 1) = vb at i1
      generalize hc : X 58 (3 * n + 2) = vc at i2
      have stop : ∀ (v : Int32), v < 0 → (∀ Q : zQ, Rn (zG xl) 135 0 [.ref 65, .int va, .int vb, .int vc] [] M' J2 Q = Q (some (.int v)) M' J2) → ∀ Q : zQ, Rn (zG xl) 137 29 [.ref 65, .int (nI 2), .int (nI n), .int 1, w4] [] M' J2 Q = Q (some (.int (nI n))) M' J2 := by
        intro v hv hev Q
        rw [h137_29]
        simp (disch := first | assumption | omega | (simp (disch := omega) only [zr_n, zr_s]; assumption)) only [x137_30, x137_33, x137_34, x137_35, x137_36, x137_37, x137_38, x137_39_65, x137_42, x137_43, x137_44, x137_47, x137_49, x137_50, x137_51, x137_52, x137_53, x137_54, x137_55, x137_57, x137_58, x137_59_65, x137_62, x137_64, x137_65, x137_66_65, x137_69, x137_71, x137_72, x137_73, x137_74, x137_75_65, x137_78, x137_80, x137_81, x137_82, x137_83, x137_86, x137_89, x137_90, x137_93, x137_94, x137_95, x137_96, x137_97, x137_100, x137_101, x137_104, x137_105, x137_106, x137_107, gc_65, bi_67, bs_67, bi_68, bs_68, ↓reduceIte, zkl_i, zkl_r, zkl_n, zkl_z, zkl_l, Option.toList_some, Option.toList_none, List.cons_append, List.nil_append, zcs_0, zcs_i, zcs_l, zcs_r, zle8, true_and, and_true, true_or, or_true, i1_0, if_false, nm_3, na_3, ixN_nI, nI_clamp, e2, q2, nm_60, nI_add, na_1, na_2, i0, i1, i2, hev, hv, if_true, Int32.add_zero]
        rw [h137_29]
        simp (disch := first | assumption | omega | (simp (disch := omega) only [zr_n, zr_s]; assumption)) only [x137_30, x137_33, x137_34, x137_35, x137_36, x137_37, x137_38, x137_39_65, x137_42, x137_43, x137_44, x137_47, x137_49, x137_50, x137_51, x137_52, x137_53, x137_54, x137_55, x137_57, x137_58, x137_59_65, x137_62, x137_64, x137_65, x137_66_65, x137_69, x137_71, x137_72, x137_73, x137_74, x137_75_65, x137_78, x137_80, x137_81, x137_82, x137_83, x137_86, x137_89, x137_90, x137_93, x137_94, x137_95, x137_96, x137_97, x137_100, x137_101, x137_104, x137_105, x137_106, x137_107, x137_110, x137_111, ↓reduceIte, zkl_i, zkl_r, zkl_n, zkl_z, zkl_l, Option.toList_some, Option.toList_none, List.cons_append, List.nil_append, zcs_0, zcs_i, zcs_l, zcs_r, zle8, true_and, and_true, true_or, or_true, if_true]
      by_cases hv : IN va 2 ∧ IN vb 6 ∧ IN vc 24
      · by_cases h8 : e = 8
        · have n8 : ¬ nI e < 8 := by rw [h8]; decide
          obtain ⟨⟨i, hi, rfl⟩, ⟨j, hj, rfl⟩, ⟨k, hk, rfl⟩⟩ := hv
          refine ⟨n, X, M', .int (nI (3 * n)), v5, v6, v7, fun Q => ?_, stop (-4) (by decide) (fun Q => by rw [m_event_ok hi hj hk m14 x4, if_pos h8]), hXr, hMr⟩
          rw [h47_36]
          simp (disch := first | assumption | omega | (simp (disch := omega) only [zr_n, zr_s]; assumption)) only [x47_38, x47_39, x47_40, x47_41_53, x47_41_55, x47_41_57, x47_41_59, x47_44, x47_47, x47_48_0, x47_51_8, x47_51_28, x47_54, x47_56, ↓reduceIte, zkl_i, zkl_r, zkl_n, zkl_z, zkl_l, Option.toList_some, Option.toList_none, List.cons_append, List.nil_append, zcs_0, zcs_i, zcs_l, zcs_r, zle8, true_and, and_true, true_or, or_true, na_2, e1, q1, if_true, x3, n8, if_false]
        · have n8 : nI e < 8 := (nI_ltI (b := 8) (by omega) (by decide)).mpr (by omega)
          obtain ⟨⟨i, hi, rfl⟩, ⟨j, hj, rfl⟩, ⟨k, hk, rfl⟩⟩ := hv
          have hmay := may1 hi hj hk
          have hx : ixN (X 8 9) 8 := by rw [x3, ixN_nI (by omega) (by decide)]; trivial
          have e9' : zae X (nI i) (nI j) (nI k) 8 9 = nI (e + 1) := by
            unfold zae
            rw [zr_s, upd_s, x3, na_1]
          have te : tn (nI (e + 1)) = e + 1 := nI_clamp (by omega)
          obtain ⟨r, X1, M1, y4, y5, y6, y7, g1, g2, g3, g4⟩ := ih (n + 1) (zae X (nI i) (nI j) (nI k)) (evM e (nI i) (nI j) (nI k) M') (.int (nI i)) (.int (nI j)) (.int (nI k)) (.int (nI (60 * 2 + 3 * n))) J2 (by omega) ⟨fun c c1 c2 c3 c4 => (zae_f (by omega)).trans (x1 c c1 c2 c3 c4), fun j hj => by unfold zae; rw [zr_s, upd_n hj]; exact x2 j hj, by rw [e9', te], by rw [e9', te]; omega⟩ ⟨fun c c1 c2 => by unfold evM; rw [zr_n c1, zr_n c2]; exact m1 c c1 c2, fun j hj => by unfold evM; rw [zr_s, upd_n hj]; exact m2 j hj, evM_ev x3 (by omega) m3⟩
          refine ⟨r, X1, M1, y4, y5, y6, y7, fun Q => ?_, fun Q => ?_, g3, g4⟩
          · rw [← g1 Q, h47_36]
            have e3 : 3 * n + 3 = 3 * (n + 1) := by omega
            simp (disch := first | assumption | omega | (simp (disch := omega) only [zr_n, zr_s]; assumption)) only [x47_38, x47_39, x47_40, x47_41_53, x47_41_55, x47_41_57, x47_41_59, x47_44, x47_47, x47_48_0, x47_51_8, x47_51_28, x47_54, x47_56, x47_59, x47_60_53, x47_60_55, x47_60_57, x47_60_59, x47_63, x47_65, x47_66, x47_68, x47_69_53, x47_69_55, x47_69_57, x47_69_59, x47_72, x47_74, x47_75, x47_76, x47_77, x47_79, x47_80_53, x47_80_55, x47_80_57, x47_80_59, x47_83, x47_85, x47_86, x47_87, x47_88, x47_90, x47_92, x47_94, x47_96, x47_99, x47_102, x47_105, x47_106_0, x47_109, x47_111, x47_113, x47_115, x47_118, x47_121, x47_124, gc_8, bi_58, bs_58, ↓reduceIte, zkl_i, zkl_r, zkl_n, zkl_z, zkl_l, Option.toList_some, Option.toList_none, List.cons_append, List.nil_append, zcs_0, zcs_i, zcs_l, zcs_r, zle8, true_and, and_true, true_or, or_true, na_2, na_1, na_3, e1, q1, if_true, n8, ixN_nI, nI_clamp, ha, hb, hc, c_mayBeEvent, hmay, i1_0, if_false, c_addEvent, e3, x3]
          · refine Eq.trans ?_ (g2 Q)
            have hev := fun Q => m_event_ok (xl := xl) (J := J2) (Q := Q) (M := M') hi hj hk m14 x4
            simp only [if_neg h8] at hev
            have np : ¬ nI (e + 1) < 0 := nI_pos (by omega)
            rw [h137_29]
            simp (disch := first | assumption | omega | (simp (disch := omega) only [zr_n, zr_s]; assumption)) only [x137_30, x137_33, x137_34, x137_35, x137_36, x137_37, x137_38, x137_39_65, x137_42, x137_43, x137_44, x137_47, x137_49, x137_50, x137_51, x137_52, x137_53, x137_54, x137_55, x137_57, x137_58, x137_59_65, x137_62, x137_64, x137_65, x137_66_65, x137_69, x137_71, x137_72, x137_73, x137_74, x137_75_65, x137_78, x137_80, x137_81, x137_82, x137_83, x137_86, x137_89, x137_90, x137_93, x137_94, x137_95, x137_96, x137_97, x137_100, x137_101, x137_104, x137_105, x137_106, x137_107, gc_65, bi_67, bs_67, bi_68, bs_68, ↓reduceIte, zkl_i, zkl_r, zkl_n, zkl_z, zkl_l, Option.toList_some, Option.toList_none, List.cons_append, List.nil_append, zcs_0, zcs_i, zcs_l, zcs_r, zle8, true_and, and_true, true_or, or_true, i1_0, if_false, nm_3, na_3, ixN_nI, nI_clamp, e2, q2, nm_60, nI_add, na_1, na_2, i0, i1, i2, hev, np]
      · have hmay := may0 hv
        have hbad := fun Q => m_event_bad (xl := xl) (J := J2) (Q := Q) (M := M') hv
        by_cases h8 : e = 8
        · have n8 : ¬ nI e < 8 := by rw [h8]; decide
          refine ⟨n, X, M', .int (nI (3 * n)), v5, v6, v7, fun Q => ?_, stop (-2) (by decide) hbad, hXr, hMr⟩
          rw [h47_36]
          simp (disch := first | assumption | omega | (simp (disch := omega) only [zr_n, zr_s]; assumption)) only [x47_38, x47_39, x47_40, x47_41_53, x47_41_55, x47_41_57, x47_41_59, x47_44, x47_47, x47_48_0, x47_51_8, x47_51_28, x47_54, x47_56, ↓reduceIte, zkl_i, zkl_r, zkl_n, zkl_z, zkl_l, Option.toList_some, Option.toList_none, List.cons_append, List.nil_append, zcs_0, zcs_i, zcs_l, zcs_r, zle8, true_and, and_true, true_or, or_true, na_2, e1, q1, if_true, x3, n8, if_false]
        · have n8 : nI e < 8 := (nI_ltI (b := 8) (by omega) (by decide)).mpr (by omega)
          refine ⟨n, X, M', .int (nI (3 * n)), .int va, .int vb, .int vc, fun Q => ?_, stop (-2) (by decide) hbad, hXr, hMr⟩
          rw [h47_36]
          simp (disch := first | assumption | omega | (simp (disch := omega) only [zr_n, zr_s]; assumption)) only [x47_38, x47_39, x47_40, x47_41_53, x47_41_55, x47_41_57, x47_41_59, x47_44, x47_47, x47_48_0, x47_51_8, x47_51_28, x47_54, x47_56, x47_59, x47_60_53, x47_60_55, x47_60_57, x47_60_59, x47_63, x47_65, x47_66, x47_68, x47_69_53, x47_69_55, x47_69_57, x47_69_59, x47_72, x47_74, x47_75, x47_76, x47_77, x47_79, x47_80_53, x47_80_55, x47_80_57, x47_80_59, x47_83, x47_85, x47_86, x47_87, x47_88, x47_90, x47_92, x47_94, x47_96, x47_99, x47_102, x47_105, x47_106_0, x47_109, x47_111, x47_113, x47_115, x47_118, x47_121, x47_124, gc_8, bi_58, bs_58, ↓reduceIte, zkl_i, zkl_r, zkl_n, zkl_z, zkl_l, Option.toList_some, Option.toList_none, List.cons_append, List.nil_append, zcs_0, zcs_i, zcs_l, zcs_r, zle8, true_and, and_true, true_or, or_true, na_2, na_1, e1, q1, if_true, n8, ixN_nI, nI_clamp, ha, hb, hc, c_mayBeEvent, hmay, x3]
    · have q1 : ¬ nI (3 * n + 2) < nI (tn (I 57 2)) := by rw [nI_ltI (by omega) (by omega)]; omega
      have q2 : nI (tn (I 57 2)) < nI (3 * n + 3) := by rw [nI_ltI (by omega) (by omega)]; omega
      refine ⟨n, X, M', .int (nI (3 * n)), v5, v6, v7, fun Q => ?_, fun Q => ?_, hXr, hMr⟩
      · rw [h47_36]
        simp (disch := first | assumption | omega | (simp (disch := omega) only [zr_n, zr_s]; assumption)) only [x47_38, x47_39, x47_40, x47_41_53, x47_41_55, x47_41_57, x47_41_59, x47_44, x47_47, x47_48_0, x47_51_8, x47_51_28, x47_54, x47_56, ↓reduceIte, zkl_i, zkl_r, zkl_n, zkl_z, zkl_l, Option.toList_some, Option.toList_none, List.cons_append, List.nil_append, zcs_0, zcs_i, zcs_l, zcs_r, zle8, true_and, and_true, true_or, or_true, na_2, e1, q1, if_false]
      · rw [h137_29]
        simp (disch := first | assumption | omega | (simp (disch := omega) only [zr_n, zr_s]; assumption)) only [x137_30, x137_33, x137_34, x137_35, x137_36, x137_37, x137_38, x137_39_65, x137_42, x137_43, x137_44, x137_110, x137_111, bi_67, bs_67, ↓reduceIte, zkl_i, zkl_r, zkl_n, zkl_z, zkl_l, Option.toList_some, Option.toList_none, List.cons_append, List.nil_append, zcs_0, zcs_i, zcs_l, zcs_r, zle8, true_and, and_true, true_or, or_true, i1_0, if_false, nm_3, na_3, ixN_nI, nI_clamp, e2, q2, if_true]
theorem k_read_2 (h : Inv I) : KI xl 47 137 [.ref 0, .int (nI 2), .null, .null, .null, .null, .null, .null] [.ref 65, .int (nI 2), .null, .null, .null] I J := by
  have c1 : (if nI 2 < 0 then (0 : Int32) else if nI 2 < 4 then 1 else 0) = 1 := bl1 (n := 4) (by decide) (by decide)
  have r1 : bt (nI 2) 0 3 = 1 := in1 (m := 3) (by decide) (by decide)
  by_cases hz : I 57 0 = 0
  · have hX0 : RRc I I := by
      obtain ⟨e0, e3, e6, e9⟩ := RC_8 h.1
      have b9 := (RC_l h.1).2.2.2
      have : tn (I 8 9) = tn (pD I 28 9) := rfl
      exact ⟨fun c _ _ _ _ => rfl, fun j _ => rfl, by rw [this]; exact e9, by rw [this]; exact b9⟩
    obtain ⟨r, X, M0, y4, y5, y6, y7, g1, g2, g3, g4⟩ := rd_loop_2 (xl := xl) (J := J) h.1 h.2 20 0 I I .null .null .null .null J rfl hX0 ⟨fun c _ _ => rfl, fun j _ => rfl, h.2.2.2.2.1⟩
    have hR : RP X := RP_8 (fun c c1 c2 => g3.1 c c2 (by omega) (by omega) (by omega)) (g3.2.1 0 (by decide)) (g3.2.1 3 (by decide)) (g3.2.1 6 (by decide)) (by rw [g3.2.2.1, ixN_nI (by have := g3.2.2.2; omega) (by decide)]; trivial) (g3.2.1 13 (by decide)) (g3.1 1000 (by decide) (by decide) (by decide) (by decide)) h.1.1
    have hp := fun Q => d_pass_18 (xl := xl) (J := J) (Q := Q) (RP_CD hR)
    refine mkU (v := nI r) (I1 := zps 18 8 X) h (fun Q => ?_) (RC_ps hR (SG_f (fun c c1 c2 => g3.1 c (by omega) (by omega) (by omega) (by omega)) h.1.2.1) (SHc_f (fun c c1 c2 => g3.1 c (by omega) (by omega) (by omega) (by omega)) h.1.2.2.1)) (fun c hc => by rw [zps_f (by omega)]; exact g3.1 c (by omega) (by omega) (by omega) (by omega)) (fun M J' hM => ?_)
    · have st : Rn (zG xl) 47 0 [.ref 0, .int (nI 2), .null, .null, .null, .null, .null, .null] [] I J Q = Rn (zG xl) 47 36 [.ref 0, .int (nI 2), .ref 57, .int (nI 0), .int (nI (3 * 0)), .null, .null, .null] [] I J Q := by
        simp (disch := first | assumption | omega | (simp (disch := omega) only [zr_n, zr_s]; assumption)) only [x47_0, x47_1, x47_2, x47_5, x47_8, x47_10, x47_11, x47_12_0, x47_15, x47_16, x47_17, x47_18, x47_19_53, x47_19_55, x47_19_57, x47_19_59, x47_22, x47_25, x47_26, x47_27, x47_30, x47_31, x47_32, x47_33, x47_34, gc_0, br_52, aa_52_0, aa_52_1, aa_52_2, aa_52_3, gc_57, ↓reduceIte, zkl_i, zkl_r, zkl_n, zkl_z, zkl_l, Option.toList_some, Option.toList_none, List.cons_append, List.nil_append, zcs_0, zcs_i, zcs_l, zcs_r, zle8, true_and, and_true, true_or, or_true, c_below, c1, i1_0, if_false, ixN_nI, nI_clamp, hz, if_true]
        rfl
      rw [st, g1 Q]
      simp (disch := first | assumption | omega | (simp (disch := omega) only [zr_n, zr_s]; assumption)) only [x47_127, x47_128_0, x47_131, x47_132_0, x47_135, x47_138, x47_139, gc_18, ↓reduceIte, zkl_i, zkl_r, zkl_n, zkl_z, zkl_l, Option.toList_some, Option.toList_none, List.cons_append, List.nil_append, zcs_0, zcs_i, zcs_l, zcs_r, zle8, true_and, and_true, true_or, or_true, hp]
    · obtain ⟨-, o2, o3, o4, -⟩ := sh_2 h.1 hM
      obtain ⟨o1, on⟩ := o4 hz
      obtain ⟨r', X', M1, z4, z5, z6, z7, f1, f2, f3, f4⟩ := rd_loop_2 (xl := xl) (J := J) h.1 hM 20 0 I M .null .null .null .null J' rfl hX0 ⟨fun c _ _ => rfl, fun j _ => rfl, hM.2.2.2.1⟩
      have hR' : RP X' := RP_8 (fun c c1 c2 => f3.1 c c2 (by omega) (by omega) (by omega)) (f3.2.1 0 (by decide)) (f3.2.1 3 (by decide)) (f3.2.1 6 (by decide)) (by rw [f3.2.2.1, ixN_nI (by have := f3.2.2.2; omega) (by decide)]; trivial) (f3.2.1 13 (by decide)) (f3.1 1000 (by decide) (by decide) (by decide) (by decide)) h.1.1
      have hp' := fun Q => d_pass_18 (xl := xl) (J := J) (Q := Q) (RP_CD hR')
      have en : ∀ Q : zQ, Q (some (.int (nI r))) (zps 18 8 X) J = Q (some (.int (nI r'))) (zps 18 8 X') J := by
        intro Q
        have q1 := (g1 Q).symm.trans (f1 Q)
        simp (disch := first | assumption | omega | (simp (disch := omega) only [zr_n, zr_s]; assumption)) only [x47_127, x47_128_0, x47_131, x47_132_0, x47_135, x47_138, x47_139, gc_18, ↓reduceIte, zkl_i, zkl_r, zkl_n, zkl_z, zkl_l, Option.toList_some, Option.toList_none, List.cons_append, List.nil_append, zcs_0, zcs_i, zcs_l, zcs_r, zle8, true_and, and_true, true_or, or_true, hp, hp'] at q1
        exact q1
      have eX : zps 18 8 X' = zps 18 8 X := ((en (fun _ Y _ => Y = zps 18 8 X)).mp rfl)
      have er : nI r' = nI r := by
        have q2 := (en (fun v _ _ => v = some (.int (nI r)))).mp rfl
        injection q2 with q2
        injection q2
      refine ⟨M1, fun Q => ?_, ?_, fun c hc => f4.1 c (by omega) (by omega)⟩
      rotate_left
      · rw [← eX]
        exact RM_ev hM (fun c hc => f3.1 c (by omega) (by omega) (by omega) (by omega)) f4.2.2 (fun c c1 c2 c3 => f4.1 c (by omega) c3) (f4.2.1 4 (by decide)) (f4.2.1 28 (by decide))
      rw [← er]
      refine Eq.trans ?_ (f2 Q)
      simp (disch := first | assumption | omega | (simp (disch := omega) only [zr_n, zr_s]; assumption)) only [x137_0, x137_1, x137_4, x137_7, x137_9, x137_10, x137_11_65, x137_14, x137_15, x137_16, x137_19, x137_20, x137_21, x137_24, x137_25, x137_26, x137_27, x137_28, gc_65, bi_66, bs_66, ↓reduceIte, zkl_i, zkl_r, zkl_n, zkl_z, zkl_l, Option.toList_some, Option.toList_none, List.cons_append, List.nil_append, zcs_0, zcs_i, zcs_l, zcs_r, zle8, true_and, and_true, true_or, or_true, m_isSheet, r1, i1_0, if_false, ixN_nI, nI_clamp, o1, on]
      rfl
  · refine mkF (v := -11) (k := 1) h (fun Q => ?_) (fun M J hM Q => ?_)
    · simp (disch := first | assumption | omega | (simp (disch := omega) only [zr_n, zr_s]; assumption)) only [x47_0, x47_1, x47_2, x47_5, x47_8, x47_10, x47_11, x47_12_0, x47_15, x47_16, x47_17, x47_18, x47_19_53, x47_19_55, x47_19_57, x47_19_59, x47_22, x47_25, x47_26, x47_27, x47_30, x47_31, x47_32, x47_33, x47_34, gc_0, br_52, aa_52_0, aa_52_1, aa_52_2, aa_52_3, gc_57, ↓reduceIte, zkl_i, zkl_r, zkl_n, zkl_z, zkl_l, Option.toList_some, Option.toList_none, List.cons_append, List.nil_append, zcs_0, zcs_i, zcs_l, zcs_r, zle8, true_and, and_true, true_or, or_true, c_below, c1, i1_0, if_false, ixN_nI, nI_clamp, hz, c_found, v11]
    · have o1 := (sh_2 h.1 hM).2.2.2.2 hz
      simp (disch := first | assumption | omega | (simp (disch := omega) only [zr_n, zr_s]; assumption)) only [x137_0, x137_1, x137_4, x137_7, x137_9, x137_10, x137_11_65, x137_14, x137_15, x137_16, x137_19, x137_20, x137_21, x137_24, x137_25, x137_26, x137_27, x137_28, gc_65, bi_66, bs_66, bi_67, bs_67, ↓reduceIte, zkl_i, zkl_r, zkl_n, zkl_z, zkl_l, Option.toList_some, Option.toList_none, List.cons_append, List.nil_append, zcs_0, zcs_i, zcs_l, zcs_r, zle8, true_and, and_true, true_or, or_true, m_isSheet, r1, i1_0, if_false, ixN_nI, nI_clamp, o1, m1_0, if_true, m_finds, v11]
theorem k_write_3 (h : Inv I) : KI xl 72 183 [.ref 0, .int (nI 3), .null, .null, .null] [.ref 65, .int (nI 3), .null, .null] I J := by
  have c1 : (if nI 3 < 0 then (0 : Int32) else if nI 3 < 4 then 1 else 0) = 1 := bl1 (n := 4) (by decide) (by decide)
  have r1 : bt (nI 3) 0 3 = 1 := in1 (m := 3) (by decide) (by decide)
  obtain ⟨⟨s1, s2, s3, s4⟩, -⟩ := sh_3 h.1 h.2
  by_cases hz : I 59 0 = 0
  · have hmn := mn_c s4
    have hmm := mn_m s4
    have hb10 : min (tn (I 59 2)) 10 ≤ 10 := Nat.min_le_right _ _
    have hbL : min (tn (I 59 2)) 10 ≤ tn (I 59 2) := Nat.min_le_left _ _
    generalize hq : min (tn (I 59 2)) 10 = q at hmn hmm hb10 hbL
    have lp := lpE (R := fun k (u v : Unit) X Q => Rn (zG xl) 72 44 [.ref 0, .int (nI 3), .ref 59, .int (nI q), .int (nI k)] [] X J Q) (E := fun (u : Unit) X' Q => Q (some (.int (nI q))) X' J) (f := fun _ u => u) (n := q) (P := fun k (u : Unit) X => (∀ c, c ≠ 60 → X c = I c) ∧ (∀ j, j < k → X 60 j = cutv (I 59 1) (I 20 j)) ∧ ∀ j, k ≤ j → X 60 j = I 60 j) (P' := fun u X => (∀ c, c ≠ 60 → X c = I c) ∧ (∀ j, j < q → X 60 j = cutv (I 59 1) (I 20 j)) ∧ ∀ j, q ≤ j → X 60 j = I 60 j) (fun k u v X hk hP => by
      obtain ⟨p1, p2, p3⟩ := hP
      refine ⟨(), zr X 60 (upd (X 60) k (cutv (X 59 1) (X 20 k))), fun Q => ?_, fun c hc => by rw [zr_n hc]; exact p1 c hc, fun j hj => ?_, fun j hj => by rw [zr_s, upd_n (by omega)]; exact p3 j (by omega)⟩
      · show Rn _ _ _ _ _ _ _ _ = Rn _ _ _ _ _ _ _ _
        rw [h72_44]
        simp (disch := first | assumption | omega | (simp (disch := omega) only [zr_n, zr_s]; assumption)) only [x72_46, x72_47, x72_50, x72_51, x72_53, x72_54_0, x72_57_18, x72_57_38, x72_60, x72_62, x72_63, x72_66, x72_69, gc_59, bi_20, bs_20, ↓reduceIte, zkl_i, zkl_r, zkl_n, zkl_z, zkl_l, Option.toList_some, Option.toList_none, List.cons_append, List.nil_append, zcs_0, zcs_i, zcs_l, zcs_r, zle8, true_and, and_true, true_or, or_true, nI_ltI, hk, if_true, ixN_nI, nI_clamp, na_1, c_put_59]
      · rw [zr_s]
        by_cases e : j = k
        · subst e; rw [upd_s, p1 59 (by decide), p1 20 (by decide)]
        · rw [upd_n e]; exact p2 j (by omega)) (fun u v X hP => by
      refine ⟨X, fun Q => ?_, hP⟩
      show Rn _ _ _ _ _ _ _ _ = _
      rw [h72_44]
      simp (disch := first | assumption | omega | (simp (disch := omega) only [zr_n, zr_s]; assumption)) only [x72_46, x72_47, x72_50, x72_51, x72_53, x72_54_0, x72_57_18, x72_57_38, x72_60, x72_62, x72_63, x72_66, x72_69, x72_72, x72_73, ↓reduceIte, zkl_i, zkl_r, zkl_n, zkl_z, zkl_l, Option.toList_some, Option.toList_none, List.cons_append, List.nil_append, zcs_0, zcs_i, zcs_l, zcs_r, zle8, true_and, and_true, true_or, or_true, nI_ltI, Nat.lt_irrefl, if_false]) q 0 () () I (Nat.zero_add _) ⟨fun c hc => rfl, fun j hj => by omega, fun j hj => rfl⟩
    obtain ⟨X, l1, l2, l3, l4⟩ := lp
    refine mkU (v := nI q) (I1 := X) h (fun Q => ?_) (RC_sh h.1 (fun c c1 c2 => l2 c (by omega)) (l2 1000 (by decide)) (fun s hs => by rw [l2 (53 + 2 * s) (by omega)]; exact h.1.2.2.1 s hs)) (fun c hc => l2 c (by omega)) (fun M J hM => ?_)
    · refine Eq.trans ?_ (l1 Q)
      rw [← s3] at hmn
      simp (disch := first | assumption | omega | (simp (disch := omega) only [zr_n, zr_s]; assumption)) only [x72_0, x72_1, x72_2, x72_5, x72_8, x72_10, x72_11, x72_12_0, x72_15, x72_16, x72_17, x72_18, x72_19_53, x72_19_55, x72_19_57, x72_19_59, x72_22, x72_25, x72_26, x72_27, x72_30, x72_31, x72_32_53, x72_32_55, x72_32_57, x72_32_59, x72_35, x72_37, x72_40, x72_41, x72_42, gc_0, br_52, aa_52_0, aa_52_1, aa_52_2, aa_52_3, gc_59, ↓reduceIte, zkl_i, zkl_r, zkl_n, zkl_z, zkl_l, Option.toList_some, Option.toList_none, List.cons_append, List.nil_append, zcs_0, zcs_i, zcs_l, zcs_r, zle8, true_and, and_true, true_or, or_true, c_below, c1, i1_0, if_false, ixN_nI, nI_clamp, hz, if_true, hmn]
      rfl
    · obtain ⟨M1, f1, f2, f3, f4⟩ := rq_find (xl := xl) (J := J) h.1 hM
      obtain ⟨-, -, -, o4, -⟩ := sh_3 h.1 hM
      obtain ⟨o1, on⟩ := o4 hz
      obtain ⟨-, w2, w3, w4, -⟩ := sh_3 h.1 f3
      obtain ⟨w1, wn⟩ := w4 hz
      have e85 : ∀ k, k < 10 → M1 85 k = I 20 k := fun k hk => ((f2.2.1 k hk).2.1).trans (h.1.2.2.2.2.2.1 k hk).2.1.symm
      have lp := lpE (R := fun k (u v : Unit) X Q => Rn (zG xl) 183 43 [.ref 65, .int (nI 3), .int (nI q), .int (nI k)] [] X J Q) (E := fun (u : Unit) X' Q => Q (some (.int (nI q))) X' J) (f := fun _ u => u) (n := q) (P := fun k (u : Unit) X => (∀ c, c ≠ 68 → X c = M1 c) ∧ (∀ j, j < k → X 68 (60 * 3 + j) = cutv (I 59 1) (I 20 j)) ∧ ∀ x, x < 60 * 3 ∨ 60 * 3 + k ≤ x → X 68 x = M1 68 x) (P' := fun u X => (∀ c, c ≠ 68 → X c = M1 c) ∧ (∀ j, j < q → X 68 (60 * 3 + j) = cutv (I 59 1) (I 20 j)) ∧ ∀ x, x < 60 * 3 ∨ 60 * 3 + q ≤ x → X 68 x = M1 68 x) (fun k u v X hk hP => by
        obtain ⟨p1, p2, p3⟩ := hP
        refine ⟨(), zr X 68 (upd (X 68) (60 * 3 + k) (cutv (I 59 1) (I 20 k))), fun Q => ?_, fun c hc => by rw [zr_n hc]; exact p1 c hc, fun j hj => ?_, fun x hx => by rw [zr_s, upd_n (by omega)]; exact p3 x (by omega)⟩
        · show Rn _ _ _ _ _ _ _ _ = Rn _ _ _ _ _ _ _ _
          rw [h183_43]
          simp (disch := first | assumption | omega | (simp (disch := omega) only [zr_n, zr_s]; assumption)) only [x183_44, x183_45, x183_48, x183_49_65, x183_52, x183_54, x183_55, x183_56, x183_57, x183_58, x183_59_65, x183_62, x183_63, x183_64, x183_65_65, x183_68, x183_69, x183_70, x183_73, x183_74, x183_77, bi_66, bs_66, bi_68, bs_68, bi_85, bs_85, ↓reduceIte, zkl_i, zkl_r, zkl_n, zkl_z, zkl_l, Option.toList_some, Option.toList_none, List.cons_append, List.nil_append, zcs_0, zcs_i, zcs_l, zcs_r, zle8, true_and, and_true, true_or, or_true, nI_ltI, hk, if_true, nm_60, nI_add, ixN_nI, nI_clamp, na_1, p1 66 (by decide), p1 85 (by decide), w1, e85 k (by omega), m_cut, cut_eq]
        · rw [zr_s]
          by_cases e : j = k
          · subst e; rw [upd_s]
          · rw [upd_n (by omega)]; exact p2 j (by omega)) (fun u v X hP => by
        refine ⟨X, fun Q => ?_, hP⟩
        show Rn _ _ _ _ _ _ _ _ = _
        rw [h183_43]
        simp (disch := first | assumption | omega | (simp (disch := omega) only [zr_n, zr_s]; assumption)) only [x183_44, x183_45, x183_48, x183_49_65, x183_52, x183_54, x183_55, x183_56, x183_57, x183_58, x183_59_65, x183_62, x183_63, x183_64, x183_65_65, x183_68, x183_69, x183_70, x183_73, x183_74, x183_77, x183_80, x183_81, ↓reduceIte, zkl_i, zkl_r, zkl_n, zkl_z, zkl_l, Option.toList_some, Option.toList_none, List.cons_append, List.nil_append, zcs_0, zcs_i, zcs_l, zcs_r, zle8, true_and, and_true, true_or, or_true, nI_ltI, Nat.lt_irrefl, if_false]) q 0 () () M1 (Nat.zero_add _) ⟨fun c hc => rfl, fun j hj => by omega, fun x hx => rfl⟩
      obtain ⟨M2, m1, m2, m3, m4⟩ := lp
      refine ⟨M2, fun Q => ?_, RM_sh f3 (fun c c1 c2 => l2 c (by omega)) (by rw [m2 65 (by decide), l2 0 (by decide)]; exact f3.2.2.2.2.2.2) (SHm_3 h.1 f3 (fun c c1 c2 c3 c4 => l2 c c4) (fun s e => by rw [m2 66 (by decide)]) (fun s e => by rw [m2 67 (by decide)]) (fun j e => m4 j (by omega)) ?_ ?_ ?_) (m2 70 (by decide)) (m2 71 (by decide)) (m2 75 (by decide)) (m2 87 (by decide)) (fun j hj => by rw [m2 65 (by decide)]), fun c hc => (m2 c (by omega)).trans (f4.1 c (by omega))⟩
      · refine Eq.trans ?_ (m1 Q)
        rw [← s3] at hmm
        simp (disch := first | assumption | omega | (simp (disch := omega) only [zr_n, zr_s]; assumption)) only [x183_0, x183_1, x183_4, x183_7, x183_9, x183_10, x183_11_65, x183_14, x183_15, x183_16, x183_19, x183_20, x183_21, x183_24, x183_25, x183_26, x183_29, x183_30_65, x183_33, x183_34, x183_35, x183_37, x183_40, x183_41, x183_42, gc_65, bi_66, bs_66, bi_67, bs_67, ↓reduceIte, zkl_i, zkl_r, zkl_n, zkl_z, zkl_l, Option.toList_some, Option.toList_none, List.cons_append, List.nil_append, zcs_0, zcs_i, zcs_l, zcs_r, zle8, true_and, and_true, true_or, or_true, m_isSheet, r1, i1_0, if_false, ixN_nI, nI_clamp, o1, on, f1, w2, m_lesser, hmm]
        rfl
      · rw [m2 66 (by decide), l2 59 (by decide), if_pos hz]; exact w1
      · rw [m2 67 (by decide), l2 59 (by decide)]; exact w2
      · rw [l2 59 (by decide)]
        intro j hj
        by_cases e : j < q
        · rw [m3 j e, l3 j e]
        · rw [m4 _ (by omega), l4 j (by omega)]
          exact w3 j hj
  · refine mkF (v := -11) (k := 1) h (fun Q => ?_) (fun M J hM Q => ?_)
    · simp (disch := first | assumption | omega | (simp (disch := omega) only [zr_n, zr_s]; assumption)) only [x72_0, x72_1, x72_2, x72_5, x72_8, x72_10, x72_11, x72_12_0, x72_15, x72_16, x72_17, x72_18, x72_19_53, x72_19_55, x72_19_57, x72_19_59, x72_22, x72_25, x72_26, x72_27, x72_30, x72_31, x72_32_53, x72_32_55, x72_32_57, x72_32_59, x72_35, x72_37, x72_40, x72_41, x72_42, gc_0, br_52, aa_52_0, aa_52_1, aa_52_2, aa_52_3, gc_59, ↓reduceIte, zkl_i, zkl_r, zkl_n, zkl_z, zkl_l, Option.toList_some, Option.toList_none, List.cons_append, List.nil_append, zcs_0, zcs_i, zcs_l, zcs_r, zle8, true_and, and_true, true_or, or_true, c_below, c1, i1_0, if_false, ixN_nI, nI_clamp, hz, c_found, v11]
    · have o1 := (sh_3 h.1 hM).2.2.2.2 hz
      simp (disch := first | assumption | omega | (simp (disch := omega) only [zr_n, zr_s]; assumption)) only [x183_0, x183_1, x183_4, x183_7, x183_9, x183_10, x183_11_65, x183_14, x183_15, x183_16, x183_19, x183_20, x183_21, x183_24, x183_25, x183_26, x183_29, x183_30_65, x183_33, x183_34, x183_35, x183_37, x183_40, x183_41, x183_42, gc_65, bi_66, bs_66, bi_67, bs_67, ↓reduceIte, zkl_i, zkl_r, zkl_n, zkl_z, zkl_l, Option.toList_some, Option.toList_none, List.cons_append, List.nil_append, zcs_0, zcs_i, zcs_l, zcs_r, zle8, true_and, and_true, true_or, or_true, m_isSheet, r1, i1_0, if_false, ixN_nI, nI_clamp, o1, m1_0, if_true, m_finds, v11]
theorem rd_loop_3 (hI : RC I) (hM : RM I M) : ∀ (d n : Nat) (X M' : zI) (v5 v6 v7 w4 : Value) (J2 : zJ), n + d = 20 → RRc I X → RRm M X M' → ∃ (r : Nat) (X1 M1 : zI) (y4 y5 y6 y7 : Value), (∀ Q : zQ, Rn (zG xl) 47 36 [.ref 0, .int (nI 3), .ref 59, .int (nI n), .int (nI (3 * n)), v5, v6, v7] [] X J Q = Rn (zG xl) 47 127 [.ref 0, .int (nI 3), .ref 59, .int (nI r), y4, y5, y6, y7] [] X1 J Q) ∧ (∀ Q : zQ, Rn (zG xl) 137 29 [.ref 65, .int (nI 3), .int (nI n), .int 1, w4] [] M' J2 Q = Q (some (.int (nI r))) M1 J2) ∧ RRc I X1 ∧ RRm M X1 M1 := by
  obtain ⟨⟨s1, s2, s3, s4⟩, o2, o3, -⟩ := sh_3 hI hM
  intro d
  induction d with
  | zero =>
    intro n X M' v5 v6 v7 w4 J2 hn hX hM'
    have hn : n = 20 := hn
    subst hn
    have e1 : X 59 2 = nI (tn (I 59 2)) := by rw [hX.1 59 (by decide) (by decide) (by decide) (by decide)]; exact s3
    have e2 : M' 67 3 = nI (tn (I 59 2)) := by rw [hM'.1 67 (by decide) (by decide), o2]; exact s3
    have q1 : ¬ nI (3 * 20 + 2) < nI (tn (I 59 2)) := by rw [nI_ltI (by decide) (by omega)]; omega
    have q2 : nI (tn (I 59 2)) < nI (3 * 20 + 3) := by rw [nI_ltI (by omega) (by decide)]; omega
    refine ⟨20, X, M', .int (nI (3 * 20)), v5, v6, v7, fun Q => ?_, fun Q => ?_, hX, hM'⟩
    · rw [h47_36]
      simp (disch := first | assumption | omega | (simp (disch := omega) only [zr_n, zr_s]; assumption)) only [x47_38, x47_39, x47_40, x47_41_53, x47_41_55, x47_41_57, x47_41_59, x47_44, x47_47, x47_48_0, x47_51_8, x47_51_28, x47_54, x47_56, ↓reduceIte, zkl_i, zkl_r, zkl_n, zkl_z, zkl_l, Option.toList_some, Option.toList_none, List.cons_append, List.nil_append, zcs_0, zcs_i, zcs_l, zcs_r, zle8, true_and, and_true, true_or, or_true, na_2, e1, q1, if_false]
    · rw [h137_29]
      simp (disch := first | assumption | omega | (simp (disch := omega) only [zr_n, zr_s]; assumption)) only [x137_30, x137_33, x137_34, x137_35, x137_36, x137_37, x137_38, x137_39_65, x137_42, x137_43, x137_44, x137_110, x137_111, bi_67, bs_67, ↓reduceIte, zkl_i, zkl_r, zkl_n, zkl_z, zkl_l, Option.toList_some, Option.toList_none, List.cons_append, List.nil_append, zcs_0, zcs_i, zcs_l, zcs_r, zle8, true_and, and_true, true_or, or_true, i1_0, if_false, nm_3, na_3, ixN_nI, nI_clamp, e2, q2, if_true]
  | succ d ih =>
    intro n X M' v5 v6 v7 w4 J2 hn hX hM'
    have hXr := hX
    have hMr := hM'
    obtain ⟨x1, x2, x3, x4⟩ := hX
    obtain ⟨m1, m2, m3⟩ := hM'
    have e1 : X 59 2 = nI (tn (I 59 2)) := by rw [x1 59 (by decide) (by decide) (by decide) (by decide)]; exact s3
    have e2 : M' 67 3 = nI (tn (I 59 2)) := by rw [m1 67 (by decide) (by decide), o2]; exact s3
    by_cases hL : 3 * n + 2 < tn (I 59 2)
    · have q1 : nI (3 * n + 2) < nI (tn (I 59 2)) := by rw [nI_ltI (by omega) (by omega)]; omega
      have q2 : ¬ nI (tn (I 59 2)) < nI (3 * n + 3) := by rw [nI_ltI (by omega) (by omega)]; omega
      have i0 : M' 68 (60 * 3 + 3 * n) = X 60 (3 * n) := by rw [m1 68 (by decide) (by decide), x1 60 (by decide) (by decide) (by decide) (by decide)]; exact o3 _ (by omega)
      have i1 : M' 68 (60 * 3 + 3 * n + 1) = X 60 (3 * n + 1) := by rw [m1 68 (by decide) (by decide), x1 60 (by decide) (by decide) (by decide) (by decide)]; exact o3 (3 * n + 1) (by omega)
      have i2 : M' 68 (60 * 3 + 3 * n + 2) = X 60 (3 * n + 2) := by rw [m1 68 (by decide) (by decide), x1 60 (by decide) (by decide) (by decide) (by decide)]; exact o3 (3 * n + 2) (by omega)
      generalize he : tn (X 8 9) = e at x3 x4
      have m14 : M' 65 14 = nI e := m3.2.1.trans x3
      generalize ha : X 60 (3 * n) = va at i0
      generalize hb : X 60 (3 * n + 1) = vb at i1
      generalize hc : X 60 (3 * n + 2) = vc at i2
      have stop : ∀ (v : Int32), v < 0 → (∀ Q : zQ, Rn (zG xl) 135 0 [.ref 65, .int va, .int vb, .int vc] [] M' J2 Q = Q (some (.int v)) M' J2) → ∀ Q : zQ, Rn (zG xl) 137 29 [.ref 65, .int (nI 3), .int (nI n), .int 1, w4] [] M' J2 Q = Q (some (.int (nI n))) M' J2 := by
        intro v hv hev Q
        rw [h137_29]
        simp (disch := first | assumption | omega | (simp (disch := omega) only [zr_n, zr_s]; assumption)) only [x137_30, x137_33, x137_34, x137_35, x137_36, x137_37, x137_38, x137_39_65, x137_42, x137_43, x137_44, x137_47, x137_49, x137_50, x137_51, x137_52, x137_53, x137_54, x137_55, x137_57, x137_58, x137_59_65, x137_62, x137_64, x137_65, x137_66_65, x137_69, x137_71, x137_72, x137_73, x137_74, x137_75_65, x137_78, x137_80, x137_81, x137_82, x137_83, x137_86, x137_89, x137_90, x137_93, x137_94, x137_95, x137_96, x137_97, x137_100, x137_101, x137_104, x137_105, x137_106, x137_107, gc_65, bi_67, bs_67, bi_68, bs_68, ↓reduceIte, zkl_i, zkl_r, zkl_n, zkl_z, zkl_l, Option.toList_some, Option.toList_none, List.cons_append, List.nil_append, zcs_0, zcs_i, zcs_l, zcs_r, zle8, true_and, and_true, true_or, or_true, i1_0, if_false, nm_3, na_3, ixN_nI, nI_clamp, e2, q2, nm_60, nI_add, na_1, na_2, i0, i1, i2, hev, hv, if_true, Int32.add_zero]
        rw [h137_29]
        simp (disch := first | assumption | omega | (simp (disch := omega) only [zr_n, zr_s]; assumption)) only [x137_30, x137_33, x137_34, x137_35, x137_36, x137_37, x137_38, x137_39_65, x137_42, x137_43, x137_44, x137_47, x137_49, x137_50, x137_51, x137_52, x137_53, x137_54, x137_55, x137_57, x137_58, x137_59_65, x137_62, x137_64, x137_65, x137_66_65, x137_69, x137_71, x137_72, x137_73, x137_74, x137_75_65, x137_78, x137_80, x137_81, x137_82, x137_83, x137_86, x137_89, x137_90, x137_93, x137_94, x137_95, x137_96, x137_97, x137_100, x137_101, x137_104, x137_105, x137_106, x137_107, x137_110, x137_111, ↓reduceIte, zkl_i, zkl_r, zkl_n, zkl_z, zkl_l, Option.toList_some, Option.toList_none, List.cons_append, List.nil_append, zcs_0, zcs_i, zcs_l, zcs_r, zle8, true_and, and_true, true_or, or_true, if_true]
      by_cases hv : IN va 2 ∧ IN vb 6 ∧ IN vc 24
      · by_cases h8 : e = 8
        · have n8 : ¬ nI e < 8 := by rw [h8]; decide
          obtain ⟨⟨i, hi, rfl⟩, ⟨j, hj, rfl⟩, ⟨k, hk, rfl⟩⟩ := hv
          refine ⟨n, X, M', .int (nI (3 * n)), v5, v6, v7, fun Q => ?_, stop (-4) (by decide) (fun Q => by rw [m_event_ok hi hj hk m14 x4, if_pos h8]), hXr, hMr⟩
          rw [h47_36]
          simp (disch := first | assumption | omega | (simp (disch := omega) only [zr_n, zr_s]; assumption)) only [x47_38, x47_39, x47_40, x47_41_53, x47_41_55, x47_41_57, x47_41_59, x47_44, x47_47, x47_48_0, x47_51_8, x47_51_28, x47_54, x47_56, ↓reduceIte, zkl_i, zkl_r, zkl_n, zkl_z, zkl_l, Option.toList_some, Option.toList_none, List.cons_append, List.nil_append, zcs_0, zcs_i, zcs_l, zcs_r, zle8, true_and, and_true, true_or, or_true, na_2, e1, q1, if_true, x3, n8, if_false]
        · have n8 : nI e < 8 := (nI_ltI (b := 8) (by omega) (by decide)).mpr (by omega)
          obtain ⟨⟨i, hi, rfl⟩, ⟨j, hj, rfl⟩, ⟨k, hk, rfl⟩⟩ := hv
          have hmay := may1 hi hj hk
          have hx : ixN (X 8 9) 8 := by rw [x3, ixN_nI (by omega) (by decide)]; trivial
          have e9' : zae X (nI i) (nI j) (nI k) 8 9 = nI (e + 1) := by
            unfold zae
            rw [zr_s, upd_s, x3, na_1]
          have te : tn (nI (e + 1)) = e + 1 := nI_clamp (by omega)
          obtain ⟨r, X1, M1, y4, y5, y6, y7, g1, g2, g3, g4⟩ := ih (n + 1) (zae X (nI i) (nI j) (nI k)) (evM e (nI i) (nI j) (nI k) M') (.int (nI i)) (.int (nI j)) (.int (nI k)) (.int (nI (60 * 3 + 3 * n))) J2 (by omega) ⟨fun c c1 c2 c3 c4 => (zae_f (by omega)).trans (x1 c c1 c2 c3 c4), fun j hj => by unfold zae; rw [zr_s, upd_n hj]; exact x2 j hj, by rw [e9', te], by rw [e9', te]; omega⟩ ⟨fun c c1 c2 => by unfold evM; rw [zr_n c1, zr_n c2]; exact m1 c c1 c2, fun j hj => by unfold evM; rw [zr_s, upd_n hj]; exact m2 j hj, evM_ev x3 (by omega) m3⟩
          refine ⟨r, X1, M1, y4, y5, y6, y7, fun Q => ?_, fun Q => ?_, g3, g4⟩
          · rw [← g1 Q, h47_36]
            have e3 : 3 * n + 3 = 3 * (n + 1) := by omega
            simp (disch := first | assumption | omega | (simp (disch := omega) only [zr_n, zr_s]; assumption)) only [x47_38, x47_39, x47_40, x47_41_53, x47_41_55, x47_41_57, x47_41_59, x47_44, x47_47, x47_48_0, x47_51_8, x47_51_28, x47_54, x47_56, x47_59, x47_60_53, x47_60_55, x47_60_57, x47_60_59, x47_63, x47_65, x47_66, x47_68, x47_69_53, x47_69_55, x47_69_57, x47_69_59, x47_72, x47_74, x47_75, x47_76, x47_77, x47_79, x47_80_53, x47_80_55, x47_80_57, x47_80_59, x47_83, x47_85, x47_86, x47_87, x47_88, x47_90, x47_92, x47_94, x47_96, x47_99, x47_102, x47_105, x47_106_0, x47_109, x47_111, x47_113, x47_115, x47_118, x47_121, x47_124, gc_8, bi_60, bs_60, ↓reduceIte, zkl_i, zkl_r, zkl_n, zkl_z, zkl_l, Option.toList_some, Option.toList_none, List.cons_append, List.nil_append, zcs_0, zcs_i, zcs_l, zcs_r, zle8, true_and, and_true, true_or, or_true, na_2, na_1, na_3, e1, q1, if_true, n8, ixN_nI, nI_clamp, ha, hb, hc, c_mayBeEvent, hmay, i1_0, if_false, c_addEvent, e3, x3]
          · refine Eq.trans ?_ (g2 Q)
            have hev := fun Q => m_event_ok (xl := xl) (J := J2) (Q := Q) (M := M') hi hj hk m14 x4
            simp only [if_neg h8] at hev
            have np : ¬ nI (e + 1) < 0 := nI_pos (by omega)
            rw [h137_29]
            simp (disch := first | assumption | omega | (simp (disch := omega) only [zr_n, zr_s]; assumption)) only [x137_30, x137_33, x137_34, x137_35, x137_36, x137_37, x137_38, x137_39_65, x137_42, x137_43, x137_44, x137_47, x137_49, x137_50, x137_51, x137_52, x137_53, x137_54, x137_55, x137_57, x137_58, x137_59_65, x137_62, x137_64, x137_65, x137_66_65, x137_69, x137_71, x137_72, x137_73, x137_74, x137_75_65, x137_78, x137_80, x137_81, x137_82, x137_83, x137_86, x137_89, x137_90, x137_93, x137_94, x137_95, x137_96, x137_97, x137_100, x137_101, x137_104, x137_105, x137_106, x137_107, gc_65, bi_67, bs_67, bi_68, bs_68, ↓reduceIte, zkl_i, zkl_r, zkl_n, zkl_z, zkl_l, Option.toList_some, Option.toList_none, List.cons_append, List.nil_append, zcs_0, zcs_i, zcs_l, zcs_r, zle8, true_and, and_true, true_or, or_true, i1_0, if_false, nm_3, na_3, ixN_nI, nI_clamp, e2, q2, nm_60, nI_add, na_1, na_2, i0, i1, i2, hev, np]
      · have hmay := may0 hv
        have hbad := fun Q => m_event_bad (xl := xl) (J := J2) (Q := Q) (M := M') hv
        by_cases h8 : e = 8
        · have n8 : ¬ nI e < 8 := by rw [h8]; decide
          refine ⟨n, X, M', .int (nI (3 * n)), v5, v6, v7, fun Q => ?_, stop (-2) (by decide) hbad, hXr, hMr⟩
          rw [h47_36]
          simp (disch := first | assumption | omega | (simp (disch := omega) only [zr_n, zr_s]; assumption)) only [x47_38, x47_39, x47_40, x47_41_53, x47_41_55, x47_41_57, x47_41_59, x47_44, x47_47, x47_48_0, x47_51_8, x47_51_28, x47_54, x47_56, ↓reduceIte, zkl_i, zkl_r, zkl_n, zkl_z, zkl_l, Option.toList_some, Option.toList_none, List.cons_append, List.nil_append, zcs_0, zcs_i, zcs_l, zcs_r, zle8, true_and, and_true, true_or, or_true, na_2, e1, q1, if_true, x3, n8, if_false]
        · have n8 : nI e < 8 := (nI_ltI (b := 8) (by omega) (by decide)).mpr (by omega)
          refine ⟨n, X, M', .int (nI (3 * n)), .int va, .int vb, .int vc, fun Q => ?_, stop (-2) (by decide) hbad, hXr, hMr⟩
          rw [h47_36]
          simp (disch := first | assumption | omega | (simp (disch := omega) only [zr_n, zr_s]; assumption)) only [x47_38, x47_39, x47_40, x47_41_53, x47_41_55, x47_41_57, x47_41_59, x47_44, x47_47, x47_48_0, x47_51_8, x47_51_28, x47_54, x47_56, x47_59, x47_60_53, x47_60_55, x47_60_57, x47_60_59, x47_63, x47_65, x47_66, x47_68, x47_69_53, x47_69_55, x47_69_57, x47_69_59, x47_72, x47_74, x47_75, x47_76, x47_77, x47_79, x47_80_53, x47_80_55, x47_80_57, x47_80_59, x47_83, x47_85, x47_86, x47_87, x47_88, x47_90, x47_92, x47_94, x47_96, x47_99, x47_102, x47_105, x47_106_0, x47_109, x47_111, x47_113, x47_115, x47_118, x47_121, x47_124, gc_8, bi_60, bs_60, ↓reduceIte, zkl_i, zkl_r, zkl_n, zkl_z, zkl_l, Option.toList_some, Option.toList_none, List.cons_append, List.nil_append, zcs_0, zcs_i, zcs_l, zcs_r, zle8, true_and, and_true, true_or, or_true, na_2, na_1, e1, q1, if_true, n8, ixN_nI, nI_clamp, ha, hb, hc, c_mayBeEvent, hmay, x3]
    · have q1 : ¬ nI (3 * n + 2) < nI (tn (I 59 2)) := by rw [nI_ltI (by omega) (by omega)]; omega
      have q2 : nI (tn (I 59 2)) < nI (3 * n + 3) := by rw [nI_ltI (by omega) (by omega)]; omega
      refine ⟨n, X, M', .int (nI (3 * n)), v5, v6, v7, fun Q => ?_, fun Q => ?_, hXr, hMr⟩
      · rw [h47_36]
        simp (disch := first | assumption | omega | (simp (disch := omega) only [zr_n, zr_s]; assumption)) only [x47_38, x47_39, x47_40, x47_41_53, x47_41_55, x47_41_57, x47_41_59, x47_44, x47_47, x47_48_0, x47_51_8, x47_51_28, x47_54, x47_56, ↓reduceIte, zkl_i, zkl_r, zkl_n, zkl_z, zkl_l, Option.toList_some, Option.toList_none, List.cons_append, List.nil_append, zcs_0, zcs_i, zcs_l, zcs_r, zle8, true_and, and_true, true_or, or_true, na_2, e1, q1, if_false]
      · rw [h137_29]
        simp (disch := first | assumption | omega | (simp (disch := omega) only [zr_n, zr_s]; assumption)) only [x137_30, x137_33, x137_34, x137_35, x137_36, x137_37, x137_38, x137_39_65, x137_42, x137_43, x137_44, x137_110, x137_111, bi_67, bs_67, ↓reduceIte, zkl_i, zkl_r, zkl_n, zkl_z, zkl_l, Option.toList_some, Option.toList_none, List.cons_append, List.nil_append, zcs_0, zcs_i, zcs_l, zcs_r, zle8, true_and, and_true, true_or, or_true, i1_0, if_false, nm_3, na_3, ixN_nI, nI_clamp, e2, q2, if_true]
theorem k_read_3 (h : Inv I) : KI xl 47 137 [.ref 0, .int (nI 3), .null, .null, .null, .null, .null, .null] [.ref 65, .int (nI 3), .null, .null, .null] I J := by
  have c1 : (if nI 3 < 0 then (0 : Int32) else if nI 3 < 4 then 1 else 0) = 1 := bl1 (n := 4) (by decide) (by decide)
  have r1 : bt (nI 3) 0 3 = 1 := in1 (m := 3) (by decide) (by decide)
  by_cases hz : I 59 0 = 0
  · have hX0 : RRc I I := by
      obtain ⟨e0, e3, e6, e9⟩ := RC_8 h.1
      have b9 := (RC_l h.1).2.2.2
      have : tn (I 8 9) = tn (pD I 28 9) := rfl
      exact ⟨fun c _ _ _ _ => rfl, fun j _ => rfl, by rw [this]; exact e9, by rw [this]; exact b9⟩
    obtain ⟨r, X, M0, y4, y5, y6, y7, g1, g2, g3, g4⟩ := rd_loop_3 (xl := xl) (J := J) h.1 h.2 20 0 I I .null .null .null .null J rfl hX0 ⟨fun c _ _ => rfl, fun j _ => rfl, h.2.2.2.2.1⟩
    have hR : RP X := RP_8 (fun c c1 c2 => g3.1 c c2 (by omega) (by omega) (by omega)) (g3.2.1 0 (by decide)) (g3.2.1 3 (by decide)) (g3.2.1 6 (by decide)) (by rw [g3.2.2.1, ixN_nI (by have := g3.2.2.2; omega) (by decide)]; trivial) (g3.2.1 13 (by decide)) (g3.1 1000 (by decide) (by decide) (by decide) (by decide)) h.1.1
    have hp := fun Q => d_pass_18 (xl := xl) (J := J) (Q := Q) (RP_CD hR)
    refine mkU (v := nI r) (I1 := zps 18 8 X) h (fun Q => ?_) (RC_ps hR (SG_f (fun c c1 c2 => g3.1 c (by omega) (by omega) (by omega) (by omega)) h.1.2.1) (SHc_f (fun c c1 c2 => g3.1 c (by omega) (by omega) (by omega) (by omega)) h.1.2.2.1)) (fun c hc => by rw [zps_f (by omega)]; exact g3.1 c (by omega) (by omega) (by omega) (by omega)) (fun M J' hM => ?_)
    · have st : Rn (zG xl) 47 0 [.ref 0, .int (nI 3), .null, .null, .null, .null, .null, .null] [] I J Q = Rn (zG xl) 47 36 [.ref 0, .int (nI 3), .ref 59, .int (nI 0), .int (nI (3 * 0)), .null, .null, .null] [] I J Q := by
        simp (disch := first | assumption | omega | (simp (disch := omega) only [zr_n, zr_s]; assumption)) only [x47_0, x47_1, x47_2, x47_5, x47_8, x47_10, x47_11, x47_12_0, x47_15, x47_16, x47_17, x47_18, x47_19_53, x47_19_55, x47_19_57, x47_19_59, x47_22, x47_25, x47_26, x47_27, x47_30, x47_31, x47_32, x47_33, x47_34, gc_0, br_52, aa_52_0, aa_52_1, aa_52_2, aa_52_3, gc_59, ↓reduceIte, zkl_i, zkl_r, zkl_n, zkl_z, zkl_l, Option.toList_some, Option.toList_none, List.cons_append, List.nil_append, zcs_0, zcs_i, zcs_l, zcs_r, zle8, true_and, and_true, true_or, or_true, c_below, c1, i1_0, if_false, ixN_nI, nI_clamp, hz, if_true]
        rfl
      rw [st, g1 Q]
      simp (disch := first | assumption | omega | (simp (disch := omega) only [zr_n, zr_s]; assumption)) only [x47_127, x47_128_0, x47_131, x47_132_0, x47_135, x47_138, x47_139, gc_18, ↓reduceIte, zkl_i, zkl_r, zkl_n, zkl_z, zkl_l, Option.toList_some, Option.toList_none, List.cons_append, List.nil_append, zcs_0, zcs_i, zcs_l, zcs_r, zle8, true_and, and_true, true_or, or_true, hp]
    · obtain ⟨-, o2, o3, o4, -⟩ := sh_3 h.1 hM
      obtain ⟨o1, on⟩ := o4 hz
      obtain ⟨r', X', M1, z4, z5, z6, z7, f1, f2, f3, f4⟩ := rd_loop_3 (xl := xl) (J := J) h.1 hM 20 0 I M .null .null .null .null J' rfl hX0 ⟨fun c _ _ => rfl, fun j _ => rfl, hM.2.2.2.1⟩
      have hR' : RP X' := RP_8 (fun c c1 c2 => f3.1 c c2 (by omega) (by omega) (by omega)) (f3.2.1 0 (by decide)) (f3.2.1 3 (by decide)) (f3.2.1 6 (by decide)) (by rw [f3.2.2.1, ixN_nI (by have := f3.2.2.2; omega) (by decide)]; trivial) (f3.2.1 13 (by decide)) (f3.1 1000 (by decide) (by decide) (by decide) (by decide)) h.1.1
      have hp' := fun Q => d_pass_18 (xl := xl) (J := J) (Q := Q) (RP_CD hR')
      have en : ∀ Q : zQ, Q (some (.int (nI r))) (zps 18 8 X) J = Q (some (.int (nI r'))) (zps 18 8 X') J := by
        intro Q
        have q1 := (g1 Q).symm.trans (f1 Q)
        simp (disch := first | assumption | omega | (simp (disch := omega) only [zr_n, zr_s]; assumption)) only [x47_127, x47_128_0, x47_131, x47_132_0, x47_135, x47_138, x47_139, gc_18, ↓reduceIte, zkl_i, zkl_r, zkl_n, zkl_z, zkl_l, Option.toList_some, Option.toList_none, List.cons_append, List.nil_append, zcs_0, zcs_i, zcs_l, zcs_r, zle8, true_and, and_true, true_or, or_true, hp, hp'] at q1
        exact q1
      have eX : zps 18 8 X' = zps 18 8 X := ((en (fun _ Y _ => Y = zps 18 8 X)).mp rfl)
      have er : nI r' = nI r := by
        have q2 := (en (fun v _ _ => v = some (.int (nI r)))).mp rfl
        injection q2 with q2
        injection q2
      refine ⟨M1, fun Q => ?_, ?_, fun c hc => f4.1 c (by omega) (by omega)⟩
      rotate_left
      · rw [← eX]
        exact RM_ev hM (fun c hc => f3.1 c (by omega) (by omega) (by omega) (by omega)) f4.2.2 (fun c c1 c2 c3 => f4.1 c (by omega) c3) (f4.2.1 4 (by decide)) (f4.2.1 28 (by decide))
      rw [← er]
      refine Eq.trans ?_ (f2 Q)
      simp (disch := first | assumption | omega | (simp (disch := omega) only [zr_n, zr_s]; assumption)) only [x137_0, x137_1, x137_4, x137_7, x137_9, x137_10, x137_11_65, x137_14, x137_15, x137_16, x137_19, x137_20, x137_21, x137_24, x137_25, x137_26, x137_27, x137_28, gc_65, bi_66, bs_66, ↓reduceIte, zkl_i, zkl_r, zkl_n, zkl_z, zkl_l, Option.toList_some, Option.toList_none, List.cons_append, List.nil_append, zcs_0, zcs_i, zcs_l, zcs_r, zle8, true_and, and_true, true_or, or_true, m_isSheet, r1, i1_0, if_false, ixN_nI, nI_clamp, o1, on]
      rfl
  · refine mkF (v := -11) (k := 1) h (fun Q => ?_) (fun M J hM Q => ?_)
    · simp (disch := first | assumption | omega | (simp (disch := omega) only [zr_n, zr_s]; assumption)) only [x47_0, x47_1, x47_2, x47_5, x47_8, x47_10, x47_11, x47_12_0, x47_15, x47_16, x47_17, x47_18, x47_19_53, x47_19_55, x47_19_57, x47_19_59, x47_22, x47_25, x47_26, x47_27, x47_30, x47_31, x47_32, x47_33, x47_34, gc_0, br_52, aa_52_0, aa_52_1, aa_52_2, aa_52_3, gc_59, ↓reduceIte, zkl_i, zkl_r, zkl_n, zkl_z, zkl_l, Option.toList_some, Option.toList_none, List.cons_append, List.nil_append, zcs_0, zcs_i, zcs_l, zcs_r, zle8, true_and, and_true, true_or, or_true, c_below, c1, i1_0, if_false, ixN_nI, nI_clamp, hz, c_found, v11]
    · have o1 := (sh_3 h.1 hM).2.2.2.2 hz
      simp (disch := first | assumption | omega | (simp (disch := omega) only [zr_n, zr_s]; assumption)) only [x137_0, x137_1, x137_4, x137_7, x137_9, x137_10, x137_11_65, x137_14, x137_15, x137_16, x137_19, x137_20, x137_21, x137_24, x137_25, x137_26, x137_27, x137_28, gc_65, bi_66, bs_66, bi_67, bs_67, ↓reduceIte, zkl_i, zkl_r, zkl_n, zkl_z, zkl_l, Option.toList_some, Option.toList_none, List.cons_append, List.nil_append, zcs_0, zcs_i, zcs_l, zcs_r, zle8, true_and, and_true, true_or, or_true, m_isSheet, r1, i1_0, if_false, ixN_nI, nI_clamp, o1, m1_0, if_true, m_finds, v11]
theorem k_write (h : Inv I) : KI xl 72 183 [.ref 0, .int a, .null, .null, .null] [.ref 65, .int a, .null, .null] I J := by
  by_cases ha : IN a 4
  · obtain ⟨k, hk, rfl⟩ := ha
    rcases nlt_4' hk with rfl | rfl | rfl | rfl
    · exact k_write_0 h
    · exact k_write_1 h
    · exact k_write_2 h
    · exact k_write_3 h
  · have c1 : (if a < 0 then (0 : Int32) else if a < 4 then 1 else 0) = 0 := bl0 (n := 4) (by decide) ha
    have r1 : bt a 0 3 = 0 := in0 (m := 3) (by decide) ha
    refine mkI (v := -2) (I1 := I) (J1 := J) h (fun Q => by simp (disch := first | assumption | omega | (simp (disch := omega) only [zr_n, zr_s]; assumption)) only [x72_0, x72_1, x72_2, x72_5, x72_8, x72_10, x72_11, x72_12_0, x72_15, x72_16, x72_17, ↓reduceIte, zkl_i, zkl_r, zkl_n, zkl_z, zkl_l, Option.toList_some, Option.toList_none, List.cons_append, List.nil_append, zcs_0, zcs_i, zcs_l, zcs_r, zle8, true_and, and_true, true_or, or_true, c_below, c1, if_true]) (Tr_refl I) (fun M J hM => ⟨M, fun Q => ?_, hM, Fr_refl M⟩)
    simp (disch := first | assumption | omega | (simp (disch := omega) only [zr_n, zr_s]; assumption)) only [x183_0, x183_1, x183_4, x183_7, x183_9, x183_10, x183_11_65, x183_14, x183_15, x183_16, ↓reduceIte, zkl_i, zkl_r, zkl_n, zkl_z, zkl_l, Option.toList_some, Option.toList_none, List.cons_append, List.nil_append, zcs_0, zcs_i, zcs_l, zcs_r, zle8, true_and, and_true, true_or, or_true, m_isSheet, r1, if_true]
theorem k_read (h : Inv I) : KI xl 47 137 [.ref 0, .int a, .null, .null, .null, .null, .null, .null] [.ref 65, .int a, .null, .null, .null] I J := by
  by_cases ha : IN a 4
  · obtain ⟨k, hk, rfl⟩ := ha
    rcases nlt_4' hk with rfl | rfl | rfl | rfl
    · exact k_read_0 h
    · exact k_read_1 h
    · exact k_read_2 h
    · exact k_read_3 h
  · have c1 : (if a < 0 then (0 : Int32) else if a < 4 then 1 else 0) = 0 := bl0 (n := 4) (by decide) ha
    have r1 : bt a 0 3 = 0 := in0 (m := 3) (by decide) ha
    refine mkI (v := -2) (I1 := I) (J1 := J) h (fun Q => by simp (disch := first | assumption | omega | (simp (disch := omega) only [zr_n, zr_s]; assumption)) only [x47_0, x47_1, x47_2, x47_5, x47_8, x47_10, x47_11, x47_12_0, x47_15, x47_16, x47_17, ↓reduceIte, zkl_i, zkl_r, zkl_n, zkl_z, zkl_l, Option.toList_some, Option.toList_none, List.cons_append, List.nil_append, zcs_0, zcs_i, zcs_l, zcs_r, zle8, true_and, and_true, true_or, or_true, c_below, c1, if_true]) (Tr_refl I) (fun M J hM => ⟨M, fun Q => ?_, hM, Fr_refl M⟩)
    simp (disch := first | assumption | omega | (simp (disch := omega) only [zr_n, zr_s]; assumption)) only [x137_0, x137_1, x137_4, x137_7, x137_9, x137_10, x137_11_65, x137_14, x137_15, x137_16, ↓reduceIte, zkl_i, zkl_r, zkl_n, zkl_z, zkl_l, Option.toList_some, Option.toList_none, List.cons_append, List.nil_append, zcs_0, zcs_i, zcs_l, zcs_r, zle8, true_and, and_true, true_or, or_true, m_isSheet, r1, if_true]
end

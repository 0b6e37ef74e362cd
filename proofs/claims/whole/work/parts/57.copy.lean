/-! ===== copy ===== -/
def Hv (L i n : Int32) : Int32 := if i < 0 then 0 else if n < 0 then 0 else if L - i < n then 0 else 1
theorem sub_lt {L p q : Nat} (hL : L ≤ 60) (hp : p < 2 ^ 31) (hq : q < 2 ^ 31) : (nI L - nI p < nI q) ↔ L < p + q := by
  rw [Int32.lt_iff_toInt_lt, Int32.toInt_sub, nI_toInt (by omega), nI_toInt hp, nI_toInt hq]
  have e : ((L : Int) - (p : Int)).bmod (2 ^ 32) = (L : Int) - p := Int.bmod_eq_of_le (by omega) (by omega)
  rw [e]
  omega
theorem Hv1 {L p q : Nat} (hL : L ≤ 60) (h : p + q ≤ L) : Hv (nI L) (nI p) (nI q) = 1 := by
  unfold Hv
  rw [if_neg (nI_pos (by omega)), if_neg (nI_pos (by omega)), if_neg]
  rw [sub_lt hL (by omega) (by omega)]
  omega
theorem Hv0 {L : Nat} {i n : Int32} (hL : L ≤ 60) (h : ¬ ∃ p q, i = nI p ∧ n = nI q ∧ p + q ≤ L) : Hv (nI L) i n = 0 := by
  unfold Hv
  by_cases h1 : i < 0
  · rw [if_pos h1]
  · rw [if_neg h1]
    by_cases h2 : n < 0
    · rw [if_pos h2]
    · rw [if_neg h2]
      obtain ⟨p, hp, rfl⟩ := nI_of h1
      obtain ⟨q, hq, rfl⟩ := nI_of h2
      rw [if_pos]
      rw [sub_lt hL hp hq]
      apply Nat.lt_of_not_le
      intro z
      exact h ⟨p, q, rfl, rfl, z⟩
theorem l_lt {L p q : Nat} (hL : L ≤ 60) (hp : p < 2 ^ 31) (hq : q < 2 ^ 31) : ((nI L).toInt64 < (nI p).toInt64 + (nI q).toInt64) = (L < p + q) := by
  apply propext
  rw [nI_l (by omega), nI_l hp, nI_l hq, lN_add]
  exact pk_lLT (by omega) (by omega)
section
variable {xl : Nat} {J : zJ} {M : zI} {s t : Nat} {i j n : Int32}
theorem mc_loops {p r q : Nat} (hs : s < 4) (ht : t < 4) (hp : p + q ≤ 60) (hr : r + q ≤ 60) : ∃ M' : zI, (∀ Q : zQ, Rn (zG xl) 112 117 [.ref 65, .int (nI s), .int (nI p), .int (nI t), .int (nI r), .int (nI q), .null] [] M J Q = Q (some (.int 1)) M' J) ∧ (∀ c, c ≠ 68 → c ≠ 69 → M' c = M c) ∧ (∀ a, a < q → M' 68 (60 * t + r + a) = M 68 (60 * s + p + a)) ∧ ∀ x, x < 60 * t + r ∨ 60 * t + r + q ≤ x → M' 68 x = M 68 x := by
  have l1 := lpE (R := fun k (u v : Unit) X Q => Rn (zG xl) 112 120 [.ref 65, .int (nI s), .int (nI p), .int (nI t), .int (nI r), .int (nI q), .int (nI k)] [] X J Q) (E := fun (u : Unit) X' Q => Rn (zG xl) 112 157 [.ref 65, .int (nI s), .int (nI p), .int (nI t), .int (nI r), .int (nI q), .int (nI 0)] [] X' J Q) (f := fun _ u => u) (n := q) (P := fun k (u : Unit) X => (∀ c, c ≠ 69 → X c = M c) ∧ ∀ a, a < k → X 69 a = M 68 (60 * s + p + a)) (P' := fun u X => (∀ c, c ≠ 69 → X c = M c) ∧ ∀ a, a < q → X 69 a = M 68 (60 * s + p + a)) (fun k u v X hk hP => by
    obtain ⟨p1, p2⟩ := hP
    refine ⟨(), zr X 69 (upd (X 69) k (M 68 (60 * s + p + k))), fun Q => ?_, fun c hc => by rw [zr_n hc]; exact p1 c hc, fun a ha => ?_⟩
    · show Rn _ _ _ _ _ _ _ _ = Rn _ _ _ _ _ _ _ _
      rw [h112_120]
      simp (disch := first | assumption | omega | (simp (disch := omega) only [zr_n, zr_s]; assumption)) only [x112_122, x112_124, x112_127, x112_128_65, x112_131, x112_133, x112_134_65, x112_137, x112_139, x112_140, x112_141, x112_142, x112_143, x112_145, x112_146, x112_147, x112_148, x112_151, bi_68, bs_68, bi_69, bs_69, ↓reduceIte, zkl_i, zkl_r, zkl_n, zkl_z, zkl_l, Option.toList_some, Option.toList_none, List.cons_append, List.nil_append, zcs_0, zcs_i, zcs_l, zcs_r, zle8, true_and, and_true, true_or, or_true, nI_ltI, hk, if_true, nm_60, nI_add, ixN_nI, nI_clamp, na_1, p1 68 (by decide)]
    · rw [zr_s]
      by_cases e : a = k
      · subst e; rw [upd_s]
      · rw [upd_n e]; exact p2 a (by omega)) (fun u v X hP => by
    refine ⟨X, fun Q => ?_, hP⟩
    show Rn _ _ _ _ _ _ _ _ = Rn _ _ _ _ _ _ _ _
    rw [h112_120]
    simp (disch := first | assumption | omega | (simp (disch := omega) only [zr_n, zr_s]; assumption)) only [x112_122, x112_124, x112_154, x112_155, ↓reduceIte, zkl_i, zkl_r, zkl_n, zkl_z, zkl_l, Option.toList_some, Option.toList_none, List.cons_append, List.nil_append, zcs_0, zcs_i, zcs_l, zcs_r, zle8, true_and, and_true, true_or, or_true, nI_ltI, Nat.lt_irrefl, if_false]
    rfl) q 0 () () M (Nat.zero_add _) ⟨fun c hc => rfl, fun a ha => by omega⟩
  obtain ⟨M1, a1, a2, a3⟩ := l1
  have l2 := lpE (R := fun k (u v : Unit) X Q => Rn (zG xl) 112 157 [.ref 65, .int (nI s), .int (nI p), .int (nI t), .int (nI r), .int (nI q), .int (nI k)] [] X J Q) (E := fun (u : Unit) X' Q => Q (some (.int 1)) X' J) (f := fun _ u => u) (n := q) (P := fun k (u : Unit) X => (∀ c, c ≠ 68 → X c = M1 c) ∧ (∀ a, a < k → X 68 (60 * t + r + a) = M1 69 a) ∧ ∀ x, x < 60 * t + r ∨ 60 * t + r + q ≤ x → X 68 x = M1 68 x) (P' := fun u X => (∀ c, c ≠ 68 → X c = M1 c) ∧ (∀ a, a < q → X 68 (60 * t + r + a) = M1 69 a) ∧ ∀ x, x < 60 * t + r ∨ 60 * t + r + q ≤ x → X 68 x = M1 68 x) (fun k u v X hk hP => by
    obtain ⟨p1, p2, p3⟩ := hP
    refine ⟨(), zr X 68 (upd (X 68) (60 * t + r + k) (M1 69 k)), fun Q => ?_, fun c hc => by rw [zr_n hc]; exact p1 c hc, fun a ha => ?_, fun x hx => by rw [zr_s, upd_n (by omega)]; exact p3 x hx⟩
    · show Rn _ _ _ _ _ _ _ _ = Rn _ _ _ _ _ _ _ _
      rw [h112_157]
      simp (disch := first | assumption | omega | (simp (disch := omega) only [zr_n, zr_s]; assumption)) only [x112_159, x112_161, x112_164, x112_165_65, x112_168, x112_170, x112_171, x112_172, x112_174, x112_175, x112_177, x112_178, x112_179_65, x112_182, x112_184, x112_185, x112_186, x112_189, bi_68, bs_68, bi_69, bs_69, ↓reduceIte, zkl_i, zkl_r, zkl_n, zkl_z, zkl_l, Option.toList_some, Option.toList_none, List.cons_append, List.nil_append, zcs_0, zcs_i, zcs_l, zcs_r, zle8, true_and, and_true, true_or, or_true, nI_ltI, hk, if_true, nm_60, nI_add, ixN_nI, nI_clamp, na_1, p1 69 (by decide)]
    · rw [zr_s]
      by_cases e : a = k
      · subst e; rw [upd_s]
      · rw [upd_n (by omega)]; exact p2 a (by omega)) (fun u v X hP => by
    refine ⟨X, fun Q => ?_, hP⟩
    show Rn _ _ _ _ _ _ _ _ = _
    rw [h112_157]
    simp (disch := first | assumption | omega | (simp (disch := omega) only [zr_n, zr_s]; assumption)) only [x112_159, x112_161, x112_192, x112_193, ↓reduceIte, zkl_i, zkl_r, zkl_n, zkl_z, zkl_l, Option.toList_some, Option.toList_none, List.cons_append, List.nil_append, zcs_0, zcs_i, zcs_l, zcs_r, zle8, true_and, and_true, true_or, or_true, nI_ltI, Nat.lt_irrefl, if_false]) q 0 () () M1 (Nat.zero_add _) ⟨fun c hc => rfl, fun a ha => by omega, fun x hx => rfl⟩
  obtain ⟨M2, b1, b2, b3, b4⟩ := l2
  refine ⟨M2, fun Q => ?_, fun c c1 c2 => (b2 c c1).trans (a2 c c2), fun a ha => (b3 a ha).trans (a3 a ha), fun x hx => (b4 x hx).trans (by rw [a2 68 (by decide)])⟩
  refine Eq.trans ?_ ((a1 Q).trans (b1 Q))
  simp (disch := first | assumption | omega | (simp (disch := omega) only [zr_n, zr_s]; assumption)) only [x112_117, x112_118, ↓reduceIte, zkl_i, zkl_r, zkl_n, zkl_z, zkl_l, Option.toList_some, Option.toList_none, List.cons_append, List.nil_append, zcs_0, zcs_i, zcs_l, zcs_r, zle8, true_and, and_true, true_or, or_true]
  rfl
theorem mc_null {Q : zQ} (hs : s < 4) (ht : t < 4) (h : M 66 s < 0 ∨ M 66 t < 0) : Rn (zG xl) 112 0 [.ref 65, .int (nI s), .int i, .int (nI t), .int j, .int n, .null] [] M J Q = Q (some (.int (-11))) (zr M 65 (upd (M 65) 4 1)) J := by
  have r1 : bt (nI s) 0 3 = 1 := in1 (m := 3) (by omega) (by decide)
  have r2 : bt (nI t) 0 3 = 1 := in1 (m := 3) (by omega) (by decide)
  by_cases z1 : M 66 s < 0
  · simp (disch := first | assumption | omega | (simp (disch := omega) only [zr_n, zr_s]; assumption)) only [x112_0, x112_1, x112_4, x112_7, x112_8, x112_11, x112_14, x112_16, x112_17, x112_18_65, x112_21, x112_22, x112_23, x112_26, x112_27_65, x112_30, x112_31, x112_32, x112_35, x112_36, x112_37, x112_40, x112_41, x112_42_65, x112_45, x112_46, x112_47, x112_48_65, x112_51, x112_52, x112_53, x112_56, x112_57, x112_58, x112_61, gc_65, bi_66, bs_66, ↓reduceIte, zkl_i, zkl_r, zkl_n, zkl_z, zkl_l, Option.toList_some, Option.toList_none, List.cons_append, List.nil_append, zcs_0, zcs_i, zcs_l, zcs_r, zle8, true_and, and_true, true_or, or_true, m_isSheet, r1, r2, i1_0, if_false, ixN_nI, nI_clamp, z1, if_true, m_finds, v11]
  · rcases h with z2 | z2
    · exact absurd z2 z1
    · simp (disch := first | assumption | omega | (simp (disch := omega) only [zr_n, zr_s]; assumption)) only [x112_0, x112_1, x112_4, x112_7, x112_8, x112_11, x112_14, x112_16, x112_17, x112_18_65, x112_21, x112_22, x112_23, x112_26, x112_27_65, x112_30, x112_31, x112_32, x112_35, x112_36, x112_37, x112_40, x112_41, x112_42_65, x112_45, x112_46, x112_47, x112_48_65, x112_51, x112_52, x112_53, x112_56, x112_57, x112_58, x112_61, gc_65, bi_66, bs_66, ↓reduceIte, zkl_i, zkl_r, zkl_n, zkl_z, zkl_l, Option.toList_some, Option.toList_none, List.cons_append, List.nil_append, zcs_0, zcs_i, zcs_l, zcs_r, zle8, true_and, and_true, true_or, or_true, m_isSheet, r1, r2, i1_0, if_false, ixN_nI, nI_clamp, z1, z2, if_true, m_finds, v11]
theorem mc_store {Q : zQ} (hs : s < 4) (ht : t < 4) (h1 : ¬ M 66 s < 0) (h2 : ¬ M 66 t < 0) (h3 : ¬ M 66 s = M 66 t) : Rn (zG xl) 112 0 [.ref 65, .int (nI s), .int i, .int (nI t), .int j, .int n, .null] [] M J Q = Q (some (.int (-14))) (zr M 65 (upd (M 65) 4 4)) J := by
  have r1 : bt (nI s) 0 3 = 1 := in1 (m := 3) (by omega) (by decide)
  have r2 : bt (nI t) 0 3 = 1 := in1 (m := 3) (by omega) (by decide)
  simp (disch := first | assumption | omega | (simp (disch := omega) only [zr_n, zr_s]; assumption)) only [x112_0, x112_1, x112_4, x112_7, x112_8, x112_11, x112_14, x112_16, x112_17, x112_18_65, x112_21, x112_22, x112_23, x112_26, x112_27_65, x112_30, x112_31, x112_32, x112_35, x112_36, x112_37, x112_40, x112_41, x112_42_65, x112_45, x112_46, x112_47, x112_48_65, x112_51, x112_52, x112_53, x112_56, x112_57, x112_58, x112_61, gc_65, bi_66, bs_66, ↓reduceIte, zkl_i, zkl_r, zkl_n, zkl_z, zkl_l, Option.toList_some, Option.toList_none, List.cons_append, List.nil_append, zcs_0, zcs_i, zcs_l, zcs_r, zle8, true_and, and_true, true_or, or_true, m_isSheet, r1, r2, i1_0, if_false, ixN_nI, nI_clamp, h1, h2, h3, m_finds, v11]
theorem mc_index {Q : zQ} {L1 L2 : Nat} (hs : s < 4) (ht : t < 4) (h1 : ¬ M 66 s < 0) (h2 : ¬ M 66 t < 0) (h3 : M 66 s = M 66 t) (e1 : M 67 s = nI L1) (e2 : M 67 t = nI L2) (b1 : L1 ≤ 60) (b2 : L2 ≤ 60) (hv : ¬ ∃ p r q, i = nI p ∧ j = nI r ∧ n = nI q ∧ p + q ≤ L1 ∧ r + q ≤ L2) : Rn (zG xl) 112 0 [.ref 65, .int (nI s), .int i, .int (nI t), .int j, .int n, .null] [] M J Q = Q (some (.int (-12))) (zr M 65 (upd (M 65) 4 2)) J := by
  have r1 : bt (nI s) 0 3 = 1 := in1 (m := 3) (by omega) (by decide)
  have r2 : bt (nI t) 0 3 = 1 := in1 (m := 3) (by omega) (by decide)
  have h1' := h1
  rw [h3] at h1'
  simp (disch := first | assumption | omega | (simp (disch := omega) only [zr_n, zr_s]; assumption)) only [x112_0, x112_1, x112_4, x112_7, x112_8, x112_11, x112_14, x112_16, x112_17, x112_18_65, x112_21, x112_22, x112_23, x112_26, x112_27_65, x112_30, x112_31, x112_32, x112_35, x112_36, x112_37, x112_40, x112_41, x112_42_65, x112_45, x112_46, x112_47, x112_48_65, x112_51, x112_52, x112_53, x112_56, x112_57, x112_58, x112_61, gc_65, bi_66, bs_66, ↓reduceIte, zkl_i, zkl_r, zkl_n, zkl_z, zkl_l, Option.toList_some, Option.toList_none, List.cons_append, List.nil_append, zcs_0, zcs_i, zcs_l, zcs_r, zle8, true_and, and_true, true_or, or_true, m_isSheet, r1, r2, i1_0, if_false, ixN_nI, nI_clamp, h1', h3, if_true]
  by_cases z1 : i < 0
  · simp (disch := first | assumption | omega | (simp (disch := omega) only [zr_n, zr_s]; assumption)) only [x112_62, x112_63, x112_66, x112_68, x112_71, x112_73, x112_76, x112_77, x112_78, x112_80, x112_81, x112_82, x112_83_65, x112_86, x112_87, x112_88, x112_89, x112_90, x112_93, x112_95, x112_96, x112_98, x112_99, x112_100, x112_101_65, x112_104, x112_105, x112_106, x112_107, x112_108, x112_111, x112_112, x112_113, x112_116, gc_65, bi_67, bs_67, ↓reduceIte, zkl_i, zkl_r, zkl_n, zkl_z, zkl_l, Option.toList_some, Option.toList_none, List.cons_append, List.nil_append, zcs_0, zcs_i, zcs_l, zcs_r, zle8, true_and, and_true, true_or, or_true, z1, if_true, m_finds, v11]
  · by_cases z2 : j < 0
    · simp (disch := first | assumption | omega | (simp (disch := omega) only [zr_n, zr_s]; assumption)) only [x112_62, x112_63, x112_66, x112_68, x112_71, x112_73, x112_76, x112_77, x112_78, x112_80, x112_81, x112_82, x112_83_65, x112_86, x112_87, x112_88, x112_89, x112_90, x112_93, x112_95, x112_96, x112_98, x112_99, x112_100, x112_101_65, x112_104, x112_105, x112_106, x112_107, x112_108, x112_111, x112_112, x112_113, x112_116, gc_65, bi_67, bs_67, ↓reduceIte, zkl_i, zkl_r, zkl_n, zkl_z, zkl_l, Option.toList_some, Option.toList_none, List.cons_append, List.nil_append, zcs_0, zcs_i, zcs_l, zcs_r, zle8, true_and, and_true, true_or, or_true, z1, z2, if_true, if_false, m_finds, v11]
    · by_cases z3 : n < 0
      · simp (disch := first | assumption | omega | (simp (disch := omega) only [zr_n, zr_s]; assumption)) only [x112_62, x112_63, x112_66, x112_68, x112_71, x112_73, x112_76, x112_77, x112_78, x112_80, x112_81, x112_82, x112_83_65, x112_86, x112_87, x112_88, x112_89, x112_90, x112_93, x112_95, x112_96, x112_98, x112_99, x112_100, x112_101_65, x112_104, x112_105, x112_106, x112_107, x112_108, x112_111, x112_112, x112_113, x112_116, gc_65, bi_67, bs_67, ↓reduceIte, zkl_i, zkl_r, zkl_n, zkl_z, zkl_l, Option.toList_some, Option.toList_none, List.cons_append, List.nil_append, zcs_0, zcs_i, zcs_l, zcs_r, zle8, true_and, and_true, true_or, or_true, z1, z2, z3, if_true, if_false, m_finds, v11]
      · obtain ⟨p, hp, rfl⟩ := nI_of z1
        obtain ⟨r, hr, rfl⟩ := nI_of z2
        obtain ⟨q, hq, rfl⟩ := nI_of z3
        have w1 := l_lt b1 hp hq
        have w2 := l_lt b2 hr hq
        by_cases z4 : L1 < p + q
        · simp (disch := first | assumption | omega | (simp (disch := omega) only [zr_n, zr_s]; assumption)) only [x112_62, x112_63, x112_66, x112_68, x112_71, x112_73, x112_76, x112_77, x112_78, x112_80, x112_81, x112_82, x112_83_65, x112_86, x112_87, x112_88, x112_89, x112_90, x112_93, x112_95, x112_96, x112_98, x112_99, x112_100, x112_101_65, x112_104, x112_105, x112_106, x112_107, x112_108, x112_111, x112_112, x112_113, x112_116, gc_65, bi_67, bs_67, ↓reduceIte, zkl_i, zkl_r, zkl_n, zkl_z, zkl_l, Option.toList_some, Option.toList_none, List.cons_append, List.nil_append, zcs_0, zcs_i, zcs_l, zcs_r, zle8, true_and, and_true, true_or, or_true, z1, z2, z3, if_true, if_false, ixN_nI, nI_clamp, e1, lgc_gt, w1, z4, m_finds, v11]
        · have z5 : L2 < r + q := by
            apply Nat.lt_of_not_le
            intro z
            exact hv ⟨p, r, q, rfl, rfl, rfl, by omega, z⟩
          simp (disch := first | assumption | omega | (simp (disch := omega) only [zr_n, zr_s]; assumption)) only [x112_62, x112_63, x112_66, x112_68, x112_71, x112_73, x112_76, x112_77, x112_78, x112_80, x112_81, x112_82, x112_83_65, x112_86, x112_87, x112_88, x112_89, x112_90, x112_93, x112_95, x112_96, x112_98, x112_99, x112_100, x112_101_65, x112_104, x112_105, x112_106, x112_107, x112_108, x112_111, x112_112, x112_113, x112_116, gc_65, bi_67, bs_67, ↓reduceIte, zkl_i, zkl_r, zkl_n, zkl_z, zkl_l, Option.toList_some, Option.toList_none, List.cons_append, List.nil_append, zcs_0, zcs_i, zcs_l, zcs_r, zle8, true_and, and_true, true_or, or_true, z1, z2, z3, if_true, if_false, ixN_nI, nI_clamp, e1, e2, lgc_gt, w1, w2, z4, z5, m_finds, v11]
theorem mc_ok {L1 L2 p r q : Nat} (hs : s < 4) (ht : t < 4) (h1 : ¬ M 66 s < 0) (h2 : ¬ M 66 t < 0) (h3 : M 66 s = M 66 t) (e1 : M 67 s = nI L1) (e2 : M 67 t = nI L2) (b1 : L1 ≤ 60) (b2 : L2 ≤ 60) (v1 : p + q ≤ L1) (v2 : r + q ≤ L2) : ∃ M' : zI, (∀ Q : zQ, Rn (zG xl) 112 0 [.ref 65, .int (nI s), .int (nI p), .int (nI t), .int (nI r), .int (nI q), .null] [] M J Q = Q (some (.int 1)) M' J) ∧ (∀ c, c ≠ 68 → c ≠ 69 → M' c = M c) ∧ (∀ a, a < q → M' 68 (60 * t + r + a) = M 68 (60 * s + p + a)) ∧ ∀ x, x < 60 * t + r ∨ 60 * t + r + q ≤ x → M' 68 x = M 68 x := by
  have r1 : bt (nI s) 0 3 = 1 := in1 (m := 3) (by omega) (by decide)
  have r2 : bt (nI t) 0 3 = 1 := in1 (m := 3) (by omega) (by decide)
  obtain ⟨M', g1, g2⟩ := mc_loops (xl := xl) (J := J) (M := M) (s := s) (t := t) (p := p) (r := r) (q := q) hs ht (by omega) (by omega)
  refine ⟨M', fun Q => ?_, g2⟩
  have h1' := h1
  rw [h3] at h1'
  have z1 : ¬ nI p < 0 := nI_pos (by omega)
  have z2 : ¬ nI r < 0 := nI_pos (by omega)
  have z3 : ¬ nI q < 0 := nI_pos (by omega)
  have w1 := l_lt b1 (show p < 2 ^ 31 by omega) (show q < 2 ^ 31 by omega)
  have w2 := l_lt b2 (show r < 2 ^ 31 by omega) (show q < 2 ^ 31 by omega)
  have z4 : ¬ L1 < p + q := by omega
  have z5 : ¬ L2 < r + q := by omega
  refine Eq.trans ?_ (g1 Q)
  simp (disch := first | assumption | omega | (simp (disch := omega) only [zr_n, zr_s]; assumption)) only [x112_0, x112_1, x112_4, x112_7, x112_8, x112_11, x112_14, x112_16, x112_17, x112_18_65, x112_21, x112_22, x112_23, x112_26, x112_27_65, x112_30, x112_31, x112_32, x112_35, x112_36, x112_37, x112_40, x112_41, x112_42_65, x112_45, x112_46, x112_47, x112_48_65, x112_51, x112_52, x112_53, x112_56, x112_57, x112_58, x112_61, gc_65, bi_66, bs_66, ↓reduceIte, zkl_i, zkl_r, zkl_n, zkl_z, zkl_l, Option.toList_some, Option.toList_none, List.cons_append, List.nil_append, zcs_0, zcs_i, zcs_l, zcs_r, zle8, true_and, and_true, true_or, or_true, m_isSheet, r1, r2, i1_0, if_false, ixN_nI, nI_clamp, h1', h3, if_true]
  simp (disch := first | assumption | omega | (simp (disch := omega) only [zr_n, zr_s]; assumption)) only [x112_62, x112_63, x112_66, x112_68, x112_71, x112_73, x112_76, x112_77, x112_78, x112_80, x112_81, x112_82, x112_83_65, x112_86, x112_87, x112_88, x112_89, x112_90, x112_93, x112_95, x112_96, x112_98, x112_99, x112_100, x112_101_65, x112_104, x112_105, x112_106, x112_107, x112_108, x112_111, x112_112, x112_113, x112_116, gc_65, bi_67, bs_67, ↓reduceIte, zkl_i, zkl_r, zkl_n, zkl_z, zkl_l, Option.toList_some, Option.toList_none, List.cons_append, List.nil_append, zcs_0, zcs_i, zcs_l, zcs_r, zle8, true_and, and_true, true_or, or_true, z1, z2, z3, if_false, ixN_nI, nI_clamp, e1, e2, lgc_gt, w1, w2, z4, z5]
end
theorem c_holdsH {xl : Nat} {J : zJ} {I : zI} {Q : zQ} {i n : Int32} : (Rn (zG xl) 26 0 [.ref 53, .int i, .int n] [] I J Q = Q (some (.int (Hv (I 53 2) i n))) I J) ∧ (Rn (zG xl) 26 0 [.ref 55, .int i, .int n] [] I J Q = Q (some (.int (Hv (I 55 2) i n))) I J) ∧ (Rn (zG xl) 26 0 [.ref 57, .int i, .int n] [] I J Q = Q (some (.int (Hv (I 57 2) i n))) I J) ∧ (Rn (zG xl) 26 0 [.ref 59, .int i, .int n] [] I J Q = Q (some (.int (Hv (I 59 2) i n))) I J) := ⟨c_holds_53, c_holds_55, c_holds_57, c_holds_59⟩
section
variable {xl : Nat} {J : zJ} {I : zI} {a b c d e : Int32}
theorem k_copy_00 (h : Inv I) : KI xl 71 112 [.ref 0, .int (nI 0), .int a, .int (nI 0), .int b, .int c, .null, .null] [.ref 65, .int (nI 0), .int a, .int (nI 0), .int b, .int c, .null] I J := by
  have c1 : (if nI 0 < 0 then (0 : Int32) else if nI 0 < 4 then 1 else 0) = 1 := bl1 (n := 4) (by decide) (by decide)
  have c2 : (if nI 0 < 0 then (0 : Int32) else if nI 0 < 4 then 1 else 0) = 1 := bl1 (n := 4) (by decide) (by decide)
  obtain ⟨⟨s1, s2, s3, s4⟩, -⟩ := sh_0 h.1 h.2
  obtain ⟨⟨t1, t2, t3, t4⟩, -⟩ := sh_0 h.1 h.2
  by_cases hz : I 53 0 = 0 ∧ I 53 0 = 0
  · obtain ⟨hz1, hz2⟩ := hz
    by_cases hf : I 53 1 = I 53 1
    · by_cases hv : ∃ p r q, a = nI p ∧ b = nI r ∧ c = nI q ∧ p + q ≤ tn (I 53 2) ∧ r + q ≤ tn (I 53 2)
      · obtain ⟨p, r, q, rfl, rfl, rfl, v1, v2⟩ := hv
        have w1 : Hv (I 53 2) (nI p) (nI q) = 1 := by rw [s3]; exact Hv1 s4 v1
        have w2 : Hv (I 53 2) (nI r) (nI q) = 1 := by rw [t3]; exact Hv1 t4 v2
        have hcp : zcp (zG xl) 54 54 (nI p) (nI r) (nI q) := ⟨ak_54, ak_54, nI_pos (by omega), nI_pos (by omega), nI_pos (by omega), by rw [al_54, nI_clamp (by omega), nI_clamp (by omega)]; omega, by rw [al_54, nI_clamp (by omega), nI_clamp (by omega)]; omega⟩
        refine mkU (v := 1) (I1 := zr I 54 (va_cpy (I 54) (I 54) p r q)) h (fun Q => ?_) (RC_sh h.1 (fun c c1 c2 => zr_n (by omega)) (zr_n (by decide)) (fun s hs => by rw [zr_n (by omega)]; exact h.1.2.2.1 s hs)) (fun c hc => zr_n (by omega)) (fun M J hM => ?_)
        · simp (disch := first | assumption | omega | (simp (disch := omega) only [zr_n, zr_s]; assumption)) only [x71_0, x71_1, x71_2, x71_5, x71_8, x71_9, x71_10, x71_13, x71_16, x71_18, x71_19, x71_20_0, x71_23, x71_24, x71_25, x71_27, x71_28_0, x71_31, x71_32, x71_33, x71_35, x71_37_53, x71_37_55, x71_37_57, x71_37_59, x71_40, x71_43, x71_45_53, x71_45_55, x71_45_57, x71_45_59, x71_48, x71_51, x71_52, x71_53, x71_56, x71_57, x71_59_53, x71_59_55, x71_59_57, x71_59_59, x71_62, x71_64_53, x71_64_55, x71_64_57, x71_64_59, x71_67, x71_70, x71_71, x71_72, x71_75, x71_76, x71_78, x71_79, x71_81, x71_84, x71_87, x71_89, x71_91, x71_93, x71_96, x71_99, x71_100, x71_101, x71_104, x71_105, x71_107_53, x71_107_55, x71_107_57, x71_107_59, x71_110, x71_111, x71_113_53, x71_113_55, x71_113_57, x71_113_59, x71_116, x71_118, x71_120, x71_123, x71_124, gc_0, br_52, aa_52_0, aa_52_1, aa_52_2, aa_52_3, gc_53, gc_53, ↓reduceIte, zkl_i, zkl_r, zkl_n, zkl_z, zkl_l, Option.toList_some, Option.toList_none, List.cons_append, List.nil_append, zcs_0, zcs_i, zcs_l, zcs_r, zle8, true_and, and_true, true_or, or_true, c_below, c1, c2, i1_0, if_false, ixN_nI, nI_clamp, hz1, hz2, hf, if_true, c_holdsH, w1, w2, hcp]
        · obtain ⟨-, o2, o3, o4, -⟩ := sh_0 h.1 hM
          obtain ⟨-, u2, u3, u4, -⟩ := sh_0 h.1 hM
          obtain ⟨o1, on⟩ := o4 hz1
          obtain ⟨u1, un⟩ := u4 hz2
          obtain ⟨M', g1, g2, g3, g4⟩ := mc_ok (xl := xl) (J := J) (M := M) (s := 0) (t := 0) (p := p) (r := r) (q := q) (by decide) (by decide) (by rw [o1]; exact on) (by rw [u1]; exact un) (o1.trans (hf.trans u1.symm)) (o2.trans s3) (u2.trans t3) s4 t4 v1 v2
          refine ⟨M', g1, RM_sh hM (fun c c1 c2 => zr_n (by omega)) (by rw [g2 65 (by decide) (by decide), zr_n (by decide)]; exact hM.2.2.2.2.2.2) (SHm_0 h.1 hM (fun c c1 c2 c3 c4 => zr_n c4) (fun s e => by rw [g2 66 (by decide) (by decide)]) (fun s e => by rw [g2 67 (by decide) (by decide)]) (fun j e => g4 j (by omega)) ?_ ?_ ?_) (g2 70 (by decide) (by decide)) (g2 71 (by decide) (by decide)) (g2 75 (by decide) (by decide)) (g2 87 (by decide) (by decide)) (fun j hj => by rw [g2 65 (by decide) (by decide)]), fun c hc => g2 c (by omega) (by omega)⟩
          · rw [g2 66 (by decide) (by decide), zr_n (by decide), if_pos hz2]; exact u1
          · rw [g2 67 (by decide) (by decide), zr_n (by decide)]; exact u2
          · rw [zr_n (show 53 ≠ 54 by decide), zr_s]
            intro j hj
            by_cases e : r ≤ j ∧ j < r + q
            · obtain ⟨e1, e2⟩ := e
              rw [pk_cpy_in e1 e2]
              have := g3 (j - r) (by omega)
              rw [show 60 * 0 + r + (j - r) = 60 * 0 + j by omega, show 60 * 0 + p + (j - r) = 60 * 0 + (p + (j - r)) by omega, o3 _ (by omega)] at this
              exact this
            · rw [pk_cpy_out (by omega), g4 _ (by omega)]
              exact u3 j hj
      · refine mkF (v := -12) (k := 2) h (fun Q => ?_) (fun M J hM Q => ?_)
        · by_cases w1 : Hv (I 53 2) a c = 0
          · simp (disch := first | assumption | omega | (simp (disch := omega) only [zr_n, zr_s]; assumption)) only [x71_0, x71_1, x71_2, x71_5, x71_8, x71_9, x71_10, x71_13, x71_16, x71_18, x71_19, x71_20_0, x71_23, x71_24, x71_25, x71_27, x71_28_0, x71_31, x71_32, x71_33, x71_35, x71_37_53, x71_37_55, x71_37_57, x71_37_59, x71_40, x71_43, x71_45_53, x71_45_55, x71_45_57, x71_45_59, x71_48, x71_51, x71_52, x71_53, x71_56, x71_57, x71_59_53, x71_59_55, x71_59_57, x71_59_59, x71_62, x71_64_53, x71_64_55, x71_64_57, x71_64_59, x71_67, x71_70, x71_71, x71_72, x71_75, x71_76, x71_78, x71_79, x71_81, x71_84, x71_87, x71_89, x71_91, x71_93, x71_96, x71_99, x71_100, x71_101, x71_104, x71_105, x71_107_53, x71_107_55, x71_107_57, x71_107_59, x71_110, x71_111, x71_113_53, x71_113_55, x71_113_57, x71_113_59, x71_116, x71_118, x71_120, x71_123, x71_124, gc_0, br_52, aa_52_0, aa_52_1, aa_52_2, aa_52_3, gc_53, gc_53, ↓reduceIte, zkl_i, zkl_r, zkl_n, zkl_z, zkl_l, Option.toList_some, Option.toList_none, List.cons_append, List.nil_append, zcs_0, zcs_i, zcs_l, zcs_r, zle8, true_and, and_true, true_or, or_true, c_below, c1, c2, i1_0, if_false, ixN_nI, nI_clamp, hz1, hz2, hf, if_true, c_holdsH, w1, c_found, v11]
          · have w2 : Hv (I 53 2) b c = 0 := by
              rw [t3]
              refine Hv0 t4 (fun z => ?_)
              obtain ⟨r, q, rfl, rfl, v2⟩ := z
              refine w1 ?_
              rw [s3]
              refine Hv0 s4 (fun z => ?_)
              obtain ⟨p, q', rfl, eq, v1⟩ := z
              exact hv ⟨p, r, q, rfl, rfl, rfl, by
                by_cases hq : q < 2 ^ 31
                · have : q = q' := (nI_eq hq (by omega)).mp eq
                  omega
                · omega, v2⟩
            simp (disch := first | assumption | omega | (simp (disch := omega) only [zr_n, zr_s]; assumption)) only [x71_0, x71_1, x71_2, x71_5, x71_8, x71_9, x71_10, x71_13, x71_16, x71_18, x71_19, x71_20_0, x71_23, x71_24, x71_25, x71_27, x71_28_0, x71_31, x71_32, x71_33, x71_35, x71_37_53, x71_37_55, x71_37_57, x71_37_59, x71_40, x71_43, x71_45_53, x71_45_55, x71_45_57, x71_45_59, x71_48, x71_51, x71_52, x71_53, x71_56, x71_57, x71_59_53, x71_59_55, x71_59_57, x71_59_59, x71_62, x71_64_53, x71_64_55, x71_64_57, x71_64_59, x71_67, x71_70, x71_71, x71_72, x71_75, x71_76, x71_78, x71_79, x71_81, x71_84, x71_87, x71_89, x71_91, x71_93, x71_96, x71_99, x71_100, x71_101, x71_104, x71_105, x71_107_53, x71_107_55, x71_107_57, x71_107_59, x71_110, x71_111, x71_113_53, x71_113_55, x71_113_57, x71_113_59, x71_116, x71_118, x71_120, x71_123, x71_124, gc_0, br_52, aa_52_0, aa_52_1, aa_52_2, aa_52_3, gc_53, gc_53, ↓reduceIte, zkl_i, zkl_r, zkl_n, zkl_z, zkl_l, Option.toList_some, Option.toList_none, List.cons_append, List.nil_append, zcs_0, zcs_i, zcs_l, zcs_r, zle8, true_and, and_true, true_or, or_true, c_below, c1, c2, i1_0, if_false, ixN_nI, nI_clamp, hz1, hz2, hf, if_true, c_holdsH, w1, w2, c_found, v11]
        · obtain ⟨-, o2, o3, o4, -⟩ := sh_0 h.1 hM
          obtain ⟨-, u2, u3, u4, -⟩ := sh_0 h.1 hM
          obtain ⟨o1, on⟩ := o4 hz1
          obtain ⟨u1, un⟩ := u4 hz2
          exact mc_index (by decide) (by decide) (by rw [o1]; exact on) (by rw [u1]; exact un) (o1.trans (hf.trans u1.symm)) (o2.trans s3) (u2.trans t3) s4 t4 hv
    · refine mkF (v := -14) (k := 4) h (fun Q => ?_) (fun M J hM Q => ?_)
      · first
          | exact absurd rfl hf
          | simp (disch := first | assumption | omega | (simp (disch := omega) only [zr_n, zr_s]; assumption)) only [x71_0, x71_1, x71_2, x71_5, x71_8, x71_9, x71_10, x71_13, x71_16, x71_18, x71_19, x71_20_0, x71_23, x71_24, x71_25, x71_27, x71_28_0, x71_31, x71_32, x71_33, x71_35, x71_37_53, x71_37_55, x71_37_57, x71_37_59, x71_40, x71_43, x71_45_53, x71_45_55, x71_45_57, x71_45_59, x71_48, x71_51, x71_52, x71_53, x71_56, x71_57, x71_59_53, x71_59_55, x71_59_57, x71_59_59, x71_62, x71_64_53, x71_64_55, x71_64_57, x71_64_59, x71_67, x71_70, x71_71, x71_72, x71_75, x71_76, x71_78, x71_79, x71_81, x71_84, x71_87, x71_89, x71_91, x71_93, x71_96, x71_99, x71_100, x71_101, x71_104, x71_105, x71_107_53, x71_107_55, x71_107_57, x71_107_59, x71_110, x71_111, x71_113_53, x71_113_55, x71_113_57, x71_113_59, x71_116, x71_118, x71_120, x71_123, x71_124, gc_0, br_52, aa_52_0, aa_52_1, aa_52_2, aa_52_3, gc_53, gc_53, ↓reduceIte, zkl_i, zkl_r, zkl_n, zkl_z, zkl_l, Option.toList_some, Option.toList_none, List.cons_append, List.nil_append, zcs_0, zcs_i, zcs_l, zcs_r, zle8, true_and, and_true, true_or, or_true, c_below, c1, c2, i1_0, if_false, ixN_nI, nI_clamp, hz1, hz2, hf, if_true, c_found, v11]
      · obtain ⟨o1, on⟩ := (sh_0 h.1 hM).2.2.2.1 hz1
        obtain ⟨u1, un⟩ := (sh_0 h.1 hM).2.2.2.1 hz2
        exact mc_store (by decide) (by decide) (by rw [o1]; exact on) (by rw [u1]; exact un) (fun z => hf (o1.symm.trans (z.trans u1)))
  · refine mkF (v := -11) (k := 1) h (fun Q => ?_) (fun M J hM Q => ?_)
    · by_cases z1 : I 53 0 = 0
      · have z2 : ¬ I 53 0 = 0 := fun z => hz ⟨z1, z⟩
        first
          | exact absurd z1 z2
          | simp (disch := first | assumption | omega | (simp (disch := omega) only [zr_n, zr_s]; assumption)) only [x71_0, x71_1, x71_2, x71_5, x71_8, x71_9, x71_10, x71_13, x71_16, x71_18, x71_19, x71_20_0, x71_23, x71_24, x71_25, x71_27, x71_28_0, x71_31, x71_32, x71_33, x71_35, x71_37_53, x71_37_55, x71_37_57, x71_37_59, x71_40, x71_43, x71_45_53, x71_45_55, x71_45_57, x71_45_59, x71_48, x71_51, x71_52, x71_53, x71_56, x71_57, x71_59_53, x71_59_55, x71_59_57, x71_59_59, x71_62, x71_64_53, x71_64_55, x71_64_57, x71_64_59, x71_67, x71_70, x71_71, x71_72, x71_75, x71_76, x71_78, x71_79, x71_81, x71_84, x71_87, x71_89, x71_91, x71_93, x71_96, x71_99, x71_100, x71_101, x71_104, x71_105, x71_107_53, x71_107_55, x71_107_57, x71_107_59, x71_110, x71_111, x71_113_53, x71_113_55, x71_113_57, x71_113_59, x71_116, x71_118, x71_120, x71_123, x71_124, gc_0, br_52, aa_52_0, aa_52_1, aa_52_2, aa_52_3, gc_53, gc_53, ↓reduceIte, zkl_i, zkl_r, zkl_n, zkl_z, zkl_l, Option.toList_some, Option.toList_none, List.cons_append, List.nil_append, zcs_0, zcs_i, zcs_l, zcs_r, zle8, true_and, and_true, true_or, or_true, c_below, c1, c2, i1_0, if_false, ixN_nI, nI_clamp, z1, z2, if_true, c_found, v11]
      · simp (disch := first | assumption | omega | (simp (disch := omega) only [zr_n, zr_s]; assumption)) only [x71_0, x71_1, x71_2, x71_5, x71_8, x71_9, x71_10, x71_13, x71_16, x71_18, x71_19, x71_20_0, x71_23, x71_24, x71_25, x71_27, x71_28_0, x71_31, x71_32, x71_33, x71_35, x71_37_53, x71_37_55, x71_37_57, x71_37_59, x71_40, x71_43, x71_45_53, x71_45_55, x71_45_57, x71_45_59, x71_48, x71_51, x71_52, x71_53, x71_56, x71_57, x71_59_53, x71_59_55, x71_59_57, x71_59_59, x71_62, x71_64_53, x71_64_55, x71_64_57, x71_64_59, x71_67, x71_70, x71_71, x71_72, x71_75, x71_76, x71_78, x71_79, x71_81, x71_84, x71_87, x71_89, x71_91, x71_93, x71_96, x71_99, x71_100, x71_101, x71_104, x71_105, x71_107_53, x71_107_55, x71_107_57, x71_107_59, x71_110, x71_111, x71_113_53, x71_113_55, x71_113_57, x71_113_59, x71_116, x71_118, x71_120, x71_123, x71_124, gc_0, br_52, aa_52_0, aa_52_1, aa_52_2, aa_52_3, gc_53, gc_53, ↓reduceIte, zkl_i, zkl_r, zkl_n, zkl_z, zkl_l, Option.toList_some, Option.toList_none, List.cons_append, List.nil_append, zcs_0, zcs_i, zcs_l, zcs_r, zle8, true_and, and_true, true_or, or_true, c_below, c1, c2, i1_0, if_false, ixN_nI, nI_clamp, z1, if_true, c_found, v11]
    · refine mc_null (by decide) (by decide) ?_
      by_cases z1 : I 53 0 = 0
      · have z2 : ¬ I 53 0 = 0 := fun z => hz ⟨z1, z⟩
        rw [(sh_0 h.1 hM).2.2.2.2 z2]
        exact Or.inr (by decide)
      · rw [(sh_0 h.1 hM).2.2.2.2 z1]
        exact Or.inl (by decide)
theorem k_copy_01 (h : Inv I) : KI xl 71 112 [.ref 0, .int (nI 0), .int a, .int (nI 1), .int b, .int c, .null, .null] [.ref 65, .int (nI 0), .int a, .int (nI 1), .int b, .int c, .null] I J := by
  have c1 : (if nI 0 < 0 then (0 : Int32) else if nI 0 < 4 then 1 else 0) = 1 := bl1 (n := 4) (by decide) (by decide)
  have c2 : (if nI 1 < 0 then (0 : Int32) else if nI 1 < 4 then 1 else 0) = 1 := bl1 (n := 4) (by decide) (by decide)
  obtain ⟨⟨s1, s2, s3, s4⟩, -⟩ := sh_0 h.1 h.2
  obtain ⟨⟨t1, t2, t3, t4⟩, -⟩ := sh_1 h.1 h.2
  by_cases hz : I 53 0 = 0 ∧ I 55 0 = 0
  · obtain ⟨hz1, hz2⟩ := hz
    by_cases hf : I 53 1 = I 55 1
    · by_cases hv : ∃ p r q, a = nI p ∧ b = nI r ∧ c = nI q ∧ p + q ≤ tn (I 53 2) ∧ r + q ≤ tn (I 55 2)
      · obtain ⟨p, r, q, rfl, rfl, rfl, v1, v2⟩ := hv
        have w1 : Hv (I 53 2) (nI p) (nI q) = 1 := by rw [s3]; exact Hv1 s4 v1
        have w2 : Hv (I 55 2) (nI r) (nI q) = 1 := by rw [t3]; exact Hv1 t4 v2
        have hcp : zcp (zG xl) 54 56 (nI p) (nI r) (nI q) := ⟨ak_54, ak_56, nI_pos (by omega), nI_pos (by omega), nI_pos (by omega), by rw [al_54, nI_clamp (by omega), nI_clamp (by omega)]; omega, by rw [al_56, nI_clamp (by omega), nI_clamp (by omega)]; omega⟩
        refine mkU (v := 1) (I1 := zr I 56 (va_cpy (I 54) (I 56) p r q)) h (fun Q => ?_) (RC_sh h.1 (fun c c1 c2 => zr_n (by omega)) (zr_n (by decide)) (fun s hs => by rw [zr_n (by omega)]; exact h.1.2.2.1 s hs)) (fun c hc => zr_n (by omega)) (fun M J hM => ?_)
        · simp (disch := first | assumption | omega | (simp (disch := omega) only [zr_n, zr_s]; assumption)) only [x71_0, x71_1, x71_2, x71_5, x71_8, x71_9, x71_10, x71_13, x71_16, x71_18, x71_19, x71_20_0, x71_23, x71_24, x71_25, x71_27, x71_28_0, x71_31, x71_32, x71_33, x71_35, x71_37_53, x71_37_55, x71_37_57, x71_37_59, x71_40, x71_43, x71_45_53, x71_45_55, x71_45_57, x71_45_59, x71_48, x71_51, x71_52, x71_53, x71_56, x71_57, x71_59_53, x71_59_55, x71_59_57, x71_59_59, x71_62, x71_64_53, x71_64_55, x71_64_57, x71_64_59, x71_67, x71_70, x71_71, x71_72, x71_75, x71_76, x71_78, x71_79, x71_81, x71_84, x71_87, x71_89, x71_91, x71_93, x71_96, x71_99, x71_100, x71_101, x71_104, x71_105, x71_107_53, x71_107_55, x71_107_57, x71_107_59, x71_110, x71_111, x71_113_53, x71_113_55, x71_113_57, x71_113_59, x71_116, x71_118, x71_120, x71_123, x71_124, gc_0, br_52, aa_52_0, aa_52_1, aa_52_2, aa_52_3, gc_53, gc_55, ↓reduceIte, zkl_i, zkl_r, zkl_n, zkl_z, zkl_l, Option.toList_some, Option.toList_none, List.cons_append, List.nil_append, zcs_0, zcs_i, zcs_l, zcs_r, zle8, true_and, and_true, true_or, or_true, c_below, c1, c2, i1_0, if_false, ixN_nI, nI_clamp, hz1, hz2, hf, if_true, c_holdsH, w1, w2, hcp]
        · obtain ⟨-, o2, o3, o4, -⟩ := sh_0 h.1 hM
          obtain ⟨-, u2, u3, u4, -⟩ := sh_1 h.1 hM
          obtain ⟨o1, on⟩ := o4 hz1
          obtain ⟨u1, un⟩ := u4 hz2
          obtain ⟨M', g1, g2, g3, g4⟩ := mc_ok (xl := xl) (J := J) (M := M) (s := 0) (t := 1) (p := p) (r := r) (q := q) (by decide) (by decide) (by rw [o1]; exact on) (by rw [u1]; exact un) (o1.trans (hf.trans u1.symm)) (o2.trans s3) (u2.trans t3) s4 t4 v1 v2
          refine ⟨M', g1, RM_sh hM (fun c c1 c2 => zr_n (by omega)) (by rw [g2 65 (by decide) (by decide), zr_n (by decide)]; exact hM.2.2.2.2.2.2) (SHm_1 h.1 hM (fun c c1 c2 c3 c4 => zr_n c4) (fun s e => by rw [g2 66 (by decide) (by decide)]) (fun s e => by rw [g2 67 (by decide) (by decide)]) (fun j e => g4 j (by omega)) ?_ ?_ ?_) (g2 70 (by decide) (by decide)) (g2 71 (by decide) (by decide)) (g2 75 (by decide) (by decide)) (g2 87 (by decide) (by decide)) (fun j hj => by rw [g2 65 (by decide) (by decide)]), fun c hc => g2 c (by omega) (by omega)⟩
          · rw [g2 66 (by decide) (by decide), zr_n (by decide), if_pos hz2]; exact u1
          · rw [g2 67 (by decide) (by decide), zr_n (by decide)]; exact u2
          · rw [zr_n (show 55 ≠ 56 by decide), zr_s]
            intro j hj
            by_cases e : r ≤ j ∧ j < r + q
            · obtain ⟨e1, e2⟩ := e
              rw [pk_cpy_in e1 e2]
              have := g3 (j - r) (by omega)
              rw [show 60 * 1 + r + (j - r) = 60 * 1 + j by omega, show 60 * 0 + p + (j - r) = 60 * 0 + (p + (j - r)) by omega, o3 _ (by omega)] at this
              exact this
            · rw [pk_cpy_out (by omega), g4 _ (by omega)]
              exact u3 j hj
      · refine mkF (v := -12) (k := 2) h (fun Q => ?_) (fun M J hM Q => ?_)
        · by_cases w1 : Hv (I 53 2) a c = 0
          · simp (disch := first | assumption | omega | (simp (disch := omega) only [zr_n, zr_s]; assumption)) only [x71_0, x71_1, x71_2, x71_5, x71_8, x71_9, x71_10, x71_13, x71_16, x71_18, x71_19, x71_20_0, x71_23, x71_24, x71_25, x71_27, x71_28_0, x71_31, x71_32, x71_33, x71_35, x71_37_53, x71_37_55, x71_37_57, x71_37_59, x71_40, x71_43, x71_45_53, x71_45_55, x71_45_57, x71_45_59, x71_48, x71_51, x71_52, x71_53, x71_56, x71_57, x71_59_53, x71_59_55, x71_59_57, x71_59_59, x71_62, x71_64_53, x71_64_55, x71_64_57, x71_64_59, x71_67, x71_70, x71_71, x71_72, x71_75, x71_76, x71_78, x71_79, x71_81, x71_84, x71_87, x71_89, x71_91, x71_93, x71_96, x71_99, x71_100, x71_101, x71_104, x71_105, x71_107_53, x71_107_55, x71_107_57, x71_107_59, x71_110, x71_111, x71_113_53, x71_113_55, x71_113_57, x71_113_59, x71_116, x71_118, x71_120, x71_123, x71_124, gc_0, br_52, aa_52_0, aa_52_1, aa_52_2, aa_52_3, gc_53, gc_55, ↓reduceIte, zkl_i, zkl_r, zkl_n, zkl_z, zkl_l, Option.toList_some, Option.toList_none, List.cons_append, List.nil_append, zcs_0, zcs_i, zcs_l, zcs_r, zle8, true_and, and_true, true_or, or_true, c_below, c1, c2, i1_0, if_false, ixN_nI, nI_clamp, hz1, hz2, hf, if_true, c_holdsH, w1, c_found, v11]
          · have w2 : Hv (I 55 2) b c = 0 := by
              rw [t3]
              refine Hv0 t4 (fun z => ?_)
              obtain ⟨r, q, rfl, rfl, v2⟩ := z
              refine w1 ?_
              rw [s3]
              refine Hv0 s4 (fun z => ?_)
              obtain ⟨p, q', rfl, eq, v1⟩ := z
              exact hv ⟨p, r, q, rfl, rfl, rfl, by
                by_cases hq : q < 2 ^ 31
                · have : q = q' := (nI_eq hq (by omega)).mp eq
                  omega
                · omega, v2⟩
            simp (disch := first | assumption | omega | (simp (disch := omega) only [zr_n, zr_s]; assumption)) only [x71_0, x71_1, x71_2, x71_5, x71_8, x71_9, x71_10, x71_13, x71_16, x71_18, x71_19, x71_20_0, x71_23, x71_24, x71_25, x71_27, x71_28_0, x71_31, x71_32, x71_33, x71_35, x71_37_53, x71_37_55, x71_37_57, x71_37_59, x71_40, x71_43, x71_45_53, x71_45_55, x71_45_57, x71_45_59, x71_48, x71_51, x71_52, x71_53, x71_56, x71_57, x71_59_53, x71_59_55, x71_59_57, x71_59_59, x71_62, x71_64_53, x71_64_55, x71_64_57, x71_64_59, x71_67, x71_70, x71_71, x71_72, x71_75, x71_76, x71_78, x71_79, x71_81, x71_84, x71_87, x71_89, x71_91, x71_93, x71_96, x71_99, x71_100, x71_101, x71_104, x71_105, x71_107_53, x71_107_55, x71_107_57, x71_107_59, x71_110, x71_111, x71_113_53, x71_113_55, x71_113_57, x71_113_59, x71_116, x71_118, x71_120, x71_123, x71_124, gc_0, br_52, aa_52_0, aa_52_1, aa_52_2, aa_52_3, gc_53, gc_55, ↓reduceIte, zkl_i, zkl_r, zkl_n, zkl_z, zkl_l, Option.toList_some, Option.toList_none, List.cons_append, List.nil_append, zcs_0, zcs_i, zcs_l, zcs_r, zle8, true_and, and_true, true_or, or_true, c_below, c1, c2, i1_0, if_false, ixN_nI, nI_clamp, hz1, hz2, hf, if_true, c_holdsH, w1, w2, c_found, v11]
        · obtain ⟨-, o2, o3, o4, -⟩ := sh_0 h.1 hM
          obtain ⟨-, u2, u3, u4, -⟩ := sh_1 h.1 hM
          obtain ⟨o1, on⟩ := o4 hz1
          obtain ⟨u1, un⟩ := u4 hz2
          exact mc_index (by decide) (by decide) (by rw [o1]; exact on) (by rw [u1]; exact un) (o1.trans (hf.trans u1.symm)) (o2.trans s3) (u2.trans t3) s4 t4 hv
    · refine mkF (v := -14) (k := 4) h (fun Q => ?_) (fun M J hM Q => ?_)
      · first
          | exact absurd rfl hf
          | simp (disch := first | assumption | omega | (simp (disch := omega) only [zr_n, zr_s]; assumption)) only [x71_0, x71_1, x71_2, x71_5, x71_8, x71_9, x71_10, x71_13, x71_16, x71_18, x71_19, x71_20_0, x71_23, x71_24, x71_25, x71_27, x71_28_0, x71_31, x71_32, x71_33, x71_35, x71_37_53, x71_37_55, x71_37_57, x71_37_59, x71_40, x71_43, x71_45_53, x71_45_55, x71_45_57, x71_45_59, x71_48, x71_51, x71_52, x71_53, x71_56, x71_57, x71_59_53, x71_59_55, x71_59_57, x71_59_59, x71_62, x71_64_53, x71_64_55, x71_64_57, x71_64_59, x71_67, x71_70, x71_71, x71_72, x71_75, x71_76, x71_78, x71_79, x71_81, x71_84, x71_87, x71_89, x71_91, x71_93, x71_96, x71_99, x71_100, x71_101, x71_104, x71_105, x71_107_53, x71_107_55, x71_107_57, x71_107_59, x71_110, x71_111, x71_113_53, x71_113_55, x71_113_57, x71_113_59, x71_116, x71_118, x71_120, x71_123, x71_124, gc_0, br_52, aa_52_0, aa_52_1, aa_52_2, aa_52_3, gc_53, gc_55, ↓reduceIte, zkl_i, zkl_r, zkl_n, zkl_z, zkl_l, Option.toList_some, Option.toList_none, List.cons_append, List.nil_append, zcs_0, zcs_i, zcs_l, zcs_r, zle8, true_and, and_true, true_or, or_true, c_below, c1, c2, i1_0, if_false, ixN_nI, nI_clamp, hz1, hz2, hf, if_true, c_found, v11]
      · obtain ⟨o1, on⟩ := (sh_0 h.1 hM).2.2.2.1 hz1
        obtain ⟨u1, un⟩ := (sh_1 h.1 hM).2.2.2.1 hz2
        exact mc_store (by decide) (by decide) (by rw [o1]; exact on) (by rw [u1]; exact un) (fun z => hf (o1.symm.trans (z.trans u1)))
  · refine mkF (v := -11) (k := 1) h (fun Q => ?_) (fun M J hM Q => ?_)
    · by_cases z1 : I 53 0 = 0
      · have z2 : ¬ I 55 0 = 0 := fun z => hz ⟨z1, z⟩
        first
          | exact absurd z1 z2
          | simp (disch := first | assumption | omega | (simp (disch := omega) only [zr_n, zr_s]; assumption)) only [x71_0, x71_1, x71_2, x71_5, x71_8, x71_9, x71_10, x71_13, x71_16, x71_18, x71_19, x71_20_0, x71_23, x71_24, x71_25, x71_27, x71_28_0, x71_31, x71_32, x71_33, x71_35, x71_37_53, x71_37_55, x71_37_57, x71_37_59, x71_40, x71_43, x71_45_53, x71_45_55, x71_45_57, x71_45_59, x71_48, x71_51, x71_52, x71_53, x71_56, x71_57, x71_59_53, x71_59_55, x71_59_57, x71_59_59, x71_62, x71_64_53, x71_64_55, x71_64_57, x71_64_59, x71_67, x71_70, x71_71, x71_72, x71_75, x71_76, x71_78, x71_79, x71_81, x71_84, x71_87, x71_89, x71_91, x71_93, x71_96, x71_99, x71_100, x71_101, x71_104, x71_105, x71_107_53, x71_107_55, x71_107_57, x71_107_59, x71_110, x71_111, x71_113_53, x71_113_55, x71_113_57, x71_113_59, x71_116, x71_118, x71_120, x71_123, x71_124, gc_0, br_52, aa_52_0, aa_52_1, aa_52_2, aa_52_3, gc_53, gc_55, ↓reduceIte, zkl_i, zkl_r, zkl_n, zkl_z, zkl_l, Option.toList_some, Option.toList_none, List.cons_append, List.nil_append, zcs_0, zcs_i, zcs_l, zcs_r, zle8, true_and, and_true, true_or, or_true, c_below, c1, c2, i1_0, if_false, ixN_nI, nI_clamp, z1, z2, if_true, c_found, v11]
      · simp (disch := first | assumption | omega | (simp (disch := omega) only [zr_n, zr_s]; assumption)) only [x71_0, x71_1, x71_2, x71_5, x71_8, x71_9, x71_10, x71_13, x71_16, x71_18, x71_19, x71_20_0, x71_23, x71_24, x71_25, x71_27, x71_28_0, x71_31, x71_32, x71_33, x71_35, x71_37_53, x71_37_55, x71_37_57, x71_37_59, x71_40, x71_43, x71_45_53, x71_45_55, x71_45_57, x71_45_59, x71_48, x71_51, x71_52, x71_53, x71_56, x71_57, x71_59_53, x71_59_55, x71_59_57, x71_59_59, x71_62, x71_64_53, x71_64_55, x71_64_57, x71_64_59, x71_67, x71_70, x71_71, x71_72, x71_75, x71_76, x71_78, x71_79, x71_81, x71_84, x71_87, x71_89, x71_91, x71_93, x71_96, x71_99, x71_100, x71_101, x71_104, x71_105, x71_107_53, x71_107_55, x71_107_57, x71_107_59, x71_110, x71_111, x71_113_53, x71_113_55, x71_113_57, x71_113_59, x71_116, x71_118, x71_120, x71_123, x71_124, gc_0, br_52, aa_52_0, aa_52_1, aa_52_2, aa_52_3, gc_53, gc_55, ↓reduceIte, zkl_i, zkl_r, zkl_n, zkl_z, zkl_l, Option.toList_some, Option.toList_none, List.cons_append, List.nil_append, zcs_0, zcs_i, zcs_l, zcs_r, zle8, true_and, and_true, true_or, or_true, c_below, c1, c2, i1_0, if_false, ixN_nI, nI_clamp, z1, if_true, c_found, v11]
    · refine mc_null (by decide) (by decide) ?_
      by_cases z1 : I 53 0 = 0
      · have z2 : ¬ I 55 0 = 0 := fun z => hz ⟨z1, z⟩
        rw [(sh_1 h.1 hM).2.2.2.2 z2]
        exact Or.inr (by decide)
      · rw [(sh_0 h.1 hM).2.2.2.2 z1]
        exact Or.inl (by decide)
theorem k_copy_02 (h : Inv I) : KI xl 71 112 [.ref 0, .int (nI 0), .int a, .int (nI 2), .int b, .int c, .null, .null] [.ref 65, .int (nI 0), .int a, .int (nI 2), .int b, .int c, .null] I J := by
  have c1 : (if nI 0 < 0 then (0 : Int32) else if nI 0 < 4 then 1 else 0) = 1 := bl1 (n := 4) (by decide) (by decide)
  have c2 : (if nI 2 < 0 then (0 : Int32) else if nI 2 < 4 then 1 else 0) = 1 := bl1 (n := 4) (by decide) (by decide)
  obtain ⟨⟨s1, s2, s3, s4⟩, -⟩ := sh_0 h.1 h.2
  obtain ⟨⟨t1, t2, t3, t4⟩, -⟩ := sh_2 h.1 h.2
  by_cases hz : I 53 0 = 0 ∧ I 57 0 = 0
  · obtain ⟨hz1, hz2⟩ := hz
    by_cases hf : I 53 1 = I 57 1
    · by_cases hv : ∃ p r q, a = nI p ∧ b = nI r ∧ c = nI q ∧ p + q ≤ tn (I 53 2) ∧ r + q ≤ tn (I 57 2)
      · obtain ⟨p, r, q, rfl, rfl, rfl, v1, v2⟩ := hv
        have w1 : Hv (I 53 2) (nI p) (nI q) = 1 := by rw [s3]; exact Hv1 s4 v1
        have w2 : Hv (I 57 2) (nI r) (nI q) = 1 := by rw [t3]; exact Hv1 t4 v2
        have hcp : zcp (zG xl) 54 58 (nI p) (nI r) (nI q) := ⟨ak_54, ak_58, nI_pos (by omega), nI_pos (by omega), nI_pos (by omega), by rw [al_54, nI_clamp (by omega), nI_clamp (by omega)]; omega, by rw [al_58, nI_clamp (by omega), nI_clamp (by omega)]; omega⟩
        refine mkU (v := 1) (I1 := zr I 58 (va_cpy (I 54) (I 58) p r q)) h (fun Q => ?_) (RC_sh h.1 (fun c c1 c2 => zr_n (by omega)) (zr_n (by decide)) (fun s hs => by rw [zr_n (by omega)]; exact h.1.2.2.1 s hs)) (fun c hc => zr_n (by omega)) (fun M J hM => ?_)
        · simp (disch := first | assumption | omega | (simp (disch := omega) only [zr_n, zr_s]; assumption)) only [x71_0, x71_1, x71_2, x71_5, x71_8, x71_9, x71_10, x71_13, x71_16, x71_18, x71_19, x71_20_0, x71_23, x71_24, x71_25, x71_27, x71_28_0, x71_31, x71_32, x71_33, x71_35, x71_37_53, x71_37_55, x71_37_57, x71_37_59, x71_40, x71_43, x71_45_53, x71_45_55, x71_45_57, x71_45_59, x71_48, x71_51, x71_52, x71_53, x71_56, x71_57, x71_59_53, x71_59_55, x71_59_57, x71_59_59, x71_62, x71_64_53, x71_64_55, x71_64_57, x71_64_59, x71_67, x71_70, x71_71, x71_72, x71_75, x71_76, x71_78, x71_79, x71_81, x71_84, x71_87, x71_89, x71_91, x71_93, x71_96, x71_99, x71_100, x71_101, x71_104, x71_105, x71_107_53, x71_107_55, x71_107_57, x71_107_59, x71_110, x71_111, x71_113_53, x71_113_55, x71_113_57, x71_113_59, x71_116, x71_118, x71_120, x71_123, x71_124, gc_0, br_52, aa_52_0, aa_52_1, aa_52_2, aa_52_3, gc_53, gc_57, ↓reduceIte, zkl_i, zkl_r, zkl_n, zkl_z, zkl_l, Option.toList_some, Option.toList_none, List.cons_append, List.nil_append, zcs_0, zcs_i, zcs_l, zcs_r, zle8, true_and, and_true, true_or, or_true, c_below, c1, c2, i1_0, if_false, ixN_nI, nI_clamp, hz1, hz2, hf, if_true, c_holdsH, w1, w2, hcp]
        · obtain ⟨-, o2, o3, o4, -⟩ := sh_0 h.1 hM
          obtain ⟨-, u2, u3, u4, -⟩ := sh_2 h.1 hM
          obtain ⟨o1, on⟩ := o4 hz1
          obtain ⟨u1, un⟩ := u4 hz2
          obtain ⟨M', g1, g2, g3, g4⟩ := mc_ok (xl := xl) (J := J) (M := M) (s := 0) (t := 2) (p := p) (r := r) (q := q) (by decide) (by decide) (by rw [o1]; exact on) (by rw [u1]; exact un) (o1.trans (hf.trans u1.symm)) (o2.trans s3) (u2.trans t3) s4 t4 v1 v2
          refine ⟨M', g1, RM_sh hM (fun c c1 c2 => zr_n (by omega)) (by rw [g2 65 (by decide) (by decide), zr_n (by decide)]; exact hM.2.2.2.2.2.2) (SHm_2 h.1 hM (fun c c1 c2 c3 c4 => zr_n c4) (fun s e => by rw [g2 66 (by decide) (by decide)]) (fun s e => by rw [g2 67 (by decide) (by decide)]) (fun j e => g4 j (by omega)) ?_ ?_ ?_) (g2 70 (by decide) (by decide)) (g2 71 (by decide) (by decide)) (g2 75 (by decide) (by decide)) (g2 87 (by decide) (by decide)) (fun j hj => by rw [g2 65 (by decide) (by decide)]), fun c hc => g2 c (by omega) (by omega)⟩
          · rw [g2 66 (by decide) (by decide), zr_n (by decide), if_pos hz2]; exact u1
          · rw [g2 67 (by decide) (by decide), zr_n (by decide)]; exact u2
          · rw [zr_n (show 57 ≠ 58 by decide), zr_s]
            intro j hj
            by_cases e : r ≤ j ∧ j < r + q
            · obtain ⟨e1, e2⟩ := e
              rw [pk_cpy_in e1 e2]
              have := g3 (j - r) (by omega)
              rw [show 60 * 2 + r + (j - r) = 60 * 2 + j by omega, show 60 * 0 + p + (j - r) = 60 * 0 + (p + (j - r)) by omega, o3 _ (by omega)] at this
              exact this
            · rw [pk_cpy_out (by omega), g4 _ (by omega)]
              exact u3 j hj
      · refine mkF (v := -12) (k := 2) h (fun Q => ?_) (fun M J hM Q => ?_)
        · by_cases w1 : Hv (I 53 2) a c = 0
          · simp (disch := first | assumption | omega | (simp (disch := omega) only [zr_n, zr_s]; assumption)) only [x71_0, x71_1, x71_2, x71_5, x71_8, x71_9, x71_10, x71_13, x71_16, x71_18, x71_19, x71_20_0, x71_23, x71_24, x71_25, x71_27, x71_28_0, x71_31, x71_32, x71_33, x71_35, x71_37_53, x71_37_55, x71_37_57, x71_37_59, x71_40, x71_43, x71_45_53, x71_45_55, x71_45_57, x71_45_59, x71_48, x71_51, x71_52, x71_53, x71_56, x71_57, x71_59_53, x71_59_55, x71_59_57, x71_59_59, x71_62, x71_64_53, x71_64_55, x71_64_57, x71_64_59, x71_67, x71_70, x71_71, x71_72, x71_75, x71_76, x71_78, x71_79, x71_81, x71_84, x71_87, x71_89, x71_91, x71_93, x71_96, x71_99, x71_100, x71_101, x71_104, x71_105, x71_107_53, x71_107_55, x71_107_57, x71_107_59, x71_110, x71_111, x71_113_53, x71_113_55, x71_113_57, x71_113_59, x71_116, x71_118, x71_120, x71_123, x71_124, gc_0, br_52, aa_52_0, aa_52_1, aa_52_2, aa_52_3, gc_53, gc_57, ↓reduceIte, zkl_i, zkl_r, zkl_n, zkl_z, zkl_l, Option.toList_some, Option.toList_none, List.cons_append, List.nil_append, zcs_0, zcs_i, zcs_l, zcs_r, zle8, true_and, and_true, true_or, or_true, c_below, c1, c2, i1_0, if_false, ixN_nI, nI_clamp, hz1, hz2, hf, if_true, c_holdsH, w1, c_found, v11]
          · have w2 : Hv (I 57 2) b c = 0 := by
              rw [t3]
              refine Hv0 t4 (fun z => ?_)
              obtain ⟨r, q, rfl, rfl, v2⟩ := z
              refine w1 ?_
              rw [s3]
              refine Hv0 s4 (fun z => ?_)
              obtain ⟨p, q', rfl, eq, v1⟩ := z
              exact hv ⟨p, r, q, rfl, rfl, rfl, by
                by_cases hq : q < 2 ^ 31
                · have : q = q' := (nI_eq hq (by omega)).mp eq
                  omega
                · omega, v2⟩
            simp (disch := first | assumption | omega | (simp (disch := omega) only [zr_n, zr_s]; assumption)) only [x71_0, x71_1, x71_2, x71_5, x71_8, x71_9, x71_10, x71_13, x71_16, x71_18, x71_19, x71_20_0, x71_23, x71_24, x71_25, x71_27, x71_28_0, x71_31, x71_32, x71_33, x71_35, x71_37_53, x71_37_55, x71_37_57, x71_37_59, x71_40, x71_43, x71_45_53, x71_45_55, x71_45_57, x71_45_59, x71_48, x71_51, x71_52, x71_53, x71_56, x71_57, x71_59_53, x71_59_55, x71_59_57, x71_59_59, x71_62, x71_64_53, x71_64_55, x71_64_57, x71_64_59, x71_67, x71_70, x71_71, x71_72, x71_75, x71_76, x71_78, x71_79, x71_81, x71_84, x71_87, x71_89, x71_91, x71_93, x71_96, x71_99, x71_100, x71_101, x71_104, x71_105, x71_107_53, x71_107_55, x71_107_57, x71_107_59, x71_110, x71_111, x71_113_53, x71_113_55, x71_113_57, x71_113_59, x71_116, x71_118, x71_120, x71_123, x71_124, gc_0, br_52, aa_52_0, aa_52_1, aa_52_2, aa_52_3, gc_53, gc_57, ↓reduceIte, zkl_i, zkl_r, zkl_n, zkl_z, zkl_l, Option.toList_some, Option.toList_none, List.cons_append, List.nil_append, zcs_0, zcs_i, zcs_l, zcs_r, zle8, true_and, and_true, true_or, or_true, c_below, c1, c2, i1_0, if_false, ixN_nI, nI_clamp, hz1, hz2, hf, if_true, c_holdsH, w1, w2, c_found, v11]
        · obtain ⟨-, o2, o3, o4, -⟩ := sh_0 h.1 hM
          obtain ⟨-, u2, u3, u4, -⟩ := sh_2 h.1 hM
          obtain ⟨o1, on⟩ := o4 hz1
          obtain ⟨u1, un⟩ := u4 hz2
          exact mc_index (by decide) (by decide) (by rw [o1]; exact on) (by rw [u1]; exact un) (o1.trans (hf.trans u1.symm)) (o2.trans s3) (u2.trans t3) s4 t4 hv
    · refine mkF (v := -14) (k := 4) h (fun Q => ?_) (fun M J hM Q => ?_)
      · first
          | exact absurd rfl hf
          | simp (disch := first | assumption | omega | (simp (disch := omega) only [zr_n, zr_s]; assumption)) only [x71_0, x71_1, x71_2, x71_5, x71_8, x71_9, x71_10, x71_13, x71_16, x71_18, x71_19, x71_20_0, x71_23, x71_24, x71_25, x71_27, x71_28_0, x71_31, x71_32, x71_33, x71_35, x71_37_53, x71_37_55, x71_37_57, x71_37_59, x71_40, x71_43, x71_45_53, x71_45_55, x71_45_57, x71_45_59, x71_48, x71_51, x71_52, x71_53, x71_56, x71_57, x71_59_53, x71_59_55, x71_59_57, x71_59_59, x71_62, x71_64_53, x71_64_55, x71_64_57, x71_64_59, x71_67, x71_70, x71_71, x71_72, x71_75, x71_76, x71_78, x71_79, x71_81, x71_84, x71_87, x71_89, x71_91, x71_93, x71_96, x71_99, x71_100, x71_101, x71_104, x71_105, x71_107_53, x71_107_55, x71_107_57, x71_107_59, x71_110, x71_111, x71_113_53, x71_113_55, x71_113_57, x71_113_59, x71_116, x71_118, x71_120, x71_123, x71_124, gc_0, br_52, aa_52_0, aa_52_1, aa_52_2, aa_52_3, gc_53, gc_57, ↓reduceIte, zkl_i, zkl_r, zkl_n, zkl_z, zkl_l, Option.toList_some, Option.toList_none, List.cons_append, List.nil_append, zcs_0, zcs_i, zcs_l, zcs_r, zle8, true_and, and_true, true_or, or_true, c_below, c1, c2, i1_0, if_false, ixN_nI, nI_clamp, hz1, hz2, hf, if_true, c_found, v11]
      · obtain ⟨o1, on⟩ := (sh_0 h.1 hM).2.2.2.1 hz1
        obtain ⟨u1, un⟩ := (sh_2 h.1 hM).2.2.2.1 hz2
        exact mc_store (by decide) (by decide) (by rw [o1]; exact on) (by rw [u1]; exact un) (fun z => hf (o1.symm.trans (z.trans u1)))
  · refine mkF (v := -11) (k := 1) h (fun Q => ?_) (fun M J hM Q => ?_)
    · by_cases z1 : I 53 0 = 0
      · have z2 : ¬ I 57 0 = 0 := fun z => hz ⟨z1, z⟩
        first
          | exact absurd z1 z2
          | simp (disch := first | assumption | omega | (simp (disch := omega) only [zr_n, zr_s]; assumption)) only [x71_0, x71_1, x71_2, x71_5, x71_8, x71_9, x71_10, x71_13, x71_16, x71_18, x71_19, x71_20_0, x71_23, x71_24, x71_25, x71_27, x71_28_0, x71_31, x71_32, x71_33, x71_35, x71_37_53, x71_37_55, x71_37_57, x71_37_59, x71_40, x71_43, x71_45_53, x71_45_55, x71_45_57, x71_45_59, x71_48, x71_51, x71_52, x71_53, x71_56, x71_57, x71_59_53, x71_59_55, x71_59_57, x71_59_59, x71_62, x71_64_53, x71_64_55, x71_64_57, x71_64_59, x71_67, x71_70, x71_71, x71_72, x71_75, x71_76, x71_78, x71_79, x71_81, x71_84, x71_87, x71_89, x71_91, x71_93, x71_96, x71_99, x71_100, x71_101, x71_104, x71_105, x71_107_53, x71_107_55, x71_107_57, x71_107_59, x71_110, x71_111, x71_113_53, x71_113_55, x71_113_57, x71_113_59, x71_116, x71_118, x71_120, x71_123, x71_124, gc_0, br_52, aa_52_0, aa_52_1, aa_52_2, aa_52_3, gc_53, gc_57, ↓reduceIte, zkl_i, zkl_r, zkl_n, zkl_z, zkl_l, Option.toList_some, Option.toList_none, List.cons_append, List.nil_append, zcs_0, zcs_i, zcs_l, zcs_r, zle8, true_and, and_true, true_or, or_true, c_below, c1, c2, i1_0, if_false, ixN_nI, nI_clamp, z1, z2, if_true, c_found, v11]
      · simp (disch := first | assumption | omega | (simp (disch := omega) only [zr_n, zr_s]; assumption)) only [x71_0, x71_1, x71_2, x71_5, x71_8, x71_9, x71_10, x71_13, x71_16, x71_18, x71_19, x71_20_0, x71_23, x71_24, x71_25, x71_27, x71_28_0, x71_31, x71_32, x71_33, x71_35, x71_37_53, x71_37_55, x71_37_57, x71_37_59, x71_40, x71_43, x71_45_53, x71_45_55, x71_45_57, x71_45_59, x71_48, x71_51, x71_52, x71_53, x71_56, x71_57, x71_59_53, x71_59_55, x71_59_57, x71_59_59, x71_62, x71_64_53, x71_64_55, x71_64_57, x71_64_59, x71_67, x71_70, x71_71, x71_72, x71_75, x71_76, x71_78, x71_79, x71_81, x71_84, x71_87, x71_89, x71_91, x71_93, x71_96, x71_99, x71_100, x71_101, x71_104, x71_105, x71_107_53, x71_107_55, x71_107_57, x71_107_59, x71_110, x71_111, x71_113_53, x71_113_55, x71_113_57, x71_113_59, x71_116, x71_118, x71_120, x71_123, x71_124, gc_0, br_52, aa_52_0, aa_52_1, aa_52_2, aa_52_3, gc_53, gc_57, ↓reduceIte, zkl_i, zkl_r, zkl_n, zkl_z, zkl_l, Option.toList_some, Option.toList_none, List.cons_append, List.nil_append, zcs_0, zcs_i, zcs_l, zcs_r, zle8, true_and, and_true, true_or, or_true, c_below, c1, c2, i1_0, if_false, ixN_nI, nI_clamp, z1, if_true, c_found, v11]
    · refine mc_null (by decide) (by decide) ?_
      by_cases z1 : I 53 0 = 0
      · have z2 : ¬ I 57 0 = 0 := fun z => hz ⟨z1, z⟩
        rw [(sh_2 h.1 hM).2.2.2.2 z2]
        exact Or.inr (by decide)
      · rw [(sh_0 h.1 hM).2.2.2.2 z1]
        exact Or.inl (by decide)
theorem k_copy_03 (h : Inv I) : KI xl 71 112 [.ref 0, .int (nI 0), .int a, .int (nI 3), .int b, .int c, .null, .null] [.ref 65, .int (nI 0), .int a, .int (nI 3), .int b, .int c, .null] I J := by
  have c1 : (if nI 0 < 0 then (0 : Int32) else if nI 0 < 4 then 1 else 0) = 1 := bl1 (n := 4) (by decide) (by decide)
  have c2 : (if nI 3 < 0 then (0 : Int32) else if nI 3 < 4 then 1 else 0) = 1 := bl1 (n := 4) (by decide) (by decide)
  obtain ⟨⟨s1, s2, s3, s4⟩, -⟩ := sh_0 h.1 h.2
  obtain ⟨⟨t1, t2, t3, t4⟩, -⟩ := sh_3 h.1 h.2
  by_cases hz : I 53 0 = 0 ∧ I 59 0 = 0
  · obtain ⟨hz1, hz2⟩ := hz
    by_cases hf : I 53 1 = I 59 1
    · by_cases hv : ∃ p r q, a = nI p ∧ b = nI r ∧ c = nI q ∧ p + q ≤ tn (I 53 2) ∧ r + q ≤ tn (I 59 2)
      · obtain ⟨p, r, q, rfl, rfl, rfl, v1, v2⟩ := hv
        have w1 : Hv (I 53 2) (nI p) (nI q) = 1 := by rw [s3]; exact Hv1 s4 v1
        have w2 : Hv (I 59 2) (nI r) (nI q) = 1 := by rw [t3]; exact Hv1 t4 v2
        have hcp : zcp (zG xl) 54 60 (nI p) (nI r) (nI q) := ⟨ak_54, ak_60, nI_pos (by omega), nI_pos (by omega), nI_pos (by omega), by rw [al_54, nI_clamp (by omega), nI_clamp (by omega)]; omega, by rw [al_60, nI_clamp (by omega), nI_clamp (by omega)]; omega⟩
        refine mkU (v := 1) (I1 := zr I 60 (va_cpy (I 54) (I 60) p r q)) h (fun Q => ?_) (RC_sh h.1 (fun c c1 c2 => zr_n (by omega)) (zr_n (by decide)) (fun s hs => by rw [zr_n (by omega)]; exact h.1.2.2.1 s hs)) (fun c hc => zr_n (by omega)) (fun M J hM => ?_)
        · simp (disch := first | assumption | omega | (simp (disch := omega) only [zr_n, zr_s]; assumption)) only [x71_0, x71_1, x71_2, x71_5, x71_8, x71_9, x71_10, x71_13, x71_16, x71_18, x71_19, x71_20_0, x71_23, x71_24, x71_25, x71_27, x71_28_0, x71_31, x71_32, x71_33, x71_35, x71_37_53, x71_37_55, x71_37_57, x71_37_59, x71_40, x71_43, x71_45_53, x71_45_55, x71_45_57, x71_45_59, x71_48, x71_51, x71_52, x71_53, x71_56, x71_57, x71_59_53, x71_59_55, x71_59_57, x71_59_59, x71_62, x71_64_53, x71_64_55, x71_64_57, x71_64_59, x71_67, x71_70, x71_71, x71_72, x71_75, x71_76, x71_78, x71_79, x71_81, x71_84, x71_87, x71_89, x71_91, x71_93, x71_96, x71_99, x71_100, x71_101, x71_104, x71_105, x71_107_53, x71_107_55, x71_107_57, x71_107_59, x71_110, x71_111, x71_113_53, x71_113_55, x71_113_57, x71_113_59, x71_116, x71_118, x71_120, x71_123, x71_124, gc_0, br_52, aa_52_0, aa_52_1, aa_52_2, aa_52_3, gc_53, gc_59, ↓reduceIte, zkl_i, zkl_r, zkl_n, zkl_z, zkl_l, Option.toList_some, Option.toList_none, List.cons_append, List.nil_append, zcs_0, zcs_i, zcs_l, zcs_r, zle8, true_and, and_true, true_or, or_true, c_below, c1, c2, i1_0, if_false, ixN_nI, nI_clamp, hz1, hz2, hf, if_true, c_holdsH, w1, w2, hcp]
        · obtain ⟨-, o2, o3, o4, -⟩ := sh_0 h.1 hM
          obtain ⟨-, u2, u3, u4, -⟩ := sh_3 h.1 hM
          obtain ⟨o1, on⟩ := o4 hz1
          obtain ⟨u1, un⟩ := u4 hz2
          obtain ⟨M', g1, g2, g3, g4⟩ := mc_ok (xl := xl) (J := J) (M := M) (s := 0) (t := 3) (p := p) (r := r) (q := q) (by decide) (by decide) (by rw [o1]; exact on) (by rw [u1]; exact un) (o1.trans (hf.trans u1.symm)) (o2.trans s3) (u2.trans t3) s4 t4 v1 v2
          refine ⟨M', g1, RM_sh hM (fun c c1 c2 => zr_n (by omega)) (by rw [g2 65 (by decide) (by decide), zr_n (by decide)]; exact hM.2.2.2.2.2.2) (SHm_3 h.1 hM (fun c c1 c2 c3 c4 => zr_n c4) (fun s e => by rw [g2 66 (by decide) (by decide)]) (fun s e => by rw [g2 67 (by decide) (by decide)]) (fun j e => g4 j (by omega)) ?_ ?_ ?_) (g2 70 (by decide) (by decide)) (g2 71 (by decide) (by decide)) (g2 75 (by decide) (by decide)) (g2 87 (by decide) (by decide)) (fun j hj => by rw [g2 65 (by decide) (by decide)]), fun c hc => g2 c (by omega) (by omega)⟩
          · rw [g2 66 (by decide) (by decide), zr_n (by decide), if_pos hz2]; exact u1
          · rw [g2 67 (by decide) (by decide), zr_n (by decide)]; exact u2
          · rw [zr_n (show 59 ≠ 60 by decide), zr_s]
            intro j hj
            by_cases e : r ≤ j ∧ j < r + q
            · obtain ⟨e1, e2⟩ := e
              rw [pk_cpy_in e1 e2]
              have := g3 (j - r) (by omega)
              rw [show 60 * 3 + r + (j - r) = 60 * 3 + j by omega, show 60 * 0 + p + (j - r) = 60 * 0 + (p + (j - r)) by omega, o3 _ (by omega)] at this
              exact this
            · rw [pk_cpy_out (by omega), g4 _ (by omega)]
              exact u3 j hj
      · refine mkF (v := -12) (k := 2) h (fun Q => ?_) (fun M J hM Q => ?_)
        · by_cases w1 : Hv (I 53 2) a c = 0
          · simp (disch := first | assumption | omega | (simp (disch := omega) only [zr_n, zr_s]; assumption)) only [x71_0, x71_1, x71_2, x71_5, x71_8, x71_9, x71_10, x71_13, x71_16, x71_18, x71_19, x71_20_0, x71_23, x71_24, x71_25, x71_27, x71_28_0, x71_31, x71_32, x71_33, x71_35, x71_37_53, x71_37_55, x71_37_57, x71_37_59, x71_40, x71_43, x71_45_53, x71_45_55, x71_45_57, x71_45_59, x71_48, x71_51, x71_52, x71_53, x71_56, x71_57, x71_59_53, x71_59_55, x71_59_57, x71_59_59, x71_62, x71_64_53, x71_64_55, x71_64_57, x71_64_59, x71_67, x71_70, x71_71, x71_72, x71_75, x71_76, x71_78, x71_79, x71_81, x71_84, x71_87, x71_89, x71_91, x71_93, x71_96, x71_99, x71_100, x71_101, x71_104, x71_105, x71_107_53, x71_107_55, x71_107_57, x71_107_59, x71_110, x71_111, x71_113_53, x71_113_55, x71_113_57, x71_113_59, x71_116, x71_118, x71_120, x71_123, x71_124, gc_0, br_52, aa_52_0, aa_52_1, aa_52_2, aa_52_3, gc_53, gc_59, ↓reduceIte, zkl_i, zkl_r, zkl_n, zkl_z, zkl_l, Option.toList_some, Option.toList_none, List.cons_append, List.nil_append, zcs_0, zcs_i, zcs_l, zcs_r, zle8, true_and, and_true, true_or, or_true, c_below, c1, c2, i1_0, if_false, ixN_nI, nI_clamp, hz1, hz2, hf, if_true, c_holdsH, w1, c_found, v11]
          · have w2 : Hv (I 59 2) b c = 0 := by
              rw [t3]
              refine Hv0 t4 (fun z => ?_)
              obtain ⟨r, q, rfl, rfl, v2⟩ := z
              refine w1 ?_
              rw [s3]
              refine Hv0 s4 (fun z => ?_)
              obtain ⟨p, q', rfl, eq, v1⟩ := z
              exact hv ⟨p, r, q, rfl, rfl, rfl, by
                by_cases hq : q < 2 ^ 31
                · have : q = q' := (nI_eq hq (by omega)).mp eq
                  omega
                · omega, v2⟩
            simp (disch := first | assumption | omega | (simp (disch := omega) only [zr_n, zr_s]; assumption)) only [x71_0, x71_1, x71_2, x71_5, x71_8, x71_9, x71_10, x71_13, x71_16, x71_18, x71_19, x71_20_0, x71_23, x71_24, x71_25, x71_27, x71_28_0, x71_31, x71_32, x71_33, x71_35, x71_37_53, x71_37_55, x71_37_57, x71_37_59, x71_40, x71_43, x71_45_53, x71_45_55, x71_45_57, x71_45_59, x71_48, x71_51, x71_52, x71_53, x71_56, x71_57, x71_59_53, x71_59_55, x71_59_57, x71_59_59, x71_62, x71_64_53, x71_64_55, x71_64_57, x71_64_59, x71_67, x71_70, x71_71, x71_72, x71_75, x71_76, x71_78, x71_79, x71_81, x71_84, x71_87, x71_89, x71_91, x71_93, x71_96, x71_99, x71_100, x71_101, x71_104, x71_105, x71_107_53, x71_107_55, x71_107_57, x71_107_59, x71_110, x71_111, x71_113_53, x71_113_55, x71_113_57, x71_113_59, x71_116, x71_118, x71_120, x71_123, x71_124, gc_0, br_52, aa_52_0, aa_52_1, aa_52_2, aa_52_3, gc_53, gc_59, ↓reduceIte, zkl_i, zkl_r, zkl_n, zkl_z, zkl_l, Option.toList_some, Option.toList_none, List.cons_append, List.nil_append, zcs_0, zcs_i, zcs_l, zcs_r, zle8, true_and, and_true, true_or, or_true, c_below, c1, c2, i1_0, if_false, ixN_nI, nI_clamp, hz1, hz2, hf, if_true, c_holdsH, w1, w2, c_found, v11]
        · obtain ⟨-, o2, o3, o4, -⟩ := sh_0 h.1 hM
          obtain ⟨-, u2, u3, u4, -⟩ := sh_3 h.1 hM
          obtain ⟨o1, on⟩ := o4 hz1
          obtain ⟨u1, un⟩ := u4 hz2
          exact mc_index (by decide) (by decide) (by rw [o1]; exact on) (by rw [u1]; exact un) (o1.trans (hf.trans u1.symm)) (o2.trans s3) (u2.trans t3) s4 t4 hv
    · refine mkF (v := -14) (k := 4) h (fun Q => ?_) (fun M J hM Q => ?_)
      · first
          | exact absurd rfl hf
          | simp (disch := first | assumption | omega | (simp (disch := omega) only [zr_n, zr_s]; assumption)) only [x71_0, x71_1, x71_2, x71_5, x71_8, x71_9, x71_10, x71_13, x71_16, x71_18, x71_19, x71_20_0, x71_23, x71_24, x71_25, x71_27, x71_28_0, x71_31, x71_32, x71_33, x71_35, x71_37_53, x71_37_55, x71_37_57, x71_37_59, x71_40, x71_43, x71_45_53, x71_45_55, x71_45_57, x71_45_59, x71_48, x71_51, x71_52, x71_53, x71_56, x71_57, x71_59_53, x71_59_55, x71_59_57, x71_59_59, x71_62, x71_64_53, x71_64_55, x71_64_57, x71_64_59, x71_67, x71_70, x71_71, x71_72, x71_75, x71_76, x71_78, x71_79, x71_81, x71_84, x71_87, x71_89, x71_91, x71_93, x71_96, x71_99, x71_100, x71_101, x71_104, x71_105, x71_107_53, x71_107_55, x71_107_57, x71_107_59, x71_110, x71_111, x71_113_53, x71_113_55, x71_113_57, x71_113_59, x71_116, x71_118, x71_120, x71_123, x71_124, gc_0, br_52, aa_52_0, aa_52_1, aa_52_2, aa_52_3, gc_53, gc_59, ↓reduceIte, zkl_i, zkl_r, zkl_n, zkl_z, zkl_l, Option.toList_some, Option.toList_none, List.cons_append, List.nil_append, zcs_0, zcs_i, zcs_l, zcs_r, zle8, true_and, and_true, true_or, or_true, c_below, c1, c2, i1_0, if_false, ixN_nI, nI_clamp, hz1, hz2, hf, if_true, c_found, v11]
      · obtain ⟨o1, on⟩ := (sh_0 h.1 hM).2.2.2.1 hz1
        obtain ⟨u1, un⟩ := (sh_3 h.1 hM).2.2.2.1 hz2
        exact mc_store (by decide) (by decide) (by rw [o1]; exact on) (by rw [u1]; exact un) (fun z => hf (o1.symm.trans (z.trans u1)))
  · refine mkF (v := -11) (k := 1) h (fun Q => ?_) (fun M J hM Q => ?_)
    · by_cases z1 : I 53 0 = 0
      · have z2 : ¬ I 59 0 = 0 := fun z => hz ⟨z1, z⟩
        first
          | exact absurd z1 z2
          | simp (disch := first | assumption | omega | (simp (disch := omega) only [zr_n, zr_s]; assumption)) only [x71_0, x71_1, x71_2, x71_5, x71_8, x71_9, x71_10, x71_13, x71_16, x71_18, x71_19, x71_20_0, x71_23, x71_24, x71_25, x71_27, x71_28_0, x71_31, x71_32, x71_33, x71_35, x71_37_53, x71_37_55, x71_37_57, x71_37_59, x71_40, x71_43, x71_45_53, x71_45_55, x71_45_57, x71_45_59, x71_48, x71_51, x71_52, x71_53, x71_56, x71_57, x71_59_53, x71_59_55, x71_59_57, x71_59_59, x71_62, x71_64_53, x71_64_55, x71_64_57, x71_64_59, x71_67, x71_70, x71_71, x71_72, x71_75, x71_76, x71_78, x71_79, x71_81, x71_84, x71_87, x71_89, x71_91, x71_93, x71_96, x71_99, x71_100, x71_101, x71_104, x71_105, x71_107_53, x71_107_55, x71_107_57, x71_107_59, x71_110, x71_111, x71_113_53, x71_113_55, x71_113_57, x71_113_59, x71_116, x71_118, x71_120, x71_123, x71_124, gc_0, br_52, aa_52_0, aa_52_1, aa_52_2, aa_52_3, gc_53, gc_59, ↓reduceIte, zkl_i, zkl_r, zkl_n, zkl_z, zkl_l, Option.toList_some, Option.toList_none, List.cons_append, List.nil_append, zcs_0, zcs_i, zcs_l, zcs_r, zle8, true_and, and_true, true_or, or_true, c_below, c1, c2, i1_0, if_false, ixN_nI, nI_clamp, z1, z2, if_true, c_found, v11]
      · simp (disch := first | assumption | omega | (simp (disch := omega) only [zr_n, zr_s]; assumption)) only [x71_0, x71_1, x71_2, x71_5, x71_8, x71_9, x71_10, x71_13, x71_16, x71_18, x71_19, x71_20_0, x71_23, x71_24, x71_25, x71_27, x71_28_0, x71_31, x71_32, x71_33, x71_35, x71_37_53, x71_37_55, x71_37_57, x71_37_59, x71_40, x71_43, x71_45_53, x71_45_55, x71_45_57, x71_45_59, x71_48, x71_51, x71_52, x71_53, x71_56, x71_57, x71_59_53, x71_59_55, x71_59_57, x71_59_59, x71_62, x71_64_53, x71_64_55, x71_64_57, x71_64_59, x71_67, x71_70, x71_71, x71_72, x71_75, x71_76, x71_78, x71_79, x71_81, x71_84, x71_87, x71_89, x71_91, x71_93, x71_96, x71_99, x71_100, x71_101, x71_104, x71_105, x71_107_53, x71_107_55, x71_107_57, x71_107_59, x71_110, x71_111, x71_113_53, x71_113_55, x71_113_57, x71_113_59, x71_116, x71_118, x71_120, x71_123, x71_124, gc_0, br_52, aa_52_0, aa_52_1, aa_52_2, aa_52_3, gc_53, gc_59, ↓reduceIte, zkl_i, zkl_r, zkl_n, zkl_z, zkl_l, Option.toList_some, Option.toList_none, List.cons_append, List.nil_append, zcs_0, zcs_i, zcs_l, zcs_r, zle8, true_and, and_true, true_or, or_true, c_below, c1, c2, i1_0, if_false, ixN_nI, nI_clamp, z1, if_true, c_found, v11]
    · refine mc_null (by decide) (by decide) ?_
      by_cases z1 : I 53 0 = 0
      · have z2 : ¬ I 59 0 = 0 := fun z => hz ⟨z1, z⟩
        rw [(sh_3 h.1 hM).2.2.2.2 z2]
        exact Or.inr (by decide)
      · rw [(sh_0 h.1 hM).2.2.2.2 z1]
        exact Or.inl (by decide)
theorem k_copy_10 (h : Inv I) : KI xl 71 112 [.ref 0, .int (nI 1), .int a, .int (nI 0), .int b, .int c, .null, .null] [.ref 65, .int (nI 1), .int a, .int (nI 0), .int b, .int c, .null] I J := by
  have c1 : (if nI 1 < 0 then (0 : Int32) else if nI 1 < 4 then 1 else 0) = 1 := bl1 (n := 4) (by decide) (by decide)
  have c2 : (if nI 0 < 0 then (0 : Int32) else if nI 0 < 4 then 1 else 0) = 1 := bl1 (n := 4) (by decide) (by decide)
  obtain ⟨⟨s1, s2, s3, s4⟩, -⟩ := sh_1 h.1 h.2
  obtain ⟨⟨t1, t2, t3, t4⟩, -⟩ := sh_0 h.1 h.2
  by_cases hz : I 55 0 = 0 ∧ I 53 0 = 0
  · obtain ⟨hz1, hz2⟩ := hz
    by_cases hf : I 55 1 = I 53 1
    · by_cases hv : ∃ p r q, a = nI p ∧ b = nI r ∧ c = nI q ∧ p + q ≤ tn (I 55 2) ∧ r + q ≤ tn (I 53 2)
      · obtain ⟨p, r, q, rfl, rfl, rfl, v1, v2⟩ := hv
        have w1 : Hv (I 55 2) (nI p) (nI q) = 1 := by rw [s3]; exact Hv1 s4 v1
        have w2 : Hv (I 53 2) (nI r) (nI q) = 1 := by rw [t3]; exact Hv1 t4 v2
        have hcp : zcp (zG xl) 56 54 (nI p) (nI r) (nI q) := ⟨ak_56, ak_54, nI_pos (by omega), nI_pos (by omega), nI_pos (by omega), by rw [al_56, nI_clamp (by omega), nI_clamp (by omega)]; omega, by rw [al_54, nI_clamp (by omega), nI_clamp (by omega)]; omega⟩
        refine mkU (v := 1) (I1 := zr I 54 (va_cpy (I 56) (I 54) p r q)) h (fun Q => ?_) (RC_sh h.1 (fun c c1 c2 => zr_n (by omega)) (zr_n (by decide)) (fun s hs => by rw [zr_n (by omega)]; exact h.1.2.2.1 s hs)) (fun c hc => zr_n (by omega)) (fun M J hM => ?_)
        · simp (disch := first | assumption | omega | (simp (disch := omega) only [zr_n, zr_s]; assumption)) only [x71_0, x71_1, x71_2, x71_5, x71_8, x71_9, x71_10, x71_13, x71_16, x71_18, x71_19, x71_20_0, x71_23, x71_24, x71_25, x71_27, x71_28_0, x71_31, x71_32, x71_33, x71_35, x71_37_53, x71_37_55, x71_37_57, x71_37_59, x71_40, x71_43, x71_45_53, x71_45_55, x71_45_57, x71_45_59, x71_48, x71_51, x71_52, x71_53, x71_56, x71_57, x71_59_53, x71_59_55, x71_59_57, x71_59_59, x71_62, x71_64_53, x71_64_55, x71_64_57, x71_64_59, x71_67, x71_70, x71_71, x71_72, x71_75, x71_76, x71_78, x71_79, x71_81, x71_84, x71_87, x71_89, x71_91, x71_93, x71_96, x71_99, x71_100, x71_101, x71_104, x71_105, x71_107_53, x71_107_55, x71_107_57, x71_107_59, x71_110, x71_111, x71_113_53, x71_113_55, x71_113_57, x71_113_59, x71_116, x71_118, x71_120, x71_123, x71_124, gc_0, br_52, aa_52_0, aa_52_1, aa_52_2, aa_52_3, gc_55, gc_53, ↓reduceIte, zkl_i, zkl_r, zkl_n, zkl_z, zkl_l, Option.toList_some, Option.toList_none, List.cons_append, List.nil_append, zcs_0, zcs_i, zcs_l, zcs_r, zle8, true_and, and_true, true_or, or_true, c_below, c1, c2, i1_0, if_false, ixN_nI, nI_clamp, hz1, hz2, hf, if_true, c_holdsH, w1, w2, hcp]
        · obtain ⟨-, o2, o3, o4, -⟩ := sh_1 h.1 hM
          obtain ⟨-, u2, u3, u4, -⟩ := sh_0 h.1 hM
          obtain ⟨o1, on⟩ := o4 hz1
          obtain ⟨u1, un⟩ := u4 hz2
          obtain ⟨M', g1, g2, g3, g4⟩ := mc_ok (xl := xl) (J := J) (M := M) (s := 1) (t := 0) (p := p) (r := r) (q := q) (by decide) (by decide) (by rw [o1]; exact on) (by rw [u1]; exact un) (o1.trans (hf.trans u1.symm)) (o2.trans s3) (u2.trans t3) s4 t4 v1 v2
          refine ⟨M', g1, RM_sh hM (fun c c1 c2 => zr_n (by omega)) (by rw [g2 65 (by decide) (by decide), zr_n (by decide)]; exact hM.2.2.2.2.2.2) (SHm_0 h.1 hM (fun c c1 c2 c3 c4 => zr_n c4) (fun s e => by rw [g2 66 (by decide) (by decide)]) (fun s e => by rw [g2 67 (by decide) (by decide)]) (fun j e => g4 j (by omega)) ?_ ?_ ?_) (g2 70 (by decide) (by decide)) (g2 71 (by decide) (by decide)) (g2 75 (by decide) (by decide)) (g2 87 (by decide) (by decide)) (fun j hj => by rw [g2 65 (by decide) (by decide)]), fun c hc => g2 c (by omega) (by omega)⟩
          · rw [g2 66 (by decide) (by decide), zr_n (by decide), if_pos hz2]; exact u1
          · rw [g2 67 (by decide) (by decide), zr_n (by decide)]; exact u2
          · rw [zr_n (show 53 ≠ 54 by decide), zr_s]
            intro j hj
            by_cases e : r ≤ j ∧ j < r + q
            · obtain ⟨e1, e2⟩ := e
              rw [pk_cpy_in e1 e2]
              have := g3 (j - r) (by omega)
              rw [show 60 * 0 + r + (j - r) = 60 * 0 + j by omega, show 60 * 1 + p + (j - r) = 60 * 1 + (p + (j - r)) by omega, o3 _ (by omega)] at this
              exact this
            · rw [pk_cpy_out (by omega), g4 _ (by omega)]
              exact u3 j hj
      · refine mkF (v := -12) (k := 2) h (fun Q => ?_) (fun M J hM Q => ?_)
        · by_cases w1 : Hv (I 55 2) a c = 0
          · simp (disch := first | assumption | omega | (simp (disch := omega) only [zr_n, zr_s]; assumption)) only [x71_0, x71_1, x71_2, x71_5, x71_8, x71_9, x71_10, x71_13, x71_16, x71_18, x71_19, x71_20_0, x71_23, x71_24, x71_25, x71_27, x71_28_0, x71_31, x71_32, x71_33, x71_35, x71_37_53, x71_37_55, x71_37_57, x71_37_59, x71_40, x71_43, x71_45_53, x71_45_55, x71_45_57, x71_45_59, x71_48, x71_51, x71_52, x71_53, x71_56, x71_57, x71_59_53, x71_59_55, x71_59_57, x71_59_59, x71_62, x71_64_53, x71_64_55, x71_64_57, x71_64_59, x71_67, x71_70, x71_71, x71_72, x71_75, x71_76, x71_78, x71_79, x71_81, x71_84, x71_87, x71_89, x71_91, x71_93, x71_96, x71_99, x71_100, x71_101, x71_104, x71_105, x71_107_53, x71_107_55, x71_107_57, x71_107_59, x71_110, x71_111, x71_113_53, x71_113_55, x71_113_57, x71_113_59, x71_116, x71_118, x71_120, x71_123, x71_124, gc_0, br_52, aa_52_0, aa_52_1, aa_52_2, aa_52_3, gc_55, gc_53, ↓reduceIte, zkl_i, zkl_r, zkl_n, zkl_z, zkl_l, Option.toList_some, Option.toList_none, List.cons_append, List.nil_append, zcs_0, zcs_i, zcs_l, zcs_r, zle8, true_and, and_true, true_or, or_true, c_below, c1, c2, i1_0, if_false, ixN_nI, nI_clamp, hz1, hz2, hf, if_true, c_holdsH, w1, c_found, v11]
          · have w2 : Hv (I 53 2) b c = 0 := by
              rw [t3]
              refine Hv0 t4 (fun z => ?_)
              obtain ⟨r, q, rfl, rfl, v2⟩ := z
              refine w1 ?_
              rw [s3]
              refine Hv0 s4 (fun z => ?_)
              obtain ⟨p, q', rfl, eq, v1⟩ := z
              exact hv ⟨p, r, q, rfl, rfl, rfl, by
                by_cases hq : q < 2 ^ 31
                · have : q = q' := (nI_eq hq (by omega)).mp eq
                  omega
                · omega, v2⟩
            simp (disch := first | assumption | omega | (simp (disch := omega) only [zr_n, zr_s]; assumption)) only [x71_0, x71_1, x71_2, x71_5, x71_8, x71_9, x71_10, x71_13, x71_16, x71_18, x71_19, x71_20_0, x71_23, x71_24, x71_25, x71_27, x71_28_0, x71_31, x71_32, x71_33, x71_35, x71_37_53, x71_37_55, x71_37_57, x71_37_59, x71_40, x71_43, x71_45_53, x71_45_55, x71_45_57, x71_45_59, x71_48, x71_51, x71_52, x71_53, x71_56, x71_57, x71_59_53, x71_59_55, x71_59_57, x71_59_59, x71_62, x71_64_53, x71_64_55, x71_64_57, x71_64_59, x71_67, x71_70, x71_71, x71_72, x71_75, x71_76, x71_78, x71_79, x71_81, x71_84, x71_87, x71_89, x71_91, x71_93, x71_96, x71_99, x71_100, x71_101, x71_104, x71_105, x71_107_53, x71_107_55, x71_107_57, x71_107_59, x71_110, x71_111, x71_113_53, x71_113_55, x71_113_57, x71_113_59, x71_116, x71_118, x71_120, x71_123, x71_124, gc_0, br_52, aa_52_0, aa_52_1, aa_52_2, aa_52_3, gc_55, gc_53, ↓reduceIte, zkl_i, zkl_r, zkl_n, zkl_z, zkl_l, Option.toList_some, Option.toList_none, List.cons_append, List.nil_append, zcs_0, zcs_i, zcs_l, zcs_r, zle8, true_and, and_true, true_or, or_true, c_below, c1, c2, i1_0, if_false, ixN_nI, nI_clamp, hz1, hz2, hf, if_true, c_holdsH, w1, w2, c_found, v11]
        · obtain ⟨-, o2, o3, o4, -⟩ := sh_1 h.1 hM
          obtain ⟨-, u2, u3, u4, -⟩ := sh_0 h.1 hM
          obtain ⟨o1, on⟩ := o4 hz1
          obtain ⟨u1, un⟩ := u4 hz2
          exact mc_index (by decide) (by decide) (by rw [o1]; exact on) (by rw [u1]; exact un) (o1.trans (hf.trans u1.symm)) (o2.trans s3) (u2.trans t3) s4 t4 hv
    · refine mkF (v := -14) (k := 4) h (fun Q => ?_) (fun M J hM Q => ?_)
      · first
          | exact absurd rfl hf
          | simp (disch := first | assumption | omega | (simp (disch := omega) only [zr_n, zr_s]; assumption)) only [x71_0, x71_1, x71_2, x71_5, x71_8, x71_9, x71_10, x71_13, x71_16, x71_18, x71_19, x71_20_0, x71_23, x71_24, x71_25, x71_27, x71_28_0, x71_31, x71_32, x71_33, x71_35, x71_37_53, x71_37_55, x71_37_57, x71_37_59, x71_40, x71_43, x71_45_53, x71_45_55, x71_45_57, x71_45_59, x71_48, x71_51, x71_52, x71_53, x71_56, x71_57, x71_59_53, x71_59_55, x71_59_57, x71_59_59, x71_62, x71_64_53, x71_64_55, x71_64_57, x71_64_59, x71_67, x71_70, x71_71, x71_72, x71_75, x71_76, x71_78, x71_79, x71_81, x71_84, x71_87, x71_89, x71_91, x71_93, x71_96, x71_99, x71_100, x71_101, x71_104, x71_105, x71_107_53, x71_107_55, x71_107_57, x71_107_59, x71_110, x71_111, x71_113_53, x71_113_55, x71_113_57, x71_113_59, x71_116, x71_118, x71_120, x71_123, x71_124, gc_0, br_52, aa_52_0, aa_52_1, aa_52_2, aa_52_3, gc_55, gc_53, ↓reduceIte, zkl_i, zkl_r, zkl_n, zkl_z, zkl_l, Option.toList_some, Option.toList_none, List.cons_append, List.nil_append, zcs_0, zcs_i, zcs_l, zcs_r, zle8, true_and, and_true, true_or, or_true, c_below, c1, c2, i1_0, if_false, ixN_nI, nI_clamp, hz1, hz2, hf, if_true, c_found, v11]
      · obtain ⟨o1, on⟩ := (sh_1 h.1 hM).2.2.2.1 hz1
        obtain ⟨u1, un⟩ := (sh_0 h.1 hM).2.2.2.1 hz2
        exact mc_store (by decide) (by decide) (by rw [o1]; exact on) (by rw [u1]; exact un) (fun z => hf (o1.symm.trans (z.trans u1)))
  · refine mkF (v := -11) (k := 1) h (fun Q => ?_) (fun M J hM Q => ?_)
    · by_cases z1 : I 55 0 = 0
      · have z2 : ¬ I 53 0 = 0 := fun z => hz ⟨z1, z⟩
        first
          | exact absurd z1 z2
          | simp (disch := first | assumption | omega | (simp (disch := omega) only [zr_n, zr_s]; assumption)) only [x71_0, x71_1, x71_2, x71_5, x71_8, x71_9, x71_10, x71_13, x71_16, x71_18, x71_19, x71_20_0, x71_23, x71_24, x71_25, x71_27, x71_28_0, x71_31, x71_32, x71_33, x71_35, x71_37_53, x71_37_55, x71_37_57, x71_37_59, x71_40, x71_43, x71_45_53, x71_45_55, x71_45_57, x71_45_59, x71_48, x71_51, x71_52, x71_53, x71_56, x71_57, x71_59_53, x71_59_55, x71_59_57, x71_59_59, x71_62, x71_64_53, x71_64_55, x71_64_57, x71_64_59, x71_67, x71_70, x71_71, x71_72, x71_75, x71_76, x71_78, x71_79, x71_81, x71_84, x71_87, x71_89, x71_91, x71_93, x71_96, x71_99, x71_100, x71_101, x71_104, x71_105, x71_107_53, x71_107_55, x71_107_57, x71_107_59, x71_110, x71_111, x71_113_53, x71_113_55, x71_113_57, x71_113_59, x71_116, x71_118, x71_120, x71_123, x71_124, gc_0, br_52, aa_52_0, aa_52_1, aa_52_2, aa_52_3, gc_55, gc_53, ↓reduceIte, zkl_i, zkl_r, zkl_n, zkl_z, zkl_l, Option.toList_some, Option.toList_none, List.cons_append, List.nil_append, zcs_0, zcs_i, zcs_l, zcs_r, zle8, true_and, and_true, true_or, or_true, c_below, c1, c2, i1_0, if_false, ixN_nI, nI_clamp, z1, z2, if_true, c_found, v11]
      · simp (disch := first | assumption | omega | (simp (disch := omega) only [zr_n, zr_s]; assumption)) only [x71_0, x71_1, x71_2, x71_5, x71_8, x71_9, x71_10, x71_13, x71_16, x71_18, x71_19, x71_20_0, x71_23, x71_24, x71_25, x71_27, x71_28_0, x71_31, x71_32, x71_33, x71_35, x71_37_53, x71_37_55, x71_37_57, x71_37_59, x71_40, x71_43, x71_45_53, x71_45_55, x71_45_57, x71_45_59, x71_48, x71_51, x71_52, x71_53, x71_56, x71_57, x71_59_53, x71_59_55, x71_59_57, x71_59_59, x71_62, x71_64_53, x71_64_55, x71_64_57, x71_64_59, x71_67, x71_70, x71_71, x71_72, x71_75, x71_76, x71_78, x71_79, x71_81, x71_84, x71_87, x71_89, x71_91, x71_93, x71_96, x71_99, x71_100, x71_101, x71_104, x71_105, x71_107_53, x71_107_55, x71_107_57, x71_107_59, x71_110, x71_111, x71_113_53, x71_113_55, x71_113_57, x71_113_59, x71_116, x71_118, x71_120, x71_123, x71_124, gc_0, br_52, aa_52_0, aa_52_1, aa_52_2, aa_52_3, gc_55, gc_53, ↓reduceIte, zkl_i, zkl_r, zkl_n, zkl_z, zkl_l, Option.toList_some, Option.toList_none, List.cons_append, List.nil_append, zcs_0, zcs_i, zcs_l, zcs_r, zle8, true_and, and_true, true_or, or_true, c_below, c1, c2, i1_0, if_false, ixN_nI, nI_clamp, z1, if_true, c_found, v11]
    · refine mc_null (by decide) (by decide) ?_
      by_cases z1 : I 55 0 = 0
      · have z2 : ¬ I 53 0 = 0 := fun z => hz ⟨z1, z⟩
        rw [(sh_0 h.1 hM).2.2.2.2 z2]
        exact Or.inr (by decide)
      · rw [(sh_1 h.1 hM).2.2.2.2 z1]
        exact Or.inl (by decide)
theorem k_copy_11 (h : Inv I) : KI xl 71 112 [.ref 0, .int (nI 1), .int a, .int (nI 1), .int b, .int c, .null, .null] [.ref 65, .int (nI 1), .int a, .int (nI 1), .int b, .int c, .null] I J := by
  have c1 : (if nI 1 < 0 then (0 : Int32) else if nI 1 < 4 then 1 else 0) = 1 := bl1 (n := 4) (by decide) (by decide)
  have c2 : (if nI 1 < 0 then (0 : Int32) else if nI 1 < 4 then 1 else 0) = 1 := bl1 (n := 4) (by decide) (by decide)
  obtain ⟨⟨s1, s2, s3, s4⟩, -⟩ := sh_1 h.1 h.2
  obtain ⟨⟨t1, t2, t3, t4⟩, -⟩ := sh_1 h.1 h.2
  by_cases hz : I 55 0 = 0 ∧ I 55 0 = 0
  · obtain ⟨hz1, hz2⟩ := hz
    by_cases hf : I 55 1 = I 55 1
    · by_cases hv : ∃ p r q, a = nI p ∧ b = nI r ∧ c = nI q ∧ p + q ≤ tn (I 55 2) ∧ r + q ≤ tn (I 55 2)
      · obtain ⟨p, r, q, rfl, rfl, rfl, v1, v2⟩ := hv
        have w1 : Hv (I 55 2) (nI p) (nI q) = 1 := by rw [s3]; exact Hv1 s4 v1
        have w2 : Hv (I 55 2) (nI r) (nI q) = 1 := by rw [t3]; exact Hv1 t4 v2
        have hcp : zcp (zG xl) 56 56 (nI p) (nI r) (nI q) := ⟨ak_56, ak_56, nI_pos (by omega), nI_pos (by omega), nI_pos (by omega), by rw [al_56, nI_clamp (by omega), nI_clamp (by omega)]; omega, by rw [al_56, nI_clamp (by omega), nI_clamp (by omega)]; omega⟩
        refine mkU (v := 1) (I1 := zr I 56 (va_cpy (I 56) (I 56) p r q)) h (fun Q => ?_) (RC_sh h.1 (fun c c1 c2 => zr_n (by omega)) (zr_n (by decide)) (fun s hs => by rw [zr_n (by omega)]; exact h.1.2.2.1 s hs)) (fun c hc => zr_n (by omega)) (fun M J hM => ?_)
        · simp (disch := first | assumption | omega | (simp (disch := omega) only [zr_n, zr_s]; assumption)) only [x71_0, x71_1, x71_2, x71_5, x71_8, x71_9, x71_10, x71_13, x71_16, x71_18, x71_19, x71_20_0, x71_23, x71_24, x71_25, x71_27, x71_28_0, x71_31, x71_32, x71_33, x71_35, x71_37_53, x71_37_55, x71_37_57, x71_37_59, x71_40, x71_43, x71_45_53, x71_45_55, x71_45_57, x71_45_59, x71_48, x71_51, x71_52, x71_53, x71_56, x71_57, x71_59_53, x71_59_55, x71_59_57, x71_59_59, x71_62, x71_64_53, x71_64_55, x71_64_57, x71_64_59, x71_67, x71_70, x71_71, x71_72, x71_75, x71_76, x71_78, x71_79, x71_81, x71_84, x71_87, x71_89, x71_91, x71_93, x71_96, x71_99, x71_100, x71_101, x71_104, x71_105, x71_107_53, x71_107_55, x71_107_57, x71_107_59, x71_110, x71_111, x71_113_53, x71_113_55, x71_113_57, x71_113_59, x71_116, x71_118, x71_120, x71_123, x71_124, gc_0, br_52, aa_52_0, aa_52_1, aa_52_2, aa_52_3, gc_55, gc_55, ↓reduceIte, zkl_i, zkl_r, zkl_n, zkl_z, zkl_l, Option.toList_some, Option.toList_none, List.cons_append, List.nil_append, zcs_0, zcs_i, zcs_l, zcs_r, zle8, true_and, and_true, true_or, or_true, c_below, c1, c2, i1_0, if_false, ixN_nI, nI_clamp, hz1, hz2, hf, if_true, c_holdsH, w1, w2, hcp]
        · obtain ⟨-, o2, o3, o4, -⟩ := sh_1 h.1 hM
          obtain ⟨-, u2, u3, u4, -⟩ := sh_1 h.1 hM
          obtain ⟨o1, on⟩ := o4 hz1
          obtain ⟨u1, un⟩ := u4 hz2
          obtain ⟨M', g1, g2, g3, g4⟩ := mc_ok (xl := xl) (J := J) (M := M) (s := 1) (t := 1) (p := p) (r := r) (q := q) (by decide) (by decide) (by rw [o1]; exact on) (by rw [u1]; exact un) (o1.trans (hf.trans u1.symm)) (o2.trans s3) (u2.trans t3) s4 t4 v1 v2
          refine ⟨M', g1, RM_sh hM (fun c c1 c2 => zr_n (by omega)) (by rw [g2 65 (by decide) (by decide), zr_n (by decide)]; exact hM.2.2.2.2.2.2) (SHm_1 h.1 hM (fun c c1 c2 c3 c4 => zr_n c4) (fun s e => by rw [g2 66 (by decide) (by decide)]) (fun s e => by rw [g2 67 (by decide) (by decide)]) (fun j e => g4 j (by omega)) ?_ ?_ ?_) (g2 70 (by decide) (by decide)) (g2 71 (by decide) (by decide)) (g2 75 (by decide) (by decide)) (g2 87 (by decide) (by decide)) (fun j hj => by rw [g2 65 (by decide) (by decide)]), fun c hc => g2 c (by omega) (by omega)⟩
          · rw [g2 66 (by decide) (by decide), zr_n (by decide), if_pos hz2]; exact u1
          · rw [g2 67 (by decide) (by decide), zr_n (by decide)]; exact u2
          · rw [zr_n (show 55 ≠ 56 by decide), zr_s]
            intro j hj
            by_cases e : r ≤ j ∧ j < r + q
            · obtain ⟨e1, e2⟩ := e
              rw [pk_cpy_in e1 e2]
              have := g3 (j - r) (by omega)
              rw [show 60 * 1 + r + (j - r) = 60 * 1 + j by omega, show 60 * 1 + p + (j - r) = 60 * 1 + (p + (j - r)) by omega, o3 _ (by omega)] at this
              exact this
            · rw [pk_cpy_out (by omega), g4 _ (by omega)]
              exact u3 j hj
      · refine mkF (v := -12) (k := 2) h (fun Q => ?_) (fun M J hM Q => ?_)
        · by_cases w1 : Hv (I 55 2) a c = 0
          · simp (disch := first | assumption | omega | (simp (disch := omega) only [zr_n, zr_s]; assumption)) only [x71_0, x71_1, x71_2, x71_5, x71_8, x71_9, x71_10, x71_13, x71_16, x71_18, x71_19, x71_20_0, x71_23, x71_24, x71_25, x71_27, x71_28_0, x71_31, x71_32, x71_33, x71_35, x71_37_53, x71_37_55, x71_37_57, x71_37_59, x71_40, x71_43, x71_45_53, x71_45_55, x71_45_57, x71_45_59, x71_48, x71_51, x71_52, x71_53, x71_56, x71_57, x71_59_53, x71_59_55, x71_59_57, x71_59_59, x71_62, x71_64_53, x71_64_55, x71_64_57, x71_64_59, x71_67, x71_70, x71_71, x71_72, x71_75, x71_76, x71_78, x71_79, x71_81, x71_84, x71_87, x71_89, x71_91, x71_93, x71_96, x71_99, x71_100, x71_101, x71_104, x71_105, x71_107_53, x71_107_55, x71_107_57, x71_107_59, x71_110, x71_111, x71_113_53, x71_113_55, x71_113_57, x71_113_59, x71_116, x71_118, x71_120, x71_123, x71_124, gc_0, br_52, aa_52_0, aa_52_1, aa_52_2, aa_52_3, gc_55, gc_55, ↓reduceIte, zkl_i, zkl_r, zkl_n, zkl_z, zkl_l, Option.toList_some, Option.toList_none, List.cons_append, List.nil_append, zcs_0, zcs_i, zcs_l, zcs_r, zle8, true_and, and_true, true_or, or_true, c_below, c1, c2, i1_0, if_false, ixN_nI, nI_clamp, hz1, hz2, hf, if_true, c_holdsH, w1, c_found, v11]
          · have w2 : Hv (I 55 2) b c = 0 := by
              rw [t3]
              refine Hv0 t4 (fun z => ?_)
              obtain ⟨r, q, rfl, rfl, v2⟩ := z
              refine w1 ?_
              rw [s3]
              refine Hv0 s4 (fun z => ?_)
              obtain ⟨p, q', rfl, eq, v1⟩ := z
              exact hv ⟨p, r, q, rfl, rfl, rfl, by
                by_cases hq : q < 2 ^ 31
                · have : q = q' := (nI_eq hq (by omega)).mp eq
                  omega
                · omega, v2⟩
            simp (disch := first | assumption | omega | (simp (disch := omega) only [zr_n, zr_s]; assumption)) only [x71_0, x71_1, x71_2, x71_5, x71_8, x71_9, x71_10, x71_13, x71_16, x71_18, x71_19, x71_20_0, x71_23, x71_24, x71_25, x71_27, x71_28_0, x71_31, x71_32, x71_33, x71_35, x71_37_53, x71_37_55, x71_37_57, x71_37_59, x71_40, x71_43, x71_45_53, x71_45_55, x71_45_57, x71_45_59, x71_48, x71_51, x71_52, x71_53, x71_56, x71_57, x71_59_53, x71_59_55, x71_59_57, x71_59_59, x71_62, x71_64_53, x71_64_55, x71_64_57, x71_64_59, x71_67, x71_70, x71_71, x71_72, x71_75, x71_76, x71_78, x71_79, x71_81, x71_84, x71_87, x71_89, x71_91, x71_93, x71_96, x71_99, x71_100, x71_101, x71_104, x71_105, x71_107_53, x71_107_55, x71_107_57, x71_107_59, x71_110, x71_111, x71_113_53, x71_113_55, x71_113_57, x71_113_59, x71_116, x71_118, x71_120, x71_123, x71_124, gc_0, br_52, aa_52_0, aa_52_1, aa_52_2, aa_52_3, gc_55, gc_55, ↓reduceIte, zkl_i, zkl_r, zkl_n, zkl_z, zkl_l, Option.toList_some, Option.toList_none, List.cons_append, List.nil_append, zcs_0, zcs_i, zcs_l, zcs_r, zle8, true_and, and_true, true_or, or_true, c_below, c1, c2, i1_0, if_false, ixN_nI, nI_clamp, hz1, hz2, hf, if_true, c_holdsH, w1, w2, c_found, v11]
        · obtain ⟨-, o2, o3, o4, -⟩ := sh_1 h.1 hM
          obtain ⟨-, u2, u3, u4, -⟩ := sh_1 h.1 hM
          obtain ⟨o1, on⟩ := o4 hz1
          obtain ⟨u1, un⟩ := u4 hz2
          exact mc_index (by decide) (by decide) (by rw [o1]; exact on) (by rw [u1]; exact un) (o1.trans (hf.trans u1.symm)) (o2.trans s3) (u2.trans t3) s4 t4 hv
    · refine mkF (v := -14) (k := 4) h (fun Q => ?_) (fun M J hM Q => ?_)
      · first
          | exact absurd rfl hf
          | simp (disch := first | assumption | omega | (simp (disch := omega) only [zr_n, zr_s]; assumption)) only [x71_0, x71_1, x71_2, x71_5, x71_8, x71_9, x71_10, x71_13, x71_16, x71_18, x71_19, x71_20_0, x71_23, x71_24, x71_25, x71_27, x71_28_0, x71_31, x71_32, x71_33, x71_35, x71_37_53, x71_37_55, x71_37_57, x71_37_59, x71_40, x71_43, x71_45_53, x71_45_55, x71_45_57, x71_45_59, x71_48, x71_51, x71_52, x71_53, x71_56, x71_57, x71_59_53, x71_59_55, x71_59_57, x71_59_59, x71_62, x71_64_53, x71_64_55, x71_64_57, x71_64_59, x71_67, x71_70, x71_71, x71_72, x71_75, x71_76, x71_78, x71_79, x71_81, x71_84, x71_87, x71_89, x71_91, x71_93, x71_96, x71_99, x71_100, x71_101, x71_104, x71_105, x71_107_53, x71_107_55, x71_107_57, x71_107_59, x71_110, x71_111, x71_113_53, x71_113_55, x71_113_57, x71_113_59, x71_116, x71_118, x71_120, x71_123, x71_124, gc_0, br_52, aa_52_0, aa_52_1, aa_52_2, aa_52_3, gc_55, gc_55, ↓reduceIte, zkl_i, zkl_r, zkl_n, zkl_z, zkl_l, Option.toList_some, Option.toList_none, List.cons_append, List.nil_append, zcs_0, zcs_i, zcs_l, zcs_r, zle8, true_and, and_true, true_or, or_true, c_below, c1, c2, i1_0, if_false, ixN_nI, nI_clamp, hz1, hz2, hf, if_true, c_found, v11]
      · obtain ⟨o1, on⟩ := (sh_1 h.1 hM).2.2.2.1 hz1
        obtain ⟨u1, un⟩ := (sh_1 h.1 hM).2.2.2.1 hz2
        exact mc_store (by decide) (by decide) (by rw [o1]; exact on) (by rw [u1]; exact un) (fun z => hf (o1.symm.trans (z.trans u1)))
  · refine mkF (v := -11) (k := 1) h (fun Q => ?_) (fun M J hM Q => ?_)
    · by_cases z1 : I 55 0 = 0
      · have z2 : ¬ I 55 0 = 0 := fun z => hz ⟨z1, z⟩
        first
          | exact absurd z1 z2
          | simp (disch := first | assumption | omega | (simp (disch := omega) only [zr_n, zr_s]; assumption)) only [x71_0, x71_1, x71_2, x71_5, x71_8, x71_9, x71_10, x71_13, x71_16, x71_18, x71_19, x71_20_0, x71_23, x71_24, x71_25, x71_27, x71_28_0, x71_31, x71_32, x71_33, x71_35, x71_37_53, x71_37_55, x71_37_57, x71_37_59, x71_40, x71_43, x71_45_53, x71_45_55, x71_45_57, x71_45_59, x71_48, x71_51, x71_52, x71_53, x71_56, x71_57, x71_59_53, x71_59_55, x71_59_57, x71_59_59, x71_62, x71_64_53, x71_64_55, x71_64_57, x71_64_59, x71_67, x71_70, x71_71, x71_72, x71_75, x71_76, x71_78, x71_79, x71_81, x71_84, x71_87, x71_89, x71_91, x71_93, x71_96, x71_99, x71_100, x71_101, x71_104, x71_105, x71_107_53, x71_107_55, x71_107_57, x71_107_59, x71_110, x71_111, x71_113_53, x71_113_55, x71_113_57, x71_113_59, x71_116, x71_118, x71_120, x71_123, x71_124, gc_0, br_52, aa_52_0, aa_52_1, aa_52_2, aa_52_3, gc_55, gc_55, ↓reduceIte, zkl_i, zkl_r, zkl_n, zkl_z, zkl_l, Option.toList_some, Option.toList_none, List.cons_append, List.nil_append, zcs_0, zcs_i, zcs_l, zcs_r, zle8, true_and, and_true, true_or, or_true, c_below, c1, c2, i1_0, if_false, ixN_nI, nI_clamp, z1, z2, if_true, c_found, v11]
      · simp (disch := first | assumption | omega | (simp (disch := omega) only [zr_n, zr_s]; assumption)) only [x71_0, x71_1, x71_2, x71_5, x71_8, x71_9, x71_10, x71_13, x71_16, x71_18, x71_19, x71_20_0, x71_23, x71_24, x71_25, x71_27, x71_28_0, x71_31, x71_32, x71_33, x71_35, x71_37_53, x71_37_55, x71_37_57, x71_37_59, x71_40, x71_43, x71_45_53, x71_45_55, x71_45_57, x71_45_59, x71_48, x71_51, x71_52, x71_53, x71_56, x71_57, x71_59_53, x71_59_55, x71_59_57, x71_59_59, x71_62, x71_64_53, x71_64_55, x71_64_57, x71_64_59, x71_67, x71_70, x71_71, x71_72, x71_75, x71_76, x71_78, x71_79, x71_81, x71_84, x71_87, x71_89, x71_91, x71_93, x71_96, x71_99, x71_100, x71_101, x71_104, x71_105, x71_107_53, x71_107_55, x71_107_57, x71_107_59, x71_110, x71_111, x71_113_53, x71_113_55, x71_113_57, x71_113_59, x71_116, x71_118, x71_120, x71_123, x71_124, gc_0, br_52, aa_52_0, aa_52_1, aa_52_2, aa_52_3, gc_55, gc_55, ↓reduceIte, zkl_i, zkl_r, zkl_n, zkl_z, zkl_l, Option.toList_some, Option.toList_none, List.cons_append, List.nil_append, zcs_0, zcs_i, zcs_l, zcs_r, zle8, true_and, and_true, true_or, or_true, c_below, c1, c2, i1_0, if_false, ixN_nI, nI_clamp, z1, if_true, c_found, v11]
    · refine mc_null (by decide) (by decide) ?_
      by_cases z1 : I 55 0 = 0
      · have z2 : ¬ I 55 0 = 0 := fun z => hz ⟨z1, z⟩
        rw [(sh_1 h.1 hM).2.2.2.2 z2]
        exact Or.inr (by decide)
      · rw [(sh_1 h.1 hM).2.2.2.2 z1]
        exact Or.inl (by decide)
theorem k_copy_12 (h : Inv I) : KI xl 71 112 [.ref 0, .int (nI 1), .int a, .int (nI 2), .int b, .int c, .null, .null] [.ref 65, .int (nI 1), .int a, .int (nI 2), .int b, .int c, .null] I J := by
  have c1 : (if nI 1 < 0 then (0 : Int32) else if nI 1 < 4 then 1 else 0) = 1 := bl1 (n := 4) (by decide) (by decide)
  have c2 : (if nI 2 < 0 then (0 : Int32) else if nI 2 < 4 then 1 else 0) = 1 := bl1 (n := 4) (by decide) (by decide)
  obtain ⟨⟨s1, s2, s3, s4⟩, -⟩ := sh_1 h.1 h.2
  obtain ⟨⟨t1, t2, t3, t4⟩, -⟩ := sh_2 h.1 h.2
  by_cases hz : I 55 0 = 0 ∧ I 57 0 = 0
  · obtain ⟨hz1, hz2⟩ := hz
    by_cases hf : I 55 1 = I 57 1
    · by_cases hv : ∃ p r q, a = nI p ∧ b = nI r ∧ c = nI q ∧ p + q ≤ tn (I 55 2) ∧ r + q ≤ tn (I 57 2)
      · obtain ⟨p, r, q, rfl, rfl, rfl, v1, v2⟩ := hv
        have w1 : Hv (I 55 2) (nI p) (nI q) = 1 := by rw [s3]; exact Hv1 s4 v1
        have w2 : Hv (I 57 2) (nI r) (nI q) = 1 := by rw [t3]; exact Hv1 t4 v2
        have hcp : zcp (zG xl) 56 58 (nI p) (nI r) (nI q) := ⟨ak_56, ak_58, nI_pos (by omega), nI_pos (by omega), nI_pos (by omega), by rw [al_56, nI_clamp (by omega), nI_clamp (by omega)]; omega, by rw [al_58, nI_clamp (by omega), nI_clamp (by omega)]; omega⟩
        refine mkU (v := 1) (I1 := zr I 58 (va_cpy (I 56) (I 58) p r q)) h (fun Q => ?_) (RC_sh h.1 (fun c c1 c2 => zr_n (by omega)) (zr_n (by decide)) (fun s hs => by rw [zr_n (by omega)]; exact h.1.2.2.1 s hs)) (fun c hc => zr_n (by omega)) (fun M J hM => ?_)
        · simp (disch := first | assumption | omega | (simp (disch := omega) only [zr_n, zr_s]; assumption)) only [x71_0, x71_1, x71_2, x71_5, x71_8, x71_9, x71_10, x71_13, x71_16, x71_18, x71_19, x71_20_0, x71_23, x71_24, x71_25, x71_27, x71_28_0, x71_31, x71_32, x71_33, x71_35, x71_37_53, x71_37_55, x71_37_57, x71_37_59, x71_40, x71_43, x71_45_53, x71_45_55, x71_45_57, x71_45_59, x71_48, x71_51, x71_52, x71_53, x71_56, x71_57, x71_59_53, x71_59_55, x71_59_57, x71_59_59, x71_62, x71_64_53, x71_64_55, x71_64_57, x71_64_59, x71_67, x71_70, x71_71, x71_72, x71_75, x71_76, x71_78, x71_79, x71_81, x71_84, x71_87, x71_89, x71_91, x71_93, x71_96, x71_99, x71_100, x71_101, x71_104, x71_105, x71_107_53, x71_107_55, x71_107_57, x71_107_59, x71_110, x71_111, x71_113_53, x71_113_55, x71_113_57, x71_113_59, x71_116, x71_118, x71_120, x71_123, x71_124, gc_0, br_52, aa_52_0, aa_52_1, aa_52_2, aa_52_3, gc_55, gc_57, ↓reduceIte, zkl_i, zkl_r, zkl_n, zkl_z, zkl_l, Option.toList_some, Option.toList_none, List.cons_append, List.nil_append, zcs_0, zcs_i, zcs_l, zcs_r, zle8, true_and, and_true, true_or, or_true, c_below, c1, c2, i1_0, if_false, ixN_nI, nI_clamp, hz1, hz2, hf, if_true, c_holdsH, w1, w2, hcp]
        · obtain ⟨-, o2, o3, o4, -⟩ := sh_1 h.1 hM
          obtain ⟨-, u2, u3, u4, -⟩ := sh_2 h.1 hM
          obtain ⟨o1, on⟩ := o4 hz1
          obtain ⟨u1, un⟩ := u4 hz2
          obtain ⟨M', g1, g2, g3, g4⟩ := mc_ok (xl := xl) (J := J) (M := M) (s := 1) (t := 2) (p := p) (r := r) (q := q) (by decide) (by decide) (by rw [o1]; exact on) (by rw [u1]; exact un) (o1.trans (hf.trans u1.symm)) (o2.trans s3) (u2.trans t3) s4 t4 v1 v2
          refine ⟨M', g1, RM_sh hM (fun c c1 c2 => zr_n (by omega)) (by rw [g2 65 (by decide) (by decide), zr_n (by decide)]; exact hM.2.2.2.2.2.2) (SHm_2 h.1 hM (fun c c1 c2 c3 c4 => zr_n c4) (fun s e => by rw [g2 66 (by decide) (by decide)]) (fun s e => by rw [g2 67 (by decide) (by decide)]) (fun j e => g4 j (by omega)) ?_ ?_ ?_) (g2 70 (by decide) (by decide)) (g2 71 (by decide) (by decide)) (g2 75 (by decide) (by decide)) (g2 87 (by decide) (by decide)) (fun j hj => by rw [g2 65 (by decide) (by decide)]), fun c hc => g2 c (by omega) (by omega)⟩
          · rw [g2 66 (by decide) (by decide), zr_n (by decide), if_pos hz2]; exact u1
          · rw [g2 67 (by decide) (by decide), zr_n (by decide)]; exact u2
          · rw [zr_n (show 57 ≠ 58 by decide), zr_s]
            intro j hj
            by_cases e : r ≤ j ∧ j < r + q
            · obtain ⟨e1, e2⟩ := e
              rw [pk_cpy_in e1 e2]
              have := g3 (j - r) (by omega)
              rw [show 60 * 2 + r + (j - r) = 60 * 2 + j by omega, show 60 * 1 + p + (j - r) = 60 * 1 + (p + (j - r)) by omega, o3 _ (by omega)] at this
              exact this
            · rw [pk_cpy_out (by omega), g4 _ (by omega)]
              exact u3 j hj
      · refine mkF (v := -12) (k := 2) h (fun Q => ?_) (fun M J hM Q => ?_)
        · by_cases w1 : Hv (I 55 2) a c = 0
          · simp (disch := first | assumption | omega | (simp (disch := omega) only [zr_n, zr_s]; assumption)) only [x71_0, x71_1, x71_2, x71_5, x71_8, x71_9, x71_10, x71_13, x71_16, x71_18, x71_19, x71_20_0, x71_23, x71_24, x71_25, x71_27, x71_28_0, x71_31, x71_32, x71_33, x71_35, x71_37_53, x71_37_55, x71_37_57, x71_37_59, x71_40, x71_43, x71_45_53, x71_45_55, x71_45_57, x71_45_59, x71_48, x71_51, x71_52, x71_53, x71_56, x71_57, x71_59_53, x71_59_55, x71_59_57, x71_59_59, x71_62, x71_64_53, x71_64_55, x71_64_57, x71_64_59, x71_67, x71_70, x71_71, x71_72, x71_75, x71_76, x71_78, x71_79, x71_81, x71_84, x71_87, x71_89, x71_91, x71_93, x71_96, x71_99, x71_100, x71_101, x71_104, x71_105, x71_107_53, x71_107_55, x71_107_57, x71_107_59, x71_110, x71_111, x71_113_53, x71_113_55, x71_113_57, x71_113_59, x71_116, x71_118, x71_120, x71_123, x71_124, gc_0, br_52, aa_52_0, aa_52_1, aa_52_2, aa_52_3, gc_55, gc_57, ↓reduceIte, zkl_i, zkl_r, zkl_n, zkl_z, zkl_l, Option.toList_some, Option.toList_none, List.cons_append, List.nil_append, zcs_0, zcs_i, zcs_l, zcs_r, zle8, true_and, and_true, true_or, or_true, c_below, c1, c2, i1_0, if_false, ixN_nI, nI_clamp, hz1, hz2, hf, if_true, c_holdsH, w1, c_found, v11]
          · have w2 : Hv (I 57 2) b c = 0 := by
              rw [t3]
              refine Hv0 t4 (fun z => ?_)
              obtain ⟨r, q, rfl, rfl, v2⟩ := z
              refine w1 ?_
              rw [s3]
              refine Hv0 s4 (fun z => ?_)
              obtain ⟨p, q', rfl, eq, v1⟩ := z
              exact hv ⟨p, r, q, rfl, rfl, rfl, by
                by_cases hq : q < 2 ^ 31
                · have : q = q' := (nI_eq hq (by omega)).mp eq
                  omega
                · omega, v2⟩
            simp (disch := first | assumption | omega | (simp (disch := omega) only [zr_n, zr_s]; assumption)) only [x71_0, x71_1, x71_2, x71_5, x71_8, x71_9, x71_10, x71_13, x71_16, x71_18, x71_19, x71_20_0, x71_23, x71_24, x71_25, x71_27, x71_28_0, x71_31, x71_32, x71_33, x71_35, x71_37_53, x71_37_55, x71_37_57, x71_37_59, x71_40, x71_43, x71_45_53, x71_45_55, x71_45_57, x71_45_59, x71_48, x71_51, x71_52, x71_53, x71_56, x71_57, x71_59_53, x71_59_55, x71_59_57, x71_59_59, x71_62, x71_64_53, x71_64_55, x71_64_57, x71_64_59, x71_67, x71_70, x71_71, x71_72, x71_75, x71_76, x71_78, x71_79, x71_81, x71_84, x71_87, x71_89, x71_91, x71_93, x71_96, x71_99, x71_100, x71_101, x71_104, x71_105, x71_107_53, x71_107_55, x71_107_57, x71_107_59, x71_110, x71_111, x71_113_53, x71_113_55, x71_113_57, x71_113_59, x71_116, x71_118, x71_120, x71_123, x71_124, gc_0, br_52, aa_52_0, aa_52_1, aa_52_2, aa_52_3, gc_55, gc_57, ↓reduceIte, zkl_i, zkl_r, zkl_n, zkl_z, zkl_l, Option.toList_some, Option.toList_none, List.cons_append, List.nil_append, zcs_0, zcs_i, zcs_l, zcs_r, zle8, true_and, and_true, true_or, or_true, c_below, c1, c2, i1_0, if_false, ixN_nI, nI_clamp, hz1, hz2, hf, if_true, c_holdsH, w1, w2, c_found, v11]
        · obtain ⟨-, o2, o3, o4, -⟩ := sh_1 h.1 hM
          obtain ⟨-, u2, u3, u4, -⟩ := sh_2 h.1 hM
          obtain ⟨o1, on⟩ := o4 hz1
          obtain ⟨u1, un⟩ := u4 hz2
          exact mc_index (by decide) (by decide) (by rw [o1]; exact on) (by rw [u1]; exact un) (o1.trans (hf.trans u1.symm)) (o2.trans s3) (u2.trans t3) s4 t4 hv
    · refine mkF (v := -14) (k := 4) h (fun Q => ?_) (fun M J hM Q => ?_)
      · first
          | exact absurd rfl hf
          | simp (disch := first | assumption | omega | (simp (disch := omega) only [zr_n, zr_s]; assumption)) only [x71_0, x71_1, x71_2, x71_5, x71_8, x71_9, x71_10, x71_13, x71_16, x71_18, x71_19, x71_20_0, x71_23, x71_24, x71_25, x71_27, x71_28_0, x71_31, x71_32, x71_33, x71_35, x71_37_53, x71_37_55, x71_37_57, x71_37_59, x71_40, x71_43, x71_45_53, x71_45_55, x71_45_57, x71_45_59, x71_48, x71_51, x71_52, x71_53, x71_56, x71_57, x71_59_53, x71_59_55, x71_59_57, x71_59_59, x71_62, x71_64_53, x71_64_55, x71_64_57, x71_64_59, x71_67, x71_70, x71_71, x71_72, x71_75, x71_76, x71_78, x71_79, x71_81, x71_84, x71_87, x71_89, x71_91, x71_93, x71_96, x71_99, x71_100, x71_101, x71_104, x71_105, x71_107_53, x71_107_55, x71_107_57, x71_107_59, x71_110, x71_111, x71_113_53, x71_113_55, x71_113_57, x71_113_59, x71_116, x71_118, x71_120, x71_123, x71_124, gc_0, br_52, aa_52_0, aa_52_1, aa_52_2, aa_52_3, gc_55, gc_57, ↓reduceIte, zkl_i, zkl_r, zkl_n, zkl_z, zkl_l, Option.toList_some, Option.toList_none, List.cons_append, List.nil_append, zcs_0, zcs_i, zcs_l, zcs_r, zle8, true_and, and_true, true_or, or_true, c_below, c1, c2, i1_0, if_false, ixN_nI, nI_clamp, hz1, hz2, hf, if_true, c_found, v11]
      · obtain ⟨o1, on⟩ := (sh_1 h.1 hM).2.2.2.1 hz1
        obtain ⟨u1, un⟩ := (sh_2 h.1 hM).2.2.2.1 hz2
        exact mc_store (by decide) (by decide) (by rw [o1]; exact on) (by rw [u1]; exact un) (fun z => hf (o1.symm.trans (z.trans u1)))
  · refine mkF (v := -11) (k := 1) h (fun Q => ?_) (fun M J hM Q => ?_)
    · by_cases z1 : I 55 0 = 0
      · have z2 : ¬ I 57 0 = 0 := fun z => hz ⟨z1, z⟩
        first
          | exact absurd z1 z2
          | simp (disch := first | assumption | omega | (simp (disch := omega) only [zr_n, zr_s]; assumption)) only [x71_0, x71_1, x71_2, x71_5, x71_8, x71_9, x71_10, x71_13, x71_16, x71_18, x71_19, x71_20_0, x71_23, x71_24, x71_25, x71_27, x71_28_0, x71_31, x71_32, x71_33, x71_35, x71_37_53, x71_37_55, x71_37_57, x71_37_59, x71_40, x71_43, x71_45_53, x71_45_55, x71_45_57, x71_45_59, x71_48, x71_51, x71_52, x71_53, x71_56, x71_57, x71_59_53, x71_59_55, x71_59_57, x71_59_59, x71_62, x71_64_53, x71_64_55, x71_64_57, x71_64_59, x71_67, x71_70, x71_71, x71_72, x71_75, x71_76, x71_78, x71_79, x71_81, x71_84, x71_87, x71_89, x71_91, x71_93, x71_96, x71_99, x71_100, x71_101, x71_104, x71_105, x71_107_53, x71_107_55, x71_107_57, x71_107_59, x71_110, x71_111, x71_113_53, x71_113_55, x71_113_57, x71_113_59, x71_116, x71_118, x71_120, x71_123, x71_124, gc_0, br_52, aa_52_0, aa_52_1, aa_52_2, aa_52_3, gc_55, gc_57, ↓reduceIte, zkl_i, zkl_r, zkl_n, zkl_z, zkl_l, Option.toList_some, Option.toList_none, List.cons_append, List.nil_append, zcs_0, zcs_i, zcs_l, zcs_r, zle8, true_and, and_true, true_or, or_true, c_below, c1, c2, i1_0, if_false, ixN_nI, nI_clamp, z1, z2, if_true, c_found, v11]
      · simp (disch := first | assumption | omega | (simp (disch := omega) only [zr_n, zr_s]; assumption)) only [x71_0, x71_1, x71_2, x71_5, x71_8, x71_9, x71_10, x71_13, x71_16, x71_18, x71_19, x71_20_0, x71_23, x71_24, x71_25, x71_27, x71_28_0, x71_31, x71_32, x71_33, x71_35, x71_37_53, x71_37_55, x71_37_57, x71_37_59, x71_40, x71_43, x71_45_53, x71_45_55, x71_45_57, x71_45_59, x71_48, x71_51, x71_52, x71_53, x71_56, x71_57, x71_59_53, x71_59_55, x71_59_57, x71_59_59, x71_62, x71_64_53, x71_64_55, x71_64_57, x71_64_59, x71_67, x71_70, x71_71, x71_72, x71_75, x71_76, x71_78, x71_79, x71_81, x71_84, x71_87, x71_89, x71_91, x71_93, x71_96, x71_99, x71_100, x71_101, x71_104, x71_105, x71_107_53, x71_107_55, x71_107_57, x71_107_59, x71_110, x71_111, x71_113_53, x71_113_55, x71_113_57, x71_113_59, x71_116, x71_118, x71_120, x71_123, x71_124, gc_0, br_52, aa_52_0, aa_52_1, aa_52_2, aa_52_3, gc_55, gc_57, ↓reduceIte, zkl_i, zkl_r, zkl_n, zkl_z, zkl_l, Option.toList_some, Option.toList_none, List.cons_append, List.nil_append, zcs_0, zcs_i, zcs_l, zcs_r, zle8, true_and, and_true, true_or, or_true, c_below, c1, c2, i1_0, if_false, ixN_nI, nI_clamp, z1, if_true, c_found, v11]
    · refine mc_null (by decide) (by decide) ?_
      by_cases z1 : I 55 0 = 0
      · have z2 : ¬ I 57 0 = 0 := fun z => hz ⟨z1, z⟩
        rw [(sh_2 h.1 hM).2.2.2.2 z2]
        exact Or.inr (by decide)
      · rw [(sh_1 h.1 hM).2.2.2.2 z1]
        exact Or.inl (by decide)
theorem k_copy_13 (h : Inv I) : KI xl 71 112 [.ref 0, .int (nI 1), .int a, .int (nI 3), .int b, .int c, .null, .null] [.ref 65, .int (nI 1), .int a, .int (nI 3), .int b, .int c, .null] I J := by
  have c1 : (if nI 1 < 0 then (0 : Int32) else if nI 1 < 4 then 1 else 0) = 1 := bl1 (n := 4) (by decide) (by decide)
  have c2 : (if nI 3 < 0 then (0 : Int32) else if nI 3 < 4 then 1 else 0) = 1 := bl1 (n := 4) (by decide) (by decide)
  obtain ⟨⟨s1, s2, s3, s4⟩, -⟩ := sh_1 h.1 h.2
  obtain ⟨⟨t1, t2, t3, t4⟩, -⟩ := sh_3 h.1 h.2
  by_cases hz : I 55 0 = 0 ∧ I 59 0 = 0
  · obtain ⟨hz1, hz2⟩ := hz
    by_cases hf : I 55 1 = I 59 1
    · by_cases hv : ∃ p r q, a = nI p ∧ b = nI r ∧ c = nI q ∧ p + q ≤ tn (I 55 2) ∧ r + q ≤ tn (I 59 2)
      · obtain ⟨p, r, q, rfl, rfl, rfl, v1, v2⟩ := hv
        have w1 : Hv (I 55 2) (nI p) (nI q) = 1 := by rw [s3]; exact Hv1 s4 v1
        have w2 : Hv (I 59 2) (nI r) (nI q) = 1 := by rw [t3]; exact Hv1 t4 v2
        have hcp : zcp (zG xl) 56 60 (nI p) (nI r) (nI q) := ⟨ak_56, ak_60, nI_pos (by omega), nI_pos (by omega), nI_pos (by omega), by rw [al_56, nI_clamp (by omega), nI_clamp (by omega)]; omega, by rw [al_60, nI_clamp (by omega), nI_clamp (by omega)]; omega⟩
        refine mkU (v := 1) (I1 := zr I 60 (va_cpy (I 56) (I 60) p r q)) h (fun Q => ?_) (RC_sh h.1 (fun c c1 c2 => zr_n (by omega)) (zr_n (by decide)) (fun s hs => by rw [zr_n (by omega)]; exact h.1.2.2.1 s hs)) (fun c hc => zr_n (by omega)) (fun M J hM => ?_)
        · simp (disch := first | assumption | omega | (simp (disch := omega) only [zr_n, zr_s]; assumption)) only [x71_0, x71_1, x71_2, x71_5, x71_8, x71_9, x71_10, x71_13, x71_16, x71_18, x71_19, x71_20_0, x71_23, x71_24, x71_25, x71_27, x71_28_0, x71_31, x71_32, x71_33, x71_35, x71_37_53, x71_37_55, x71_37_57, x71_37_59, x71_40, x71_43, x71_45_53, x71_45_55, x71_45_57, x71_45_59, x71_48, x71_51, x71_52, x71_53, x71_56, x71_57, x71_59_53, x71_59_55, x71_59_57, x71_59_59, x71_62, x71_64_53, x71_64_55, x71_64_57, x71_64_59, x71_67, x71_70, x71_71, x71_72, x71_75, x71_76, x71_78, x71_79, x71_81, x71_84, x71_87, x71_89, x71_91, x71_93, x71_96, x71_99, x71_100, x71_101, x71_104, x71_105, x71_107_53, x71_107_55, x71_107_57, x71_107_59, x71_110, x71_111, x71_113_53, x71_113_55, x71_113_57, x71_113_59, x71_116, x71_118, x71_120, x71_123, x71_124, gc_0, br_52, aa_52_0, aa_52_1, aa_52_2, aa_52_3, gc_55, gc_59, ↓reduceIte, zkl_i, zkl_r, zkl_n, zkl_z, zkl_l, Option.toList_some, Option.toList_none, List.cons_append, List.nil_append, zcs_0, zcs_i, zcs_l, zcs_r, zle8, true_and, and_true, true_or, or_true, c_below, c1, c2, i1_0, if_false, ixN_nI, nI_clamp, hz1, hz2, hf, if_true, c_holdsH, w1, w2, hcp]
        · obtain ⟨-, o2, o3, o4, -⟩ := sh_1 h.1 hM
          obtain ⟨-, u2, u3, u4, -⟩ := sh_3 h.1 hM
          obtain ⟨o1, on⟩ := o4 hz1
          obtain ⟨u1, un⟩ := u4 hz2
          obtain ⟨M', g1, g2, g3, g4⟩ := mc_ok (xl := xl) (J := J) (M := M) (s := 1) (t := 3) (p := p) (r := r) (q := q) (by decide) (by decide) (by rw [o1]; exact on) (by rw [u1]; exact un) (o1.trans (hf.trans u1.symm)) (o2.trans s3) (u2.trans t3) s4 t4 v1 v2
          refine ⟨M', g1, RM_sh hM (fun c c1 c2 => zr_n (by omega)) (by rw [g2 65 (by decide) (by decide), zr_n (by decide)]; exact hM.2.2.2.2.2.2) (SHm_3 h.1 hM (fun c c1 c2 c3 c4 => zr_n c4) (fun s e => by rw [g2 66 (by decide) (by decide)]) (fun s e => by rw [g2 67 (by decide) (by decide)]) (fun j e => g4 j (by omega)) ?_ ?_ ?_) (g2 70 (by decide) (by decide)) (g2 71 (by decide) (by decide)) (g2 75 (by decide) (by decide)) (g2 87 (by decide) (by decide)) (fun j hj => by rw [g2 65 (by decide) (by decide)]), fun c hc => g2 c (by omega) (by omega)⟩
          · rw [g2 66 (by decide) (by decide), zr_n (by decide), if_pos hz2]; exact u1
          · rw [g2 67 (by decide) (by decide), zr_n (by decide)]; exact u2
          · rw [zr_n (show 59 ≠ 60 by decide), zr_s]
            intro j hj
            by_cases e : r ≤ j ∧ j < r + q
            · obtain ⟨e1, e2⟩ := e
              rw [pk_cpy_in e1 e2]
              have := g3 (j - r) (by omega)
              rw [show 60 * 3 + r + (j - r) = 60 * 3 + j by omega, show 60 * 1 + p + (j - r) = 60 * 1 + (p + (j - r)) by omega, o3 _ (by omega)] at this
              exact this
            · rw [pk_cpy_out (by omega), g4 _ (by omega)]
              exact u3 j hj
      · refine mkF (v := -12) (k := 2) h (fun Q => ?_) (fun M J hM Q => ?_)
        · by_cases w1 : Hv (I 55 2) a c = 0
          · simp (disch := first | assumption | omega | (simp (disch := omega) only [zr_n, zr_s]; assumption)) only [x71_0, x71_1, x71_2, x71_5, x71_8, x71_9, x71_10, x71_13, x71_16, x71_18, x71_19, x71_20_0, x71_23, x71_24, x71_25, x71_27, x71_28_0, x71_31, x71_32, x71_33, x71_35, x71_37_53, x71_37_55, x71_37_57, x71_37_59, x71_40, x71_43, x71_45_53, x71_45_55, x71_45_57, x71_45_59, x71_48, x71_51, x71_52, x71_53, x71_56, x71_57, x71_59_53, x71_59_55, x71_59_57, x71_59_59, x71_62, x71_64_53, x71_64_55, x71_64_57, x71_64_59, x71_67, x71_70, x71_71, x71_72, x71_75, x71_76, x71_78, x71_79, x71_81, x71_84, x71_87, x71_89, x71_91, x71_93, x71_96, x71_99, x71_100, x71_101, x71_104, x71_105, x71_107_53, x71_107_55, x71_107_57, x71_107_59, x71_110, x71_111, x71_113_53, x71_113_55, x71_113_57, x71_113_59, x71_116, x71_118, x71_120, x71_123, x71_124, gc_0, br_52, aa_52_0, aa_52_1, aa_52_2, aa_52_3, gc_55, gc_59, ↓reduceIte, zkl_i, zkl_r, zkl_n, zkl_z, zkl_l, Option.toList_some, Option.toList_none, List.cons_append, List.nil_append, zcs_0, zcs_i, zcs_l, zcs_r, zle8, true_and, and_true, true_or, or_true, c_below, c1, c2, i1_0, if_false, ixN_nI, nI_clamp, hz1, hz2, hf, if_true, c_holdsH, w1, c_found, v11]
          · have w2 : Hv (I 59 2) b c = 0 := by
              rw [t3]
              refine Hv0 t4 (fun z => ?_)
              obtain ⟨r, q, rfl, rfl, v2⟩ := z
              refine w1 ?_
              rw [s3]
              refine Hv0 s4 (fun z => ?_)
              obtain ⟨p, q', rfl, eq, v1⟩ := z
              exact hv ⟨p, r, q, rfl, rfl, rfl, by
                by_cases hq : q < 2 ^ 31
                · have : q = q' := (nI_eq hq (by omega)).mp eq
                  omega
                · omega, v2⟩
            simp (disch := first | assumption | omega | (simp (disch := omega) only [zr_n, zr_s]; assumption)) only [x71_0, x71_1, x71_2, x71_5, x71_8, x71_9, x71_10, x71_13, x71_16, x71_18, x71_19, x71_20_0, x71_23, x71_24, x71_25, x71_27, x71_28_0, x71_31, x71_32, x71_33, x71_35, x71_37_53, x71_37_55, x71_37_57, x71_37_59, x71_40, x71_43, x71_45_53, x71_45_55, x71_45_57, x71_45_59, x71_48, x71_51, x71_52, x71_53, x71_56, x71_57, x71_59_53, x71_59_55, x71_59_57, x71_59_59, x71_62, x71_64_53, x71_64_55, x71_64_57, x71_64_59, x71_67, x71_70, x71_71, x71_72, x71_75, x71_76, x71_78, x71_79, x71_81, x71_84, x71_87, x71_89, x71_91, x71_93, x71_96, x71_99, x71_100, x71_101, x71_104, x71_105, x71_107_53, x71_107_55, x71_107_57, x71_107_59, x71_110, x71_111, x71_113_53, x71_113_55, x71_113_57, x71_113_59, x71_116, x71_118, x71_120, x71_123, x71_124, gc_0, br_52, aa_52_0, aa_52_1, aa_52_2, aa_52_3, gc_55, gc_59, ↓reduceIte, zkl_i, zkl_r, zkl_n, zkl_z, zkl_l, Option.toList_some, Option.toList_none, List.cons_append, List.nil_append, zcs_0, zcs_i, zcs_l, zcs_r, zle8, true_and, and_true, true_or, or_true, c_below, c1, c2, i1_0, if_false, ixN_nI, nI_clamp, hz1, hz2, hf, if_true, c_holdsH, w1, w2, c_found, v11]
        · obtain ⟨-, o2, o3, o4, -⟩ := sh_1 h.1 hM
          obtain ⟨-, u2, u3, u4, -⟩ := sh_3 h.1 hM
          obtain ⟨o1, on⟩ := o4 hz1
          obtain ⟨u1, un⟩ := u4 hz2
          exact mc_index (by decide) (by decide) (by rw [o1]; exact on) (by rw [u1]; exact un) (o1.trans (hf.trans u1.symm)) (o2.trans s3) (u2.trans t3) s4 t4 hv
    · refine mkF (v := -14) (k := 4) h (fun Q => ?_) (fun M J hM Q => ?_)
      · first
          | exact absurd rfl hf
          | simp (disch := first | assumption | omega | (simp (disch := omega) only [zr_n, zr_s]; assumption)) only [x71_0, x71_1, x71_2, x71_5, x71_8, x71_9, x71_10, x71_13, x71_16, x71_18, x71_19, x71_20_0, x71_23, x71_24, x71_25, x71_27, x71_28_0, x71_31, x71_32, x71_33, x71_35, x71_37_53, x71_37_55, x71_37_57, x71_37_59, x71_40, x71_43, x71_45_53, x71_45_55, x71_45_57, x71_45_59, x71_48, x71_51, x71_52, x71_53, x71_56, x71_57, x71_59_53, x71_59_55, x71_59_57, x71_59_59, x71_62, x71_64_53, x71_64_55, x71_64_57, x71_64_59, x71_67, x71_70, x71_71, x71_72, x71_75, x71_76, x71_78, x71_79, x71_81, x71_84, x71_87, x71_89, x71_91, x71_93, x71_96, x71_99, x71_100, x71_101, x71_104, x71_105, x71_107_53, x71_107_55, x71_107_57, x71_107_59, x71_110, x71_111, x71_113_53, x71_113_55, x71_113_57, x71_113_59, x71_116, x71_118, x71_120, x71_123, x71_124, gc_0, br_52, aa_52_0, aa_52_1, aa_52_2, aa_52_3, gc_55, gc_59, ↓reduceIte, zkl_i, zkl_r, zkl_n, zkl_z, zkl_l, Option.toList_some, Option.toList_none, List.cons_append, List.nil_append, zcs_0, zcs_i, zcs_l, zcs_r, zle8, true_and, and_true, true_or, or_true, c_below, c1, c2, i1_0, if_false, ixN_nI, nI_clamp, hz1, hz2, hf, if_true, c_found, v11]
      · obtain ⟨o1, on⟩ := (sh_1 h.1 hM).2.2.2.1 hz1
        obtain ⟨u1, un⟩ := (sh_3 h.1 hM).2.2.2.1 hz2
        exact mc_store (by decide) (by decide) (by rw [o1]; exact on) (by rw [u1]; exact un) (fun z => hf (o1.symm.trans (z.trans u1)))
  · refine mkF (v := -11) (k := 1) h (fun Q => ?_) (fun M J hM Q => ?_)
    · by_cases z1 : I 55 0 = 0
      · have z2 : ¬ I 59 0 = 0 := fun z => hz ⟨z1, z⟩
        first
          | exact absurd z1 z2
          | simp (disch := first | assumption | omega | (simp (disch := omega) only [zr_n, zr_s]; assumption)) only [x71_0, x71_1, x71_2, x71_5, x71_8, x71_9, x71_10, x71_13, x71_16, x71_18, x71_19, x71_20_0, x71_23, x71_24, x71_25, x71_27, x71_28_0, x71_31, x71_32, x71_33, x71_35, x71_37_53, x71_37_55, x71_37_57, x71_37_59, x71_40, x71_43, x71_45_53, x71_45_55, x71_45_57, x71_45_59, x71_48, x71_51, x71_52, x71_53, x71_56, x71_57, x71_59_53, x71_59_55, x71_59_57, x71_59_59, x71_62, x71_64_53, x71_64_55, x71_64_57, x71_64_59, x71_67, x71_70, x71_71, x71_72, x71_75, x71_76, x71_78, x71_79, x71_81, x71_84, x71_87, x71_89, x71_91, x71_93, x71_96, x71_99, x71_100, x71_101, x71_104, x71_105, x71_107_53, x71_107_55, x71_107_57, x71_107_59, x71_110, x71_111, x71_113_53, x71_113_55, x71_113_57, x71_113_59, x71_116, x71_118, x71_120, x71_123, x71_124, gc_0, br_52, aa_52_0, aa_52_1, aa_52_2, aa_52_3, gc_55, gc_59, ↓reduceIte, zkl_i, zkl_r, zkl_n, zkl_z, zkl_l, Option.toList_some, Option.toList_none, List.cons_append, List.nil_append, zcs_0, zcs_i, zcs_l, zcs_r, zle8, true_and, and_true, true_or, or_true, c_below, c1, c2, i1_0, if_false, ixN_nI, nI_clamp, z1, z2, if_true, c_found, v11]
      · simp (disch := first | assumption | omega | (simp (disch := omega) only [zr_n, zr_s]; assumption)) only [x71_0, x71_1, x71_2, x71_5, x71_8, x71_9, x71_10, x71_13, x71_16, x71_18, x71_19, x71_20_0, x71_23, x71_24, x71_25, x71_27, x71_28_0, x71_31, x71_32, x71_33, x71_35, x71_37_53, x71_37_55, x71_37_57, x71_37_59, x71_40, x71_43, x71_45_53, x71_45_55, x71_45_57, x71_45_59, x71_48, x71_51, x71_52, x71_53, x71_56, x71_57, x71_59_53, x71_59_55, x71_59_57, x71_59_59, x71_62, x71_64_53, x71_64_55, x71_64_57, x71_64_59, x71_67, x71_70, x71_71, x71_72, x71_75, x71_76, x71_78, x71_79, x71_81, x71_84, x71_87, x71_89, x71_91, x71_93, x71_96, x71_99, x71_100, x71_101, x71_104, x71_105, x71_107_53, x71_107_55, x71_107_57, x71_107_59, x71_110, x71_111, x71_113_53, x71_113_55, x71_113_57, x71_113_59, x71_116, x71_118, x71_120, x71_123, x71_124, gc_0, br_52, aa_52_0, aa_52_1, aa_52_2, aa_52_3, gc_55, gc_59, ↓reduceIte, zkl_i, zkl_r, zkl_n, zkl_z, zkl_l, Option.toList_some, Option.toList_none, List.cons_append, List.nil_append, zcs_0, zcs_i, zcs_l, zcs_r, zle8, true_and, and_true, true_or, or_true, c_below, c1, c2, i1_0, if_false, ixN_nI, nI_clamp, z1, if_true, c_found, v11]
    · refine mc_null (by decide) (by decide) ?_
      by_cases z1 : I 55 0 = 0
      · have z2 : ¬ I 59 0 = 0 := fun z => hz ⟨z1, z⟩
        rw [(sh_3 h.1 hM).2.2.2.2 z2]
        exact Or.inr (by decide)
      · rw [(sh_1 h.1 hM).2.2.2.2 z1]
        exact Or.inl (by decide)
theorem k_copy_20 (h : Inv I) : KI xl 71 112 [.ref 0, .int (nI 2), .int a, .int (nI 0), .int b, .int c, .null, .null] [.ref 65, .int (nI 2), .int a, .int (nI 0), .int b, .int c, .null] I J := by
  have c1 : (if nI 2 < 0 then (0 : Int32) else if nI 2 < 4 then 1 else 0) = 1 := bl1 (n := 4) (by decide) (by decide)
  have c2 : (if nI 0 < 0 then (0 : Int32) else if nI 0 < 4 then 1 else 0) = 1 := bl1 (n := 4) (by decide) (by decide)
  obtain ⟨⟨s1, s2, s3, s4⟩, -⟩ := sh_2 h.1 h.2
  obtain ⟨⟨t1, t2, t3, t4⟩, -⟩ := sh_0 h.1 h.2
  by_cases hz : I 57 0 = 0 ∧ I 53 0 = 0
  · obtain ⟨hz1, hz2⟩ := hz
    by_cases hf : I 57 1 = I 53 1
    · by_cases hv : ∃ p r q, a = nI p ∧ b = nI r ∧ c = nI q ∧ p + q ≤ tn (I 57 2) ∧ r + q ≤ tn (I 53 2)
      · obtain ⟨p, r, q, rfl, rfl, rfl, v1, v2⟩ := hv
        have w1 : Hv (I 57 2) (nI p) (nI q) = 1 := by rw [s3]; exact Hv1 s4 v1
        have w2 : Hv (I 53 2) (nI r) (nI q) = 1 := by rw [t3]; exact Hv1 t4 v2
        have hcp : zcp (zG xl) 58 54 (nI p) (nI r) (nI q) := ⟨ak_58, ak_54, nI_pos (by omega), nI_pos (by omega), nI_pos (by omega), by rw [al_58, nI_clamp (by omega), nI_clamp (by omega)]; omega, by rw [al_54, nI_clamp (by omega), nI_clamp (by omega)]; omega⟩
        refine mkU (v := 1) (I1 := zr I 54 (va_cpy (I 58) (I 54) p r q)) h (fun Q => ?_) (RC_sh h.1 (fun c c1 c2 => zr_n (by omega)) (zr_n (by decide)) (fun s hs => by rw [zr_n (by omega)]; exact h.1.2.2.1 s hs)) (fun c hc => zr_n (by omega)) (fun M J hM => ?_)
        · simp (disch := first | assumption | omega | (simp (disch := omega) only [zr_n, zr_s]; assumption)) only [x71_0, x71_1, x71_2, x71_5, x71_8, x71_9, x71_10, x71_13, x71_16, x71_18, x71_19, x71_20_0, x71_23, x71_24, x71_25, x71_27, x71_28_0, x71_31, x71_32, x71_33, x71_35, x71_37_53, x71_37_55, x71_37_57, x71_37_59, x71_40, x71_43, x71_45_53, x71_45_55, x71_45_57, x71_45_59, x71_48, x71_51, x71_52, x71_53, x71_56, x71_57, x71_59_53, x71_59_55, x71_59_57, x71_59_59, x71_62, x71_64_53, x71_64_55, x71_64_57, x71_64_59, x71_67, x71_70, x71_71, x71_72, x71_75, x71_76, x71_78, x71_79, x71_81, x71_84, x71_87, x71_89, x71_91, x71_93, x71_96, x71_99, x71_100, x71_101, x71_104, x71_105, x71_107_53, x71_107_55, x71_107_57, x71_107_59, x71_110, x71_111, x71_113_53, x71_113_55, x71_113_57, x71_113_59, x71_116, x71_118, x71_120, x71_123, x71_124, gc_0, br_52, aa_52_0, aa_52_1, aa_52_2, aa_52_3, gc_57, gc_53, ↓reduceIte, zkl_i, zkl_r, zkl_n, zkl_z, zkl_l, Option.toList_some, Option.toList_none, List.cons_append, List.nil_append, zcs_0, zcs_i, zcs_l, zcs_r, zle8, true_and, and_true, true_or, or_true, c_below, c1, c2, i1_0, if_false, ixN_nI, nI_clamp, hz1, hz2, hf, if_true, c_holdsH, w1, w2, hcp]
        · obtain ⟨-, o2, o3, o4, -⟩ := sh_2 h.1 hM
          obtain ⟨-, u2, u3, u4, -⟩ := sh_0 h.1 hM
          obtain ⟨o1, on⟩ := o4 hz1
          obtain ⟨u1, un⟩ := u4 hz2
          obtain ⟨M', g1, g2, g3, g4⟩ := mc_ok (xl := xl) (J := J) (M := M) (s := 2) (t := 0) (p := p) (r := r) (q := q) (by decide) (by decide) (by rw [o1]; exact on) (by rw [u1]; exact un) (o1.trans (hf.trans u1.symm)) (o2.trans s3) (u2.trans t3) s4 t4 v1 v2
          refine ⟨M', g1, RM_sh hM (fun c c1 c2 => zr_n (by omega)) (by rw [g2 65 (by decide) (by decide), zr_n (by decide)]; exact hM.2.2.2.2.2.2) (SHm_0 h.1 hM (fun c c1 c2 c3 c4 => zr_n c4) (fun s e => by rw [g2 66 (by decide) (by decide)]) (fun s e => by rw [g2 67 (by decide) (by decide)]) (fun j e => g4 j (by omega)) ?_ ?_ ?_) (g2 70 (by decide) (by decide)) (g2 71 (by decide) (by decide)) (g2 75 (by decide) (by decide)) (g2 87 (by decide) (by decide)) (fun j hj => by rw [g2 65 (by decide) (by decide)]), fun c hc => g2 c (by omega) (by omega)⟩
          · rw [g2 66 (by decide) (by decide), zr_n (by decide), if_pos hz2]; exact u1
          · rw [g2 67 (by decide) (by decide), zr_n (by decide)]; exact u2
          · rw [zr_n (show 53 ≠ 54 by decide), zr_s]
            intro j hj
            by_cases e : r ≤ j ∧ j < r + q
            · obtain ⟨e1, e2⟩ := e
              rw [pk_cpy_in e1 e2]
              have := g3 (j - r) (by omega)
              rw [show 60 * 0 + r + (j - r) = 60 * 0 + j by omega, show 60 * 2 + p + (j - r) = 60 * 2 + (p + (j - r)) by omega, o3 _ (by omega)] at this
              exact this
            · rw [pk_cpy_out (by omega), g4 _ (by omega)]
              exact u3 j hj
      · refine mkF (v := -12) (k := 2) h (fun Q => ?_) (fun M J hM Q => ?_)
        · by_cases w1 : Hv (I 57 2) a c = 0
          · simp (disch := first | assumption | omega | (simp (disch := omega) only [zr_n, zr_s]; assumption)) only [x71_0, x71_1, x71_2, x71_5, x71_8, x71_9, x71_10, x71_13, x71_16, x71_18, x71_19, x71_20_0, x71_23, x71_24, x71_25, x71_27, x71_28_0, x71_31, x71_32, x71_33, x71_35, x71_37_53, x71_37_55, x71_37_57, x71_37_59, x71_40, x71_43, x71_45_53, x71_45_55, x71_45_57, x71_45_59, x71_48, x71_51, x71_52, x71_53, x71_56, x71_57, x71_59_53, x71_59_55, x71_59_57, x71_59_59, x71_62, x71_64_53, x71_64_55, x71_64_57, x71_64_59, x71_67, x71_70, x71_71, x71_72, x71_75, x71_76, x71_78, x71_79, x71_81, x71_84, x71_87, x71_89, x71_91, x71_93, x71_96, x71_99, x71_100, x71_101, x71_104, x71_105, x71_107_53, x71_107_55, x71_107_57, x71_107_59, x71_110, x71_111, x71_113_53, x71_113_55, x71_113_57, x71_113_59, x71_116, x71_118, x71_120, x71_123, x71_124, gc_0, br_52, aa_52_0, aa_52_1, aa_52_2, aa_52_3, gc_57, gc_53, ↓reduceIte, zkl_i, zkl_r, zkl_n, zkl_z, zkl_l, Option.toList_some, Option.toList_none, List.cons_append, List.nil_append, zcs_0, zcs_i, zcs_l, zcs_r, zle8, true_and, and_true, true_or, or_true, c_below, c1, c2, i1_0, if_false, ixN_nI, nI_clamp, hz1, hz2, hf, if_true, c_holdsH, w1, c_found, v11]
          · have w2 : Hv (I 53 2) b c = 0 := by
              rw [t3]
              refine Hv0 t4 (fun z => ?_)
              obtain ⟨r, q, rfl, rfl, v2⟩ := z
              refine w1 ?_
              rw [s3]
              refine Hv0 s4 (fun z => ?_)
              obtain ⟨p, q', rfl, eq, v1⟩ := z
              exact hv ⟨p, r, q, rfl, rfl, rfl, by
                by_cases hq : q < 2 ^ 31
                · have : q = q' := (nI_eq hq (by omega)).mp eq
                  omega
                · omega, v2⟩
            simp (disch := first | assumption | omega | (simp (disch := omega) only [zr_n, zr_s]; assumption)) only [x71_0, x71_1, x71_2, x71_5, x71_8, x71_9, x71_10, x71_13, x71_16, x71_18, x71_19, x71_20_0, x71_23, x71_24, x71_25, x71_27, x71_28_0, x71_31, x71_32, x71_33, x71_35, x71_37_53, x71_37_55, x71_37_57, x71_37_59, x71_40, x71_43, x71_45_53, x71_45_55, x71_45_57, x71_45_59, x71_48, x71_51, x71_52, x71_53, x71_56, x71_57, x71_59_53, x71_59_55, x71_59_57, x71_59_59, x71_62, x71_64_53, x71_64_55, x71_64_57, x71_64_59, x71_67, x71_70, x71_71, x71_72, x71_75, x71_76, x71_78, x71_79, x71_81, x71_84, x71_87, x71_89, x71_91, x71_93, x71_96, x71_99, x71_100, x71_101, x71_104, x71_105, x71_107_53, x71_107_55, x71_107_57, x71_107_59, x71_110, x71_111, x71_113_53, x71_113_55, x71_113_57, x71_113_59, x71_116, x71_118, x71_120, x71_123, x71_124, gc_0, br_52, aa_52_0, aa_52_1, aa_52_2, aa_52_3, gc_57, gc_53, ↓reduceIte, zkl_i, zkl_r, zkl_n, zkl_z, zkl_l, Option.toList_some, Option.toList_none, List.cons_append, List.nil_append, zcs_0, zcs_i, zcs_l, zcs_r, zle8, true_and, and_true, true_or, or_true, c_below, c1, c2, i1_0, if_false, ixN_nI, nI_clamp, hz1, hz2, hf, if_true, c_holdsH, w1, w2, c_found, v11]
        · obtain ⟨-, o2, o3, o4, -⟩ := sh_2 h.1 hM
          obtain ⟨-, u2, u3, u4, -⟩ := sh_0 h.1 hM
          obtain ⟨o1, on⟩ := o4 hz1
          obtain ⟨u1, un⟩ := u4 hz2
          exact mc_index (by decide) (by decide) (by rw [o1]; exact on) (by rw [u1]; exact un) (o1.trans (hf.trans u1.symm)) (o2.trans s3) (u2.trans t3) s4 t4 hv
    · refine mkF (v := -14) (k := 4) h (fun Q => ?_) (fun M J hM Q => ?_)
      · first
          | exact absurd rfl hf
          | simp (disch := first | assumption | omega | (simp (disch := omega) only [zr_n, zr_s]; assumption)) only [x71_0, x71_1, x71_2, x71_5, x71_8, x71_9, x71_10, x71_13, x71_16, x71_18, x71_19, x71_20_0, x71_23, x71_24, x71_25, x71_27, x71_28_0, x71_31, x71_32, x71_33, x71_35, x71_37_53, x71_37_55, x71_37_57, x71_37_59, x71_40, x71_43, x71_45_53, x71_45_55, x71_45_57, x71_45_59, x71_48, x71_51, x71_52, x71_53, x71_56, x71_57, x71_59_53, x71_59_55, x71_59_57, x71_59_59, x71_62, x71_64_53, x71_64_55, x71_64_57, x71_64_59, x71_67, x71_70, x71_71, x71_72, x71_75, x71_76, x71_78, x71_79, x71_81, x71_84, x71_87, x71_89, x71_91, x71_93, x71_96, x71_99, x71_100, x71_101, x71_104, x71_105, x71_107_53, x71_107_55, x71_107_57, x71_107_59, x71_110, x71_111, x71_113_53, x71_113_55, x71_113_57, x71_113_59, x71_116, x71_118, x71_120, x71_123, x71_124, gc_0, br_52, aa_52_0, aa_52_1, aa_52_2, aa_52_3, gc_57, gc_53, ↓reduceIte, zkl_i, zkl_r, zkl_n, zkl_z, zkl_l, Option.toList_some, Option.toList_none, List.cons_append, List.nil_append, zcs_0, zcs_i, zcs_l, zcs_r, zle8, true_and, and_true, true_or, or_true, c_below, c1, c2, i1_0, if_false, ixN_nI, nI_clamp, hz1, hz2, hf, if_true, c_found, v11]
      · obtain ⟨o1, on⟩ := (sh_2 h.1 hM).2.2.2.1 hz1
        obtain ⟨u1, un⟩ := (sh_0 h.1 hM).2.2.2.1 hz2
        exact mc_store (by decide) (by decide) (by rw [o1]; exact on) (by rw [u1]; exact un) (fun z => hf (o1.symm.trans (z.trans u1)))
  · refine mkF (v := -11) (k := 1) h (fun Q => ?_) (fun M J hM Q => ?_)
    · by_cases z1 : I 57 0 = 0
      · have z2 : ¬ I 53 0 = 0 := fun z => hz ⟨z1, z⟩
        first
          | exact absurd z1 z2
          | simp (disch := first | assumption | omega | (simp (disch := omega) only [zr_n, zr_s]; assumption)) only [x71_0, x71_1, x71_2, x71_5, x71_8, x71_9, x71_10, x71_13, x71_16, x71_18, x71_19, x71_20_0, x71_23, x71_24, x71_25, x71_27, x71_28_0, x71_31, x71_32, x71_33, x71_35, x71_37_53, x71_37_55, x71_37_57, x71_37_59, x71_40, x71_43, x71_45_53, x71_45_55, x71_45_57, x71_45_59, x71_48, x71_51, x71_52, x71_53, x71_56, x71_57, x71_59_53, x71_59_55, x71_59_57, x71_59_59, x71_62, x71_64_53, x71_64_55, x71_64_57, x71_64_59, x71_67, x71_70, x71_71, x71_72, x71_75, x71_76, x71_78, x71_79, x71_81, x71_84, x71_87, x71_89, x71_91, x71_93, x71_96, x71_99, x71_100, x71_101, x71_104, x71_105, x71_107_53, x71_107_55, x71_107_57, x71_107_59, x71_110, x71_111, x71_113_53, x71_113_55, x71_113_57, x71_113_59, x71_116, x71_118, x71_120, x71_123, x71_124, gc_0, br_52, aa_52_0, aa_52_1, aa_52_2, aa_52_3, gc_57, gc_53, ↓reduceIte, zkl_i, zkl_r, zkl_n, zkl_z, zkl_l, Option.toList_some, Option.toList_none, List.cons_append, List.nil_append, zcs_0, zcs_i, zcs_l, zcs_r, zle8, true_and, and_true, true_or, or_true, c_below, c1, c2, i1_0, if_false, ixN_nI, nI_clamp, z1, z2, if_true, c_found, v11]
      · simp (disch := first | assumption | omega | (simp (disch := omega) only [zr_n, zr_s]; assumption)) only [x71_0, x71_1, x71_2, x71_5, x71_8, x71_9, x71_10, x71_13, x71_16, x71_18, x71_19, x71_20_0, x71_23, x71_24, x71_25, x71_27, x71_28_0, x71_31, x71_32, x71_33, x71_35, x71_37_53, x71_37_55, x71_37_57, x71_37_59, x71_40, x71_43, x71_45_53, x71_45_55, x71_45_57, x71_45_59, x71_48, x71_51, x71_52, x71_53, x71_56, x71_57, x71_59_53, x71_59_55, x71_59_57, x71_59_59, x71_62, x71_64_53, x71_64_55, x71_64_57, x71_64_59, x71_67, x71_70, x71_71, x71_72, x71_75, x71_76, x71_78, x71_79, x71_81, x71_84, x71_87, x71_89, x71_91, x71_93, x71_96, x71_99, x71_100, x71_101, x71_104, x71_105, x71_107_53, x71_107_55, x71_107_57, x71_107_59, x71_110, x71_111, x71_113_53, x71_113_55, x71_113_57, x71_113_59, x71_116, x71_118, x71_120, x71_123, x71_124, gc_0, br_52, aa_52_0, aa_52_1, aa_52_2, aa_52_3, gc_57, gc_53, ↓reduceIte, zkl_i, zkl_r, zkl_n, zkl_z, zkl_l, Option.toList_some, Option.toList_none, List.cons_append, List.nil_append, zcs_0, zcs_i, zcs_l, zcs_r, zle8, true_and, and_true, true_or, or_true, c_below, c1, c2, i1_0, if_false, ixN_nI, nI_clamp, z1, if_true, c_found, v11]
    · refine mc_null (by decide) (by decide) ?_
      by_cases z1 : I 57 0 = 0
      · have z2 : ¬ I 53 0 = 0 := fun z => hz ⟨z1, z⟩
        rw [(sh_0 h.1 hM).2.2.2.2 z2]
        exact Or.inr (by decide)
      · rw [(sh_2 h.1 hM).2.2.2.2 z1]
        exact Or.inl (by decide)
theorem k_copy_21 (h : Inv I) : KI xl 71 112 [.ref 0, .int (nI 2), .int a, .int (nI 1), .int b, .int c, .null, .null] [.ref 65, .int (nI 2), .int a, .int (nI 1), .int b, .int c, .null] I J := by
  have c1 : (if nI 2 < 0 then (0 : Int32) else if nI 2 < 4 then 1 else 0) = 1 := bl1 (n := 4) (by decide) (by decide)
  have c2 : (if nI 1 < 0 then (0 : Int32) else if nI 1 < 4 then 1 else 0) = 1 := bl1 (n := 4) (by decide) (by decide)
  obtain ⟨⟨s1, s2, s3, s4⟩, -⟩ := sh_2 h.1 h.2
  obtain ⟨⟨t1, t2, t3, t4⟩, -⟩ := sh_1 h.1 h.2
  by_cases hz : I 57 0 = 0 ∧ I 55 0 = 0
  · obtain ⟨hz1, hz2⟩ := hz
    by_cases hf : I 57 1 = I 55 1
    · by_cases hv : ∃ p r q, a = nI p ∧ b = nI r ∧ c = nI q ∧ p + q ≤ tn (I 57 2) ∧ r + q ≤ tn (I 55 2)
      · obtain ⟨p, r, q, rfl, rfl, rfl, v1, v2⟩ := hv
        have w1 : Hv (I 57 2) (nI p) (nI q) = 1 := by rw [s3]; exact Hv1 s4 v1
        have w2 : Hv (I 55 2) (nI r) (nI q) = 1 := by rw [t3]; exact Hv1 t4 v2
        have hcp : zcp (zG xl) 58 56 (nI p) (nI r) (nI q) := ⟨ak_58, ak_56, nI_pos (by omega), nI_pos (by omega), nI_pos (by omega), by rw [al_58, nI_clamp (by omega), nI_clamp (by omega)]; omega, by rw [al_56, nI_clamp (by omega), nI_clamp (by omega)]; omega⟩
        refine mkU (v := 1) (I1 := zr I 56 (va_cpy (I 58) (I 56) p r q)) h (fun Q => ?_) (RC_sh h.1 (fun c c1 c2 => zr_n (by omega)) (zr_n (by decide)) (fun s hs => by rw [zr_n (by omega)]; exact h.1.2.2.1 s hs)) (fun c hc => zr_n (by omega)) (fun M J hM => ?_)
        · simp (disch := first | assumption | omega | (simp (disch := omega) only [zr_n, zr_s]; assumption)) only [x71_0, x71_1, x71_2, x71_5, x71_8, x71_9, x71_10, x71_13, x71_16, x71_18, x71_19, x71_20_0, x71_23, x71_24, x71_25, x71_27, x71_28_0, x71_31, x71_32, x71_33, x71_35, x71_37_53, x71_37_55, x71_37_57, x71_37_59, x71_40, x71_43, x71_45_53, x71_45_55, x71_45_57, x71_45_59, x71_48, x71_51, x71_52, x71_53, x71_56, x71_57, x71_59_53, x71_59_55, x71_59_57, x71_59_59, x71_62, x71_64_53, x71_64_55, x71_64_57, x71_64_59, x71_67, x71_70, x71_71, x71_72, x71_75, x71_76, x71_78, x71_79, x71_81, x71_84, x71_87, x71_89, x71_91, x71_93, x71_96, x71_99, x71_100, x71_101, x71_104, x71_105, x71_107_53, x71_107_55, x71_107_57, x71_107_59, x71_110, x71_111, x71_113_53, x71_113_55, x71_113_57, x71_113_59, x71_116, x71_118, x71_120, x71_123, x71_124, gc_0, br_52, aa_52_0, aa_52_1, aa_52_2, aa_52_3, gc_57, gc_55, ↓reduceIte, zkl_i, zkl_r, zkl_n, zkl_z, zkl_l, Option.toList_some, Option.toList_none, List.cons_append, List.nil_append, zcs_0, zcs_i, zcs_l, zcs_r, zle8, true_and, and_true, true_or, or_true, c_below, c1, c2, i1_0, if_false, ixN_nI, nI_clamp, hz1, hz2, hf, if_true, c_holdsH, w1, w2, hcp]
        · obtain ⟨-, o2, o3, o4, -⟩ := sh_2 h.1 hM
          obtain ⟨-, u2, u3, u4, -⟩ := sh_1 h.1 hM
          obtain ⟨o1, on⟩ := o4 hz1
          obtain ⟨u1, un⟩ := u4 hz2
          obtain ⟨M', g1, g2, g3, g4⟩ := mc_ok (xl := xl) (J := J) (M := M) (s := 2) (t := 1) (p := p) (r := r) (q := q) (by decide) (by decide) (by rw [o1]; exact on) (by rw [u1]; exact un) (o1.trans (hf.trans u1.symm)) (o2.trans s3) (u2.trans t3) s4 t4 v1 v2
          refine ⟨M', g1, RM_sh hM (fun c c1 c2 => zr_n (by omega)) (by rw [g2 65 (by decide) (by decide), zr_n (by decide)]; exact hM.2.2.2.2.2.2) (SHm_1 h.1 hM (fun c c1 c2 c3 c4 => zr_n c4) (fun s e => by rw [g2 66 (by decide) (by decide)]) (fun s e => by rw [g2 67 (by decide) (by decide)]) (fun j e => g4 j (by omega)) ?_ ?_ ?_) (g2 70 (by decide) (by decide)) (g2 71 (by decide) (by decide)) (g2 75 (by decide) (by decide)) (g2 87 (by decide) (by decide)) (fun j hj => by rw [g2 65 (by decide) (by decide)]), fun c hc => g2 c (by omega) (by omega)⟩
          · rw [g2 66 (by decide) (by decide), zr_n (by decide), if_pos hz2]; exact u1
          · rw [g2 67 (by decide) (by decide), zr_n (by decide)]; exact u2
          · rw [zr_n (show 55 ≠ 56 by decide), zr_s]
            intro j hj
            by_cases e : r ≤ j ∧ j < r + q
            · obtain ⟨e1, e2⟩ := e
              rw [pk_cpy_in e1 e2]
              have := g3 (j - r) (by omega)
              rw [show 60 * 1 + r + (j - r) = 60 * 1 + j by omega, show 60 * 2 + p + (j - r) = 60 * 2 + (p + (j - r)) by omega, o3 _ (by omega)] at this
              exact this
            · rw [pk_cpy_out (by omega), g4 _ (by omega)]
              exact u3 j hj
      · refine mkF (v := -12) (k := 2) h (fun Q => ?_) (fun M J hM Q => ?_)
        · by_cases w1 : Hv (I 57 2) a c = 0
          · simp (disch := first | assumption | omega | (simp (disch := omega) only [zr_n, zr_s]; assumption)) only [x71_0, x71_1, x71_2, x71_5, x71_8, x71_9, x71_10, x71_13, x71_16, x71_18, x71_19, x71_20_0, x71_23, x71_24, x71_25, x71_27, x71_28_0, x71_31, x71_32, x71_33, x71_35, x71_37_53, x71_37_55, x71_37_57, x71_37_59, x71_40, x71_43, x71_45_53, x71_45_55, x71_45_57, x71_45_59, x71_48, x71_51, x71_52, x71_53, x71_56, x71_57, x71_59_53, x71_59_55, x71_59_57, x71_59_59, x71_62, x71_64_53, x71_64_55, x71_64_57, x71_64_59, x71_67, x71_70, x71_71, x71_72, x71_75, x71_76, x71_78, x71_79, x71_81, x71_84, x71_87, x71_89, x71_91, x71_93, x71_96, x71_99, x71_100, x71_101, x71_104, x71_105, x71_107_53, x71_107_55, x71_107_57, x71_107_59, x71_110, x71_111, x71_113_53, x71_113_55, x71_113_57, x71_113_59, x71_116, x71_118, x71_120, x71_123, x71_124, gc_0, br_52, aa_52_0, aa_52_1, aa_52_2, aa_52_3, gc_57, gc_55, ↓reduceIte, zkl_i, zkl_r, zkl_n, zkl_z, zkl_l, Option.toList_some, Option.toList_none, List.cons_append, List.nil_append, zcs_0, zcs_i, zcs_l, zcs_r, zle8, true_and, and_true, true_or, or_true, c_below, c1, c2, i1_0, if_false, ixN_nI, nI_clamp, hz1, hz2, hf, if_true, c_holdsH, w1, c_found, v11]
          · have w2 : Hv (I 55 2) b c = 0 := by
              rw [t3]
              refine Hv0 t4 (fun z => ?_)
              obtain ⟨r, q, rfl, rfl, v2⟩ := z
              refine w1 ?_
              rw [s3]
              refine Hv0 s4 (fun z => ?_)
              obtain ⟨p, q', rfl, eq, v1⟩ := z
              exact hv ⟨p, r, q, rfl, rfl, rfl, by
                by_cases hq : q < 2 ^ 31
                · have : q = q' := (nI_eq hq (by omega)).mp eq
                  omega
                · omega, v2⟩
            simp (disch := first | assumption | omega | (simp (disch := omega) only [zr_n, zr_s]; assumption)) only [x71_0, x71_1, x71_2, x71_5, x71_8, x71_9, x71_10, x71_13, x71_16, x71_18, x71_19, x71_20_0, x71_23, x71_24, x71_25, x71_27, x71_28_0, x71_31, x71_32, x71_33, x71_35, x71_37_53, x71_37_55, x71_37_57, x71_37_59, x71_40, x71_43, x71_45_53, x71_45_55, x71_45_57, x71_45_59, x71_48, x71_51, x71_52, x71_53, x71_56, x71_57, x71_59_53, x71_59_55, x71_59_57, x71_59_59, x71_62, x71_64_53, x71_64_55, x71_64_57, x71_64_59, x71_67, x71_70, x71_71, x71_72, x71_75, x71_76, x71_78, x71_79, x71_81, x71_84, x71_87, x71_89, x71_91, x71_93, x71_96, x71_99, x71_100, x71_101, x71_104, x71_105, x71_107_53, x71_107_55, x71_107_57, x71_107_59, x71_110, x71_111, x71_113_53, x71_113_55, x71_113_57, x71_113_59, x71_116, x71_118, x71_120, x71_123, x71_124, gc_0, br_52, aa_52_0, aa_52_1, aa_52_2, aa_52_3, gc_57, gc_55, ↓reduceIte, zkl_i, zkl_r, zkl_n, zkl_z, zkl_l, Option.toList_some, Option.toList_none, List.cons_append, List.nil_append, zcs_0, zcs_i, zcs_l, zcs_r, zle8, true_and, and_true, true_or, or_true, c_below, c1, c2, i1_0, if_false, ixN_nI, nI_clamp, hz1, hz2, hf, if_true, c_holdsH, w1, w2, c_found, v11]
        · obtain ⟨-, o2, o3, o4, -⟩ := sh_2 h.1 hM
          obtain ⟨-, u2, u3, u4, -⟩ := sh_1 h.1 hM
          obtain ⟨o1, on⟩ := o4 hz1
          obtain ⟨u1, un⟩ := u4 hz2
          exact mc_index (by decide) (by decide) (by rw [o1]; exact on) (by rw [u1]; exact un) (o1.trans (hf.trans u1.symm)) (o2.trans s3) (u2.trans t3) s4 t4 hv
    · refine mkF (v := -14) (k := 4) h (fun Q => ?_) (fun M J hM Q => ?_)
      · first
          | exact absurd rfl hf
          | simp (disch := first | assumption | omega | (simp (disch := omega) only [zr_n, zr_s]; assumption)) only [x71_0, x71_1, x71_2, x71_5, x71_8, x71_9, x71_10, x71_13, x71_16, x71_18, x71_19, x71_20_0, x71_23, x71_24, x71_25, x71_27, x71_28_0, x71_31, x71_32, x71_33, x71_35, x71_37_53, x71_37_55, x71_37_57, x71_37_59, x71_40, x71_43, x71_45_53, x71_45_55, x71_45_57, x71_45_59, x71_48, x71_51, x71_52, x71_53, x71_56, x71_57, x71_59_53, x71_59_55, x71_59_57, x71_59_59, x71_62, x71_64_53, x71_64_55, x71_64_57, x71_64_59, x71_67, x71_70, x71_71, x71_72, x71_75, x71_76, x71_78, x71_79, x71_81, x71_84, x71_87, x71_89, x71_91, x71_93, x71_96, x71_99, x71_100, x71_101, x71_104, x71_105, x71_107_53, x71_107_55, x71_107_57, x71_107_59, x71_110, x71_111, x71_113_53, x71_113_55, x71_113_57, x71_113_59, x71_116, x71_118, x71_120, x71_123, x71_124, gc_0, br_52, aa_52_0, aa_52_1, aa_52_2, aa_52_3, gc_57, gc_55, ↓reduceIte, zkl_i, zkl_r, zkl_n, zkl_z, zkl_l, Option.toList_some, Option.toList_none, List.cons_append, List.nil_append, zcs_0, zcs_i, zcs_l, zcs_r, zle8, true_and, and_true, true_or, or_true, c_below, c1, c2, i1_0, if_false, ixN_nI, nI_clamp, hz1, hz2, hf, if_true, c_found, v11]
      · obtain ⟨o1, on⟩ := (sh_2 h.1 hM).2.2.2.1 hz1
        obtain ⟨u1, un⟩ := (sh_1 h.1 hM).2.2.2.1 hz2
        exact mc_store (by decide) (by decide) (by rw [o1]; exact on) (by rw [u1]; exact un) (fun z => hf (o1.symm.trans (z.trans u1)))
  · refine mkF (v := -11) (k := 1) h (fun Q => ?_) (fun M J hM Q => ?_)
    · by_cases z1 : I 57 0 = 0
      · have z2 : ¬ I 55 0 = 0 := fun z => hz ⟨z1, z⟩
        first
          | exact absurd z1 z2
          | simp (disch := first | assumption | omega | (simp (disch := omega) only [zr_n, zr_s]; assumption)) only [x71_0, x71_1, x71_2, x71_5, x71_8, x71_9, x71_10, x71_13, x71_16, x71_18, x71_19, x71_20_0, x71_23, x71_24, x71_25, x71_27, x71_28_0, x71_31, x71_32, x71_33, x71_35, x71_37_53, x71_37_55, x71_37_57, x71_37_59, x71_40, x71_43, x71_45_53, x71_45_55, x71_45_57, x71_45_59, x71_48, x71_51, x71_52, x71_53, x71_56, x71_57, x71_59_53, x71_59_55, x71_59_57, x71_59_59, x71_62, x71_64_53, x71_64_55, x71_64_57, x71_64_59, x71_67, x71_70, x71_71, x71_72, x71_75, x71_76, x71_78, x71_79, x71_81, x71_84, x71_87, x71_89, x71_91, x71_93, x71_96, x71_99, x71_100, x71_101, x71_104, x71_105, x71_107_53, x71_107_55, x71_107_57, x71_107_59, x71_110, x71_111, x71_113_53, x71_113_55, x71_113_57, x71_113_59, x71_116, x71_118, x71_120, x71_123, x71_124, gc_0, br_52, aa_52_0, aa_52_1, aa_52_2, aa_52_3, gc_57, gc_55, ↓reduceIte, zkl_i, zkl_r, zkl_n, zkl_z, zkl_l, Option.toList_some, Option.toList_none, List.cons_append, List.nil_append, zcs_0, zcs_i, zcs_l, zcs_r, zle8, true_and, and_true, true_or, or_true, c_below, c1, c2, i1_0, if_false, ixN_nI, nI_clamp, z1, z2, if_true, c_found, v11]
      · simp (disch := first | assumption | omega | (simp (disch := omega) only [zr_n, zr_s]; assumption)) only [x71_0, x71_1, x71_2, x71_5, x71_8, x71_9, x71_10, x71_13, x71_16, x71_18, x71_19, x71_20_0, x71_23, x71_24, x71_25, x71_27, x71_28_0, x71_31, x71_32, x71_33, x71_35, x71_37_53, x71_37_55, x71_37_57, x71_37_59, x71_40, x71_43, x71_45_53, x71_45_55, x71_45_57, x71_45_59, x71_48, x71_51, x71_52, x71_53, x71_56, x71_57, x71_59_53, x71_59_55, x71_59_57, x71_59_59, x71_62, x71_64_53, x71_64_55, x71_64_57, x71_64_59, x71_67, x71_70, x71_71, x71_72, x71_75, x71_76, x71_78, x71_79, x71_81, x71_84, x71_87, x71_89, x71_91, x71_93, x71_96, x71_99, x71_100, x71_101, x71_104, x71_105, x71_107_53, x71_107_55, x71_107_57, x71_107_59, x71_110, x71_111, x71_113_53, x71_113_55, x71_113_57, x71_113_59, x71_116, x71_118, x71_120, x71_123, x71_124, gc_0, br_52, aa_52_0, aa_52_1, aa_52_2, aa_52_3, gc_57, gc_55, ↓reduceIte, zkl_i, zkl_r, zkl_n, zkl_z, zkl_l, Option.toList_some, Option.toList_none, List.cons_append, List.nil_append, zcs_0, zcs_i, zcs_l, zcs_r, zle8, true_and, and_true, true_or, or_true, c_below, c1, c2, i1_0, if_false, ixN_nI, nI_clamp, z1, if_true, c_found, v11]
    · refine mc_null (by decide) (by decide) ?_
      by_cases z1 : I 57 0 = 0
      · have z2 : ¬ I 55 0 = 0 := fun z => hz ⟨z1, z⟩
        rw [(sh_1 h.1 hM).2.2.2.2 z2]
        exact Or.inr (by decide)
      · rw [(sh_2 h.1 hM).2.2.2.2 z1]
        exact Or.inl (by decide)
theorem k_copy_22 (h : Inv I) : KI xl 71 112 [.ref 0, .int (nI 2), .int a, .int (nI 2), .int b, .int c, .null, .null] [.ref 65, .int (nI 2), .int a, .int (nI 2), .int b, .int c, .null] I J := by
  have c1 : (if nI 2 < 0 then (0 : Int32) else if nI 2 < 4 then 1 else 0) = 1 := bl1 (n := 4) (by decide) (by decide)
  have c2 : (if nI 2 < 0 then (0 : Int32) else if nI 2 < 4 then 1 else 0) = 1 := bl1 (n := 4) (by decide) (by decide)
  obtain ⟨⟨s1, s2, s3, s4⟩, -⟩ := sh_2 h.1 h.2
  obtain ⟨⟨t1, t2, t3, t4⟩, -⟩ := sh_2 h.1 h.2
  by_cases hz : I 57 0 = 0 ∧ I 57 0 = 0
  · obtain ⟨hz1, hz2⟩ := hz
    by_cases hf : I 57 1 = I 57 1
    · by_cases hv : ∃ p r q, a = nI p ∧ b = nI r ∧ c = nI q ∧ p + q ≤ tn (I 57 2) ∧ r + q ≤ tn (I 57 2)
      · obtain ⟨p, r, q, rfl, rfl, rfl, v1, v2⟩ := hv
        have w1 : Hv (I 57 2) (nI p) (nI q) = 1 := by rw [s3]; exact Hv1 s4 v1
        have w2 : Hv (I 57 2) (nI r) (nI q) = 1 := by rw [t3]; exact Hv1 t4 v2
        have hcp : zcp (zG xl) 58 58 (nI p) (nI r) (nI q) := ⟨ak_58, ak_58, nI_pos (by omega), nI_pos (by omega), nI_pos (by omega), by rw [al_58, nI_clamp (by omega), nI_clamp (by omega)]; omega, by rw [al_58, nI_clamp (by omega), nI_clamp (by omega)]; omega⟩
        refine mkU (v := 1) (I1 := zr I 58 (va_cpy (I 58) (I 58) p r q)) h (fun Q => ?_) (RC_sh h.1 (fun c c1 c2 => zr_n (by omega)) (zr_n (by decide)) (fun s hs => by rw [zr_n (by omega)]; exact h.1.2.2.1 s hs)) (fun c hc => zr_n (by omega)) (fun M J hM => ?_)
        · simp (disch := first | assumption | omega | (simp (disch := omega) only [zr_n, zr_s]; assumption)) only [x71_0, x71_1, x71_2, x71_5, x71_8, x71_9, x71_10, x71_13, x71_16, x71_18, x71_19, x71_20_0, x71_23, x71_24, x71_25, x71_27, x71_28_0, x71_31, x71_32, x71_33, x71_35, x71_37_53, x71_37_55, x71_37_57, x71_37_59, x71_40, x71_43, x71_45_53, x71_45_55, x71_45_57, x71_45_59, x71_48, x71_51, x71_52, x71_53, x71_56, x71_57, x71_59_53, x71_59_55, x71_59_57, x71_59_59, x71_62, x71_64_53, x71_64_55, x71_64_57, x71_64_59, x71_67, x71_70, x71_71, x71_72, x71_75, x71_76, x71_78, x71_79, x71_81, x71_84, x71_87, x71_89, x71_91, x71_93, x71_96, x71_99, x71_100, x71_101, x71_104, x71_105, x71_107_53, x71_107_55, x71_107_57, x71_107_59, x71_110, x71_111, x71_113_53, x71_113_55, x71_113_57, x71_113_59, x71_116, x71_118, x71_120, x71_123, x71_124, gc_0, br_52, aa_52_0, aa_52_1, aa_52_2, aa_52_3, gc_57, gc_57, ↓reduceIte, zkl_i, zkl_r, zkl_n, zkl_z, zkl_l, Option.toList_some, Option.toList_none, List.cons_append, List.nil_append, zcs_0, zcs_i, zcs_l, zcs_r, zle8, true_and, and_true, true_or, or_true, c_below, c1, c2, i1_0, if_false, ixN_nI, nI_clamp, hz1, hz2, hf, if_true, c_holdsH, w1, w2, hcp]
        · obtain ⟨-, o2, o3, o4, -⟩ := sh_2 h.1 hM
          obtain ⟨-, u2, u3, u4, -⟩ := sh_2 h.1 hM
          obtain ⟨o1, on⟩ := o4 hz1
          obtain ⟨u1, un⟩ := u4 hz2
          obtain ⟨M', g1, g2, g3, g4⟩ := mc_ok (xl := xl) (J := J) (M := M) (s := 2) (t := 2) (p := p) (r := r) (q := q) (by decide) (by decide) (by rw [o1]; exact on) (by rw [u1]; exact un) (o1.trans (hf.trans u1.symm)) (o2.trans s3) (u2.trans t3) s4 t4 v1 v2
          refine ⟨M', g1, RM_sh hM (fun c c1 c2 => zr_n (by omega)) (by rw [g2 65 (by decide) (by decide), zr_n (by decide)]; exact hM.2.2.2.2.2.2) (SHm_2 h.1 hM (fun c c1 c2 c3 c4 => zr_n c4) (fun s e => by rw [g2 66 (by decide) (by decide)]) (fun s e => by rw [g2 67 (by decide) (by decide)]) (fun j e => g4 j (by omega)) ?_ ?_ ?_) (g2 70 (by decide) (by decide)) (g2 71 (by decide) (by decide)) (g2 75 (by decide) (by decide)) (g2 87 (by decide) (by decide)) (fun j hj => by rw [g2 65 (by decide) (by decide)]), fun c hc => g2 c (by omega) (by omega)⟩
          · rw [g2 66 (by decide) (by decide), zr_n (by decide), if_pos hz2]; exact u1
          · rw [g2 67 (by decide) (by decide), zr_n (by decide)]; exact u2
          · rw [zr_n (show 57 ≠ 58 by decide), zr_s]
            intro j hj
            by_cases e : r ≤ j ∧ j < r + q
            · obtain ⟨e1, e2⟩ := e
              rw [pk_cpy_in e1 e2]
              have := g3 (j - r) (by omega)
              rw [show 60 * 2 + r + (j - r) = 60 * 2 + j by omega, show 60 * 2 + p + (j - r) = 60 * 2 + (p + (j - r)) by omega, o3 _ (by omega)] at this
              exact this
            · rw [pk_cpy_out (by omega), g4 _ (by omega)]
              exact u3 j hj
      · refine mkF (v := -12) (k := 2) h (fun Q => ?_) (fun M J hM Q => ?_)
        · by_cases w1 : Hv (I 57 2) a c = 0
          · simp (disch := first | assumption | omega | (simp (disch := omega) only [zr_n, zr_s]; assumption)) only [x71_0, x71_1, x71_2, x71_5, x71_8, x71_9, x71_10, x71_13, x71_16, x71_18, x71_19, x71_20_0, x71_23, x71_24, x71_25, x71_27, x71_28_0, x71_31, x71_32, x71_33, x71_35, x71_37_53, x71_37_55, x71_37_57, x71_37_59, x71_40, x71_43, x71_45_53, x71_45_55, x71_45_57, x71_45_59, x71_48, x71_51, x71_52, x71_53, x71_56, x71_57, x71_59_53, x71_59_55, x71_59_57, x71_59_59, x71_62, x71_64_53, x71_64_55, x71_64_57, x71_64_59, x71_67, x71_70, x71_71, x71_72, x71_75, x71_76, x71_78, x71_79, x71_81, x71_84, x71_87, x71_89, x71_91, x71_93, x71_96, x71_99, x71_100, x71_101, x71_104, x71_105, x71_107_53, x71_107_55, x71_107_57, x71_107_59, x71_110, x71_111, x71_113_53, x71_113_55, x71_113_57, x71_113_59, x71_116, x71_118, x71_120, x71_123, x71_124, gc_0, br_52, aa_52_0, aa_52_1, aa_52_2, aa_52_3, gc_57, gc_57, ↓reduceIte, zkl_i, zkl_r, zkl_n, zkl_z, zkl_l, Option.toList_some, Option.toList_none, List.cons_append, List.nil_append, zcs_0, zcs_i, zcs_l, zcs_r, zle8, true_and, and_true, true_or, or_true, c_below, c1, c2, i1_0, if_false, ixN_nI, nI_clamp, hz1, hz2, hf, if_true, c_holdsH, w1, c_found, v11]
          · have w2 : Hv (I 57 2) b c = 0 := by
              rw [t3]
              refine Hv0 t4 (fun z => ?_)
              obtain ⟨r, q, rfl, rfl, v2⟩ := z
              refine w1 ?_
              rw [s3]
              refine Hv0 s4 (fun z => ?_)
              obtain ⟨p, q', rfl, eq, v1⟩ := z
              exact hv ⟨p, r, q, rfl, rfl, rfl, by
                by_cases hq : q < 2 ^ 31
                · have : q = q' := (nI_eq hq (by omega)).mp eq
                  omega
                · omega, v2⟩
            simp (disch := first | assumption | omega | (simp (disch := omega) only [zr_n, zr_s]; assumption)) only [x71_0, x71_1, x71_2, x71_5, x71_8, x71_9, x71_10, x71_13, x71_16, x71_18, x71_19, x71_20_0, x71_23, x71_24, x71_25, x71_27, x71_28_0, x71_31, x71_32, x71_33, x71_35, x71_37_53, x71_37_55, x71_37_57, x71_37_59, x71_40, x71_43, x71_45_53, x71_45_55, x71_45_57, x71_45_59, x71_48, x71_51, x71_52, x71_53, x71_56, x71_57, x71_59_53, x71_59_55, x71_59_57, x71_59_59, x71_62, x71_64_53, x71_64_55, x71_64_57, x71_64_59, x71_67, x71_70, x71_71, x71_72, x71_75, x71_76, x71_78, x71_79, x71_81, x71_84, x71_87, x71_89, x71_91, x71_93, x71_96, x71_99, x71_100, x71_101, x71_104, x71_105, x71_107_53, x71_107_55, x71_107_57, x71_107_59, x71_110, x71_111, x71_113_53, x71_113_55, x71_113_57, x71_113_59, x71_116, x71_118, x71_120, x71_123, x71_124, gc_0, br_52, aa_52_0, aa_52_1, aa_52_2, aa_52_3, gc_57, gc_57, ↓reduceIte, zkl_i, zkl_r, zkl_n, zkl_z, zkl_l, Option.toList_some, Option.toList_none, List.cons_append, List.nil_append, zcs_0, zcs_i, zcs_l, zcs_r, zle8, true_and, and_true, true_or, or_true, c_below, c1, c2, i1_0, if_false, ixN_nI, nI_clamp, hz1, hz2, hf, if_true, c_holdsH, w1, w2, c_found, v11]
        · obtain ⟨-, o2, o3, o4, -⟩ := sh_2 h.1 hM
          obtain ⟨-, u2, u3, u4, -⟩ := sh_2 h.1 hM
          obtain ⟨o1, on⟩ := o4 hz1
          obtain ⟨u1, un⟩ := u4 hz2
          exact mc_index (by decide) (by decide) (by rw [o1]; exact on) (by rw [u1]; exact un) (o1.trans (hf.trans u1.symm)) (o2.trans s3) (u2.trans t3) s4 t4 hv
    · refine mkF (v := -14) (k := 4) h (fun Q => ?_) (fun M J hM Q => ?_)
      · first
          | exact absurd rfl hf
          | simp (disch := first | assumption | omega | (simp (disch := omega) only [zr_n, zr_s]; assumption)) only [x71_0, x71_1, x71_2, x71_5, x71_8, x71_9, x71_10, x71_13, x71_16, x71_18, x71_19, x71_20_0, x71_23, x71_24, x71_25, x71_27, x71_28_0, x71_31, x71_32, x71_33, x71_35, x71_37_53, x71_37_55, x71_37_57, x71_37_59, x71_40, x71_43, x71_45_53, x71_45_55, x71_45_57, x71_45_59, x71_48, x71_51, x71_52, x71_53, x71_56, x71_57, x71_59_53, x71_59_55, x71_59_57, x71_59_59, x71_62, x71_64_53, x71_64_55, x71_64_57, x71_64_59, x71_67, x71_70, x71_71, x71_72, x71_75, x71_76, x71_78, x71_79, x71_81, x71_84, x71_87, x71_89, x71_91, x71_93, x71_96, x71_99, x71_100, x71_101, x71_104, x71_105, x71_107_53, x71_107_55, x71_107_57, x71_107_59, x71_110, x71_111, x71_113_53, x71_113_55, x71_113_57, x71_113_59, x71_116, x71_118, x71_120, x71_123, x71_124, gc_0, br_52, aa_52_0, aa_52_1, aa_52_2, aa_52_3, gc_57, gc_57, ↓reduceIte, zkl_i, zkl_r, zkl_n, zkl_z, zkl_l, Option.toList_some, Option.toList_none, List.cons_append, List.nil_append, zcs_0, zcs_i, zcs_l, zcs_r, zle8, true_and, and_true, true_or, or_true, c_below, c1, c2, i1_0, if_false, ixN_nI, nI_clamp, hz1, hz2, hf, if_true, c_found, v11]
      · obtain ⟨o1, on⟩ := (sh_2 h.1 hM).2.2.2.1 hz1
        obtain ⟨u1, un⟩ := (sh_2 h.1 hM).2.2.2.1 hz2
        exact mc_store (by decide) (by decide) (by rw [o1]; exact on) (by rw [u1]; exact un) (fun z => hf (o1.symm.trans (z.trans u1)))
  · refine mkF (v := -11) (k := 1) h (fun Q => ?_) (fun M J hM Q => ?_)
    · by_cases z1 : I 57 0 = 0
      · have z2 : ¬ I 57 0 = 0 := fun z => hz ⟨z1, z⟩
        first
          | exact absurd z1 z2
          | simp (disch := first | assumption | omega | (simp (disch := omega) only [zr_n, zr_s]; assumption)) only [x71_0, x71_1, x71_2, x71_5, x71_8, x71_9, x71_10, x71_13, x71_16, x71_18, x71_19, x71_20_0, x71_23, x71_24, x71_25, x71_27, x71_28_0, x71_31, x71_32, x71_33, x71_35, x71_37_53, x71_37_55, x71_37_57, x71_37_59, x71_40, x71_43, x71_45_53, x71_45_55, x71_45_57, x71_45_59, x71_48, x71_51, x71_52, x71_53, x71_56, x71_57, x71_59_53, x71_59_55, x71_59_57, x71_59_59, x71_62, x71_64_53, x71_64_55, x71_64_57, x71_64_59, x71_67, x71_70, x71_71, x71_72, x71_75, x71_76, x71_78, x71_79, x71_81, x71_84, x71_87, x71_89, x71_91, x71_93, x71_96, x71_99, x71_100, x71_101, x71_104, x71_105, x71_107_53, x71_107_55, x71_107_57, x71_107_59, x71_110, x71_111, x71_113_53, x71_113_55, x71_113_57, x71_113_59, x71_116, x71_118, x71_120, x71_123, x71_124, gc_0, br_52, aa_52_0, aa_52_1, aa_52_2, aa_52_3, gc_57, gc_57, ↓reduceIte, zkl_i, zkl_r, zkl_n, zkl_z, zkl_l, Option.toList_some, Option.toList_none, List.cons_append, List.nil_append, zcs_0, zcs_i, zcs_l, zcs_r, zle8, true_and, and_true, true_or, or_true, c_below, c1, c2, i1_0, if_false, ixN_nI, nI_clamp, z1, z2, if_true, c_found, v11]
      · simp (disch := first | assumption | omega | (simp (disch := omega) only [zr_n, zr_s]; assumption)) only [x71_0, x71_1, x71_2, x71_5, x71_8, x71_9, x71_10, x71_13, x71_16, x71_18, x71_19, x71_20_0, x71_23, x71_24, x71_25, x71_27, x71_28_0, x71_31, x71_32, x71_33, x71_35, x71_37_53, x71_37_55, x71_37_57, x71_37_59, x71_40, x71_43, x71_45_53, x71_45_55, x71_45_57, x71_45_59, x71_48, x71_51, x71_52, x71_53, x71_56, x71_57, x71_59_53, x71_59_55, x71_59_57, x71_59_59, x71_62, x71_64_53, x71_64_55, x71_64_57, x71_64_59, x71_67, x71_70, x71_71, x71_72, x71_75, x71_76, x71_78, x71_79, x71_81, x71_84, x71_87, x71_89, x71_91, x71_93, x71_96, x71_99, x71_100, x71_101, x71_104, x71_105, x71_107_53, x71_107_55, x71_107_57, x71_107_59, x71_110, x71_111, x71_113_53, x71_113_55, x71_113_57, x71_113_59, x71_116, x71_118, x71_120, x71_123, x71_124, gc_0, br_52, aa_52_0, aa_52_1, aa_52_2, aa_52_3, gc_57, gc_57, ↓reduceIte, zkl_i, zkl_r, zkl_n, zkl_z, zkl_l, Option.toList_some, Option.toList_none, List.cons_append, List.nil_append, zcs_0, zcs_i, zcs_l, zcs_r, zle8, true_and, and_true, true_or, or_true, c_below, c1, c2, i1_0, if_false, ixN_nI, nI_clamp, z1, if_true, c_found, v11]
    · refine mc_null (by decide) (by decide) ?_
      by_cases z1 : I 57 0 = 0
      · have z2 : ¬ I 57 0 = 0 := fun z => hz ⟨z1, z⟩
        rw [(sh_2 h.1 hM).2.2.2.2 z2]
        exact Or.inr (by decide)
      · rw [(sh_2 h.1 hM).2.2.2.2 z1]
        exact Or.inl (by decide)
theorem k_copy_23 (h : Inv I) : KI xl 71 112 [.ref 0, .int (nI 2), .int a, .int (nI 3), .int b, .int c, .null, .null] [.ref 65, .int (nI 2), .int a, .int (nI 3), .int b, .int c, .null] I J := by
  have c1 : (if nI 2 < 0 then (0 : Int32) else if nI 2 < 4 then 1 else 0) = 1 := bl1 (n := 4) (by decide) (by decide)
  have c2 : (if nI 3 < 0 then (0 : Int32) else if nI 3 < 4 then 1 else 0) = 1 := bl1 (n := 4) (by decide) (by decide)
  obtain ⟨⟨s1, s2, s3, s4⟩, -⟩ := sh_2 h.1 h.2
  obtain ⟨⟨t1, t2, t3, t4⟩, -⟩ := sh_3 h.1 h.2
  by_cases hz : I 57 0 = 0 ∧ I 59 0 = 0
  · obtain ⟨hz1, hz2⟩ := hz
    by_cases hf : I 57 1 = I 59 1
    · by_cases hv : ∃ p r q, a = nI p ∧ b = nI r ∧ c = nI q ∧ p + q ≤ tn (I 57 2) ∧ r + q ≤ tn (I 59 2)
      · obtain ⟨p, r, q, rfl, rfl, rfl, v1, v2⟩ := hv
        have w1 : Hv (I 57 2) (nI p) (nI q) = 1 := by rw [s3]; exact Hv1 s4 v1
        have w2 : Hv (I 59 2) (nI r) (nI q) = 1 := by rw [t3]; exact Hv1 t4 v2
        have hcp : zcp (zG xl) 58 60 (nI p) (nI r) (nI q) := ⟨ak_58, ak_60, nI_pos (by omega), nI_pos (by omega), nI_pos (by omega), by rw [al_58, nI_clamp (by omega), nI_clamp (by omega)]; omega, by rw [al_60, nI_clamp (by omega), nI_clamp (by omega)]; omega⟩
        refine mkU (v := 1) (I1 := zr I 60 (va_cpy (I 58) (I 60) p r q)) h (fun Q => ?_) (RC_sh h.1 (fun c c1 c2 => zr_n (by omega)) (zr_n (by decide)) (fun s hs => by rw [zr_n (by omega)]; exact h.1.2.2.1 s hs)) (fun c hc => zr_n (by omega)) (fun M J hM => ?_)
        · simp (disch := first | assumption | omega | (simp (disch := omega) only [zr_n, zr_s]; assumption)) only [x71_0, x71_1, x71_2, x71_5, x71_8, x71_9, x71_10, x71_13, x71_16, x71_18, x71_19, x71_20_0, x71_23, x71_24, x71_25, x71_27, x71_28_0, x71_31, x71_32, x71_33, x71_35, x71_37_53, x71_37_55, x71_37_57, x71_37_59, x71_40, x71_43, x71_45_53, x71_45_55, x71_45_57, x71_45_59, x71_48, x71_51, x71_52, x71_53, x71_56, x71_57, x71_59_53, x71_59_55, x71_59_57, x71_59_59, x71_62, x71_64_53, x71_64_55, x71_64_57, x71_64_59, x71_67, x71_70, x71_71, x71_72, x71_75, x71_76, x71_78, x71_79, x71_81, x71_84, x71_87, x71_89, x71_91, x71_93, x71_96, x71_99, x71_100, x71_101, x71_104, x71_105, x71_107_53, x71_107_55, x71_107_57, x71_107_59, x71_110, x71_111, x71_113_53, x71_113_55, x71_113_57, x71_113_59, x71_116, x71_118, x71_120, x71_123, x71_124, gc_0, br_52, aa_52_0, aa_52_1, aa_52_2, aa_52_3, gc_57, gc_59, ↓reduceIte, zkl_i, zkl_r, zkl_n, zkl_z, zkl_l, Option.toList_some, Option.toList_none, List.cons_append, List.nil_append, zcs_0, zcs_i, zcs_l, zcs_r, zle8, true_and, and_true, true_or, or_true, c_below, c1, c2, i1_0, if_false, ixN_nI, nI_clamp, hz1, hz2, hf, if_true, c_holdsH, w1, w2, hcp]
        · obtain ⟨-, o2, o3, o4, -⟩ := sh_2 h.1 hM
          obtain ⟨-, u2, u3, u4, -⟩ := sh_3 h.1 hM
          obtain ⟨o1, on⟩ := o4 hz1
          obtain ⟨u1, un⟩ := u4 hz2
          obtain ⟨M', g1, g2, g3, g4⟩ := mc_ok (xl := xl) (J := J) (M := M) (s := 2) (t := 3) (p := p) (r := r) (q := q) (by decide) (by decide) (by rw [o1]; exact on) (by rw [u1]; exact un) (o1.trans (hf.trans u1.symm)) (o2.trans s3) (u2.trans t3) s4 t4 v1 v2
          refine ⟨M', g1, RM_sh hM (fun c c1 c2 => zr_n (by omega)) (by rw [g2 65 (by decide) (by decide), zr_n (by decide)]; exact hM.2.2.2.2.2.2) (SHm_3 h.1 hM (fun c c1 c2 c3 c4 => zr_n c4) (fun s e => by rw [g2 66 (by decide) (by decide)]) (fun s e => by rw [g2 67 (by decide) (by decide)]) (fun j e => g4 j (by omega)) ?_ ?_ ?_) (g2 70 (by decide) (by decide)) (g2 71 (by decide) (by decide)) (g2 75 (by decide) (by decide)) (g2 87 (by decide) (by decide)) (fun j hj => by rw [g2 65 (by decide) (by decide)]), fun c hc => g2 c (by omega) (by omega)⟩
          · rw [g2 66 (by decide) (by decide), zr_n (by decide), if_pos hz2]; exact u1
          · rw [g2 67 (by decide) (by decide), zr_n (by decide)]; exact u2
          · rw [zr_n (show 59 ≠ 60 by decide), zr_s]
            intro j hj
            by_cases e : r ≤ j ∧ j < r + q
            · obtain ⟨e1, e2⟩ := e
              rw [pk_cpy_in e1 e2]
              have := g3 (j - r) (by omega)
              rw [show 60 * 3 + r + (j - r) = 60 * 3 + j by omega, show 60 * 2 + p + (j - r) = 60 * 2 + (p + (j - r)) by omega, o3 _ (by omega)] at this
              exact this
            · rw [pk_cpy_out (by omega), g4 _ (by omega)]
              exact u3 j hj
      · refine mkF (v := -12) (k := 2) h (fun Q => ?_) (fun M J hM Q => ?_)
        · by_cases w1 : Hv (I 57 2) a c = 0
          · simp (disch := first | assumption | omega | (simp (disch := omega) only [zr_n, zr_s]; assumption)) only [x71_0, x71_1, x71_2, x71_5, x71_8, x71_9, x71_10, x71_13, x71_16, x71_18, x71_19, x71_20_0, x71_23, x71_24, x71_25, x71_27, x71_28_0, x71_31, x71_32, x71_33, x71_35, x71_37_53, x71_37_55, x71_37_57, x71_37_59, x71_40, x71_43, x71_45_53, x71_45_55, x71_45_57, x71_45_59, x71_48, x71_51, x71_52, x71_53, x71_56, x71_57, x71_59_53, x71_59_55, x71_59_57, x71_59_59, x71_62, x71_64_53, x71_64_55, x71_64_57, x71_64_59, x71_67, x71_70, x71_71, x71_72, x71_75, x71_76, x71_78, x71_79, x71_81, x71_84, x71_87, x71_89, x71_91, x71_93, x71_96, x71_99, x71_100, x71_101, x71_104, x71_105, x71_107_53, x71_107_55, x71_107_57, x71_107_59, x71_110, x71_111, x71_113_53, x71_113_55, x71_113_57, x71_113_59, x71_116, x71_118, x71_120, x71_123, x71_124, gc_0, br_52, aa_52_0, aa_52_1, aa_52_2, aa_52_3, gc_57, gc_59, ↓reduceIte, zkl_i, zkl_r, zkl_n, zkl_z, zkl_l, Option.toList_some, Option.toList_none, List.cons_append, List.nil_append, zcs_0, zcs_i, zcs_l, zcs_r, zle8, true_and, and_true, true_or, or_true, c_below, c1, c2, i1_0, if_false, ixN_nI, nI_clamp, hz1, hz2, hf, if_true, c_holdsH, w1, c_found, v11]
          · have w2 : Hv (I 59 2) b c = 0 := by
              rw [t3]
              refine Hv0 t4 (fun z => ?_)
              obtain ⟨r, q, rfl, rfl, v2⟩ := z
              refine w1 ?_
              rw [s3]
              refine Hv0 s4 (fun z => ?_)
              obtain ⟨p, q', rfl, eq, v1⟩ := z
              exact hv ⟨p, r, q, rfl, rfl, rfl, by
                by_cases hq : q < 2 ^ 31
                · have : q = q' := (nI_eq hq (by omega)).mp eq
                  omega
                · omega, v2⟩
            simp (disch := first | assumption | omega | (simp (disch := omega) only [zr_n, zr_s]; assumption)) only [x71_0, x71_1, x71_2, x71_5, x71_8, x71_9, x71_10, x71_13, x71_16, x71_18, x71_19, x71_20_0, x71_23, x71_24, x71_25, x71_27, x71_28_0, x71_31, x71_32, x71_33, x71_35, x71_37_53, x71_37_55, x71_37_57, x71_37_59, x71_40, x71_43, x71_45_53, x71_45_55, x71_45_57, x71_45_59, x71_48, x71_51, x71_52, x71_53, x71_56, x71_57, x71_59_53, x71_59_55, x71_59_57, x71_59_59, x71_62, x71_64_53, x71_64_55, x71_64_57, x71_64_59, x71_67, x71_70, x71_71, x71_72, x71_75, x71_76, x71_78, x71_79, x71_81, x71_84, x71_87, x71_89, x71_91, x71_93, x71_96, x71_99, x71_100, x71_101, x71_104, x71_105, x71_107_53, x71_107_55, x71_107_57, x71_107_59, x71_110, x71_111, x71_113_53, x71_113_55, x71_113_57, x71_113_59, x71_116, x71_118, x71_120, x71_123, x71_124, gc_0, br_52, aa_52_0, aa_52_1, aa_52_2, aa_52_3, gc_57, gc_59, ↓reduceIte, zkl_i, zkl_r, zkl_n, zkl_z, zkl_l, Option.toList_some, Option.toList_none, List.cons_append, List.nil_append, zcs_0, zcs_i, zcs_l, zcs_r, zle8, true_and, and_true, true_or, or_true, c_below, c1, c2, i1_0, if_false, ixN_nI, nI_clamp, hz1, hz2, hf, if_true, c_holdsH, w1, w2, c_found, v11]
        · obtain ⟨-, o2, o3, o4, -⟩ := sh_2 h.1 hM
          obtain ⟨-, u2, u3, u4, -⟩ := sh_3 h.1 hM
          obtain ⟨o1, on⟩ := o4 hz1
          obtain ⟨u1, un⟩ := u4 hz2
          exact mc_index (by decide) (by decide) (by rw [o1]; exact on) (by rw [u1]; exact un) (o1.trans (hf.trans u1.symm)) (o2.trans s3) (u2.trans t3) s4 t4 hv
    · refine mkF (v := -14) (k := 4) h (fun Q => ?_) (fun M J hM Q => ?_)
      · first
          | exact absurd rfl hf
          | simp (disch := first | assumption | omega | (simp (disch := omega) only [zr_n, zr_s]; assumption)) only [x71_0, x71_1, x71_2, x71_5, x71_8, x71_9, x71_10, x71_13, x71_16, x71_18, x71_19, x71_20_0, x71_23, x71_24, x71_25, x71_27, x71_28_0, x71_31, x71_32, x71_33, x71_35, x71_37_53, x71_37_55, x71_37_57, x71_37_59, x71_40, x71_43, x71_45_53, x71_45_55, x71_45_57, x71_45_59, x71_48, x71_51, x71_52, x71_53, x71_56, x71_57, x71_59_53, x71_59_55, x71_59_57, x71_59_59, x71_62, x71_64_53, x71_64_55, x71_64_57, x71_64_59, x71_67, x71_70, x71_71, x71_72, x71_75, x71_76, x71_78, x71_79, x71_81, x71_84, x71_87, x71_89, x71_91, x71_93, x71_96, x71_99, x71_100, x71_101, x71_104, x71_105, x71_107_53, x71_107_55, x71_107_57, x71_107_59, x71_110, x71_111, x71_113_53, x71_113_55, x71_113_57, x71_113_59, x71_116, x71_118, x71_120, x71_123, x71_124, gc_0, br_52, aa_52_0, aa_52_1, aa_52_2, aa_52_3, gc_57, gc_59, ↓reduceIte, zkl_i, zkl_r, zkl_n, zkl_z, zkl_l, Option.toList_some, Option.toList_none, List.cons_append, List.nil_append, zcs_0, zcs_i, zcs_l, zcs_r, zle8, true_and, and_true, true_or, or_true, c_below, c1, c2, i1_0, if_false, ixN_nI, nI_clamp, hz1, hz2, hf, if_true, c_found, v11]
      · obtain ⟨o1, on⟩ := (sh_2 h.1 hM).2.2.2.1 hz1
        obtain ⟨u1, un⟩ := (sh_3 h.1 hM).2.2.2.1 hz2
        exact mc_store (by decide) (by decide) (by rw [o1]; exact on) (by rw [u1]; exact un) (fun z => hf (o1.symm.trans (z.trans u1)))
  · refine mkF (v := -11) (k := 1) h (fun Q => ?_) (fun M J hM Q => ?_)
    · by_cases z1 : I 57 0 = 0
      · have z2 : ¬ I 59 0 = 0 := fun z => hz ⟨z1, z⟩
        first
          | exact absurd z1 z2
          | simp (disch := first | assumption | omega | (simp (disch := omega) only [zr_n, zr_s]; assumption)) only [x71_0, x71_1, x71_2, x71_5, x71_8, x71_9, x71_10, x71_13, x71_16, x71_18, x71_19, x71_20_0, x71_23, x71_24, x71_25, x71_27, x71_28_0, x71_31, x71_32, x71_33, x71_35, x71_37_53, x71_37_55, x71_37_57, x71_37_59, x71_40, x71_43, x71_45_53, x71_45_55, x71_45_57, x71_45_59, x71_48, x71_51, x71_52, x71_53, x71_56, x71_57, x71_59_53, x71_59_55, x71_59_57, x71_59_59, x71_62, x71_64_53, x71_64_55, x71_64_57, x71_64_59, x71_67, x71_70, x71_71, x71_72, x71_75, x71_76, x71_78, x71_79, x71_81, x71_84, x71_87, x71_89, x71_91, x71_93, x71_96, x71_99, x71_100, x71_101, x71_104, x71_105, x71_107_53, x71_107_55, x71_107_57, x71_107_59, x71_110, x71_111, x71_113_53, x71_113_55, x71_113_57, x71_113_59, x71_116, x71_118, x71_120, x71_123, x71_124, gc_0, br_52, aa_52_0, aa_52_1, aa_52_2, aa_52_3, gc_57, gc_59, ↓reduceIte, zkl_i, zkl_r, zkl_n, zkl_z, zkl_l, Option.toList_some, Option.toList_none, List.cons_append, List.nil_append, zcs_0, zcs_i, zcs_l, zcs_r, zle8, true_and, and_true, true_or, or_true, c_below, c1, c2, i1_0, if_false, ixN_nI, nI_clamp, z1, z2, if_true, c_found, v11]
      · simp (disch := first | assumption | omega | (simp (disch := omega) only [zr_n, zr_s]; assumption)) only [x71_0, x71_1, x71_2, x71_5, x71_8, x71_9, x71_10, x71_13, x71_16, x71_18, x71_19, x71_20_0, x71_23, x71_24, x71_25, x71_27, x71_28_0, x71_31, x71_32, x71_33, x71_35, x71_37_53, x71_37_55, x71_37_57, x71_37_59, x71_40, x71_43, x71_45_53, x71_45_55, x71_45_57, x71_45_59, x71_48, x71_51, x71_52, x71_53, x71_56, x71_57, x71_59_53, x71_59_55, x71_59_57, x71_59_59, x71_62, x71_64_53, x71_64_55, x71_64_57, x71_64_59, x71_67, x71_70, x71_71, x71_72, x71_75, x71_76, x71_78, x71_79, x71_81, x71_84, x71_87, x71_89, x71_91, x71_93, x71_96, x71_99, x71_100, x71_101, x71_104, x71_105, x71_107_53, x71_107_55, x71_107_57, x71_107_59, x71_110, x71_111, x71_113_53, x71_113_55, x71_113_57, x71_113_59, x71_116, x71_118, x71_120, x71_123, x71_124, gc_0, br_52, aa_52_0, aa_52_1, aa_52_2, aa_52_3, gc_57, gc_59, ↓reduceIte, zkl_i, zkl_r, zkl_n, zkl_z, zkl_l, Option.toList_some, Option.toList_none, List.cons_append, List.nil_append, zcs_0, zcs_i, zcs_l, zcs_r, zle8, true_and, and_true, true_or, or_true, c_below, c1, c2, i1_0, if_false, ixN_nI, nI_clamp, z1, if_true, c_found, v11]
    · refine mc_null (by decide) (by decide) ?_
      by_cases z1 : I 57 0 = 0
      · have z2 : ¬ I 59 0 = 0 := fun z => hz ⟨z1, z⟩
        rw [(sh_3 h.1 hM).2.2.2.2 z2]
        exact Or.inr (by decide)
      · rw [(sh_2 h.1 hM).2.2.2.2 z1]
        exact Or.inl (by decide)
theorem k_copy_30 (h : Inv I) : KI xl 71 112 [.ref 0, .int (nI 3), .int a, .int (nI 0), .int b, .int c, .null, .null] [.ref 65, .int (nI 3), .int a, .int (nI 0), .int b, .int c, .null] I J := by
  have c1 : (if nI 3 < 0 then (0 : Int32) else if nI 3 < 4 then 1 else 0) = 1 := bl1 (n := 4) (by decide) (by decide)
  have c2 : (if nI 0 < 0 then (0 : Int32) else if nI 0 < 4 then 1 else 0) = 1 := bl1 (n := 4) (by decide) (by decide)
  obtain ⟨⟨s1, s2, s3, s4⟩, -⟩ := sh_3 h.1 h.2
  obtain ⟨⟨t1, t2, t3, t4⟩, -⟩ := sh_0 h.1 h.2
  by_cases hz : I 59 0 = 0 ∧ I 53 0 = 0
  · obtain ⟨hz1, hz2⟩ := hz
    by_cases hf : I 59 1 = I 53 1
    · by_cases hv : ∃ p r q, a = nI p ∧ b = nI r ∧ c = nI q ∧ p + q ≤ tn (I 59 2) ∧ r + q ≤ tn (I 53 2)
      · obtain ⟨p, r, q, rfl, rfl, rfl, v1, v2⟩ := hv
        have w1 : Hv (I 59 2) (nI p) (nI q) = 1 := by rw [s3]; exact Hv1 s4 v1
        have w2 : Hv (I 53 2) (nI r) (nI q) = 1 := by rw [t3]; exact Hv1 t4 v2
        have hcp : zcp (zG xl) 60 54 (nI p) (nI r) (nI q) := ⟨ak_60, ak_54, nI_pos (by omega), nI_pos (by omega), nI_pos (by omega), by rw [al_60, nI_clamp (by omega), nI_clamp (by omega)]; omega, by rw [al_54, nI_clamp (by omega), nI_clamp (by omega)]; omega⟩
        refine mkU (v := 1) (I1 := zr I 54 (va_cpy (I 60) (I 54) p r q)) h (fun Q => ?_) (RC_sh h.1 (fun c c1 c2 => zr_n (by omega)) (zr_n (by decide)) (fun s hs => by rw [zr_n (by omega)]; exact h.1.2.2.1 s hs)) (fun c hc => zr_n (by omega)) (fun M J hM => ?_)
        · simp (disch := first | assumption | omega | (simp (disch := omega) only [zr_n, zr_s]; assumption)) only [x71_0, x71_1, x71_2, x71_5, x71_8, x71_9, x71_10, x71_13, x71_16, x71_18, x71_19, x71_20_0, x71_23, x71_24, x71_25, x71_27, x71_28_0, x71_31, x71_32, x71_33, x71_35, x71_37_53, x71_37_55, x71_37_57, x71_37_59, x71_40, x71_43, x71_45_53, x71_45_55, x71_45_57, x71_45_59, x71_48, x71_51, x71_52, x71_53, x71_56, x71_57, x71_59_53, x71_59_55, x71_59_57, x71_59_59, x71_62, x71_64_53, x71_64_55, x71_64_57, x71_64_59, x71_67, x71_70, x71_71, x71_72, x71_75, x71_76, x71_78, x71_79, x71_81, x71_84, x71_87, x71_89, x71_91, x71_93, x71_96, x71_99, x71_100, x71_101, x71_104, x71_105, x71_107_53, x71_107_55, x71_107_57, x71_107_59, x71_110, x71_111, x71_113_53, x71_113_55, x71_113_57, x71_113_59, x71_116, x71_118, x71_120, x71_123, x71_124, gc_0, br_52, aa_52_0, aa_52_1, aa_52_2, aa_52_3, gc_59, gc_53, ↓reduceIte, zkl_i, zkl_r, zkl_n, zkl_z, zkl_l, Option.toList_some, Option.toList_none, List.cons_append, List.nil_append, zcs_0, zcs_i, zcs_l, zcs_r, zle8, true_and, and_true, true_or, or_true, c_below, c1, c2, i1_0, if_false, ixN_nI, nI_clamp, hz1, hz2, hf, if_true, c_holdsH, w1, w2, hcp]
        · obtain ⟨-, o2, o3, o4, -⟩ := sh_3 h.1 hM
          obtain ⟨-, u2, u3, u4, -⟩ := sh_0 h.1 hM
          obtain ⟨o1, on⟩ := o4 hz1
          obtain ⟨u1, un⟩ := u4 hz2
          obtain ⟨M', g1, g2, g3, g4⟩ := mc_ok (xl := xl) (J := J) (M := M) (s := 3) (t := 0) (p := p) (r := r) (q := q) (by decide) (by decide) (by rw [o1]; exact on) (by rw [u1]; exact un) (o1.trans (hf.trans u1.symm)) (o2.trans s3) (u2.trans t3) s4 t4 v1 v2
          refine ⟨M', g1, RM_sh hM (fun c c1 c2 => zr_n (by omega)) (by rw [g2 65 (by decide) (by decide), zr_n (by decide)]; exact hM.2.2.2.2.2.2) (SHm_0 h.1 hM (fun c c1 c2 c3 c4 => zr_n c4) (fun s e => by rw [g2 66 (by decide) (by decide)]) (fun s e => by rw [g2 67 (by decide) (by decide)]) (fun j e => g4 j (by omega)) ?_ ?_ ?_) (g2 70 (by decide) (by decide)) (g2 71 (by decide) (by decide)) (g2 75 (by decide) (by decide)) (g2 87 (by decide) (by decide)) (fun j hj => by rw [g2 65 (by decide) (by decide)]), fun c hc => g2 c (by omega) (by omega)⟩
          · rw [g2 66 (by decide) (by decide), zr_n (by decide), if_pos hz2]; exact u1
          · rw [g2 67 (by decide) (by decide), zr_n (by decide)]; exact u2
          · rw [zr_n (show 53 ≠ 54 by decide), zr_s]
            intro j hj
            by_cases e : r ≤ j ∧ j < r + q
            · obtain ⟨e1, e2⟩ := e
              rw [pk_cpy_in e1 e2]
              have := g3 (j - r) (by omega)
              rw [show 60 * 0 + r + (j - r) = 60 * 0 + j by omega, show 60 * 3 + p + (j - r) = 60 * 3 + (p + (j - r)) by omega, o3 _ (by omega)] at this
              exact this
            · rw [pk_cpy_out (by omega), g4 _ (by omega)]
              exact u3 j hj
      · refine mkF (v := -12) (k := 2) h (fun Q => ?_) (fun M J hM Q => ?_)
        · by_cases w1 : Hv (I 59 2) a c = 0
          · simp (disch := first | assumption | omega | (simp (disch := omega) only [zr_n, zr_s]; assumption)) only [x71_0, x71_1, x71_2, x71_5, x71_8, x71_9, x71_10, x71_13, x71_16, x71_18, x71_19, x71_20_0, x71_23, x71_24, x71_25, x71_27, x71_28_0, x71_31, x71_32, x71_33, x71_35, x71_37_53, x71_37_55, x71_37_57, x71_37_59, x71_40, x71_43, x71_45_53, x71_45_55, x71_45_57, x71_45_59, x71_48, x71_51, x71_52, x71_53, x71_56, x71_57, x71_59_53, x71_59_55, x71_59_57, x71_59_59, x71_62, x71_64_53, x71_64_55, x71_64_57, x71_64_59, x71_67, x71_70, x71_71, x71_72, x71_75, x71_76, x71_78, x71_79, x71_81, x71_84, x71_87, x71_89, x71_91, x71_93, x71_96, x71_99, x71_100, x71_101, x71_104, x71_105, x71_107_53, x71_107_55, x71_107_57, x71_107_59, x71_110, x71_111, x71_113_53, x71_113_55, x71_113_57, x71_113_59, x71_116, x71_118, x71_120, x71_123, x71_124, gc_0, br_52, aa_52_0, aa_52_1, aa_52_2, aa_52_3, gc_59, gc_53, ↓reduceIte, zkl_i, zkl_r, zkl_n, zkl_z, zkl_l, Option.toList_some, Option.toList_none, List.cons_append, List.nil_append, zcs_0, zcs_i, zcs_l, zcs_r, zle8, true_and, and_true, true_or, or_true, c_below, c1, c2, i1_0, if_false, ixN_nI, nI_clamp, hz1, hz2, hf, if_true, c_holdsH, w1, c_found, v11]
          · have w2 : Hv (I 53 2) b c = 0 := by
              rw [t3]
              refine Hv0 t4 (fun z => ?_)
              obtain ⟨r, q, rfl, rfl, v2⟩ := z
              refine w1 ?_
              rw [s3]
              refine Hv0 s4 (fun z => ?_)
              obtain ⟨p, q', rfl, eq, v1⟩ := z
              exact hv ⟨p, r, q, rfl, rfl, rfl, by
                by_cases hq : q < 2 ^ 31
                · have : q = q' := (nI_eq hq (by omega)).mp eq
                  omega
                · omega, v2⟩
            simp (disch := first | assumption | omega | (simp (disch := omega) only [zr_n, zr_s]; assumption)) only [x71_0, x71_1, x71_2, x71_5, x71_8, x71_9, x71_10, x71_13, x71_16, x71_18, x71_19, x71_20_0, x71_23, x71_24, x71_25, x71_27, x71_28_0, x71_31, x71_32, x71_33, x71_35, x71_37_53, x71_37_55, x71_37_57, x71_37_59, x71_40, x71_43, x71_45_53, x71_45_55, x71_45_57, x71_45_59, x71_48, x71_51, x71_52, x71_53, x71_56, x71_57, x71_59_53, x71_59_55, x71_59_57, x71_59_59, x71_62, x71_64_53, x71_64_55, x71_64_57, x71_64_59, x71_67, x71_70, x71_71, x71_72, x71_75, x71_76, x71_78, x71_79, x71_81, x71_84, x71_87, x71_89, x71_91, x71_93, x71_96, x71_99, x71_100, x71_101, x71_104, x71_105, x71_107_53, x71_107_55, x71_107_57, x71_107_59, x71_110, x71_111, x71_113_53, x71_113_55, x71_113_57, x71_113_59, x71_116, x71_118, x71_120, x71_123, x71_124, gc_0, br_52, aa_52_0, aa_52_1, aa_52_2, aa_52_3, gc_59, gc_53, ↓reduceIte, zkl_i, zkl_r, zkl_n, zkl_z, zkl_l, Option.toList_some, Option.toList_none, List.cons_append, List.nil_append, zcs_0, zcs_i, zcs_l, zcs_r, zle8, true_and, and_true, true_or, or_true, c_below, c1, c2, i1_0, if_false, ixN_nI, nI_clamp, hz1, hz2, hf, if_true, c_holdsH, w1, w2, c_found, v11]
        · obtain ⟨-, o2, o3, o4, -⟩ := sh_3 h.1 hM
          obtain ⟨-, u2, u3, u4, -⟩ := sh_0 h.1 hM
          obtain ⟨o1, on⟩ := o4 hz1
          obtain ⟨u1, un⟩ := u4 hz2
          exact mc_index (by decide) (by decide) (by rw [o1]; exact on) (by rw [u1]; exact un) (o1.trans (hf.trans u1.symm)) (o2.trans s3) (u2.trans t3) s4 t4 hv
    · refine mkF (v := -14) (k := 4) h (fun Q => ?_) (fun M J hM Q => ?_)
      · first
          | exact absurd rfl hf
          | simp (disch := first | assumption | omega | (simp (disch := omega) only [zr_n, zr_s]; assumption)) only [x71_0, x71_1, x71_2, x71_5, x71_8, x71_9, x71_10, x71_13, x71_16, x71_18, x71_19, x71_20_0, x71_23, x71_24, x71_25, x71_27, x71_28_0, x71_31, x71_32, x71_33, x71_35, x71_37_53, x71_37_55, x71_37_57, x71_37_59, x71_40, x71_43, x71_45_53, x71_45_55, x71_45_57, x71_45_59, x71_48, x71_51, x71_52, x71_53, x71_56, x71_57, x71_59_53, x71_59_55, x71_59_57, x71_59_59, x71_62, x71_64_53, x71_64_55, x71_64_57, x71_64_59, x71_67, x71_70, x71_71, x71_72, x71_75, x71_76, x71_78, x71_79, x71_81, x71_84, x71_87, x71_89, x71_91, x71_93, x71_96, x71_99, x71_100, x71_101, x71_104, x71_105, x71_107_53, x71_107_55, x71_107_57, x71_107_59, x71_110, x71_111, x71_113_53, x71_113_55, x71_113_57, x71_113_59, x71_116, x71_118, x71_120, x71_123, x71_124, gc_0, br_52, aa_52_0, aa_52_1, aa_52_2, aa_52_3, gc_59, gc_53, ↓reduceIte, zkl_i, zkl_r, zkl_n, zkl_z, zkl_l, Option.toList_some, Option.toList_none, List.cons_append, List.nil_append, zcs_0, zcs_i, zcs_l, zcs_r, zle8, true_and, and_true, true_or, or_true, c_below, c1, c2, i1_0, if_false, ixN_nI, nI_clamp, hz1, hz2, hf, if_true, c_found, v11]
      · obtain ⟨o1, on⟩ := (sh_3 h.1 hM).2.2.2.1 hz1
        obtain ⟨u1, un⟩ := (sh_0 h.1 hM).2.2.2.1 hz2
        exact mc_store (by decide) (by decide) (by rw [o1]; exact on) (by rw [u1]; exact un) (fun z => hf (o1.symm.trans (z.trans u1)))
  · refine mkF (v := -11) (k := 1) h (fun Q => ?_) (fun M J hM Q => ?_)
    · by_cases z1 : I 59 0 = 0
      · have z2 : ¬ I 53 0 = 0 := fun z => hz ⟨z1, z⟩
        first
          | exact absurd z1 z2
          | simp (disch := first | assumption | omega | (simp (disch := omega) only [zr_n, zr_s]; assumption)) only [x71_0, x71_1, x71_2, x71_5, x71_8, x71_9, x71_10, x71_13, x71_16, x71_18, x71_19, x71_20_0, x71_23, x71_24, x71_25, x71_27, x71_28_0, x71_31, x71_32, x71_33, x71_35, x71_37_53, x71_37_55, x71_37_57, x71_37_59, x71_40, x71_43, x71_45_53, x71_45_55, x71_45_57, x71_45_59, x71_48, x71_51, x71_52, x71_53, x71_56, x71_57, x71_59_53, x71_59_55, x71_59_57, x71_59_59, x71_62, x71_64_53, x71_64_55, x71_64_57, x71_64_59, x71_67, x71_70, x71_71, x71_72, x71_75, x71_76, x71_78, x71_79, x71_81, x71_84, x71_87, x71_89, x71_91, x71_93, x71_96, x71_99, x71_100, x71_101, x71_104, x71_105, x71_107_53, x71_107_55, x71_107_57, x71_107_59, x71_110, x71_111, x71_113_53, x71_113_55, x71_113_57, x71_113_59, x71_116, x71_118, x71_120, x71_123, x71_124, gc_0, br_52, aa_52_0, aa_52_1, aa_52_2, aa_52_3, gc_59, gc_53, ↓reduceIte, zkl_i, zkl_r, zkl_n, zkl_z, zkl_l, Option.toList_some, Option.toList_none, List.cons_append, List.nil_append, zcs_0, zcs_i, zcs_l, zcs_r, zle8, true_and, and_true, true_or, or_true, c_below, c1, c2, i1_0, if_false, ixN_nI, nI_clamp, z1, z2, if_true, c_found, v11]
      · simp (disch := first | assumption | omega | (simp (disch := omega) only [zr_n, zr_s]; assumption)) only [x71_0, x71_1, x71_2, x71_5, x71_8, x71_9, x71_10, x71_13, x71_16, x71_18, x71_19, x71_20_0, x71_23, x71_24, x71_25, x71_27, x71_28_0, x71_31, x71_32, x71_33, x71_35, x71_37_53, x71_37_55, x71_37_57, x71_37_59, x71_40, x71_43, x71_45_53, x71_45_55, x71_45_57, x71_45_59, x71_48, x71_51, x71_52, x71_53, x71_56, x71_57, x71_59_53, x71_59_55, x71_59_57, x71_59_59, x71_62, x71_64_53, x71_64_55, x71_64_57, x71_64_59, x71_67, x71_70, x71_71, x71_72, x71_75, x71_76, x71_78, x71_79, x71_81, x71_84, x71_87, x71_89, x71_91, x71_93, x71_96, x71_99, x71_100, x71_101, x71_104, x71_105, x71_107_53, x71_107_55, x71_107_57, x71_107_59, x71_110, x71_111, x71_113_53, x71_113_55, x71_113_57, x71_113_59, x71_116, x71_118, x71_120, x71_123, x71_124, gc_0, br_52, aa_52_0, aa_52_1, aa_52_2, aa_52_3, gc_59, gc_53, ↓reduceIte, zkl_i, zkl_r, zkl_n, zkl_z, zkl_l, Option.toList_some, Option.toList_none, List.cons_append, List.nil_append, zcs_0, zcs_i, zcs_l, zcs_r, zle8, true_and, and_true, true_or, or_true, c_below, c1, c2, i1_0, if_false, ixN_nI, nI_clamp, z1, if_true, c_found, v11]
    · refine mc_null (by decide) (by decide) ?_
      by_cases z1 : I 59 0 = 0
      · have z2 : ¬ I 53 0 = 0 := fun z => hz ⟨z1, z⟩
        rw [(sh_0 h.1 hM).2.2.2.2 z2]
        exact Or.inr (by decide)
      · rw [(sh_3 h.1 hM).2.2.2.2 z1]
        exact Or.inl (by decide)
theorem k_copy_31 (h : Inv I) : KI xl 71 112 [.ref 0, .int (nI 3), .int a, .int (nI 1), .int b, .int c, .null, .null] [.ref 65, .int (nI 3), .int a, .int (nI 1), .int b, .int c, .null] I J := by
  have c1 : (if nI 3 < 0 then (0 : Int32) else if nI 3 < 4 then 1 else 0) = 1 := bl1 (n := 4) (by decide) (by decide)
  have c2 : (if nI 1 < 0 then (0 : Int32) else if nI 1 < 4 then 1 else 0) = 1 := bl1 (n := 4) (by decide) (by decide)
  obtain ⟨⟨s1, s2, s3, s4⟩, -⟩ := sh_3 h.1 h.2
  obtain ⟨⟨t1, t2, t3, t4⟩, -⟩ := sh_1 h.1 h.2
  by_cases hz : I 59 0 = 0 ∧ I 55 0 = 0
  · obtain ⟨hz1, hz2⟩ := hz
    by_cases hf : I 59 1 = I 55 1
    · by_cases hv : ∃ p r q, a = nI p ∧ b = nI r ∧ c = nI q ∧ p + q ≤ tn (I 59 2) ∧ r + q ≤ tn (I 55 2)
      · obtain ⟨p, r, q, rfl, rfl, rfl, v1, v2⟩ := hv
        have w1 : Hv (I 59 2) (nI p) (nI q) = 1 := by rw [s3]; exact Hv1 s4 v1
        have w2 : Hv (I 55 2) (nI r) (nI q) = 1 := by rw [t3]; exact Hv1 t4 v2
        have hcp : zcp (zG xl) 60 56 (nI p) (nI r) (nI q) := ⟨ak_60, ak_56, nI_pos (by omega), nI_pos (by omega), nI_pos (by omega), by rw [al_60, nI_clamp (by omega), nI_clamp (by omega)]; omega, by rw [al_56, nI_clamp (by omega), nI_clamp (by omega)]; omega⟩
        refine mkU (v := 1) (I1 := zr I 56 (va_cpy (I 60) (I 56) p r q)) h (fun Q => ?_) (RC_sh h.1 (fun c c1 c2 => zr_n (by omega)) (zr_n (by decide)) (fun s hs => by rw [zr_n (by omega)]; exact h.1.2.2.1 s hs)) (fun c hc => zr_n (by omega)) (fun M J hM => ?_)
        · simp (disch := first | assumption | omega | (simp (disch := omega) only [zr_n, zr_s]; assumption)) only [x71_0, x71_1, x71_2, x71_5, x71_8, x71_9, x71_10, x71_13, x71_16, x71_18, x71_19, x71_20_0, x71_23, x71_24, x71_25, x71_27, x71_28_0, x71_31, x71_32, x71_33, x71_35, x71_37_53, x71_37_55, x71_37_57, x71_37_59, x71_40, x71_43, x71_45_53, x71_45_55, x71_45_57, x71_45_59, x71_48, x71_51, x71_52, x71_53, x71_56, x71_57, x71_59_53, x71_59_55, x71_59_57, x71_59_59, x71_62, x71_64_53, x71_64_55, x71_64_57, x71_64_59, x71_67, x71_70, x71_71, x71_72, x71_75, x71_76, x71_78, x71_79, x71_81, x71_84, x71_87, x71_89, x71_91, x71_93, x71_96, x71_99, x71_100, x71_101, x71_104, x71_105, x71_107_53, x71_107_55, x71_107_57, x71_107_59, x71_110, x71_111, x71_113_53, x71_113_55, x71_113_57, x71_113_59, x71_116, x71_118, x71_120, x71_123, x71_124, gc_0, br_52, aa_52_0, aa_52_1, aa_52_2, aa_52_3, gc_59, gc_55, ↓reduceIte, zkl_i, zkl_r, zkl_n, zkl_z, zkl_l, Option.toList_some, Option.toList_none, List.cons_append, List.nil_append, zcs_0, zcs_i, zcs_l, zcs_r, zle8, true_and, and_true, true_or, or_true, c_below, c1, c2, i1_0, if_false, ixN_nI, nI_clamp, hz1, hz2, hf, if_true, c_holdsH, w1, w2, hcp]
        · obtain ⟨-, o2, o3, o4, -⟩ := sh_3 h.1 hM
          obtain ⟨-, u2, u3, u4, -⟩ := sh_1 h.1 hM
          obtain ⟨o1, on⟩ := o4 hz1
          obtain ⟨u1, un⟩ := u4 hz2
          obtain ⟨M', g1, g2, g3, g4⟩ := mc_ok (xl := xl) (J := J) (M := M) (s := 3) (t := 1) (p := p) (r := r) (q := q) (by decide) (by decide) (by rw [o1]; exact on) (by rw [u1]; exact un) (o1.trans (hf.trans u1.symm)) (o2.trans s3) (u2.trans t3) s4 t4 v1 v2
          refine ⟨M', g1, RM_sh hM (fun c c1 c2 => zr_n (by omega)) (by rw [g2 65 (by decide) (by decide), zr_n (by decide)]; exact hM.2.2.2.2.2.2) (SHm_1 h.1 hM (fun c c1 c2 c3 c4 => zr_n c4) (fun s e => by rw [g2 66 (by decide) (by decide)]) (fun s e => by rw [g2 67 (by decide) (by decide)]) (fun j e => g4 j (by omega)) ?_ ?_ ?_) (g2 70 (by decide) (by decide)) (g2 71 (by decide) (by decide)) (g2 75 (by decide) (by decide)) (g2 87 (by decide) (by decide)) (fun j hj => by rw [g2 65 (by decide) (by decide)]), fun c hc => g2 c (by omega) (by omega)⟩
          · rw [g2 66 (by decide) (by decide), zr_n (by decide), if_pos hz2]; exact u1
          · rw [g2 67 (by decide) (by decide), zr_n (by decide)]; exact u2
          · rw [zr_n (show 55 ≠ 56 by decide), zr_s]
            intro j hj
            by_cases e : r ≤ j ∧ j < r + q
            · obtain ⟨e1, e2⟩ := e
              rw [pk_cpy_in e1 e2]
              have := g3 (j - r) (by omega)
              rw [show 60 * 1 + r + (j - r) = 60 * 1 + j by omega, show 60 * 3 + p + (j - r) = 60 * 3 + (p + (j - r)) by omega, o3 _ (by omega)] at this
              exact this
            · rw [pk_cpy_out (by omega), g4 _ (by omega)]
              exact u3 j hj
      · refine mkF (v := -12) (k := 2) h (fun Q => ?_) (fun M J hM Q => ?_)
        · by_cases w1 : Hv (I 59 2) a c = 0
          · simp (disch := first | assumption | omega | (simp (disch := omega) only [zr_n, zr_s]; assumption)) only [x71_0, x71_1, x71_2, x71_5, x71_8, x71_9, x71_10, x71_13, x71_16, x71_18, x71_19, x71_20_0, x71_23, x71_24, x71_25, x71_27, x71_28_0, x71_31, x71_32, x71_33, x71_35, x71_37_53, x71_37_55, x71_37_57, x71_37_59, x71_40, x71_43, x71_45_53, x71_45_55, x71_45_57, x71_45_59, x71_48, x71_51, x71_52, x71_53, x71_56, x71_57, x71_59_53, x71_59_55, x71_59_57, x71_59_59, x71_62, x71_64_53, x71_64_55, x71_64_57, x71_64_59, x71_67, x71_70, x71_71, x71_72, x71_75, x71_76, x71_78, x71_79, x71_81, x71_84, x71_87, x71_89, x71_91, x71_93, x71_96, x71_99, x71_100, x71_101, x71_104, x71_105, x71_107_53, x71_107_55, x71_107_57, x71_107_59, x71_110, x71_111, x71_113_53, x71_113_55, x71_113_57, x71_113_59, x71_116, x71_118, x71_120, x71_123, x71_124, gc_0, br_52, aa_52_0, aa_52_1, aa_52_2, aa_52_3, gc_59, gc_55, ↓reduceIte, zkl_i, zkl_r, zkl_n, zkl_z, zkl_l, Option.toList_some, Option.toList_none, List.cons_append, List.nil_append, zcs_0, zcs_i, zcs_l, zcs_r, zle8, true_and, and_true, true_or, or_true, c_below, c1, c2, i1_0, if_false, ixN_nI, nI_clamp, hz1, hz2, hf, if_true, c_holdsH, w1, c_found, v11]
          · have w2 : Hv (I 55 2) b c = 0 := by
              rw [t3]
              refine Hv0 t4 (fun z => ?_)
              obtain ⟨r, q, rfl, rfl, v2⟩ := z
              refine w1 ?_
              rw [s3]
              refine Hv0 s4 (fun z => ?_)
              obtain ⟨p, q', rfl, eq, v1⟩ := z
              exact hv ⟨p, r, q, rfl, rfl, rfl, by
                by_cases hq : q < 2 ^ 31
                · have : q = q' := (nI_eq hq (by omega)).mp eq
                  omega
                · omega, v2⟩
            simp (disch := first | assumption | omega | (simp (disch := omega) only [zr_n, zr_s]; assumption)) only [x71_0, x71_1, x71_2, x71_5, x71_8, x71_9, x71_10, x71_13, x71_16, x71_18, x71_19, x71_20_0, x71_23, x71_24, x71_25, x71_27, x71_28_0, x71_31, x71_32, x71_33, x71_35, x71_37_53, x71_37_55, x71_37_57, x71_37_59, x71_40, x71_43, x71_45_53, x71_45_55, x71_45_57, x71_45_59, x71_48, x71_51, x71_52, x71_53, x71_56, x71_57, x71_59_53, x71_59_55, x71_59_57, x71_59_59, x71_62, x71_64_53, x71_64_55, x71_64_57, x71_64_59, x71_67, x71_70, x71_71, x71_72, x71_75, x71_76, x71_78, x71_79, x71_81, x71_84, x71_87, x71_89, x71_91, x71_93, x71_96, x71_99, x71_100, x71_101, x71_104, x71_105, x71_107_53, x71_107_55, x71_107_57, x71_107_59, x71_110, x71_111, x71_113_53, x71_113_55, x71_113_57, x71_113_59, x71_116, x71_118, x71_120, x71_123, x71_124, gc_0, br_52, aa_52_0, aa_52_1, aa_52_2, aa_52_3, gc_59, gc_55, ↓reduceIte, zkl_i, zkl_r, zkl_n, zkl_z, zkl_l, Option.toList_some, Option.toList_none, List.cons_append, List.nil_append, zcs_0, zcs_i, zcs_l, zcs_r, zle8, true_and, and_true, true_or, or_true, c_below, c1, c2, i1_0, if_false, ixN_nI, nI_clamp, hz1, hz2, hf, if_true, c_holdsH, w1, w2, c_found, v11]
        · obtain ⟨-, o2, o3, o4, -⟩ := sh_3 h.1 hM
          obtain ⟨-, u2, u3, u4, -⟩ := sh_1 h.1 hM
          obtain ⟨o1, on⟩ := o4 hz1
          obtain ⟨u1, un⟩ := u4 hz2
          exact mc_index (by decide) (by decide) (by rw [o1]; exact on) (by rw [u1]; exact un) (o1.trans (hf.trans u1.symm)) (o2.trans s3) (u2.trans t3) s4 t4 hv
    · refine mkF (v := -14) (k := 4) h (fun Q => ?_) (fun M J hM Q => ?_)
      · first
          | exact absurd rfl hf
          | simp (disch := first | assumption | omega | (simp (disch := omega) only [zr_n, zr_s]; assumption)) only [x71_0, x71_1, x71_2, x71_5, x71_8, x71_9, x71_10, x71_13, x71_16, x71_18, x71_19, x71_20_0, x71_23, x71_24, x71_25, x71_27, x71_28_0, x71_31, x71_32, x71_33, x71_35, x71_37_53, x71_37_55, x71_37_57, x71_37_59, x71_40, x71_43, x71_45_53, x71_45_55, x71_45_57, x71_45_59, x71_48, x71_51, x71_52, x71_53, x71_56, x71_57, x71_59_53, x71_59_55, x71_59_57, x71_59_59, x71_62, x71_64_53, x71_64_55, x71_64_57, x71_64_59, x71_67, x71_70, x71_71, x71_72, x71_75, x71_76, x71_78, x71_79, x71_81, x71_84, x71_87, x71_89, x71_91, x71_93, x71_96, x71_99, x71_100, x71_101, x71_104, x71_105, x71_107_53, x71_107_55, x71_107_57, x71_107_59, x71_110, x71_111, x71_113_53, x71_113_55, x71_113_57, x71_113_59, x71_116, x71_118, x71_120, x71_123, x71_124, gc_0, br_52, aa_52_0, aa_52_1, aa_52_2, aa_52_3, gc_59, gc_55, ↓reduceIte, zkl_i, zkl_r, zkl_n, zkl_z, zkl_l, Option.toList_some, Option.toList_none, List.cons_append, List.nil_append, zcs_0, zcs_i, zcs_l, zcs_r, zle8, true_and, and_true, true_or, or_true, c_below, c1, c2, i1_0, if_false, ixN_nI, nI_clamp, hz1, hz2, hf, if_true, c_found, v11]
      · obtain ⟨o1, on⟩ := (sh_3 h.1 hM).2.2.2.1 hz1
        obtain ⟨u1, un⟩ := (sh_1 h.1 hM).2.2.2.1 hz2
        exact mc_store (by decide) (by decide) (by rw [o1]; exact on) (by rw [u1]; exact un) (fun z => hf (o1.symm.trans (z.trans u1)))
  · refine mkF (v := -11) (k := 1) h (fun Q => ?_) (fun M J hM Q => ?_)
    · by_cases z1 : I 59 0 = 0
      · have z2 : ¬ I 55 0 = 0 := fun z => hz ⟨z1, z⟩
        first
          | exact absurd z1 z2
          | simp (disch := first | assumption | omega | (simp (disch := omega) only [zr_n, zr_s]; assumption)) only [x71_0, x71_1, x71_2, x71_5, x71_8, x71_9, x71_10, x71_13, x71_16, x71_18, x71_19, x71_20_0, x71_23, x71_24, x71_25, x71_27, x71_28_0, x71_31, x71_32, x71_33, x71_35, x71_37_53, x71_37_55, x71_37_57, x71_37_59, x71_40, x71_43, x71_45_53, x71_45_55, x71_45_57, x71_45_59, x71_48, x71_51, x71_52, x71_53, x71_56, x71_57, x71_59_53, x71_59_55, x71_59_57, x71_59_59, x71_62, x71_64_53, x71_64_55, x71_64_57, x71_64_59, x71_67, x71_70, x71_71, x71_72, x71_75, x71_76, x71_78, x71_79, x71_81, x71_84, x71_87, x71_89, x71_91, x71_93, x71_96, x71_99, x71_100, x71_101, x71_104, x71_105, x71_107_53, x71_107_55, x71_107_57, x71_107_59, x71_110, x71_111, x71_113_53, x71_113_55, x71_113_57, x71_113_59, x71_116, x71_118, x71_120, x71_123, x71_124, gc_0, br_52, aa_52_0, aa_52_1, aa_52_2, aa_52_3, gc_59, gc_55, ↓reduceIte, zkl_i, zkl_r, zkl_n, zkl_z, zkl_l, Option.toList_some, Option.toList_none, List.cons_append, List.nil_append, zcs_0, zcs_i, zcs_l, zcs_r, zle8, true_and, and_true, true_or, or_true, c_below, c1, c2, i1_0, if_false, ixN_nI, nI_clamp, z1, z2, if_true, c_found, v11]
      · simp (disch := first | assumption | omega | (simp (disch := omega) only [zr_n, zr_s]; assumption)) only [x71_0, x71_1, x71_2, x71_5, x71_8, x71_9, x71_10, x71_13, x71_16, x71_18, x71_19, x71_20_0, x71_23, x71_24, x71_25, x71_27, x71_28_0, x71_31, x71_32, x71_33, x71_35, x71_37_53, x71_37_55, x71_37_57, x71_37_59, x71_40, x71_43, x71_45_53, x71_45_55, x71_45_57, x71_45_59, x71_48, x71_51, x71_52, x71_53, x71_56, x71_57, x71_59_53, x71_59_55, x71_59_57, x71_59_59, x71_62, x71_64_53, x71_64_55, x71_64_57, x71_64_59, x71_67, x71_70, x71_71, x71_72, x71_75, x71_76, x71_78, x71_79, x71_81, x71_84, x71_87, x71_89, x71_91, x71_93, x71_96, x71_99, x71_100, x71_101, x71_104, x71_105, x71_107_53, x71_107_55, x71_107_57, x71_107_59, x71_110, x71_111, x71_113_53, x71_113_55, x71_113_57, x71_113_59, x71_116, x71_118, x71_120, x71_123, x71_124, gc_0, br_52, aa_52_0, aa_52_1, aa_52_2, aa_52_3, gc_59, gc_55, ↓reduceIte, zkl_i, zkl_r, zkl_n, zkl_z, zkl_l, Option.toList_some, Option.toList_none, List.cons_append, List.nil_append, zcs_0, zcs_i, zcs_l, zcs_r, zle8, true_and, and_true, true_or, or_true, c_below, c1, c2, i1_0, if_false, ixN_nI, nI_clamp, z1, if_true, c_found, v11]
    · refine mc_null (by decide) (by decide) ?_
      by_cases z1 : I 59 0 = 0
      · have z2 : ¬ I 55 0 = 0 := fun z => hz ⟨z1, z⟩
        rw [(sh_1 h.1 hM).2.2.2.2 z2]
        exact Or.inr (by decide)
      · rw [(sh_3 h.1 hM).2.2.2.2 z1]
        exact Or.inl (by decide)
theorem k_copy_32 (h : Inv I) : KI xl 71 112 [.ref 0, .int (nI 3), .int a, .int (nI 2), .int b, .int c, .null, .null] [.ref 65, .int (nI 3), .int a, .int (nI 2), .int b, .int c, .null] I J := by
  have c1 : (if nI 3 < 0 then (0 : Int32) else if nI 3 < 4 then 1 else 0) = 1 := bl1 (n := 4) (by decide) (by decide)
  have c2 : (if nI 2 < 0 then (0 : Int32) else if nI 2 < 4 then 1 else 0) = 1 := bl1 (n := 4) (by decide) (by decide)
  obtain ⟨⟨s1, s2, s3, s4⟩, -⟩ := sh_3 h.1 h.2
  obtain ⟨⟨t1, t2, t3, t4⟩, -⟩ := sh_2 h.1 h.2
  by_cases hz : I 59 0 = 0 ∧ I 57 0 = 0
  · obtain ⟨hz1, hz2⟩ := hz
    by_cases hf : I 59 1 = I 57 1
    · by_cases hv : ∃ p r q, a = nI p ∧ b = nI r ∧ c = nI q ∧ p + q ≤ tn (I 59 2) ∧ r + q ≤ tn (I 57 2)
      · obtain ⟨p, r, q, rfl, rfl, rfl, v1, v2⟩ := hv
        have w1 : Hv (I 59 2) (nI p) (nI q) = 1 := by rw [s3]; exact Hv1 s4 v1
        have w2 : Hv (I 57 2) (nI r) (nI q) = 1 := by rw [t3]; exact Hv1 t4 v2
        have hcp : zcp (zG xl) 60 58 (nI p) (nI r) (nI q) := ⟨ak_60, ak_58, nI_pos (by omega), nI_pos (by omega), nI_pos (by omega), by rw [al_60, nI_clamp (by omega), nI_clamp (by omega)]; omega, by rw [al_58, nI_clamp (by omega), nI_clamp (by omega)]; omega⟩
        refine mkU (v := 1) (I1 := zr I 58 (va_cpy (I 60) (I 58) p r q)) h (fun Q => ?_) (RC_sh h.1 (fun c c1 c2 => zr_n (by omega)) (zr_n (by decide)) (fun s hs => by rw [zr_n (by omega)]; exact h.1.2.2.1 s hs)) (fun c hc => zr_n (by omega)) (fun M J hM => ?_)
        · simp (disch := first | assumption | omega | (simp (disch := omega) only [zr_n, zr_s]; assumption)) only [x71_0, x71_1, x71_2, x71_5, x71_8, x71_9, x71_10, x71_13, x71_16, x71_18, x71_19, x71_20_0, x71_23, x71_24, x71_25, x71_27, x71_28_0, x71_31, x71_32, x71_33, x71_35, x71_37_53, x71_37_55, x71_37_57, x71_37_59, x71_40, x71_43, x71_45_53, x71_45_55, x71_45_57, x71_45_59, x71_48, x71_51, x71_52, x71_53, x71_56, x71_57, x71_59_53, x71_59_55, x71_59_57, x71_59_59, x71_62, x71_64_53, x71_64_55, x71_64_57, x71_64_59, x71_67, x71_70, x71_71, x71_72, x71_75, x71_76, x71_78, x71_79, x71_81, x71_84, x71_87, x71_89, x71_91, x71_93, x71_96, x71_99, x71_100, x71_101, x71_104, x71_105, x71_107_53, x71_107_55, x71_107_57, x71_107_59, x71_110, x71_111, x71_113_53, x71_113_55, x71_113_57, x71_113_59, x71_116, x71_118, x71_120, x71_123, x71_124, gc_0, br_52, aa_52_0, aa_52_1, aa_52_2, aa_52_3, gc_59, gc_57, ↓reduceIte, zkl_i, zkl_r, zkl_n, zkl_z, zkl_l, Option.toList_some, Option.toList_none, List.cons_append, List.nil_append, zcs_0, zcs_i, zcs_l, zcs_r, zle8, true_and, and_true, true_or, or_true, c_below, c1, c2, i1_0, if_false, ixN_nI, nI_clamp, hz1, hz2, hf, if_true, c_holdsH, w1, w2, hcp]
        · obtain ⟨-, o2, o3, o4, -⟩ := sh_3 h.1 hM
          obtain ⟨-, u2, u3, u4, -⟩ := sh_2 h.1 hM
          obtain ⟨o1, on⟩ := o4 hz1
          obtain ⟨u1, un⟩ := u4 hz2
          obtain ⟨M', g1, g2, g3, g4⟩ := mc_ok (xl := xl) (J := J) (M := M) (s := 3) (t := 2) (p := p) (r := r) (q := q) (by decide) (by decide) (by rw [o1]; exact on) (by rw [u1]; exact un) (o1.trans (hf.trans u1.symm)) (o2.trans s3) (u2.trans t3) s4 t4 v1 v2
          refine ⟨M', g1, RM_sh hM (fun c c1 c2 => zr_n (by omega)) (by rw [g2 65 (by decide) (by decide), zr_n (by decide)]; exact hM.2.2.2.2.2.2) (SHm_2 h.1 hM (fun c c1 c2 c3 c4 => zr_n c4) (fun s e => by rw [g2 66 (by decide) (by decide)]) (fun s e => by rw [g2 67 (by decide) (by decide)]) (fun j e => g4 j (by omega)) ?_ ?_ ?_) (g2 70 (by decide) (by decide)) (g2 71 (by decide) (by decide)) (g2 75 (by decide) (by decide)) (g2 87 (by decide) (by decide)) (fun j hj => by rw [g2 65 (by decide) (by decide)]), fun c hc => g2 c (by omega) (by omega)⟩
          · rw [g2 66 (by decide) (by decide), zr_n (by decide), if_pos hz2]; exact u1
          · rw [g2 67 (by decide) (by decide), zr_n (by decide)]; exact u2
          · rw [zr_n (show 57 ≠ 58 by decide), zr_s]
            intro j hj
            by_cases e : r ≤ j ∧ j < r + q
            · obtain ⟨e1, e2⟩ := e
              rw [pk_cpy_in e1 e2]
              have := g3 (j - r) (by omega)
              rw [show 60 * 2 + r + (j - r) = 60 * 2 + j by omega, show 60 * 3 + p + (j - r) = 60 * 3 + (p + (j - r)) by omega, o3 _ (by omega)] at this
              exact this
            · rw [pk_cpy_out (by omega), g4 _ (by omega)]
              exact u3 j hj
      · refine mkF (v := -12) (k := 2) h (fun Q => ?_) (fun M J hM Q => ?_)
        · by_cases w1 : Hv (I 59 2) a c = 0
          · simp (disch := first | assumption | omega | (simp (disch := omega) only [zr_n, zr_s]; assumption)) only [x71_0, x71_1, x71_2, x71_5, x71_8, x71_9, x71_10, x71_13, x71_16, x71_18, x71_19, x71_20_0, x71_23, x71_24, x71_25, x71_27, x71_28_0, x71_31, x71_32, x71_33, x71_35, x71_37_53, x71_37_55, x71_37_57, x71_37_59, x71_40, x71_43, x71_45_53, x71_45_55, x71_45_57, x71_45_59, x71_48, x71_51, x71_52, x71_53, x71_56, x71_57, x71_59_53, x71_59_55, x71_59_57, x71_59_59, x71_62, x71_64_53, x71_64_55, x71_64_57, x71_64_59, x71_67, x71_70, x71_71, x71_72, x71_75, x71_76, x71_78, x71_79, x71_81, x71_84, x71_87, x71_89, x71_91, x71_93, x71_96, x71_99, x71_100, x71_101, x71_104, x71_105, x71_107_53, x71_107_55, x71_107_57, x71_107_59, x71_110, x71_111, x71_113_53, x71_113_55, x71_113_57, x71_113_59, x71_116, x71_118, x71_120, x71_123, x71_124, gc_0, br_52, aa_52_0, aa_52_1, aa_52_2, aa_52_3, gc_59, gc_57, ↓reduceIte, zkl_i, zkl_r, zkl_n, zkl_z, zkl_l, Option.toList_some, Option.toList_none, List.cons_append, List.nil_append, zcs_0, zcs_i, zcs_l, zcs_r, zle8, true_and, and_true, true_or, or_true, c_below, c1, c2, i1_0, if_false, ixN_nI, nI_clamp, hz1, hz2, hf, if_true, c_holdsH, w1, c_found, v11]
          · have w2 : Hv (I 57 2) b c = 0 := by
              rw [t3]
              refine Hv0 t4 (fun z => ?_)
              obtain ⟨r, q, rfl, rfl, v2⟩ := z
              refine w1 ?_
              rw [s3]
              refine Hv0 s4 (fun z => ?_)
              obtain ⟨p, q', rfl, eq, v1⟩ := z
              exact hv ⟨p, r, q, rfl, rfl, rfl, by
                by_cases hq : q < 2 ^ 31
                · have : q = q' := (nI_eq hq (by omega)).mp eq
                  omega
                · omega, v2⟩
            simp (disch := first | assumption | omega | (simp (disch := omega) only [zr_n, zr_s]; assumption)) only [x71_0, x71_1, x71_2, x71_5, x71_8, x71_9, x71_10, x71_13, x71_16, x71_18, x71_19, x71_20_0, x71_23, x71_24, x71_25, x71_27, x71_28_0, x71_31, x71_32, x71_33, x71_35, x71_37_53, x71_37_55, x71_37_57, x71_37_59, x71_40, x71_43, x71_45_53, x71_45_55, x71_45_57, x71_45_59, x71_48, x71_51, x71_52, x71_53, x71_56, x71_57, x71_59_53, x71_59_55, x71_59_57, x71_59_59, x71_62, x71_64_53, x71_64_55, x71_64_57, x71_64_59, x71_67, x71_70, x71_71, x71_72, x71_75, x71_76, x71_78, x71_79, x71_81, x71_84, x71_87, x71_89, x71_91, x71_93, x71_96, x71_99, x71_100, x71_101, x71_104, x71_105, x71_107_53, x71_107_55, x71_107_57, x71_107_59, x71_110, x71_111, x71_113_53, x71_113_55, x71_113_57, x71_113_59, x71_116, x71_118, x71_120, x71_123, x71_124, gc_0, br_52, aa_52_0, aa_52_1, aa_52_2, aa_52_3, gc_59, gc_57, ↓reduceIte, zkl_i, zkl_r, zkl_n, zkl_z, zkl_l, Option.toList_some, Option.toList_none, List.cons_append, List.nil_append, zcs_0, zcs_i, zcs_l, zcs_r, zle8, true_and, and_true, true_or, or_true, c_below, c1, c2, i1_0, if_false, ixN_nI, nI_clamp, hz1, hz2, hf, if_true, c_holdsH, w1, w2, c_found, v11]
        · obtain ⟨-, o2, o3, o4, -⟩ := sh_3 h.1 hM
          obtain ⟨-, u2, u3, u4, -⟩ := sh_2 h.1 hM
          obtain ⟨o1, on⟩ := o4 hz1
          obtain ⟨u1, un⟩ := u4 hz2
          exact mc_index (by decide) (by decide) (by rw [o1]; exact on) (by rw [u1]; exact un) (o1.trans (hf.trans u1.symm)) (o2.trans s3) (u2.trans t3) s4 t4 hv
    · refine mkF (v := -14) (k := 4) h (fun Q => ?_) (fun M J hM Q => ?_)
      · first
          | exact absurd rfl hf
          | simp (disch := first | assumption | omega | (simp (disch := omega) only [zr_n, zr_s]; assumption)) only [x71_0, x71_1, x71_2, x71_5, x71_8, x71_9, x71_10, x71_13, x71_16, x71_18, x71_19, x71_20_0, x71_23, x71_24, x71_25, x71_27, x71_28_0, x71_31, x71_32, x71_33, x71_35, x71_37_53, x71_37_55, x71_37_57, x71_37_59, x71_40, x71_43, x71_45_53, x71_45_55, x71_45_57, x71_45_59, x71_48, x71_51, x71_52, x71_53, x71_56, x71_57, x71_59_53, x71_59_55, x71_59_57, x71_59_59, x71_62, x71_64_53, x71_64_55, x71_64_57, x71_64_59, x71_67, x71_70, x71_71, x71_72, x71_75, x71_76, x71_78, x71_79, x71_81, x71_84, x71_87, x71_89, x71_91, x71_93, x71_96, x71_99, x71_100, x71_101, x71_104, x71_105, x71_107_53, x71_107_55, x71_107_57, x71_107_59, x71_110, x71_111, x71_113_53, x71_113_55, x71_113_57, x71_113_59, x71_116, x71_118, x71_120, x71_123, x71_124, gc_0, br_52, aa_52_0, aa_52_1, aa_52_2, aa_52_3, gc_59, gc_57, ↓reduceIte, zkl_i, zkl_r, zkl_n, zkl_z, zkl_l, Option.toList_some, Option.toList_none, List.cons_append, List.nil_append, zcs_0, zcs_i, zcs_l, zcs_r, zle8, true_and, and_true, true_or, or_true, c_below, c1, c2, i1_0, if_false, ixN_nI, nI_clamp, hz1, hz2, hf, if_true, c_found, v11]
      · obtain ⟨o1, on⟩ := (sh_3 h.1 hM).2.2.2.1 hz1
        obtain ⟨u1, un⟩ := (sh_2 h.1 hM).2.2.2.1 hz2
        exact mc_store (by decide) (by decide) (by rw [o1]; exact on) (by rw [u1]; exact un) (fun z => hf (o1.symm.trans (z.trans u1)))
  · refine mkF (v := -11) (k := 1) h (fun Q => ?_) (fun M J hM Q => ?_)
    · by_cases z1 : I 59 0 = 0
      · have z2 : ¬ I 57 0 = 0 := fun z => hz ⟨z1, z⟩
        first
          | exact absurd z1 z2
          | simp (disch := first | assumption | omega | (simp (disch := omega) only [zr_n, zr_s]; assumption)) only [x71_0, x71_1, x71_2, x71_5, x71_8, x71_9, x71_10, x71_13, x71_16, x71_18, x71_19, x71_20_0, x71_23, x71_24, x71_25, x71_27, x71_28_0, x71_31, x71_32, x71_33, x71_35, x71_37_53, x71_37_55, x71_37_57, x71_37_59, x71_40, x71_43, x71_45_53, x71_45_55, x71_45_57, x71_45_59, x71_48, x71_51, x71_52, x71_53, x71_56, x71_57, x71_59_53, x71_59_55, x71_59_57, x71_59_59, x71_62, x71_64_53, x71_64_55, x71_64_57, x71_64_59, x71_67, x71_70, x71_71, x71_72, x71_75, x71_76, x71_78, x71_79, x71_81, x71_84, x71_87, x71_89, x71_91, x71_93, x71_96, x71_99, x71_100, x71_101, x71_104, x71_105, x71_107_53, x71_107_55, x71_107_57, x71_107_59, x71_110, x71_111, x71_113_53, x71_113_55, x71_113_57, x71_113_59, x71_116, x71_118, x71_120, x71_123, x71_124, gc_0, br_52, aa_52_0, aa_52_1, aa_52_2, aa_52_3, gc_59, gc_57, ↓reduceIte, zkl_i, zkl_r, zkl_n, zkl_z, zkl_l, Option.toList_some, Option.toList_none, List.cons_append, List.nil_append, zcs_0, zcs_i, zcs_l, zcs_r, zle8, true_and, and_true, true_or, or_true, c_below, c1, c2, i1_0, if_false, ixN_nI, nI_clamp, z1, z2, if_true, c_found, v11]
      · simp (disch := first | assumption | omega | (simp (disch := omega) only [zr_n, zr_s]; assumption)) only [x71_0, x71_1, x71_2, x71_5, x71_8, x71_9, x71_10, x71_13, x71_16, x71_18, x71_19, x71_20_0, x71_23, x71_24, x71_25, x71_27, x71_28_0, x71_31, x71_32, x71_33, x71_35, x71_37_53, x71_37_55, x71_37_57, x71_37_59, x71_40, x71_43, x71_45_53, x71_45_55, x71_45_57, x71_45_59, x71_48, x71_51, x71_52, x71_53, x71_56, x71_57, x71_59_53, x71_59_55, x71_59_57, x71_59_59, x71_62, x71_64_53, x71_64_55, x71_64_57, x71_64_59, x71_67, x71_70, x71_71, x71_72, x71_75, x71_76, x71_78, x71_79, x71_81, x71_84, x71_87, x71_89, x71_91, x71_93, x71_96, x71_99, x71_100, x71_101, x71_104, x71_105, x71_107_53, x71_107_55, x71_107_57, x71_107_59, x71_110, x71_111, x71_113_53, x71_113_55, x71_113_57, x71_113_59, x71_116, x71_118, x71_120, x71_123, x71_124, gc_0, br_52, aa_52_0, aa_52_1, aa_52_2, aa_52_3, gc_59, gc_57, ↓reduceIte, zkl_i, zkl_r, zkl_n, zkl_z, zkl_l, Option.toList_some, Option.toList_none, List.cons_append, List.nil_append, zcs_0, zcs_i, zcs_l, zcs_r, zle8, true_and, and_true, true_or, or_true, c_below, c1, c2, i1_0, if_false, ixN_nI, nI_clamp, z1, if_true, c_found, v11]
    · refine mc_null (by decide) (by decide) ?_
      by_cases z1 : I 59 0 = 0
      · have z2 : ¬ I 57 0 = 0 := fun z => hz ⟨z1, z⟩
        rw [(sh_2 h.1 hM).2.2.2.2 z2]
        exact Or.inr (by decide)
      · rw [(sh_3 h.1 hM).2.2.2.2 z1]
        exact Or.inl (by decide)
theorem k_copy_33 (h : Inv I) : KI xl 71 112 [.ref 0, .int (nI 3), .int a, .int (nI 3), .int b, .int c, .null, .null] [.ref 65, .int (nI 3), .int a, .int (nI 3), .int b, .int c, .null] I J := by
  have c1 : (if nI 3 < 0 then (0 : Int32) else if nI 3 < 4 then 1 else 0) = 1 := bl1 (n := 4) (by decide) (by decide)
  have c2 : (if nI 3 < 0 then (0 : Int32) else if nI 3 < 4 then 1 else 0) = 1 := bl1 (n := 4) (by decide) (by decide)
  obtain ⟨⟨s1, s2, s3, s4⟩, -⟩ := sh_3 h.1 h.2
  obtain ⟨⟨t1, t2, t3, t4⟩, -⟩ := sh_3 h.1 h.2
  by_cases hz : I 59 0 = 0 ∧ I 59 0 = 0
  · obtain ⟨hz1, hz2⟩ := hz
    by_cases hf : I 59 1 = I 59 1
    · by_cases hv : ∃ p r q, a = nI p ∧ b = nI r ∧ c = nI q ∧ p + q ≤ tn (I 59 2) ∧ r + q ≤ tn (I 59 2)
      · obtain ⟨p, r, q, rfl, rfl, rfl, v1, v2⟩ := hv
        have w1 : Hv (I 59 2) (nI p) (nI q) = 1 := by rw [s3]; exact Hv1 s4 v1
        have w2 : Hv (I 59 2) (nI r) (nI q) = 1 := by rw [t3]; exact Hv1 t4 v2
        have hcp : zcp (zG xl) 60 60 (nI p) (nI r) (nI q) := ⟨ak_60, ak_60, nI_pos (by omega), nI_pos (by omega), nI_pos (by omega), by rw [al_60, nI_clamp (by omega), nI_clamp (by omega)]; omega, by rw [al_60, nI_clamp (by omega), nI_clamp (by omega)]; omega⟩
        refine mkU (v := 1) (I1 := zr I 60 (va_cpy (I 60) (I 60) p r q)) h (fun Q => ?_) (RC_sh h.1 (fun c c1 c2 => zr_n (by omega)) (zr_n (by decide)) (fun s hs => by rw [zr_n (by omega)]; exact h.1.2.2.1 s hs)) (fun c hc => zr_n (by omega)) (fun M J hM => ?_)
        · simp (disch := first | assumption | omega | (simp (disch := omega) only [zr_n, zr_s]; assumption)) only [x71_0, x71_1, x71_2, x71_5, x71_8, x71_9, x71_10, x71_13, x71_16, x71_18, x71_19, x71_20_0, x71_23, x71_24, x71_25, x71_27, x71_28_0, x71_31, x71_32, x71_33, x71_35, x71_37_53, x71_37_55, x71_37_57, x71_37_59, x71_40, x71_43, x71_45_53, x71_45_55, x71_45_57, x71_45_59, x71_48, x71_51, x71_52, x71_53, x71_56, x71_57, x71_59_53, x71_59_55, x71_59_57, x71_59_59, x71_62, x71_64_53, x71_64_55, x71_64_57, x71_64_59, x71_67, x71_70, x71_71, x71_72, x71_75, x71_76, x71_78, x71_79, x71_81, x71_84, x71_87, x71_89, x71_91, x71_93, x71_96, x71_99, x71_100, x71_101, x71_104, x71_105, x71_107_53, x71_107_55, x71_107_57, x71_107_59, x71_110, x71_111, x71_113_53, x71_113_55, x71_113_57, x71_113_59, x71_116, x71_118, x71_120, x71_123, x71_124, gc_0, br_52, aa_52_0, aa_52_1, aa_52_2, aa_52_3, gc_59, gc_59, ↓reduceIte, zkl_i, zkl_r, zkl_n, zkl_z, zkl_l, Option.toList_some, Option.toList_none, List.cons_append, List.nil_append, zcs_0, zcs_i, zcs_l, zcs_r, zle8, true_and, and_true, true_or, or_true, c_below, c1, c2, i1_0, if_false, ixN_nI, nI_clamp, hz1, hz2, hf, if_true, c_holdsH, w1, w2, hcp]
        · obtain ⟨-, o2, o3, o4, -⟩ := sh_3 h.1 hM
          obtain ⟨-, u2, u3, u4, -⟩ := sh_3 h.1 hM
          obtain ⟨o1, on⟩ := o4 hz1
          obtain ⟨u1, un⟩ := u4 hz2
          obtain ⟨M', g1, g2, g3, g4⟩ := mc_ok (xl := xl) (J := J) (M := M) (s := 3) (t := 3) (p := p) (r := r) (q := q) (by decide) (by decide) (by rw [o1]; exact on) (by rw [u1]; exact un) (o1.trans (hf.trans u1.symm)) (o2.trans s3) (u2.trans t3) s4 t4 v1 v2
          refine ⟨M', g1, RM_sh hM (fun c c1 c2 => zr_n (by omega)) (by rw [g2 65 (by decide) (by decide), zr_n (by decide)]; exact hM.2.2.2.2.2.2) (SHm_3 h.1 hM (fun c c1 c2 c3 c4 => zr_n c4) (fun s e => by rw [g2 66 (by decide) (by decide)]) (fun s e => by rw [g2 67 (by decide) (by decide)]) (fun j e => g4 j (by omega)) ?_ ?_ ?_) (g2 70 (by decide) (by decide)) (g2 71 (by decide) (by decide)) (g2 75 (by decide) (by decide)) (g2 87 (by decide) (by decide)) (fun j hj => by rw [g2 65 (by decide) (by decide)]), fun c hc => g2 c (by omega) (by omega)⟩
          · rw [g2 66 (by decide) (by decide), zr_n (by decide), if_pos hz2]; exact u1
          · rw [g2 67 (by decide) (by decide), zr_n (by decide)]; exact u2
          · rw [zr_n (show 59 ≠ 60 by decide), zr_s]
            intro j hj
            by_cases e : r ≤ j ∧ j < r + q
            · obtain ⟨e1, e2⟩ := e
              rw [pk_cpy_in e1 e2]
              have := g3 (j - r) (by omega)
              rw [show 60 * 3 + r + (j - r) = 60 * 3 + j by omega, show 60 * 3 + p + (j - r) = 60 * 3 + (p + (j - r)) by omega, o3 _ (by omega)] at this
              exact this
            · rw [pk_cpy_out (by omega), g4 _ (by omega)]
              exact u3 j hj
      · refine mkF (v := -12) (k := 2) h (fun Q => ?_) (fun M J hM Q => ?_)
        · by_cases w1 : Hv (I 59 2) a c = 0
          · simp (disch := first | assumption | omega | (simp (disch := omega) only [zr_n, zr_s]; assumption)) only [x71_0, x71_1, x71_2, x71_5, x71_8, x71_9, x71_10, x71_13, x71_16, x71_18, x71_19, x71_20_0, x71_23, x71_24, x71_25, x71_27, x71_28_0, x71_31, x71_32, x71_33, x71_35, x71_37_53, x71_37_55, x71_37_57, x71_37_59, x71_40, x71_43, x71_45_53, x71_45_55, x71_45_57, x71_45_59, x71_48, x71_51, x71_52, x71_53, x71_56, x71_57, x71_59_53, x71_59_55, x71_59_57, x71_59_59, x71_62, x71_64_53, x71_64_55, x71_64_57, x71_64_59, x71_67, x71_70, x71_71, x71_72, x71_75, x71_76, x71_78, x71_79, x71_81, x71_84, x71_87, x71_89, x71_91, x71_93, x71_96, x71_99, x71_100, x71_101, x71_104, x71_105, x71_107_53, x71_107_55, x71_107_57, x71_107_59, x71_110, x71_111, x71_113_53, x71_113_55, x71_113_57, x71_113_59, x71_116, x71_118, x71_120, x71_123, x71_124, gc_0, br_52, aa_52_0, aa_52_1, aa_52_2, aa_52_3, gc_59, gc_59, ↓reduceIte, zkl_i, zkl_r, zkl_n, zkl_z, zkl_l, Option.toList_some, Option.toList_none, List.cons_append, List.nil_append, zcs_0, zcs_i, zcs_l, zcs_r, zle8, true_and, and_true, true_or, or_true, c_below, c1, c2, i1_0, if_false, ixN_nI, nI_clamp, hz1, hz2, hf, if_true, c_holdsH, w1, c_found, v11]
          · have w2 : Hv (I 59 2) b c = 0 := by
              rw [t3]
              refine Hv0 t4 (fun z => ?_)
              obtain ⟨r, q, rfl, rfl, v2⟩ := z
              refine w1 ?_
              rw [s3]
              refine Hv0 s4 (fun z => ?_)
              obtain ⟨p, q', rfl, eq, v1⟩ := z
              exact hv ⟨p, r, q, rfl, rfl, rfl, by
                by_cases hq : q < 2 ^ 31
                · have : q = q' := (nI_eq hq (by omega)).mp eq
                  omega
                · omega, v2⟩
            simp (disch := first | assumption | omega | (simp (disch := omega) only [zr_n, zr_s]; assumption)) only [x71_0, x71_1, x71_2, x71_5, x71_8, x71_9, x71_10, x71_13, x71_16, x71_18, x71_19, x71_20_0, x71_23, x71_24, x71_25, x71_27, x71_28_0, x71_31, x71_32, x71_33, x71_35, x71_37_53, x71_37_55, x71_37_57, x71_37_59, x71_40, x71_43, x71_45_53, x71_45_55, x71_45_57, x71_45_59, x71_48, x71_51, x71_52, x71_53, x71_56, x71_57, x71_59_53, x71_59_55, x71_59_57, x71_59_59, x71_62, x71_64_53, x71_64_55, x71_64_57, x71_64_59, x71_67, x71_70, x71_71, x71_72, x71_75, x71_76, x71_78, x71_79, x71_81, x71_84, x71_87, x71_89, x71_91, x71_93, x71_96, x71_99, x71_100, x71_101, x71_104, x71_105, x71_107_53, x71_107_55, x71_107_57, x71_107_59, x71_110, x71_111, x71_113_53, x71_113_55, x71_113_57, x71_113_59, x71_116, x71_118, x71_120, x71_123, x71_124, gc_0, br_52, aa_52_0, aa_52_1, aa_52_2, aa_52_3, gc_59, gc_59, ↓reduceIte, zkl_i, zkl_r, zkl_n, zkl_z, zkl_l, Option.toList_some, Option.toList_none, List.cons_append, List.nil_append, zcs_0, zcs_i, zcs_l, zcs_r, zle8, true_and, and_true, true_or, or_true, c_below, c1, c2, i1_0, if_false, ixN_nI, nI_clamp, hz1, hz2, hf, if_true, c_holdsH, w1, w2, c_found, v11]
        · obtain ⟨-, o2, o3, o4, -⟩ := sh_3 h.1 hM
          obtain ⟨-, u2, u3, u4, -⟩ := sh_3 h.1 hM
          obtain ⟨o1, on⟩ := o4 hz1
          obtain ⟨u1, un⟩ := u4 hz2
          exact mc_index (by decide) (by decide) (by rw [o1]; exact on) (by rw [u1]; exact un) (o1.trans (hf.trans u1.symm)) (o2.trans s3) (u2.trans t3) s4 t4 hv
    · refine mkF (v := -14) (k := 4) h (fun Q => ?_) (fun M J hM Q => ?_)
      · first
          | exact absurd rfl hf
          | simp (disch := first | assumption | omega | (simp (disch := omega) only [zr_n, zr_s]; assumption)) only [x71_0, x71_1, x71_2, x71_5, x71_8, x71_9, x71_10, x71_13, x71_16, x71_18, x71_19, x71_20_0, x71_23, x71_24, x71_25, x71_27, x71_28_0, x71_31, x71_32, x71_33, x71_35, x71_37_53, x71_37_55, x71_37_57, x71_37_59, x71_40, x71_43, x71_45_53, x71_45_55, x71_45_57, x71_45_59, x71_48, x71_51, x71_52, x71_53, x71_56, x71_57, x71_59_53, x71_59_55, x71_59_57, x71_59_59, x71_62, x71_64_53, x71_64_55, x71_64_57, x71_64_59, x71_67, x71_70, x71_71, x71_72, x71_75, x71_76, x71_78, x71_79, x71_81, x71_84, x71_87, x71_89, x71_91, x71_93, x71_96, x71_99, x71_100, x71_101, x71_104, x71_105, x71_107_53, x71_107_55, x71_107_57, x71_107_59, x71_110, x71_111, x71_113_53, x71_113_55, x71_113_57, x71_113_59, x71_116, x71_118, x71_120, x71_123, x71_124, gc_0, br_52, aa_52_0, aa_52_1, aa_52_2, aa_52_3, gc_59, gc_59, ↓reduceIte, zkl_i, zkl_r, zkl_n, zkl_z, zkl_l, Option.toList_some, Option.toList_none, List.cons_append, List.nil_append, zcs_0, zcs_i, zcs_l, zcs_r, zle8, true_and, and_true, true_or, or_true, c_below, c1, c2, i1_0, if_false, ixN_nI, nI_clamp, hz1, hz2, hf, if_true, c_found, v11]
      · obtain ⟨o1, on⟩ := (sh_3 h.1 hM).2.2.2.1 hz1
        obtain ⟨u1, un⟩ := (sh_3 h.1 hM).2.2.2.1 hz2
        exact mc_store (by decide) (by decide) (by rw [o1]; exact on) (by rw [u1]; exact un) (fun z => hf (o1.symm.trans (z.trans u1)))
  · refine mkF (v := -11) (k := 1) h (fun Q => ?_) (fun M J hM Q => ?_)
    · by_cases z1 : I 59 0 = 0
      · have z2 : ¬ I 59 0 = 0 := fun z => hz ⟨z1, z⟩
        first
          | exact absurd z1 z2
          | simp (disch := first | assumption | omega | (simp (disch := omega) only [zr_n, zr_s]; assumption)) only [x71_0, x71_1, x71_2, x71_5, x71_8, x71_9, x71_10, x71_13, x71_16, x71_18, x71_19, x71_20_0, x71_23, x71_24, x71_25, x71_27, x71_28_0, x71_31, x71_32, x71_33, x71_35, x71_37_53, x71_37_55, x71_37_57, x71_37_59, x71_40, x71_43, x71_45_53, x71_45_55, x71_45_57, x71_45_59, x71_48, x71_51, x71_52, x71_53, x71_56, x71_57, x71_59_53, x71_59_55, x71_59_57, x71_59_59, x71_62, x71_64_53, x71_64_55, x71_64_57, x71_64_59, x71_67, x71_70, x71_71, x71_72, x71_75, x71_76, x71_78, x71_79, x71_81, x71_84, x71_87, x71_89, x71_91, x71_93, x71_96, x71_99, x71_100, x71_101, x71_104, x71_105, x71_107_53, x71_107_55, x71_107_57, x71_107_59, x71_110, x71_111, x71_113_53, x71_113_55, x71_113_57, x71_113_59, x71_116, x71_118, x71_120, x71_123, x71_124, gc_0, br_52, aa_52_0, aa_52_1, aa_52_2, aa_52_3, gc_59, gc_59, ↓reduceIte, zkl_i, zkl_r, zkl_n, zkl_z, zkl_l, Option.toList_some, Option.toList_none, List.cons_append, List.nil_append, zcs_0, zcs_i, zcs_l, zcs_r, zle8, true_and, and_true, true_or, or_true, c_below, c1, c2, i1_0, if_false, ixN_nI, nI_clamp, z1, z2, if_true, c_found, v11]
      · simp (disch := first | assumption | omega | (simp (disch := omega) only [zr_n, zr_s]; assumption)) only [x71_0, x71_1, x71_2, x71_5, x71_8, x71_9, x71_10, x71_13, x71_16, x71_18, x71_19, x71_20_0, x71_23, x71_24, x71_25, x71_27, x71_28_0, x71_31, x71_32, x71_33, x71_35, x71_37_53, x71_37_55, x71_37_57, x71_37_59, x71_40, x71_43, x71_45_53, x71_45_55, x71_45_57, x71_45_59, x71_48, x71_51, x71_52, x71_53, x71_56, x71_57, x71_59_53, x71_59_55, x71_59_57, x71_59_59, x71_62, x71_64_53, x71_64_55, x71_64_57, x71_64_59, x71_67, x71_70, x71_71, x71_72, x71_75, x71_76, x71_78, x71_79, x71_81, x71_84, x71_87, x71_89, x71_91, x71_93, x71_96, x71_99, x71_100, x71_101, x71_104, x71_105, x71_107_53, x71_107_55, x71_107_57, x71_107_59, x71_110, x71_111, x71_113_53, x71_113_55, x71_113_57, x71_113_59, x71_116, x71_118, x71_120, x71_123, x71_124, gc_0, br_52, aa_52_0, aa_52_1, aa_52_2, aa_52_3, gc_59, gc_59, ↓reduceIte, zkl_i, zkl_r, zkl_n, zkl_z, zkl_l, Option.toList_some, Option.toList_none, List.cons_append, List.nil_append, zcs_0, zcs_i, zcs_l, zcs_r, zle8, true_and, and_true, true_or, or_true, c_below, c1, c2, i1_0, if_false, ixN_nI, nI_clamp, z1, if_true, c_found, v11]
    · refine mc_null (by decide) (by decide) ?_
      by_cases z1 : I 59 0 = 0
      · have z2 : ¬ I 59 0 = 0 := fun z => hz ⟨z1, z⟩
        rw [(sh_3 h.1 hM).2.2.2.2 z2]
        exact Or.inr (by decide)
      · rw [(sh_3 h.1 hM).2.2.2.2 z1]
        exact Or.inl (by decide)
theorem k_copy (h : Inv I) : KI xl 71 112 [.ref 0, .int d, .int a, .int e, .int b, .int c, .null, .null] [.ref 65, .int d, .int a, .int e, .int b, .int c, .null] I J := by
  by_cases hd : IN d 4
  · obtain ⟨s, hs, rfl⟩ := hd
    have c1 : (if nI s < 0 then (0 : Int32) else if nI s < 4 then 1 else 0) = 1 := bl1 (n := 4) hs (by decide)
    have r1 : bt (nI s) 0 3 = 1 := in1 (m := 3) (by omega) (by decide)
    by_cases he : IN e 4
    · obtain ⟨t, ht, rfl⟩ := he
      rcases nlt_4' hs with rfl | rfl | rfl | rfl
      · rcases nlt_4' ht with rfl | rfl | rfl | rfl
        · exact k_copy_00 h
        · exact k_copy_01 h
        · exact k_copy_02 h
        · exact k_copy_03 h
      · rcases nlt_4' ht with rfl | rfl | rfl | rfl
        · exact k_copy_10 h
        · exact k_copy_11 h
        · exact k_copy_12 h
        · exact k_copy_13 h
      · rcases nlt_4' ht with rfl | rfl | rfl | rfl
        · exact k_copy_20 h
        · exact k_copy_21 h
        · exact k_copy_22 h
        · exact k_copy_23 h
      · rcases nlt_4' ht with rfl | rfl | rfl | rfl
        · exact k_copy_30 h
        · exact k_copy_31 h
        · exact k_copy_32 h
        · exact k_copy_33 h
    · have c2 : (if e < 0 then (0 : Int32) else if e < 4 then 1 else 0) = 0 := bl0 (n := 4) (by decide) he
      have r2 : bt e 0 3 = 0 := in0 (m := 3) (by decide) he
      refine mkI (v := -2) (I1 := I) (J1 := J) h (fun Q => by simp (disch := first | assumption | omega | (simp (disch := omega) only [zr_n, zr_s]; assumption)) only [x71_0, x71_1, x71_2, x71_5, x71_8, x71_9, x71_10, x71_13, x71_16, x71_18, ↓reduceIte, zkl_i, zkl_r, zkl_n, zkl_z, zkl_l, Option.toList_some, Option.toList_none, List.cons_append, List.nil_append, zcs_0, zcs_i, zcs_l, zcs_r, zle8, true_and, and_true, true_or, or_true, c_below, c1, c2, i1_0, if_true, if_false]) (Tr_refl I) (fun M J hM => ⟨M, fun Q => ?_, hM, Fr_refl M⟩)
      simp (disch := first | assumption | omega | (simp (disch := omega) only [zr_n, zr_s]; assumption)) only [x112_0, x112_1, x112_4, x112_7, x112_8, x112_11, x112_14, x112_16, ↓reduceIte, zkl_i, zkl_r, zkl_n, zkl_z, zkl_l, Option.toList_some, Option.toList_none, List.cons_append, List.nil_append, zcs_0, zcs_i, zcs_l, zcs_r, zle8, true_and, and_true, true_or, or_true, m_isSheet, r1, r2, i1_0, if_true, if_false]
  · have c1 : (if d < 0 then (0 : Int32) else if d < 4 then 1 else 0) = 0 := bl0 (n := 4) (by decide) hd
    have r1 : bt d 0 3 = 0 := in0 (m := 3) (by decide) hd
    refine mkI (v := -2) (I1 := I) (J1 := J) h (fun Q => by simp (disch := first | assumption | omega | (simp (disch := omega) only [zr_n, zr_s]; assumption)) only [x71_0, x71_1, x71_2, x71_5, x71_8, x71_9, x71_10, x71_13, x71_16, x71_18, ↓reduceIte, zkl_i, zkl_r, zkl_n, zkl_z, zkl_l, Option.toList_some, Option.toList_none, List.cons_append, List.nil_append, zcs_0, zcs_i, zcs_l, zcs_r, zle8, true_and, and_true, true_or, or_true, c_below, c1, if_true]) (Tr_refl I) (fun M J hM => ⟨M, fun Q => ?_, hM, Fr_refl M⟩)
    simp (disch := first | assumption | omega | (simp (disch := omega) only [zr_n, zr_s]; assumption)) only [x112_0, x112_1, x112_4, x112_7, x112_8, x112_11, x112_14, x112_16, ↓reduceIte, zkl_i, zkl_r, zkl_n, zkl_z, zkl_l, Option.toList_some, Option.toList_none, List.cons_append, List.nil_append, zcs_0, zcs_i, zcs_l, zcs_r, zle8, true_and, and_true, true_or, or_true, m_isSheet, r1, if_true]
end

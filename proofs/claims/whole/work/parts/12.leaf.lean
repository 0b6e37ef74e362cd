/-! ===== the class: texts, plans, sightings, sheets ===== -/
theorem nr_3 {k : Nat} (h : k < 2 ^ 31) : nI k - nI k / 3 * 3 = nI (k % 3) := pk_rem h (by decide) (by decide)
theorem nd_3 {k : Nat} (h : k < 2 ^ 31) : nI k / 3 = nI (k / 3) := pk_div h (by decide) (by decide)
theorem ne_0 {k : Nat} (h : k < 2 ^ 31) : (nI k = 0) = (k = 0) := propext (nI_eq h (by decide))
theorem ne_1 {k : Nat} (h : k < 2 ^ 31) : (nI k = 1) = (k = 1) := propext (nI_eq h (by decide))
theorem ne_2 {k : Nat} (h : k < 2 ^ 31) : (nI k = 2) = (k = 2) := propext (nI_eq h (by decide))
theorem ne_8 {k : Nat} (h : k < 2 ^ 31) : (nI k = 8) = (k = 8) := propext (nI_eq h (by decide))
theorem ne_m1 {k : Nat} (h : k < 2 ^ 31) : (nI k = -1) = False := by
  apply propext
  constructor
  · intro e
    have := congrArg Int32.toInt e
    rw [nI_toInt h] at this
    have h2 : (-1 : Int32).toInt = -1 := by decide
    rw [h2] at this
    omega
  · exact False.elim
theorem i3_0 : ((3 : Int32) = 0) = False := by decide
theorem c3_0 : (¬ (3 : Int32) = 0) = True := by decide
def c16 (b : Int32) : Int32 := (b.toUInt32 % 65536).toInt32
/-- whether the k-th byte fits: 1 or 0 -/
def sp_ft (H : Nat) (lf : Int32) (f : Nat → Int32) (k : Nat) : Int32 := if k % 3 = 0 then (if zsx H (c16 (f k)) < 0 then 0 else 1) else if k % 3 = 1 then (if f k < 48 + lf then 0 else if 57 < f k then 0 else 1) else if f k = 59 then 1 else 0
def sp_fl (ft : Nat → Int32) (e : Int32) : Nat → Nat → Int32
  | 0, _ => e
  | d + 1, k => if ft k = 0 then nI k else sp_fl ft e d (k + 1)
def sp_fe (l : Nat) : Int32 := if l = 0 then -1 else if l % 3 = 2 then -1 else nI l
/-- the place of the fault -/
def sp_fp (H : Nat) (lf : Int32) (f : Nat → Int32) (l : Nat) : Int32 := sp_fl (sp_ft H lf f) (sp_fe l) l 0
/-- how many pairs -/
def sp_pn (H : Nat) (lf : Int32) (f : Nat → Int32) (l : Nat) : Nat := if sp_fp H lf f l = -1 then (l + 1) / 3 else 0
def sp_hd (H : Nat) (f : Nat → Int32) (j : Nat) : Int32 := zsx H (c16 (f (3 * j)))
def sp_fg (f : Nat → Int32) (j : Nat) : Int32 := f (3 * j + 1) - 48
def zro (n : Nat) (h : Nat → Int32) (f : Nat → Int32) : Nat → Int32 := fun j => if j < n then h j else f j
theorem zro_upd (n : Nat) (h f : Nat → Int32) : upd (zro n h f) n (h n) = zro (n + 1) h f := by
  funext j
  simp only [upd, zro]
  by_cases h1 : j = n
  · subst h1; simp
  · by_cases h2 : j < n
    · simp [h1, h2, Nat.lt_succ_of_lt h2]
    · simp [h1, h2, show ¬ j < n + 1 by omega]
theorem zro_0 (h f : Nat → Int32) : zro 0 h f = f := by funext j; simp [zro]
theorem sp_fl_m1 {ft : Nat → Int32} {e : Int32} : ∀ (d k : Nat), k + d < 1000 → sp_fl ft e d k = -1 → e = -1 ∧ ∀ j, k ≤ j → j < k + d → ¬ ft j = 0 := by
  intro d
  induction d with
  | zero => intro k _ h; exact ⟨h, fun j h1 h2 => by omega⟩
  | succ d ih =>
    intro k hk h
    rw [sp_fl] at h
    by_cases h1 : ft k = 0
    · rw [if_pos h1, ne_m1 (by omega)] at h
      exact h.elim
    · rw [if_neg h1] at h
      obtain ⟨h2, h3⟩ := ih (k + 1) (by omega) h
      refine ⟨h2, fun j j1 j2 => ?_⟩
      by_cases hj : j = k
      · rw [hj]; exact h1
      · exact h3 j (by omega) (by omega)
theorem sp_fe_m1 {l : Nat} (hl : l < 1000) (h : sp_fe l = -1) : l = 0 ∨ l % 3 = 2 := by
  unfold sp_fe at h
  by_cases h1 : l = 0
  · exact Or.inl h1
  · by_cases h2 : l % 3 = 2
    · exact Or.inr h2
    · rw [if_neg h1, if_neg h2, ne_m1 (by omega)] at h
      exact h.elim
theorem sp_pn_le {H : Nat} {lf : Int32} {f : Nat → Int32} {l : Nat} (hl : l < 1000) : sp_pn H lf f l = 0 ∨ 3 * sp_pn H lf f l = l + 1 := by
  unfold sp_pn
  by_cases h : sp_fp H lf f l = -1
  · rw [if_pos h]
    rcases sp_fe_m1 hl (sp_fl_m1 l 0 (by omega) h).1 with h1 | h1
    · subst h1; exact Or.inl rfl
    · right; omega
  · rw [if_neg h]; exact Or.inl rfl
section
variable {xl : Nat} {I : zI} {J : zJ} {Q : zQ}
theorem c_below {v e : Int32} : Rn (zG xl) 81 0 [.int v, .int e] [] I J Q = Q (some (.int (if v < 0 then 0 else if v < e then 1 else 0))) I J := by
  simp only [x81_0, x81_1, x81_4, x81_5, x81_6, x81_9, x81_10, x81_13, x81_14, ↓reduceIte, zkl_i, zkl_r, zkl_n, zkl_z, zkl_l, Option.toList_some, Option.toList_none, List.cons_append, List.nil_append, zcs_0, zcs_i, zcs_l, zcs_r, zle8, true_and, and_true, true_or, or_true]
  simp only [ite_QQ Q, ite_sm, ite_vi, ite_vl, ite_self]
theorem c_fits_2 {k : Nat} (hk : k < 29) : Rn (zG xl) 32 0 [.ref 2, .int (nI k), .null] [] I J Q = Q (some (.int (sp_ft 1001 (I 2 1) (I 3) k))) I J := by
  simp (disch := first | assumption | omega | (simp (disch := omega) only [zr_n, zr_s]; assumption)) only [x32_0, x32_1_2, x32_1_4, x32_1_6, x32_4, x32_5, x32_6, x32_7, x32_8, x32_9, x32_10, x32_36, x32_37_2, x32_37_4, x32_37_6, x32_40, x32_41, x32_42, x32_45, x32_48, x32_49, x32_52, x32_53, x32_54, x32_55, x32_57, x32_58_2, x32_58_4, x32_58_6, x32_61, x32_62, x32_65, x32_66, x32_68, x32_71, x32_72, x32_75, x32_76, x32_77, x32_78, x32_80, x32_83, x32_84, x32_87, x32_88, bi_3, bs_3, ↓reduceIte, zkl_i, zkl_r, zkl_n, zkl_z, zkl_l, Option.toList_some, Option.toList_none, List.cons_append, List.nil_append, zcs_0, zcs_i, zcs_l, zcs_r, zle8, true_and, and_true, true_or, or_true, ixN_nI, nI_clamp, nr_3, ne_0, ne_1, c3_0, Nat.reduceEqDiff, or_false, false_or]
  simp only [ite_QQ Q, ite_sm, ite_vi, ite_vl, ite_self]
  rfl
theorem c_faultPlace_2 {l : Nat} (hl : I 2 3 = nI l) (hC : l ≤ 29) : Rn (zG xl) 31 0 [.ref 2, .null] [] I J Q = Q (some (.int (sp_fp 1001 (I 2 1) (I 3) l))) I J := by
  simp only [x31_0, x31_1, x31_3, x31_4_2, x31_4_4, x31_4_6, x31_7, x31_10, x31_11, x31_12, x31_15, x31_18, x31_19, x31_20, x31_23, x31_26, x31_27_2, x31_27_4, x31_27_6, x31_30, x31_33, x31_34_2, x31_34_4, x31_34_6, x31_37, x31_38, x31_39, x31_40, x31_43, x31_44, x31_47, x31_48_2, x31_48_4, x31_48_6, x31_51, ↓reduceIte, zkl_i, zkl_r, zkl_n, zkl_z, zkl_l, Option.toList_some, Option.toList_none, List.cons_append, List.nil_append, zcs_0, zcs_i, zcs_l, zcs_r, zle8, true_and, and_true, true_or, or_true]
  have key : ∀ (d k : Nat), k + d = l → Rn (zG xl) 31 2 [.ref 2, .int (nI k)] [] I J Q = Q (some (.int (sp_fl (sp_ft 1001 (I 2 1) (I 3)) (sp_fe l) d k))) I J := by
    intro d
    induction d with
    | zero =>
      intro k h
      have h : k = l := h
      subst h
      rw [h31_2, sp_fl, sp_fe]
      simp (disch := first | assumption | omega | (simp (disch := omega) only [zr_n, zr_s]; assumption)) only [x31_0, x31_1, x31_3, x31_4_2, x31_4_4, x31_4_6, x31_7, x31_10, x31_11, x31_12, x31_15, x31_18, x31_19, x31_20, x31_23, x31_26, x31_27_2, x31_27_4, x31_27_6, x31_30, x31_33, x31_34_2, x31_34_4, x31_34_6, x31_37, x31_38, x31_39, x31_40, x31_43, x31_44, x31_47, x31_48_2, x31_48_4, x31_48_6, x31_51, ↓reduceIte, zkl_i, zkl_r, zkl_n, zkl_z, zkl_l, Option.toList_some, Option.toList_none, List.cons_append, List.nil_append, zcs_0, zcs_i, zcs_l, zcs_r, zle8, true_and, and_true, true_or, or_true, hl, nI_ltI, Nat.lt_irrefl, if_false, nr_3, c3_0, ne_0, ne_2]
      simp only [ite_QQ Q, ite_sm, ite_vi, ite_vl, ite_self]
    | succ d ih =>
      intro k h
      have hk : k < l := by omega
      rw [h31_2, sp_fl]
      simp (disch := first | assumption | omega | (simp (disch := omega) only [zr_n, zr_s]; assumption)) only [x31_0, x31_1, x31_3, x31_4_2, x31_4_4, x31_4_6, x31_7, x31_10, x31_11, x31_12, x31_15, x31_18, x31_19, x31_20, x31_23, x31_26, x31_27_2, x31_27_4, x31_27_6, x31_30, x31_33, x31_34_2, x31_34_4, x31_34_6, x31_37, x31_38, x31_39, x31_40, x31_43, x31_44, x31_47, x31_48_2, x31_48_4, x31_48_6, x31_51, gc_2, ↓reduceIte, zkl_i, zkl_r, zkl_n, zkl_z, zkl_l, Option.toList_some, Option.toList_none, List.cons_append, List.nil_append, zcs_0, zcs_i, zcs_l, zcs_r, zle8, true_and, and_true, true_or, or_true, hl, nI_ltI, hk, if_true, c_fits_2, na_1]
      rw [ih (k + 1) (by omega)]
      simp only [ite_QQ Q, ite_sm, ite_vi, ite_vl, ite_self]
  exact key l 0 (Nat.zero_add l)
theorem c_pairs_2 {l : Nat} (hl : I 2 3 = nI l) (hC : l ≤ 29) : Rn (zG xl) 33 0 [.ref 2] [] I J Q = Q (some (.int (nI (sp_pn 1001 (I 2 1) (I 3) l)))) I J := by
  simp (disch := first | assumption | omega | (simp (disch := omega) only [zr_n, zr_s]; assumption)) only [x33_0, x33_1, x33_4, x33_5, x33_8, x33_9_2, x33_9_4, x33_9_6, x33_12, x33_13, x33_14, x33_15, x33_16, x33_19, x33_20, gc_2, ↓reduceIte, zkl_i, zkl_r, zkl_n, zkl_z, zkl_l, Option.toList_some, Option.toList_none, List.cons_append, List.nil_append, zcs_0, zcs_i, zcs_l, zcs_r, zle8, true_and, and_true, true_or, or_true, c_faultPlace_2 hl hC, hl, na_1, nd_3, c3_0]
  simp only [ite_QQ Q, ite_sm, ite_vi, ite_vl, ite_self]
  rw [sp_pn]
  by_cases h : sp_fp 1001 (I 2 1) (I 3) l = -1 <;> simp only [h, if_true, if_false, nI_0]
theorem c_headAt_2 {j : Nat} (hj : 3 * j < 29) : Rn (zG xl) 34 0 [.ref 2, .int (nI j)] [] I J Q = Q (some (.int (sp_hd 1001 (I 3) j))) I J := by
  simp (disch := first | assumption | omega | (simp (disch := omega) only [zr_n, zr_s]; assumption)) only [x34_0, x34_1_2, x34_1_4, x34_1_6, x34_4, x34_5_2, x34_5_4, x34_5_6, x34_8, x34_9, x34_10, x34_11, x34_12, x34_13, x34_16, bi_3, bs_3, ↓reduceIte, zkl_i, zkl_r, zkl_n, zkl_z, zkl_l, Option.toList_some, Option.toList_none, List.cons_append, List.nil_append, zcs_0, zcs_i, zcs_l, zcs_r, zle8, true_and, and_true, true_or, or_true, nm_3, ixN_nI, nI_clamp, Nat.reduceEqDiff, or_false, false_or]
  rfl
theorem c_figureAt_2 {j : Nat} (hj : 3 * j + 1 < 29) : Rn (zG xl) 35 0 [.ref 2, .int (nI j)] [] I J Q = Q (some (.int (sp_fg (I 3) j))) I J := by
  simp (disch := first | assumption | omega | (simp (disch := omega) only [zr_n, zr_s]; assumption)) only [x35_0, x35_1_2, x35_1_4, x35_1_6, x35_4, x35_5, x35_6, x35_7, x35_8, x35_9, x35_10, x35_12, x35_13, bi_3, bs_3, ↓reduceIte, zkl_i, zkl_r, zkl_n, zkl_z, zkl_l, Option.toList_some, Option.toList_none, List.cons_append, List.nil_append, zcs_0, zcs_i, zcs_l, zcs_r, zle8, true_and, and_true, true_or, or_true, nm_3, na_1, ixN_nI, nI_clamp]
  rfl
theorem c_fits_4 {k : Nat} (hk : k < 17) : Rn (zG xl) 32 0 [.ref 4, .int (nI k), .null] [] I J Q = Q (some (.int (sp_ft 1002 (I 4 1) (I 5) k))) I J := by
  simp (disch := first | assumption | omega | (simp (disch := omega) only [zr_n, zr_s]; assumption)) only [x32_0, x32_1_2, x32_1_4, x32_1_6, x32_4, x32_5, x32_6, x32_7, x32_8, x32_9, x32_10, x32_36, x32_37_2, x32_37_4, x32_37_6, x32_40, x32_41, x32_42, x32_45, x32_48, x32_49, x32_52, x32_53, x32_54, x32_55, x32_57, x32_58_2, x32_58_4, x32_58_6, x32_61, x32_62, x32_65, x32_66, x32_68, x32_71, x32_72, x32_75, x32_76, x32_77, x32_78, x32_80, x32_83, x32_84, x32_87, x32_88, bi_5, bs_5, ↓reduceIte, zkl_i, zkl_r, zkl_n, zkl_z, zkl_l, Option.toList_some, Option.toList_none, List.cons_append, List.nil_append, zcs_0, zcs_i, zcs_l, zcs_r, zle8, true_and, and_true, true_or, or_true, ixN_nI, nI_clamp, nr_3, ne_0, ne_1, c3_0, Nat.reduceEqDiff, or_false, false_or]
  simp only [ite_QQ Q, ite_sm, ite_vi, ite_vl, ite_self]
  rfl
theorem c_faultPlace_4 {l : Nat} (hl : I 4 3 = nI l) (hC : l ≤ 17) : Rn (zG xl) 31 0 [.ref 4, .null] [] I J Q = Q (some (.int (sp_fp 1002 (I 4 1) (I 5) l))) I J := by
  simp only [x31_0, x31_1, x31_3, x31_4_2, x31_4_4, x31_4_6, x31_7, x31_10, x31_11, x31_12, x31_15, x31_18, x31_19, x31_20, x31_23, x31_26, x31_27_2, x31_27_4, x31_27_6, x31_30, x31_33, x31_34_2, x31_34_4, x31_34_6, x31_37, x31_38, x31_39, x31_40, x31_43, x31_44, x31_47, x31_48_2, x31_48_4, x31_48_6, x31_51, ↓reduceIte, zkl_i, zkl_r, zkl_n, zkl_z, zkl_l, Option.toList_some, Option.toList_none, List.cons_append, List.nil_append, zcs_0, zcs_i, zcs_l, zcs_r, zle8, true_and, and_true, true_or, or_true]
  have key : ∀ (d k : Nat), k + d = l → Rn (zG xl) 31 2 [.ref 4, .int (nI k)] [] I J Q = Q (some (.int (sp_fl (sp_ft 1002 (I 4 1) (I 5)) (sp_fe l) d k))) I J := by
    intro d
    induction d with
    | zero =>
      intro k h
      have h : k = l := h
      subst h
      rw [h31_2, sp_fl, sp_fe]
      simp (disch := first | assumption | omega | (simp (disch := omega) only [zr_n, zr_s]; assumption)) only [x31_0, x31_1, x31_3, x31_4_2, x31_4_4, x31_4_6, x31_7, x31_10, x31_11, x31_12, x31_15, x31_18, x31_19, x31_20, x31_23, x31_26, x31_27_2, x31_27_4, x31_27_6, x31_30, x31_33, x31_34_2, x31_34_4, x31_34_6, x31_37, x31_38, x31_39, x31_40, x31_43, x31_44, x31_47, x31_48_2, x31_48_4, x31_48_6, x31_51, ↓reduceIte, zkl_i, zkl_r, zkl_n, zkl_z, zkl_l, Option.toList_some, Option.toList_none, List.cons_append, List.nil_append, zcs_0, zcs_i, zcs_l, zcs_r, zle8, true_and, and_true, true_or, or_true, hl, nI_ltI, Nat.lt_irrefl, if_false, nr_3, c3_0, ne_0, ne_2]
      simp only [ite_QQ Q, ite_sm, ite_vi, ite_vl, ite_self]
    | succ d ih =>
      intro k h
      have hk : k < l := by omega
      rw [h31_2, sp_fl]
      simp (disch := first | assumption | omega | (simp (disch := omega) only [zr_n, zr_s]; assumption)) only [x31_0, x31_1, x31_3, x31_4_2, x31_4_4, x31_4_6, x31_7, x31_10, x31_11, x31_12, x31_15, x31_18, x31_19, x31_20, x31_23, x31_26, x31_27_2, x31_27_4, x31_27_6, x31_30, x31_33, x31_34_2, x31_34_4, x31_34_6, x31_37, x31_38, x31_39, x31_40, x31_43, x31_44, x31_47, x31_48_2, x31_48_4, x31_48_6, x31_51, gc_4, ↓reduceIte, zkl_i, zkl_r, zkl_n, zkl_z, zkl_l, Option.toList_some, Option.toList_none, List.cons_append, List.nil_append, zcs_0, zcs_i, zcs_l, zcs_r, zle8, true_and, and_true, true_or, or_true, hl, nI_ltI, hk, if_true, c_fits_4, na_1]
      rw [ih (k + 1) (by omega)]
      simp only [ite_QQ Q, ite_sm, ite_vi, ite_vl, ite_self]
  exact key l 0 (Nat.zero_add l)
theorem c_pairs_4 {l : Nat} (hl : I 4 3 = nI l) (hC : l ≤ 17) : Rn (zG xl) 33 0 [.ref 4] [] I J Q = Q (some (.int (nI (sp_pn 1002 (I 4 1) (I 5) l)))) I J := by
  simp (disch := first | assumption | omega | (simp (disch := omega) only [zr_n, zr_s]; assumption)) only [x33_0, x33_1, x33_4, x33_5, x33_8, x33_9_2, x33_9_4, x33_9_6, x33_12, x33_13, x33_14, x33_15, x33_16, x33_19, x33_20, gc_4, ↓reduceIte, zkl_i, zkl_r, zkl_n, zkl_z, zkl_l, Option.toList_some, Option.toList_none, List.cons_append, List.nil_append, zcs_0, zcs_i, zcs_l, zcs_r, zle8, true_and, and_true, true_or, or_true, c_faultPlace_4 hl hC, hl, na_1, nd_3, c3_0]
  simp only [ite_QQ Q, ite_sm, ite_vi, ite_vl, ite_self]
  rw [sp_pn]
  by_cases h : sp_fp 1002 (I 4 1) (I 5) l = -1 <;> simp only [h, if_true, if_false, nI_0]
theorem c_headAt_4 {j : Nat} (hj : 3 * j < 17) : Rn (zG xl) 34 0 [.ref 4, .int (nI j)] [] I J Q = Q (some (.int (sp_hd 1002 (I 5) j))) I J := by
  simp (disch := first | assumption | omega | (simp (disch := omega) only [zr_n, zr_s]; assumption)) only [x34_0, x34_1_2, x34_1_4, x34_1_6, x34_4, x34_5_2, x34_5_4, x34_5_6, x34_8, x34_9, x34_10, x34_11, x34_12, x34_13, x34_16, bi_5, bs_5, ↓reduceIte, zkl_i, zkl_r, zkl_n, zkl_z, zkl_l, Option.toList_some, Option.toList_none, List.cons_append, List.nil_append, zcs_0, zcs_i, zcs_l, zcs_r, zle8, true_and, and_true, true_or, or_true, nm_3, ixN_nI, nI_clamp, Nat.reduceEqDiff, or_false, false_or]
  rfl
theorem c_figureAt_4 {j : Nat} (hj : 3 * j + 1 < 17) : Rn (zG xl) 35 0 [.ref 4, .int (nI j)] [] I J Q = Q (some (.int (sp_fg (I 5) j))) I J := by
  simp (disch := first | assumption | omega | (simp (disch := omega) only [zr_n, zr_s]; assumption)) only [x35_0, x35_1_2, x35_1_4, x35_1_6, x35_4, x35_5, x35_6, x35_7, x35_8, x35_9, x35_10, x35_12, x35_13, bi_5, bs_5, ↓reduceIte, zkl_i, zkl_r, zkl_n, zkl_z, zkl_l, Option.toList_some, Option.toList_none, List.cons_append, List.nil_append, zcs_0, zcs_i, zcs_l, zcs_r, zle8, true_and, and_true, true_or, or_true, nm_3, na_1, ixN_nI, nI_clamp]
  rfl
theorem c_fits_6 {k : Nat} (hk : k < 47) : Rn (zG xl) 32 0 [.ref 6, .int (nI k), .null] [] I J Q = Q (some (.int (sp_ft 1003 (I 6 1) (I 7) k))) I J := by
  simp (disch := first | assumption | omega | (simp (disch := omega) only [zr_n, zr_s]; assumption)) only [x32_0, x32_1_2, x32_1_4, x32_1_6, x32_4, x32_5, x32_6, x32_7, x32_8, x32_9, x32_10, x32_36, x32_37_2, x32_37_4, x32_37_6, x32_40, x32_41, x32_42, x32_45, x32_48, x32_49, x32_52, x32_53, x32_54, x32_55, x32_57, x32_58_2, x32_58_4, x32_58_6, x32_61, x32_62, x32_65, x32_66, x32_68, x32_71, x32_72, x32_75, x32_76, x32_77, x32_78, x32_80, x32_83, x32_84, x32_87, x32_88, bi_7, bs_7, ↓reduceIte, zkl_i, zkl_r, zkl_n, zkl_z, zkl_l, Option.toList_some, Option.toList_none, List.cons_append, List.nil_append, zcs_0, zcs_i, zcs_l, zcs_r, zle8, true_and, and_true, true_or, or_true, ixN_nI, nI_clamp, nr_3, ne_0, ne_1, c3_0, Nat.reduceEqDiff, or_false, false_or]
  simp only [ite_QQ Q, ite_sm, ite_vi, ite_vl, ite_self]
  rfl
theorem c_faultPlace_6 {l : Nat} (hl : I 6 3 = nI l) (hC : l ≤ 47) : Rn (zG xl) 31 0 [.ref 6, .null] [] I J Q = Q (some (.int (sp_fp 1003 (I 6 1) (I 7) l))) I J := by
  simp only [x31_0, x31_1, x31_3, x31_4_2, x31_4_4, x31_4_6, x31_7, x31_10, x31_11, x31_12, x31_15, x31_18, x31_19, x31_20, x31_23, x31_26, x31_27_2, x31_27_4, x31_27_6, x31_30, x31_33, x31_34_2, x31_34_4, x31_34_6, x31_37, x31_38, x31_39, x31_40, x31_43, x31_44, x31_47, x31_48_2, x31_48_4, x31_48_6, x31_51, ↓reduceIte, zkl_i, zkl_r, zkl_n, zkl_z, zkl_l, Option.toList_some, Option.toList_none, List.cons_append, List.nil_append, zcs_0, zcs_i, zcs_l, zcs_r, zle8, true_and, and_true, true_or, or_true]
  have key : ∀ (d k : Nat), k + d = l → Rn (zG xl) 31 2 [.ref 6, .int (nI k)] [] I J Q = Q (some (.int (sp_fl (sp_ft 1003 (I 6 1) (I 7)) (sp_fe l) d k))) I J := by
    intro d
    induction d with
    | zero =>
      intro k h
      have h : k = l := h
      subst h
      rw [h31_2, sp_fl, sp_fe]
      simp (disch := first | assumption | omega | (simp (disch := omega) only [zr_n, zr_s]; assumption)) only [x31_0, x31_1, x31_3, x31_4_2, x31_4_4, x31_4_6, x31_7, x31_10, x31_11, x31_12, x31_15, x31_18, x31_19, x31_20, x31_23, x31_26, x31_27_2, x31_27_4, x31_27_6, x31_30, x31_33, x31_34_2, x31_34_4, x31_34_6, x31_37, x31_38, x31_39, x31_40, x31_43, x31_44, x31_47, x31_48_2, x31_48_4, x31_48_6, x31_51, ↓reduceIte, zkl_i, zkl_r, zkl_n, zkl_z, zkl_l, Option.toList_some, Option.toList_none, List.cons_append, List.nil_append, zcs_0, zcs_i, zcs_l, zcs_r, zle8, true_and, and_true, true_or, or_true, hl, nI_ltI, Nat.lt_irrefl, if_false, nr_3, c3_0, ne_0, ne_2]
      simp only [ite_QQ Q, ite_sm, ite_vi, ite_vl, ite_self]
    | succ d ih =>
      intro k h
      have hk : k < l := by omega
      rw [h31_2, sp_fl]
      simp (disch := first | assumption | omega | (simp (disch := omega) only [zr_n, zr_s]; assumption)) only [x31_0, x31_1, x31_3, x31_4_2, x31_4_4, x31_4_6, x31_7, x31_10, x31_11, x31_12, x31_15, x31_18, x31_19, x31_20, x31_23, x31_26, x31_27_2, x31_27_4, x31_27_6, x31_30, x31_33, x31_34_2, x31_34_4, x31_34_6, x31_37, x31_38, x31_39, x31_40, x31_43, x31_44, x31_47, x31_48_2, x31_48_4, x31_48_6, x31_51, gc_6, ↓reduceIte, zkl_i, zkl_r, zkl_n, zkl_z, zkl_l, Option.toList_some, Option.toList_none, List.cons_append, List.nil_append, zcs_0, zcs_i, zcs_l, zcs_r, zle8, true_and, and_true, true_or, or_true, hl, nI_ltI, hk, if_true, c_fits_6, na_1]
      rw [ih (k + 1) (by omega)]
      simp only [ite_QQ Q, ite_sm, ite_vi, ite_vl, ite_self]
  exact key l 0 (Nat.zero_add l)
theorem c_pairs_6 {l : Nat} (hl : I 6 3 = nI l) (hC : l ≤ 47) : Rn (zG xl) 33 0 [.ref 6] [] I J Q = Q (some (.int (nI (sp_pn 1003 (I 6 1) (I 7) l)))) I J := by
  simp (disch := first | assumption | omega | (simp (disch := omega) only [zr_n, zr_s]; assumption)) only [x33_0, x33_1, x33_4, x33_5, x33_8, x33_9_2, x33_9_4, x33_9_6, x33_12, x33_13, x33_14, x33_15, x33_16, x33_19, x33_20, gc_6, ↓reduceIte, zkl_i, zkl_r, zkl_n, zkl_z, zkl_l, Option.toList_some, Option.toList_none, List.cons_append, List.nil_append, zcs_0, zcs_i, zcs_l, zcs_r, zle8, true_and, and_true, true_or, or_true, c_faultPlace_6 hl hC, hl, na_1, nd_3, c3_0]
  simp only [ite_QQ Q, ite_sm, ite_vi, ite_vl, ite_self]
  rw [sp_pn]
  by_cases h : sp_fp 1003 (I 6 1) (I 7) l = -1 <;> simp only [h, if_true, if_false, nI_0]
theorem c_headAt_6 {j : Nat} (hj : 3 * j < 47) : Rn (zG xl) 34 0 [.ref 6, .int (nI j)] [] I J Q = Q (some (.int (sp_hd 1003 (I 7) j))) I J := by
  simp (disch := first | assumption | omega | (simp (disch := omega) only [zr_n, zr_s]; assumption)) only [x34_0, x34_1_2, x34_1_4, x34_1_6, x34_4, x34_5_2, x34_5_4, x34_5_6, x34_8, x34_9, x34_10, x34_11, x34_12, x34_13, x34_16, bi_7, bs_7, ↓reduceIte, zkl_i, zkl_r, zkl_n, zkl_z, zkl_l, Option.toList_some, Option.toList_none, List.cons_append, List.nil_append, zcs_0, zcs_i, zcs_l, zcs_r, zle8, true_and, and_true, true_or, or_true, nm_3, ixN_nI, nI_clamp, Nat.reduceEqDiff, or_false, false_or]
  rfl
theorem c_figureAt_6 {j : Nat} (hj : 3 * j + 1 < 47) : Rn (zG xl) 35 0 [.ref 6, .int (nI j)] [] I J Q = Q (some (.int (sp_fg (I 7) j))) I J := by
  simp (disch := first | assumption | omega | (simp (disch := omega) only [zr_n, zr_s]; assumption)) only [x35_0, x35_1_2, x35_1_4, x35_1_6, x35_4, x35_5, x35_6, x35_7, x35_8, x35_9, x35_10, x35_12, x35_13, bi_7, bs_7, ↓reduceIte, zkl_i, zkl_r, zkl_n, zkl_z, zkl_l, Option.toList_some, Option.toList_none, List.cons_append, List.nil_append, zcs_0, zcs_i, zcs_l, zcs_r, zle8, true_and, and_true, true_or, or_true, nm_3, na_1, ixN_nI, nI_clamp]
  rfl
theorem c_takePairs_2 {l : Nat} (hl : I 2 3 = nI l) (hC : l ≤ 29) : Rn (zG xl) 13 0 [.ref 2, .ref 9, .ref 10, .null, .null] [] I J Q = Q (some (.int (nI (sp_pn 1001 (I 2 1) (I 3) l)))) (zr (zr I 9 (zro (sp_pn 1001 (I 2 1) (I 3) l) (sp_hd 1001 (I 3)) (I 9))) 10 (zro (sp_pn 1001 (I 2 1) (I 3) l) (sp_fg (I 3)) (I 10))) J := by
  have hp := sp_pn_le (H := 1001) (lf := I 2 1) (f := I 3) (show l < 1000 by omega)
  simp (disch := first | assumption | omega | (simp (disch := omega) only [zr_n, zr_s]; assumption)) only [x13_0, x13_1, x13_4, x13_5, x13_6, x13_10, x13_11, x13_14, x13_15, x13_17, x13_18, x13_20, x13_23, x13_24, x13_25, x13_27, x13_28, x13_30, x13_33, x13_34, x13_37, x13_40, x13_41, gc_2, ↓reduceIte, zkl_i, zkl_r, zkl_n, zkl_z, zkl_l, Option.toList_some, Option.toList_none, List.cons_append, List.nil_append, zcs_0, zcs_i, zcs_l, zcs_r, zle8, true_and, and_true, true_or, or_true, c_pairs_2 hl hC]
  generalize sp_pn 1001 (I 2 1) (I 3) l = n at hp
  have key : ∀ (d k : Nat), k + d = n → Rn (zG xl) 13 8 [.ref 2, .ref 9, .ref 10, .int (nI n), .int (nI k)] [] (zr (zr I 9 (zro k (sp_hd 1001 (I 3)) (I 9))) 10 (zro k (sp_fg (I 3)) (I 10))) J Q = Q (some (.int (nI n))) (zr (zr I 9 (zro n (sp_hd 1001 (I 3)) (I 9))) 10 (zro n (sp_fg (I 3)) (I 10))) J := by
    intro d
    induction d with
    | zero =>
      intro k h
      have h : k = n := h
      subst h
      rw [h13_8]
      simp (disch := first | assumption | omega | (simp (disch := omega) only [zr_n, zr_s]; assumption)) only [x13_0, x13_1, x13_4, x13_5, x13_6, x13_10, x13_11, x13_14, x13_15, x13_17, x13_18, x13_20, x13_23, x13_24, x13_25, x13_27, x13_28, x13_30, x13_33, x13_34, x13_37, x13_40, x13_41, ↓reduceIte, zkl_i, zkl_r, zkl_n, zkl_z, zkl_l, Option.toList_some, Option.toList_none, List.cons_append, List.nil_append, zcs_0, zcs_i, zcs_l, zcs_r, zle8, true_and, and_true, true_or, or_true, nI_ltI, Nat.lt_irrefl, if_false]
    | succ d ih =>
      intro k h
      have hk : k < n := by omega
      rw [h13_8]
      simp (disch := first | assumption | omega | (simp (disch := omega) only [zr_n, zr_s]; assumption)) only [x13_0, x13_1, x13_4, x13_5, x13_6, x13_10, x13_11, x13_14, x13_15, x13_17, x13_18, x13_20, x13_23, x13_24, x13_25, x13_27, x13_28, x13_30, x13_33, x13_34, x13_37, x13_40, x13_41, gc_2, bi_9, bs_9, bi_10, bs_10, ↓reduceIte, zkl_i, zkl_r, zkl_n, zkl_z, zkl_l, Option.toList_some, Option.toList_none, List.cons_append, List.nil_append, zcs_0, zcs_i, zcs_l, zcs_r, zle8, true_and, and_true, true_or, or_true, nI_ltI, hk, if_true, c_headAt_2, c_figureAt_2, na_1, ixN_nI, nI_clamp, zr_n, zr_s, zro_upd]
      rw [zr_c (c := 10) (d := 9) (by decide), zr_zr, zr_zr]
      exact ih (k + 1) (by omega)
  have h0 := key n 0 (Nat.zero_add n)
  rw [zro_0, zro_0, zr_id, zr_id] at h0
  exact h0
theorem c_takePairs_4 {l : Nat} (hl : I 4 3 = nI l) (hC : l ≤ 17) : Rn (zG xl) 13 0 [.ref 4, .ref 11, .ref 12, .null, .null] [] I J Q = Q (some (.int (nI (sp_pn 1002 (I 4 1) (I 5) l)))) (zr (zr I 11 (zro (sp_pn 1002 (I 4 1) (I 5) l) (sp_hd 1002 (I 5)) (I 11))) 12 (zro (sp_pn 1002 (I 4 1) (I 5) l) (sp_fg (I 5)) (I 12))) J := by
  have hp := sp_pn_le (H := 1002) (lf := I 4 1) (f := I 5) (show l < 1000 by omega)
  simp (disch := first | assumption | omega | (simp (disch := omega) only [zr_n, zr_s]; assumption)) only [x13_0, x13_1, x13_4, x13_5, x13_6, x13_10, x13_11, x13_14, x13_15, x13_17, x13_18, x13_20, x13_23, x13_24, x13_25, x13_27, x13_28, x13_30, x13_33, x13_34, x13_37, x13_40, x13_41, gc_4, ↓reduceIte, zkl_i, zkl_r, zkl_n, zkl_z, zkl_l, Option.toList_some, Option.toList_none, List.cons_append, List.nil_append, zcs_0, zcs_i, zcs_l, zcs_r, zle8, true_and, and_true, true_or, or_true, c_pairs_4 hl hC]
  generalize sp_pn 1002 (I 4 1) (I 5) l = n at hp
  have key : ∀ (d k : Nat), k + d = n → Rn (zG xl) 13 8 [.ref 4, .ref 11, .ref 12, .int (nI n), .int (nI k)] [] (zr (zr I 11 (zro k (sp_hd 1002 (I 5)) (I 11))) 12 (zro k (sp_fg (I 5)) (I 12))) J Q = Q (some (.int (nI n))) (zr (zr I 11 (zro n (sp_hd 1002 (I 5)) (I 11))) 12 (zro n (sp_fg (I 5)) (I 12))) J := by
    intro d
    induction d with
    | zero =>
      intro k h
      have h : k = n := h
      subst h
      rw [h13_8]
      simp (disch := first | assumption | omega | (simp (disch := omega) only [zr_n, zr_s]; assumption)) only [x13_0, x13_1, x13_4, x13_5, x13_6, x13_10, x13_11, x13_14, x13_15, x13_17, x13_18, x13_20, x13_23, x13_24, x13_25, x13_27, x13_28, x13_30, x13_33, x13_34, x13_37, x13_40, x13_41, ↓reduceIte, zkl_i, zkl_r, zkl_n, zkl_z, zkl_l, Option.toList_some, Option.toList_none, List.cons_append, List.nil_append, zcs_0, zcs_i, zcs_l, zcs_r, zle8, true_and, and_true, true_or, or_true, nI_ltI, Nat.lt_irrefl, if_false]
    | succ d ih =>
      intro k h
      have hk : k < n := by omega
      rw [h13_8]
      simp (disch := first | assumption | omega | (simp (disch := omega) only [zr_n, zr_s]; assumption)) only [x13_0, x13_1, x13_4, x13_5, x13_6, x13_10, x13_11, x13_14, x13_15, x13_17, x13_18, x13_20, x13_23, x13_24, x13_25, x13_27, x13_28, x13_30, x13_33, x13_34, x13_37, x13_40, x13_41, gc_4, bi_11, bs_11, bi_12, bs_12, ↓reduceIte, zkl_i, zkl_r, zkl_n, zkl_z, zkl_l, Option.toList_some, Option.toList_none, List.cons_append, List.nil_append, zcs_0, zcs_i, zcs_l, zcs_r, zle8, true_and, and_true, true_or, or_true, nI_ltI, hk, if_true, c_headAt_4, c_figureAt_4, na_1, ixN_nI, nI_clamp, zr_n, zr_s, zro_upd]
      rw [zr_c (c := 12) (d := 11) (by decide), zr_zr, zr_zr]
      exact ih (k + 1) (by omega)
  have h0 := key n 0 (Nat.zero_add n)
  rw [zro_0, zro_0, zr_id, zr_id] at h0
  exact h0
theorem c_takePairs_6 {l : Nat} (hl : I 6 3 = nI l) (hC : l ≤ 47) : Rn (zG xl) 13 0 [.ref 6, .ref 13, .ref 14, .null, .null] [] I J Q = Q (some (.int (nI (sp_pn 1003 (I 6 1) (I 7) l)))) (zr (zr I 13 (zro (sp_pn 1003 (I 6 1) (I 7) l) (sp_hd 1003 (I 7)) (I 13))) 14 (zro (sp_pn 1003 (I 6 1) (I 7) l) (sp_fg (I 7)) (I 14))) J := by
  have hp := sp_pn_le (H := 1003) (lf := I 6 1) (f := I 7) (show l < 1000 by omega)
  simp (disch := first | assumption | omega | (simp (disch := omega) only [zr_n, zr_s]; assumption)) only [x13_0, x13_1, x13_4, x13_5, x13_6, x13_10, x13_11, x13_14, x13_15, x13_17, x13_18, x13_20, x13_23, x13_24, x13_25, x13_27, x13_28, x13_30, x13_33, x13_34, x13_37, x13_40, x13_41, gc_6, ↓reduceIte, zkl_i, zkl_r, zkl_n, zkl_z, zkl_l, Option.toList_some, Option.toList_none, List.cons_append, List.nil_append, zcs_0, zcs_i, zcs_l, zcs_r, zle8, true_and, and_true, true_or, or_true, c_pairs_6 hl hC]
  generalize sp_pn 1003 (I 6 1) (I 7) l = n at hp
  have key : ∀ (d k : Nat), k + d = n → Rn (zG xl) 13 8 [.ref 6, .ref 13, .ref 14, .int (nI n), .int (nI k)] [] (zr (zr I 13 (zro k (sp_hd 1003 (I 7)) (I 13))) 14 (zro k (sp_fg (I 7)) (I 14))) J Q = Q (some (.int (nI n))) (zr (zr I 13 (zro n (sp_hd 1003 (I 7)) (I 13))) 14 (zro n (sp_fg (I 7)) (I 14))) J := by
    intro d
    induction d with
    | zero =>
      intro k h
      have h : k = n := h
      subst h
      rw [h13_8]
      simp (disch := first | assumption | omega | (simp (disch := omega) only [zr_n, zr_s]; assumption)) only [x13_0, x13_1, x13_4, x13_5, x13_6, x13_10, x13_11, x13_14, x13_15, x13_17, x13_18, x13_20, x13_23, x13_24, x13_25, x13_27, x13_28, x13_30, x13_33, x13_34, x13_37, x13_40, x13_41, ↓reduceIte, zkl_i, zkl_r, zkl_n, zkl_z, zkl_l, Option.toList_some, Option.toList_none, List.cons_append, List.nil_append, zcs_0, zcs_i, zcs_l, zcs_r, zle8, true_and, and_true, true_or, or_true, nI_ltI, Nat.lt_irrefl, if_false]
    | succ d ih =>
      intro k h
      have hk : k < n := by omega
      rw [h13_8]
      simp (disch := first | assumption | omega | (simp (disch := omega) only [zr_n, zr_s]; assumption)) only [x13_0, x13_1, x13_4, x13_5, x13_6, x13_10, x13_11, x13_14, x13_15, x13_17, x13_18, x13_20, x13_23, x13_24, x13_25, x13_27, x13_28, x13_30, x13_33, x13_34, x13_37, x13_40, x13_41, gc_6, bi_13, bs_13, bi_14, bs_14, ↓reduceIte, zkl_i, zkl_r, zkl_n, zkl_z, zkl_l, Option.toList_some, Option.toList_none, List.cons_append, List.nil_append, zcs_0, zcs_i, zcs_l, zcs_r, zle8, true_and, and_true, true_or, or_true, nI_ltI, hk, if_true, c_headAt_6, c_figureAt_6, na_1, ixN_nI, nI_clamp, zr_n, zr_s, zro_upd]
      rw [zr_c (c := 14) (d := 13) (by decide), zr_zr, zr_zr]
      exact ih (k + 1) (by omega)
  have h0 := key n 0 (Nat.zero_add n)
  rw [zro_0, zro_0, zr_id, zr_id] at h0
  exact h0
end

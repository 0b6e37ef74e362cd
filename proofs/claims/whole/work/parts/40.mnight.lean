/-! ===== the reference: what a night comes to ===== -/
theorem z00 : ((0 : Int32) < 0) = False := by decide
def wsF (b g : Nat → Int32) (n : Nat) : Int32 := fo (fun k s => if b k = -1 then (if s = -1 then nI k else if g (tn s) < g k then nI k else s) else s) n 0 (-1)
def wsD (D : zI) : Int32 := wsF (Nt D 39) (D 30) (tn (D 28 0))
theorem wsF_c {f f' g g' : Nat → Int32} {n : Nat} (hn : n ≤ 1000) (h : ∀ k, k < n → f' k = f k ∧ g' k = g k) : wsF f' g' n = wsF f g n := by
  unfold wsF
  have := fo_rel (f := fun k s => if f' k = -1 then (if s = -1 then nI k else if g' (tn s) < g' k then nI k else s) else s) (g := fun k s => if f k = -1 then (if s = -1 then nI k else if g (tn s) < g k then nI k else s) else s) (n := n) (fun k x y => x = y ∧ (y = -1 ∨ ∃ j, j < k ∧ y = nI j)) (fun k x y hk hP => by
    obtain ⟨rfl, hy⟩ := hP
    rw [(h k hk).1, (h k hk).2]
    rcases hy with rfl | ⟨j, hj, rfl⟩
    · by_cases q1 : f k = -1
      · simp only [q1, if_true, true_and]
        exact Or.inr ⟨k, by omega, rfl⟩
      · simp only [q1, if_false, true_and]
        exact Or.inl trivial
    · rw [tn, nI_clamp (by omega), (h j (by omega)).2]
      refine ⟨rfl, Or.inr ?_⟩
      by_cases q1 : f k = -1
      · rw [if_pos q1]
        by_cases q2 : nI j = -1
        · rw [if_pos q2]; exact ⟨k, by omega, rfl⟩
        · rw [if_neg q2]
          by_cases q3 : g j < g k
          · rw [if_pos q3]; exact ⟨k, by omega, rfl⟩
          · rw [if_neg q3]; exact ⟨j, by omega, rfl⟩
      · rw [if_neg q1]; exact ⟨j, by omega, rfl⟩) n 0 (-1) (-1) (Nat.zero_add _) ⟨rfl, Or.inl rfl⟩
  exact this.1
def mgD (D : zI) (q : Nat) (w : Int32) : Int32 := if w = 0 then Nt D 39 q else if w = 1 then Nt D 40 q else Nt D 41 q
def ngD (D : zI) (q : Nat) (w : Int32) : Int32 := if w = 0 then Nt D 42 q else if w = 1 then Nt D 43 q else if w = 2 then Nt D 44 q else Nt D 45 q
def dnD (D : zI) (q : Nat) (w : Int32) : Int32 := if w = 0 then Nt D 46 q else Nt D 47 q
def lnD (D : zI) (q : Nat) (w : Int32) : Int32 := if w = 0 then D 29 q else if w = 1 then D 30 q else 1 + 2 * D 29 q
section
variable {xl : Nat} {J : zJ} {Q : zQ} {M D : zI}
theorem MD_l (h : MD D M) : M 65 7 = nI (tn (D 28 0)) ∧ M 65 9 = nI (tn (D 28 3)) ∧ M 65 11 = nI (tn (D 28 6)) ∧ M 65 14 = nI (tn (D 28 9)) := by
  obtain ⟨-, l0, -, l3, -, l6, -, l9⟩ := Pk_l h.1
  rw [h.2.2.1.1, h.2.2.1.2.1, h.2.2.1.2.2.1, h.2.2.1.2.2.2.2.1]
  exact ⟨l0, l3, l6, l9⟩
theorem m_harmNowG {n : Nat} {f g : Nat → Int32} (e0 : M 65 7 = nI n) (b0 : n ≤ 10) (hE : ∀ k, k < 10 → M 84 k = f k) (hL : ∀ k, k < n → M 72 (2 * k + 1) = g k) : Rn (zG xl) 150 0 [.ref 65, .null, .null] [] M J Q = Q (some (.int (sp_hm f g n))) M J := by
  simp only [x150_0, x150_1, x150_2, x150_3, ↓reduceIte, zkl_i, zkl_r, zkl_n, zkl_z, zkl_l, Option.toList_some, Option.toList_none, List.cons_append, List.nil_append, zcs_0, zcs_i, zcs_l, zcs_r, zle8, true_and, and_true, true_or, or_true]
  rw [sp_hm]
  refine fo_loop0 (R := fun k s => Rn (zG xl) 150 4 [.ref 65, .int s, .int (nI k)] [] M J Q) (E := fun s => Q (some (.int s)) M J) (fun k s hk => ?_) (fun s => ?_) 0
  · rw [h150_4]
    simp (disch := first | assumption | omega | (simp (disch := omega) only [zr_n, zr_s]; assumption)) only [x150_5, x150_6_65, x150_9, x150_12, x150_13, x150_14_65, x150_17, x150_18, x150_19, x150_20, x150_23, x150_24_65, x150_27, x150_28, x150_29, x150_30, x150_31, x150_32, x150_33, x150_36, bi_84, bs_84, bi_72, bs_72, ↓reduceIte, zkl_i, zkl_r, zkl_n, zkl_z, zkl_l, Option.toList_some, Option.toList_none, List.cons_append, List.nil_append, zcs_0, zcs_i, zcs_l, zcs_r, zle8, true_and, and_true, true_or, or_true, e0, nI_ltI, hk, if_true, ixN_nI, nI_clamp, nm_2, na_1, hE k (by omega), hL k hk, ite_Rn, ite_cons, ite_vi, ite_vl, ite_self, ite_zr, ite_zr1, ite_zr2, ite_upd, ite_upd1, ite_upd2]
    simp (disch := first | assumption | omega | (simp (disch := omega) only [zr_n, zr_s]; assumption)) only [x150_37, x150_38, x150_39, x150_42, ↓reduceIte, zkl_i, zkl_r, zkl_n, zkl_z, zkl_l, Option.toList_some, Option.toList_none, List.cons_append, List.nil_append, zcs_0, zcs_i, zcs_l, zcs_r, zle8, true_and, and_true, true_or, or_true, na_1]
    by_cases q1 : f k = -1
    · simp only [q1, if_true]
    · simp only [q1, if_false, Int32.add_zero]
  · rw [h150_4]
    simp (disch := first | assumption | omega | (simp (disch := omega) only [zr_n, zr_s]; assumption)) only [x150_5, x150_6_65, x150_9, x150_12, x150_13, x150_14_65, x150_17, x150_18, x150_19, x150_20, x150_23, x150_24_65, x150_27, x150_28, x150_29, x150_30, x150_31, x150_32, x150_33, x150_36, x150_37, x150_38, x150_39, x150_42, x150_45, x150_46, ↓reduceIte, zkl_i, zkl_r, zkl_n, zkl_z, zkl_l, Option.toList_some, Option.toList_none, List.cons_append, List.nil_append, zcs_0, zcs_i, zcs_l, zcs_r, zle8, true_and, and_true, true_or, or_true, e0, nI_ltI, Nat.lt_irrefl, if_false]
theorem m_harmNow (h : MN D M) : Rn (zG xl) 150 0 [.ref 65, .null, .null] [] M J Q = Q (some (.int (hD D))) M J :=
  m_harmNowG (MD_l h.1).1 (Pk_l h.1.1).1 (fun k hk => (h.2.1 k hk).1) (fun k hk => (h.1.2.2.2.1 k hk).2)
theorem m_corrected {m : Int32} (h : MN D M) : Rn (zG xl) 148 0 [.ref 65, .int m, .null, .null] [] M J Q = Q (some (.int (mkD D m))) M J := by
  obtain ⟨e0, e3, e6, e9⟩ := MD_l h.1
  have b0 := (Pk_l h.1.1).1
  have hE := h.2.1
  simp only [x148_0, x148_1, x148_2, x148_3, ↓reduceIte, zkl_i, zkl_r, zkl_n, zkl_z, zkl_l, Option.toList_some, Option.toList_none, List.cons_append, List.nil_append, zcs_0, zcs_i, zcs_l, zcs_r, zle8, true_and, and_true, true_or, or_true]
  rw [mkD, sp_mk]
  generalize hn : tn (D 28 0) = n at e0 b0
  refine fo_loop0 (R := fun k s => Rn (zG xl) 148 4 [.ref 65, .int m, .int s, .int (nI k)] [] M J Q) (E := fun s => Q (some (.int s)) M J) (fun k s hk => ?_) (fun s => ?_) 0
  · rw [h148_4]
    simp (disch := first | assumption | omega | (simp (disch := omega) only [zr_n, zr_s]; assumption)) only [x148_5, x148_6_65, x148_9, x148_12, x148_13, x148_14_65, x148_17, x148_18, x148_19, x148_20, x148_23, x148_24_65, x148_27, x148_28, x148_29, x148_30, x148_33, x148_34, x148_35, x148_36, x148_39, bi_84, bs_84, bi_85, bs_85, ↓reduceIte, zkl_i, zkl_r, zkl_n, zkl_z, zkl_l, Option.toList_some, Option.toList_none, List.cons_append, List.nil_append, zcs_0, zcs_i, zcs_l, zcs_r, zle8, true_and, and_true, true_or, or_true, e0, nI_ltI, hk, if_true, ixN_nI, nI_clamp, (hE k (by omega)).1, (hE k (by omega)).2.1, ite_Rn, ite_cons, ite_vi, ite_vl, ite_self, ite_zr, ite_zr1, ite_zr2, ite_upd, ite_upd1, ite_upd2]
    simp (disch := first | assumption | omega | (simp (disch := omega) only [zr_n, zr_s]; assumption)) only [x148_40, x148_41, x148_42, x148_45, ↓reduceIte, zkl_i, zkl_r, zkl_n, zkl_z, zkl_l, Option.toList_some, Option.toList_none, List.cons_append, List.nil_append, zcs_0, zcs_i, zcs_l, zcs_r, zle8, true_and, and_true, true_or, or_true, na_1]
    rw [sp_mb]
    by_cases q1 : Nt D 39 k = -1
    · simp only [q1, if_true, Int32.or_zero]
    · by_cases q2 : m < Nt D 40 k
      · simp only [q1, q2, if_true, if_false, Int32.or_zero]
      · simp only [q1, q2, if_false]
  · rw [h148_4]
    simp (disch := first | assumption | omega | (simp (disch := omega) only [zr_n, zr_s]; assumption)) only [x148_5, x148_6_65, x148_9, x148_12, x148_13, x148_14_65, x148_17, x148_18, x148_19, x148_20, x148_23, x148_24_65, x148_27, x148_28, x148_29, x148_30, x148_33, x148_34, x148_35, x148_36, x148_39, x148_40, x148_41, x148_42, x148_45, x148_48, x148_49, ↓reduceIte, zkl_i, zkl_r, zkl_n, zkl_z, zkl_l, Option.toList_some, Option.toList_none, List.cons_append, List.nil_append, zcs_0, zcs_i, zcs_l, zcs_r, zle8, true_and, and_true, true_or, or_true, e0, nI_ltI, Nat.lt_irrefl, if_false]
theorem m_leftByG {n : Nat} {w : Int32} {f g : Nat → Int32} (e0 : M 65 7 = nI n) (b0 : n ≤ 10) (hE : ∀ k, k < 10 → M 84 k = f k ∧ M 86 k = g k) : Rn (zG xl) 154 0 [.ref 65, .int w, .null, .null, .null] [] M J Q = Q (some (.int (if w = 0 then sp_ur g n else sp_pd g f n))) M J := by
  simp only [x154_0, x154_1, x154_2, x154_3, ↓reduceIte, zkl_i, zkl_r, zkl_n, zkl_z, zkl_l, Option.toList_some, Option.toList_none, List.cons_append, List.nil_append, zcs_0, zcs_i, zcs_l, zcs_r, zle8, true_and, and_true, true_or, or_true]
  rw [sp_ur, sp_pd]
  have key : ∀ (d k : Nat) (s : Int32) (v : Value), k + d = n → Rn (zG xl) 154 4 [.ref 65, .int w, .int s, .int (nI k), v] [] M J Q = Q (some (.int (fo (fun k s => if (if w = 0 then g k = 0 else (0 < g k ∧ f k = -1)) then s ||| 1 <<< (nI k &&& 31) else s) d k s))) M J := by
    intro d
    induction d with
    | zero =>
      intro k s v hk
      have hk : k = n := hk
      subst hk
      rw [h154_4]
      simp (disch := first | assumption | omega | (simp (disch := omega) only [zr_n, zr_s]; assumption)) only [x154_5, x154_6_65, x154_9, x154_12, x154_13, x154_16, x154_17_65, x154_20, x154_21, x154_22, x154_25, x154_26, x154_29, x154_30, x154_33, x154_34_65, x154_37, x154_38, x154_39, x154_42, x154_43_65, x154_46, x154_47, x154_48, x154_49, x154_52, x154_53, x154_56, x154_57, x154_59, x154_60, x154_62, x154_65, x154_66, x154_67, x154_68, x154_71, x154_72, x154_73, x154_74, x154_77, x154_80, x154_81, ↓reduceIte, zkl_i, zkl_r, zkl_n, zkl_z, zkl_l, Option.toList_some, Option.toList_none, List.cons_append, List.nil_append, zcs_0, zcs_i, zcs_l, zcs_r, zle8, true_and, and_true, true_or, or_true, e0, nI_ltI, Nat.lt_irrefl, if_false, fo]
    | succ d ih =>
      intro k s v hk
      have hk2 : k < n := by omega
      have ih' := fun s v => ih (k + 1) s v (by omega)
      rw [h154_4, fo]
      by_cases q0 : w = 0
      · subst q0
        by_cases q1 : g k = 0
        all_goals by_cases q2 : 0 < g k
        all_goals by_cases q3 : f k = -1
        all_goals simp (disch := first | assumption | omega | (simp (disch := omega) only [zr_n, zr_s]; assumption)) only [x154_5, x154_6_65, x154_9, x154_12, x154_13, x154_16, x154_17_65, x154_20, x154_21, x154_22, x154_25, x154_26, x154_29, x154_30, x154_33, x154_34_65, x154_37, x154_38, x154_39, x154_42, x154_43_65, x154_46, x154_47, x154_48, x154_49, x154_52, x154_53, x154_56, x154_57, x154_59, x154_60, x154_62, x154_65, x154_66, x154_67, x154_68, x154_71, x154_72, x154_73, x154_74, x154_77, bi_84, bs_84, bi_86, bs_86, ↓reduceIte, zkl_i, zkl_r, zkl_n, zkl_z, zkl_l, Option.toList_some, Option.toList_none, List.cons_append, List.nil_append, zcs_0, zcs_i, zcs_l, zcs_r, zle8, true_and, and_true, true_or, or_true, e0, nI_ltI, hk2, if_true, ixN_nI, nI_clamp, (hE k (by omega)).1, (hE k (by omega)).2, q1, q2, q3, if_false, i1_0, i0_0, and_false, false_and, and_self, z00, Int32.or_zero, na_1, ih']
      · by_cases q1 : g k = 0
        all_goals by_cases q2 : 0 < g k
        all_goals by_cases q3 : f k = -1
        all_goals simp (disch := first | assumption | omega | (simp (disch := omega) only [zr_n, zr_s]; assumption)) only [x154_5, x154_6_65, x154_9, x154_12, x154_13, x154_16, x154_17_65, x154_20, x154_21, x154_22, x154_25, x154_26, x154_29, x154_30, x154_33, x154_34_65, x154_37, x154_38, x154_39, x154_42, x154_43_65, x154_46, x154_47, x154_48, x154_49, x154_52, x154_53, x154_56, x154_57, x154_59, x154_60, x154_62, x154_65, x154_66, x154_67, x154_68, x154_71, x154_72, x154_73, x154_74, x154_77, bi_84, bs_84, bi_86, bs_86, ↓reduceIte, zkl_i, zkl_r, zkl_n, zkl_z, zkl_l, Option.toList_some, Option.toList_none, List.cons_append, List.nil_append, zcs_0, zcs_i, zcs_l, zcs_r, zle8, true_and, and_true, true_or, or_true, e0, nI_ltI, hk2, if_true, ixN_nI, nI_clamp, (hE k (by omega)).1, (hE k (by omega)).2, q0, q1, q2, q3, if_false, i1_0, i0_0, and_false, false_and, and_self, z00, Int32.or_zero, na_1, ih']
  refine (key n 0 0 .null (Nat.zero_add _)).trans ?_
  by_cases q0 : w = 0
  · simp only [q0, if_true]
  · simp only [q0, if_false]
    have := pd_bits g f n
    unfold sp_pd at this
    rw [this]
theorem m_leftBy {w : Int32} (h : MN D M) : Rn (zG xl) 154 0 [.ref 65, .int w, .null, .null, .null] [] M J Q = Q (some (.int (if w = 0 then urD D else pdD D))) M J :=
  m_leftByG (MD_l h.1).1 (Pk_l h.1.1).1 (fun k hk => ⟨(h.2.1 k hk).1, (h.2.1 k hk).2.2⟩)
theorem m_worstNow (h : MN D M) : Rn (zG xl) 152 0 [.ref 65, .null, .null] [] M J Q = Q (some (.int (wsD D))) M J := by
  obtain ⟨e0, e3, e6, e9⟩ := MD_l h.1
  have b0 := (Pk_l h.1.1).1
  have hL := h.1.2.2.2.1
  have hE := h.2.1
  simp only [x152_0, x152_1, x152_2, x152_3, ↓reduceIte, zkl_i, zkl_r, zkl_n, zkl_z, zkl_l, Option.toList_some, Option.toList_none, List.cons_append, List.nil_append, zcs_0, zcs_i, zcs_l, zcs_r, zle8, true_and, and_true, true_or, or_true]
  rw [wsD, wsF]
  generalize hn : tn (D 28 0) = n at e0 b0 hL
  refine (fo_loop (R := fun k s => Rn (zG xl) 152 4 [.ref 65, .int s, .int (nI k)] [] M J Q) (E := fun s => Q (some (.int s)) M J) (n := n) (fun k s => s = -1 ∨ ∃ j, j < k ∧ s = nI j) (fun k s hk hP => ?_) (fun s _ => ?_) n 0 (-1) (Nat.zero_add _) (Or.inl rfl)).1
  · rw [h152_4]
    rcases hP with rfl | ⟨j, hj, rfl⟩
    · by_cases q1 : Nt D 39 k = -1
      · refine ⟨?_, Or.inr ⟨k, by omega, by rw [if_pos q1, if_pos rfl]⟩⟩
        simp (disch := first | assumption | omega | (simp (disch := omega) only [zr_n, zr_s]; assumption)) only [x152_5, x152_6_65, x152_9, x152_12, x152_13_65, x152_16, x152_17, x152_18, x152_19, x152_22, x152_23, x152_24, x152_27, x152_28_65, x152_31, x152_32, x152_33, x152_34, x152_35, x152_36, x152_37, x152_38_65, x152_41, x152_42, x152_43, x152_44, x152_45, x152_46, x152_47, x152_50, x152_51, x152_54, x152_55, x152_56, x152_59, bi_84, bs_84, bi_72, bs_72, ↓reduceIte, zkl_i, zkl_r, zkl_n, zkl_z, zkl_l, Option.toList_some, Option.toList_none, List.cons_append, List.nil_append, zcs_0, zcs_i, zcs_l, zcs_r, zle8, true_and, and_true, true_or, or_true, e0, nI_ltI, hk, if_true, ixN_nI, nI_clamp, nm_2, na_1, (hE k (by omega)).1, q1]
      · refine ⟨?_, Or.inl (by rw [if_neg q1])⟩
        simp (disch := first | assumption | omega | (simp (disch := omega) only [zr_n, zr_s]; assumption)) only [x152_5, x152_6_65, x152_9, x152_12, x152_13_65, x152_16, x152_17, x152_18, x152_19, x152_22, x152_23, x152_24, x152_27, x152_28_65, x152_31, x152_32, x152_33, x152_34, x152_35, x152_36, x152_37, x152_38_65, x152_41, x152_42, x152_43, x152_44, x152_45, x152_46, x152_47, x152_50, x152_51, x152_54, x152_55, x152_56, x152_59, bi_84, bs_84, bi_72, bs_72, ↓reduceIte, zkl_i, zkl_r, zkl_n, zkl_z, zkl_l, Option.toList_some, Option.toList_none, List.cons_append, List.nil_append, zcs_0, zcs_i, zcs_l, zcs_r, zle8, true_and, and_true, true_or, or_true, e0, nI_ltI, hk, if_true, ixN_nI, nI_clamp, nm_2, na_1, (hE k (by omega)).1, q1, if_false]
    · have ej : tn (nI j) = j := nI_clamp (by omega)
      have nj : ¬ nI j = -1 := by rw [ne_m1 (by omega)]; exact fun z => z
      by_cases q1 : Nt D 39 k = -1
      · by_cases q3 : D 30 j < D 30 k
        · refine ⟨?_, Or.inr ⟨k, by omega, by rw [if_pos q1, if_neg nj, ej, if_pos q3]⟩⟩
          simp (disch := first | assumption | omega | (simp (disch := omega) only [zr_n, zr_s]; assumption)) only [x152_5, x152_6_65, x152_9, x152_12, x152_13_65, x152_16, x152_17, x152_18, x152_19, x152_22, x152_23, x152_24, x152_27, x152_28_65, x152_31, x152_32, x152_33, x152_34, x152_35, x152_36, x152_37, x152_38_65, x152_41, x152_42, x152_43, x152_44, x152_45, x152_46, x152_47, x152_50, x152_51, x152_54, x152_55, x152_56, x152_59, bi_84, bs_84, bi_72, bs_72, ↓reduceIte, zkl_i, zkl_r, zkl_n, zkl_z, zkl_l, Option.toList_some, Option.toList_none, List.cons_append, List.nil_append, zcs_0, zcs_i, zcs_l, zcs_r, zle8, true_and, and_true, true_or, or_true, e0, nI_ltI, hk, if_true, ixN_nI, nI_clamp, nm_2, na_1, (hE k (by omega)).1, q1, ne_m1, if_false, (hL k hk).2, (hL j (by omega)).2, q3, ej]
        · refine ⟨?_, Or.inr ⟨j, by omega, by rw [if_pos q1, if_neg nj, ej, if_neg q3]⟩⟩
          simp (disch := first | assumption | omega | (simp (disch := omega) only [zr_n, zr_s]; assumption)) only [x152_5, x152_6_65, x152_9, x152_12, x152_13_65, x152_16, x152_17, x152_18, x152_19, x152_22, x152_23, x152_24, x152_27, x152_28_65, x152_31, x152_32, x152_33, x152_34, x152_35, x152_36, x152_37, x152_38_65, x152_41, x152_42, x152_43, x152_44, x152_45, x152_46, x152_47, x152_50, x152_51, x152_54, x152_55, x152_56, x152_59, bi_84, bs_84, bi_72, bs_72, ↓reduceIte, zkl_i, zkl_r, zkl_n, zkl_z, zkl_l, Option.toList_some, Option.toList_none, List.cons_append, List.nil_append, zcs_0, zcs_i, zcs_l, zcs_r, zle8, true_and, and_true, true_or, or_true, e0, nI_ltI, hk, if_true, ixN_nI, nI_clamp, nm_2, na_1, (hE k (by omega)).1, q1, ne_m1, if_false, (hL k hk).2, (hL j (by omega)).2, q3, ej]
      · refine ⟨?_, Or.inr ⟨j, by omega, by rw [if_neg q1]⟩⟩
        simp (disch := first | assumption | omega | (simp (disch := omega) only [zr_n, zr_s]; assumption)) only [x152_5, x152_6_65, x152_9, x152_12, x152_13_65, x152_16, x152_17, x152_18, x152_19, x152_22, x152_23, x152_24, x152_27, x152_28_65, x152_31, x152_32, x152_33, x152_34, x152_35, x152_36, x152_37, x152_38_65, x152_41, x152_42, x152_43, x152_44, x152_45, x152_46, x152_47, x152_50, x152_51, x152_54, x152_55, x152_56, x152_59, bi_84, bs_84, bi_72, bs_72, ↓reduceIte, zkl_i, zkl_r, zkl_n, zkl_z, zkl_l, Option.toList_some, Option.toList_none, List.cons_append, List.nil_append, zcs_0, zcs_i, zcs_l, zcs_r, zle8, true_and, and_true, true_or, or_true, e0, nI_ltI, hk, if_true, ixN_nI, nI_clamp, nm_2, na_1, (hE k (by omega)).1, q1, if_false]
  · rw [h152_4]
    simp (disch := first | assumption | omega | (simp (disch := omega) only [zr_n, zr_s]; assumption)) only [x152_5, x152_6_65, x152_9, x152_12, x152_13_65, x152_16, x152_17, x152_18, x152_19, x152_22, x152_23, x152_24, x152_27, x152_28_65, x152_31, x152_32, x152_33, x152_34, x152_35, x152_36, x152_37, x152_38_65, x152_41, x152_42, x152_43, x152_44, x152_45, x152_46, x152_47, x152_50, x152_51, x152_54, x152_55, x152_56, x152_59, x152_62, x152_63, ↓reduceIte, zkl_i, zkl_r, zkl_n, zkl_z, zkl_l, Option.toList_some, Option.toList_none, List.cons_append, List.nil_append, zcs_0, zcs_i, zcs_l, zcs_r, zle8, true_and, and_true, true_or, or_true, e0, nI_ltI, Nat.lt_irrefl, if_false]
theorem m_marginOf {q : Nat} {w : Int32} (h : MN D M) (hq : q < 10) : Rn (zG xl) 142 0 [.ref 65, .int (nI q), .int w] [] M J Q = Q (some (.int (mgD D q w))) M J := by
  have hE := h.2.1 q hq
  simp (disch := first | assumption | omega | (simp (disch := omega) only [zr_n, zr_s]; assumption)) only [x142_0, x142_1, x142_4, x142_5_65, x142_8, x142_9, x142_10, x142_13, x142_14, x142_15, x142_18, x142_19_65, x142_22, x142_23, x142_24, x142_27, x142_28_65, x142_31, x142_32, x142_33, bi_84, bs_84, bi_85, bs_85, bi_86, bs_86, ↓reduceIte, zkl_i, zkl_r, zkl_n, zkl_z, zkl_l, Option.toList_some, Option.toList_none, List.cons_append, List.nil_append, zcs_0, zcs_i, zcs_l, zcs_r, zle8, true_and, and_true, true_or, or_true, ixN_nI, nI_clamp, hE.1, hE.2.1, hE.2.2]
  simp only [ite_QQ Q, ite_sm, ite_vi, ite_vl, ite_self]
  rfl
theorem m_nightOf {q : Nat} {w : Int32} (h : MN D M) (hq : q < 6) (hw : w = 0 ∨ w = 1 ∨ w = 2 ∨ w = 3) : Rn (zG xl) 144 0 [.ref 65, .int (nI q), .int w] [] M J Q = Q (some (.int (ngD D q w))) M J := by
  obtain ⟨h1, h2, h3, h4⟩ := h.2.2.1 q hq
  have t : ztb 51 (0 : Int32) [28, 35, 42] 0 = 28 ∧ ztb 51 (1 : Int32) [28, 35, 42] 0 = 35 ∧ ztb 51 (2 : Int32) [28, 35, 42] 0 = 42 ∧ ztb 51 (3 : Int32) [28, 35, 42] 0 = 51 := by decide
  rcases hw with rfl | rfl | rfl | rfl <;> (simp (disch := first | assumption | omega | (simp (disch := omega) only [zr_n, zr_s]; assumption)) only [x144_0, x144_1, x144_28, x144_29_65, x144_32, x144_33, x144_34, x144_35, x144_36_65, x144_39, x144_40, x144_41, x144_42, x144_43_65, x144_46, x144_47, x144_48, x144_49, x144_50, x144_51, x144_52_65, x144_55, x144_56, x144_57, bi_78, bs_78, bi_79, bs_79, bi_80, bs_80, bi_81, bs_81, ↓reduceIte, zkl_i, zkl_r, zkl_n, zkl_z, zkl_l, Option.toList_some, Option.toList_none, List.cons_append, List.nil_append, zcs_0, zcs_i, zcs_l, zcs_r, zle8, true_and, and_true, true_or, or_true, ixN_nI, nI_clamp, t]) <;> first | (rw [h1]; rfl) | (rw [h2]; rfl) | (rw [h3]; rfl) | (rw [h4]; rfl)
theorem m_doneOf {q : Nat} {w : Int32} (h : MN D M) (hq : q < tn (D 28 6)) : Rn (zG xl) 146 0 [.ref 65, .int (nI q), .int w] [] M J Q = Q (some (.int (if w = 0 then Nt D 46 q else if Nt D 47 q = 0 then 0 else 1))) M J := by
  have b6 := (Pk_l h.1.1).2.2.2.2.1
  obtain ⟨h1, h2⟩ := h.2.2.2 q hq
  simp (disch := first | assumption | omega | (simp (disch := omega) only [zr_n, zr_s]; assumption)) only [x146_0, x146_1, x146_4, x146_5_65, x146_8, x146_9, x146_10, x146_13, x146_14_65, x146_17, x146_18, x146_19, x146_22, x146_23, x146_26, x146_27, bi_76, bs_76, bb_77, bc_77, zbv_77, ↓reduceIte, zkl_i, zkl_r, zkl_n, zkl_z, zkl_l, Option.toList_some, Option.toList_none, List.cons_append, List.nil_append, zcs_0, zcs_i, zcs_l, zcs_r, zle8, true_and, and_true, true_or, or_true, ixN_nI, nI_clamp, h1, h2]
  simp only [ite_QQ Q, ite_sm, ite_vi, ite_vl, ite_self]
end

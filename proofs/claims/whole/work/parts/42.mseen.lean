/-! ===== the reference: what was seen ===== -/
theorem or_and1 (a b : Int32) : (a ||| b) &&& 1 = (a &&& 1) ||| (b &&& 1) := by
  apply Int32.toBitVec_inj.mp
  apply BitVec.eq_of_getLsbD_eq
  intro i hi
  simp [Bool.and_or_distrib_right]
theorem and_and1 (x y : Int32) : x &&& y &&& 1 = (x &&& 1) &&& (y &&& 1) := by
  have e : (1 : Int32) &&& (y &&& 1) = y &&& 1 := by rw [Int32.and_comm y 1, ← Int32.and_assoc, Int32.and_self]
  rw [Int32.and_assoc x y 1, Int32.and_assoc x 1 (y &&& 1), e]
theorem bit_t : ∀ n, n < 10 → ∀ j, j < 10 → (1 : Int32) <<< (nI n &&& 31) >>> (nI j &&& 31) &&& 1 = if j = n then 1 else 0 := by decide +kernel
theorem bit_0 : ∀ j, j < 10 → (0 : Int32) >>> (nI j &&& 31) &&& 1 = 0 := by decide +kernel
theorem bit_at {c : Nat → Prop} [DecidablePred c] {j : Nat} (hj : j < 10) : ∀ n, n ≤ 10 → (fo (fun k (s : Int32) => if c k then s ||| 1 <<< (nI k &&& 31) else s) n 0 0) >>> (nI j &&& 31) &&& 1 = if j < n ∧ c j then 1 else 0 := by
  intro n
  induction n with
  | zero => intro _; rw [if_neg (by omega)]; exact bit_0 j hj
  | succ n ih =>
    intro h
    rw [fo_snoc, Nat.zero_add]
    by_cases hc : c n
    · rw [if_pos hc, Int32.shiftRight_or, or_and1, ih (by omega), bit_t n (by omega) j hj]
      by_cases e : j = n
      · subst e
        rw [if_neg (by omega), if_pos rfl, if_pos ⟨by omega, hc⟩]
        decide
      · rw [if_neg e]
        by_cases e2 : j < n ∧ c j
        · rw [if_pos e2, if_pos ⟨by omega, e2.2⟩]; decide
        · rw [if_neg e2, if_neg (fun z => e2 ⟨by omega, z.2⟩)]; decide
    · rw [if_neg hc, ih (by omega)]
      by_cases e2 : j < n ∧ c j
      · rw [if_pos e2, if_pos ⟨by omega, e2.2⟩]
      · rw [if_neg e2, if_neg]
        intro z
        by_cases e : j = n
        · subst e; exact hc z.2
        · exact e2 ⟨by omega, z.2⟩
theorem mk_at {f g : Nat → Int32} {n j : Nat} {m : Int32} (hn : n ≤ 10) (hj : j < n) : isI (sp_mk f g n m) (nI j) = if f j = -1 then 0 else if m < g j then 0 else 1 := by
  unfold isI
  rw [mk_bits, bit_at (by omega) n hn]
  by_cases h1 : f j = -1
  · simp [h1]
  · by_cases h2 : m < g j
    · simp [h1, h2]
    · simp [h1, h2, hj]
def SM (I M : zI) : Prop := M 65 28 = I 48 0 ∧ ∀ k, k < tn (I 48 0) → M 87 (3 * k) = I 49 k ∧ M 87 (3 * k + 1) = I 50 k ∧ M 87 (3 * k + 2) = I 51 k
theorem SM_Fr {I M M' : zI} (h : Fr M M') (g : SM I M) : SM I M' := by
  unfold SM
  rw [h.2.2, h.1 87 (by omega)]
  exact g
theorem MN_f {D M M' : zI} (h : ∀ c, 65 ≤ c → c ≤ 86 → M' c = M c) (g : MN D M) : MN D M' := by
  refine ⟨MD_f (h 65 (by omega) (by omega)) (h 72 (by omega) (by omega)) (h 73 (by omega) (by omega)) (h 74 (by omega) (by omega)) (h 75 (by omega) (by omega)) g.1, ?_⟩
  unfold NE
  rw [h 84 (by omega) (by omega), h 85 (by omega) (by omega), h 86 (by omega) (by omega), h 80 (by omega) (by omega), h 79 (by omega) (by omega), h 78 (by omega) (by omega), h 81 (by omega) (by omega), h 76 (by omega) (by omega), h 77 (by omega) (by omega)]
  exact g.2
theorem or_ite (s b : Int32) {c : Prop} [Decidable c] : (s ||| if c then 0 else b) = if c then s else s ||| b := by
  by_cases h : c
  · rw [if_pos h, if_pos h, Int32.or_zero]
  · rw [if_neg h, if_neg h]
section
variable {xl : Nat} {J : zJ} {I M D : zI}
theorem m_isSeen (h : MD D M) (hS : SG I) (hM : SM I M) : ∃ M' : zI, (∀ Q : zQ, Rn (zG xl) 168 0 [.ref 65, .null, .null, .null] [] M J Q = Q (some (.int (coD I D))) M' J) ∧ MN D M' ∧ ∀ c, c < 76 ∨ 86 < c → M' c = M c := by
  obtain ⟨M1, l1, l2, l3⟩ := m_livesD (xl := xl) (J := J) h
  refine ⟨M1, fun Q => ?_, l2, l3⟩
  obtain ⟨s1, s2, s3⟩ := hS
  obtain ⟨e0, e3, e6, e9⟩ := MD_l l2.1
  have b0 := (Pk_l h.1).1
  have hl0 := (Pk_l h.1).2.1
  have q28 : M1 65 28 = nI (tn (I 48 0)) := by rw [l3 65 (by omega), hM.1]; exact s1
  have q87 : ∀ k, k < tn (I 48 0) → M1 87 (3 * k) = I 49 k ∧ M1 87 (3 * k + 1) = I 50 k ∧ M1 87 (3 * k + 2) = I 51 k := by rw [l3 87 (by omega)]; exact hM.2
  rw [coD]
  generalize hn : tn (I 48 0) = n at s1 s2 s3 q28 q87
  have key0 : ∀ (d k : Nat) (v : Value), k + d = n → Rn (zG xl) 168 8 [.ref 65, .int 0, .int (nI k), v] [] M1 J Q = Q (some (.int 0)) M1 J := by
    intro d
    induction d with
    | zero =>
      intro k v hk
      have hk : k = n := hk
      subst hk
      rw [h168_8]
      simp (disch := first | assumption | omega | (simp (disch := omega) only [zr_n, zr_s]; assumption)) only [x168_9, x168_10_65, x168_13, x168_16, x168_17_65, x168_20, x168_21, x168_22, x168_23, x168_24, x168_25, x168_26, x168_27, x168_28, x168_31, x168_32, x168_33, x168_36, x168_39, x168_40, x168_41_65, x168_44, x168_45, x168_46, x168_47, x168_48, x168_51, x168_52, x168_55, x168_56_65, x168_59, x168_60, x168_61, x168_62, x168_63, x168_64, x168_65, x168_66, x168_69, x168_70, x168_73, x168_74, x168_77, x168_78, x168_81, x168_82, x168_83, x168_86, x168_89, x168_90, ↓reduceIte, zkl_i, zkl_r, zkl_n, zkl_z, zkl_l, Option.toList_some, Option.toList_none, List.cons_append, List.nil_append, zcs_0, zcs_i, zcs_l, zcs_r, zle8, true_and, and_true, true_or, or_true, q28, nI_ltI, Nat.lt_irrefl, if_false, b1_0]
    | succ d ih =>
      intro k v hk
      have hk2 : k < n := by omega
      rw [← ih (k + 1) (.int (M1 87 (3 * k + 1))) (by omega), h168_8]
      simp (disch := first | assumption | omega | (simp (disch := omega) only [zr_n, zr_s]; assumption)) only [x168_9, x168_10_65, x168_13, x168_16, x168_17_65, x168_20, x168_21, x168_22, x168_23, x168_24, x168_25, x168_26, x168_27, x168_28, x168_31, x168_32, x168_33, x168_36, x168_39, x168_40, x168_41_65, x168_44, x168_45, x168_46, x168_47, x168_48, x168_51, x168_52, x168_55, x168_56_65, x168_59, x168_60, x168_61, x168_62, x168_63, x168_64, x168_65, x168_66, x168_69, x168_70, x168_73, x168_74, x168_77, x168_78, x168_81, x168_82, x168_83, x168_86, bi_87, bs_87, ↓reduceIte, zkl_i, zkl_r, zkl_n, zkl_z, zkl_l, Option.toList_some, Option.toList_none, List.cons_append, List.nil_append, zcs_0, zcs_i, zcs_l, zcs_r, zle8, true_and, and_true, true_or, or_true, q28, nI_ltI, hk2, if_true, nm_3, na_1, ixN_nI, nI_clamp]
  have key1 : ∀ (d k : Nat) (v : Value), k + d = n → Rn (zG xl) 168 8 [.ref 65, .int 1, .int (nI k), v] [] M1 J Q = Q (some (.int (coF (I 49) (I 50) (I 51) D d k))) M1 J := by
    intro d
    induction d with
    | zero =>
      intro k v hk
      have hk : k = n := hk
      subst hk
      rw [h168_8]
      simp (disch := first | assumption | omega | (simp (disch := omega) only [zr_n, zr_s]; assumption)) only [x168_9, x168_10_65, x168_13, x168_16, x168_17_65, x168_20, x168_21, x168_22, x168_23, x168_24, x168_25, x168_26, x168_27, x168_28, x168_31, x168_32, x168_33, x168_36, x168_39, x168_40, x168_41_65, x168_44, x168_45, x168_46, x168_47, x168_48, x168_51, x168_52, x168_55, x168_56_65, x168_59, x168_60, x168_61, x168_62, x168_63, x168_64, x168_65, x168_66, x168_69, x168_70, x168_73, x168_74, x168_77, x168_78, x168_81, x168_82, x168_83, x168_86, x168_89, x168_90, ↓reduceIte, zkl_i, zkl_r, zkl_n, zkl_z, zkl_l, Option.toList_some, Option.toList_none, List.cons_append, List.nil_append, zcs_0, zcs_i, zcs_l, zcs_r, zle8, true_and, and_true, true_or, or_true, q28, nI_ltI, Nat.lt_irrefl, if_false, b1_1, coF]
    | succ d ih =>
      intro k v hk
      have hk2 : k < n := by omega
      obtain ⟨u1, u2, u3⟩ := q87 k hk2
      have hx := s3 k hk2
      obtain ⟨j, hj, ej⟩ := (ixN_iff (by decide)).mp hx
      have hbt : (bt (I 50 k) 0 (M1 65 7 - 1) = 0) = ¬ I 50 k < nI (tn (D 28 0)) := by rw [e0]; exact bt_in hx (by decide) (by omega)
      have ih1 := fun v => ih (k + 1) v (by omega)
      have ih0 := fun v => key0 d (k + 1) v (by omega)
      have hcr := fun Q => m_corrected (xl := xl) (J := J) (Q := Q) (m := I 49 k) l2
      rw [coF, hl0, h168_8]
      by_cases c1 : I 50 k < nI (tn (D 28 0))
      · have hjl : j < tn (D 28 0) := by
          rw [ej] at c1
          exact (nI_ltI (by omega) (by omega)).mp c1
        have hbt' : ¬ bt (I 50 k) 0 (M1 65 7 - 1) = 0 := by rw [hbt]; exact fun z => z c1
        have hisi : isI (mkD D (I 49 k)) (I 50 k) = if Nt D 39 (tn (I 50 k)) = -1 then 0 else if I 49 k < Nt D 40 (tn (I 50 k)) then 0 else 1 := by
          rw [ej, mkD, mk_at b0 hjl, tn, nI_clamp (by omega)]
        simp (disch := first | assumption | omega | (simp (disch := omega) only [zr_n, zr_s]; assumption)) only [x168_9, x168_10_65, x168_13, x168_16, x168_17_65, x168_20, x168_21, x168_22, x168_23, x168_24, x168_25, x168_26, x168_27, x168_28, x168_31, x168_32, x168_33, x168_36, x168_39, x168_40, x168_41_65, x168_44, x168_45, x168_46, x168_47, x168_48, x168_51, x168_52, x168_55, x168_56_65, x168_59, x168_60, x168_61, x168_62, x168_63, x168_64, x168_65, x168_66, x168_69, x168_70, x168_73, gc_65, bi_87, bs_87, ↓reduceIte, zkl_i, zkl_r, zkl_n, zkl_z, zkl_l, Option.toList_some, Option.toList_none, List.cons_append, List.nil_append, zcs_0, zcs_i, zcs_l, zcs_r, zle8, true_and, and_true, true_or, or_true, q28, nI_ltI, hk2, if_true, nm_3, na_1, na_2, ixN_nI, nI_clamp, u1, u2, u3, i1_0, m_isLine, hbt', if_false, hcr, m_isIn, hisi, ite_Rn, ite_cons, ite_vi, ite_vl, ite_self, ite_zr, ite_zr1, ite_zr2, ite_upd, ite_upd1, ite_upd2]
        simp (disch := first | assumption | omega | (simp (disch := omega) only [zr_n, zr_s]; assumption)) only [x168_74, x168_77, x168_78, x168_81, x168_82, x168_83, x168_86, ↓reduceIte, zkl_i, zkl_r, zkl_n, zkl_z, zkl_l, Option.toList_some, Option.toList_none, List.cons_append, List.nil_append, zcs_0, zcs_i, zcs_l, zcs_r, zle8, true_and, and_true, true_or, or_true, na_1, ih1, ih0, c1, if_true]
        by_cases c2 : (if Nt D 39 (tn (I 50 k)) = -1 then (0 : Int32) else if I 49 k < Nt D 40 (tn (I 50 k)) then 0 else 1) = (if I 51 k = 1 then 1 else 0)
        · rw [if_pos c2, if_pos c2]
        · rw [if_neg c2, if_neg c2]
      · have hbt' : bt (I 50 k) 0 (M1 65 7 - 1) = 0 := by rw [hbt]; exact c1
        simp (disch := first | assumption | omega | (simp (disch := omega) only [zr_n, zr_s]; assumption)) only [x168_9, x168_10_65, x168_13, x168_16, x168_17_65, x168_20, x168_21, x168_22, x168_23, x168_24, x168_25, x168_26, x168_27, x168_28, x168_31, x168_32, x168_33, x168_36, x168_39, x168_40, x168_41_65, x168_44, x168_45, x168_46, x168_47, x168_48, x168_51, x168_52, x168_55, x168_56_65, x168_59, x168_60, x168_61, x168_62, x168_63, x168_64, x168_65, x168_66, x168_69, x168_70, x168_73, x168_74, x168_77, x168_78, x168_81, x168_82, x168_83, x168_86, gc_65, bi_87, bs_87, ↓reduceIte, zkl_i, zkl_r, zkl_n, zkl_z, zkl_l, Option.toList_some, Option.toList_none, List.cons_append, List.nil_append, zcs_0, zcs_i, zcs_l, zcs_r, zle8, true_and, and_true, true_or, or_true, q28, nI_ltI, hk2, if_true, nm_3, na_1, na_2, ixN_nI, nI_clamp, u1, u2, u3, i1_0, if_false, m_isLine, hbt', c1, ih0]
  rw [← key1 n 0 .null (Nat.zero_add _)]
  simp (disch := first | assumption | omega | (simp (disch := omega) only [zr_n, zr_s]; assumption)) only [x168_0, x168_1, x168_4, x168_5, x168_6, x168_7, gc_65, ↓reduceIte, zkl_i, zkl_r, zkl_n, zkl_z, zkl_l, Option.toList_some, Option.toList_none, List.cons_append, List.nil_append, zcs_0, zcs_i, zcs_l, zcs_r, zle8, true_and, and_true, true_or, or_true, l1]
  rfl
theorem m_neverNow (h : MD D M) (h13 : D 28 13 = 0) (hS : SG I) (hM : SM I M) : ∃ M' : zI, (∀ Q : zQ, Rn (zG xl) 169 0 [.ref 65, .null, .null] [] M J Q = Q (some (.int (nvF I D))) M' J) ∧ MD D M' ∧ Fr M M' := by
  obtain ⟨b0, -, b3, -, b6, -, b9, -⟩ := Pk_l h.1
  obtain ⟨X, g1, g2⟩ := lpE (R := fun k s (v : Unit) X Q => Rn (zG xl) 169 4 [.ref 65, .int s, .int (nI k)] [] X J Q) (E := fun s X Q => Q (some (.int s)) X J) (f := fun k s => if coD I (da D (1 <<< (nI k &&& 31))) = 0 then s else s ||| 1 <<< (nI k &&& 31)) (n := tn (D 28 9)) (P := fun k s X => (∃ v, MD (da D v) X) ∧ Fr M X) (P' := fun s X => MD D X ∧ Fr M X) (fun k s v X hk hP => by
    obtain ⟨⟨v, p1⟩, p2⟩ := hP
    have e9 := (MD_l p1).2.2.2
    rw [show da D v 28 9 = D 28 9 by unfold da; rw [zr_s, upd_n (by decide)]] at e9
    have h1 : MD (da D (1 <<< (nI k &&& 31))) (zr X 65 (upd (X 65) 16 (1 <<< (nI k &&& 31)))) := by
      have := MD_da (v := 1 <<< (nI k &&& 31)) p1
      rw [da_da] at this
      exact this
    obtain ⟨M2, l1, l2, l3⟩ := m_isSeen (xl := xl) (J := J) h1 hS (SM_Fr (Fr_65 (by omega) p2) hM)
    refine ⟨(), M2, fun Q => ?_, ⟨_, l2.1⟩, Fr_lives l3 (Fr_65 (by omega) p2)⟩
    show Rn _ _ _ _ _ _ _ _ = Rn _ _ _ _ _ _ _ _
    rw [h169_4]
    simp (disch := first | assumption | omega | (simp (disch := omega) only [zr_n, zr_s]; assumption)) only [x169_5, x169_6_65, x169_9, x169_12, x169_13, x169_14, x169_15, x169_16_65, x169_19, x169_20, x169_21, x169_24, x169_27, x169_28, x169_29, x169_30, x169_33, gc_65, ↓reduceIte, zkl_i, zkl_r, zkl_n, zkl_z, zkl_l, Option.toList_some, Option.toList_none, List.cons_append, List.nil_append, zcs_0, zcs_i, zcs_l, zcs_r, zle8, true_and, and_true, true_or, or_true, e9, nI_ltI, hk, if_true, l1, ite_Rn, ite_cons, ite_vi, ite_vl, ite_self, ite_zr, ite_zr1, ite_zr2, ite_upd, ite_upd1, ite_upd2]
    simp (disch := first | assumption | omega | (simp (disch := omega) only [zr_n, zr_s]; assumption)) only [x169_34, x169_35, x169_36, x169_39, ↓reduceIte, zkl_i, zkl_r, zkl_n, zkl_z, zkl_l, Option.toList_some, Option.toList_none, List.cons_append, List.nil_append, zcs_0, zcs_i, zcs_l, zcs_r, zle8, true_and, and_true, true_or, or_true, na_1, or_ite]) (fun s v X hP => by
    obtain ⟨⟨v, p1⟩, p2⟩ := hP
    have e9 := (MD_l p1).2.2.2
    rw [show da D v 28 9 = D 28 9 by unfold da; rw [zr_s, upd_n (by decide)]] at e9
    refine ⟨zr X 65 (upd (X 65) 16 0), fun Q => ?_, ?_, Fr_65 (by omega) p2⟩
    · show Rn _ _ _ _ _ _ _ _ = _
      rw [h169_4]
      simp (disch := first | assumption | omega | (simp (disch := omega) only [zr_n, zr_s]; assumption)) only [x169_5, x169_6_65, x169_9, x169_12, x169_13, x169_14, x169_15, x169_16_65, x169_19, x169_20, x169_21, x169_24, x169_27, x169_28, x169_29, x169_30, x169_33, x169_34, x169_35, x169_36, x169_39, x169_42, x169_43, x169_44_65, x169_47, x169_48, ↓reduceIte, zkl_i, zkl_r, zkl_n, zkl_z, zkl_l, Option.toList_some, Option.toList_none, List.cons_append, List.nil_append, zcs_0, zcs_i, zcs_l, zcs_r, zle8, true_and, and_true, true_or, or_true, e9, nI_ltI, Nat.lt_irrefl, if_false]
    · have := MD_da (v := 0) p1
      rw [da_da, ← h13, da_id] at this
      rw [h13] at this
      exact this) (tn (D 28 9)) 0 0 () M (Nat.zero_add _) ⟨⟨D 28 13, by rw [da_id]; exact h⟩, Fr_refl M⟩
  refine ⟨X, fun Q => ?_, g2⟩
  rw [nvF, ← g1 Q]
  simp (disch := first | assumption | omega | (simp (disch := omega) only [zr_n, zr_s]; assumption)) only [x169_0, x169_1, x169_2, x169_3, ↓reduceIte, zkl_i, zkl_r, zkl_n, zkl_z, zkl_l, Option.toList_some, Option.toList_none, List.cons_append, List.nil_append, zcs_0, zcs_i, zcs_l, zcs_r, zle8, true_and, and_true, true_or, or_true]
  rfl
theorem m_kindOf {q : Nat} (h : MD D M) (hS : SG I) (hM : SM I M) (hq : q < tn (D 28 0)) : ∃ M' : zI, (∀ Q : zQ, Rn (zG xl) 173 0 [.ref 65, .int (nI q), .null, .null, .null] [] M J Q = Q (some (.int (knF I D q))) M' J) ∧ MD D M' ∧ Fr M M' := by
  obtain ⟨b0, -, b3, -, b6, -, b9, -⟩ := Pk_l h.1
  have ew : M 72 (2 * q) = D 29 q := (h.2.2.2.1 q hq).1
  have hsx : ixN (D 29 q) 3 := h.1.2.2.2.2.2 q hq
  obtain ⟨X, g1, g2⟩ := lpE (R := fun k s (v : Unit) X Q => Rn (zG xl) 173 14 [.ref 65, .int (nI q), .int (D 29 q), .int s, .int (nI k)] [] X J Q) (E := fun s X Q => Q (some (.int s)) X J) (f := fun k s => if coD I (ds D q (nI k)) = 0 then s else s ||| 1 <<< (nI k &&& 31)) (n := 3) (P := fun k s X => (∃ v, MD (ds D q v) X) ∧ Fr M X) (P' := fun s X => MD D X ∧ Fr M X) (fun k s v X hk hP => by
    obtain ⟨⟨v, p1⟩, p2⟩ := hP
    have h1 : MD (ds D q (nI k)) (zr X 72 (upd (X 72) (2 * q) (nI k))) := by
      have := MD_ds (k := q) (v := nI k) (by rw [ixN_nI hk (by decide)]; trivial) p1
      rw [ds_ds] at this
      exact this
    obtain ⟨M2, l1, l2, l3⟩ := m_isSeen (xl := xl) (J := J) h1 hS (SM_Fr (Fr_zr (by omega) p2) hM)
    refine ⟨(), M2, fun Q => ?_, ⟨_, l2.1⟩, Fr_lives l3 (Fr_zr (by omega) p2)⟩
    show Rn _ _ _ _ _ _ _ _ = Rn _ _ _ _ _ _ _ _
    rw [h173_14]
    simp (disch := first | assumption | omega | (simp (disch := omega) only [zr_n, zr_s]; assumption)) only [x173_16, x173_17, x173_20, x173_21_65, x173_24, x173_25, x173_26, x173_27, x173_29, x173_30, x173_31, x173_32, x173_35, x173_38, x173_39, x173_41, x173_42, x173_45, gc_65, bi_72, bs_72, ↓reduceIte, zkl_i, zkl_r, zkl_n, zkl_z, zkl_l, Option.toList_some, Option.toList_none, List.cons_append, List.nil_append, zcs_0, zcs_i, zcs_l, zcs_r, zle8, true_and, and_true, true_or, or_true, nlt_3, hk, if_true, nm_2, ixN_nI, nI_clamp, l1, ite_Rn, ite_cons, ite_vi, ite_vl, ite_self, ite_zr, ite_zr1, ite_zr2, ite_upd, ite_upd1, ite_upd2]
    simp (disch := first | assumption | omega | (simp (disch := omega) only [zr_n, zr_s]; assumption)) only [x173_46, x173_47, x173_48, x173_51, ↓reduceIte, zkl_i, zkl_r, zkl_n, zkl_z, zkl_l, Option.toList_some, Option.toList_none, List.cons_append, List.nil_append, zcs_0, zcs_i, zcs_l, zcs_r, zle8, true_and, and_true, true_or, or_true, na_1, or_ite]) (fun s v X hP => by
    obtain ⟨⟨v, p1⟩, p2⟩ := hP
    refine ⟨zr X 72 (upd (X 72) (2 * q) (D 29 q)), fun Q => ?_, ?_, Fr_zr (by omega) p2⟩
    · show Rn _ _ _ _ _ _ _ _ = _
      rw [h173_14]
      simp (disch := first | assumption | omega | (simp (disch := omega) only [zr_n, zr_s]; assumption)) only [x173_16, x173_17, x173_20, x173_21_65, x173_24, x173_25, x173_26, x173_27, x173_29, x173_30, x173_31, x173_32, x173_35, x173_38, x173_39, x173_41, x173_42, x173_45, x173_46, x173_47, x173_48, x173_51, x173_54, x173_55_65, x173_58, x173_59, x173_60, x173_61, x173_62, x173_63, x173_64, bi_72, bs_72, ↓reduceIte, zkl_i, zkl_r, zkl_n, zkl_z, zkl_l, Option.toList_some, Option.toList_none, List.cons_append, List.nil_append, zcs_0, zcs_i, zcs_l, zcs_r, zle8, true_and, and_true, true_or, or_true, nlt_3, Nat.lt_irrefl, if_false, nm_2, ixN_nI, nI_clamp]
    · have := MD_ds (k := q) (v := D 29 q) hsx p1
      rw [ds_ds, ds_id] at this
      exact this) 3 0 0 () M rfl ⟨⟨D 29 q, by rw [ds_id]; exact h⟩, Fr_refl M⟩
  refine ⟨X, fun Q => ?_, g2⟩
  rw [knF, ← g1 Q]
  simp (disch := first | assumption | omega | (simp (disch := omega) only [zr_n, zr_s]; assumption)) only [x173_0, x173_1_65, x173_4, x173_5, x173_6, x173_7, x173_8, x173_9, x173_10, x173_11, x173_12, bi_72, bs_72, ↓reduceIte, zkl_i, zkl_r, zkl_n, zkl_z, zkl_l, Option.toList_some, Option.toList_none, List.cons_append, List.nil_append, zcs_0, zcs_i, zcs_l, zcs_r, zle8, true_and, and_true, true_or, or_true, nm_2, ixN_nI, nI_clamp, ew]
  rfl
def MKm (D : zI) (q : Nat) (k : Nat) (X : zI) : Prop := ∀ a m, 1 ≤ a → a < k → m < 24 → X 88 (24 * a + m) = mkD (dk D q (nI a)) (nI m)
theorem m_keensOf {q : Nat} (h : MD D M) (hS : SG I) (hM : SM I M) (hq : q < tn (D 28 3)) : ∃ M' : zI, (∀ Q : zQ, Rn (zG xl) 171 0 [.ref 65, .int (nI q), .null, .null, .null, .null] [] M J Q = Q (some (.int (kpF I D q))) M' J) ∧ MKm D q 10 M' ∧ MD D M' ∧ Fr M M' := by
  obtain ⟨b0, -, b3, -, b6, -, b9, -⟩ := Pk_l h.1
  have ew : M 73 (2 * q + 1) = D 32 q := (h.2.2.2.2.1 q hq).2
  have inner : ∀ k, 1 ≤ k → k < 10 → ∀ (w s : Int32) (d m : Nat) (u v : Unit) (X : zI), m + d = 24 → (MN (dk D q (nI k)) X ∧ Fr M X ∧ MKm D q k X ∧ ∀ j, j < m → X 88 (24 * k + j) = mkD (dk D q (nI k)) (nI j)) → ∃ X', (∀ Q, Rn (zG xl) 171 56 [.ref 65, .int (nI q), .int w, .int s, .int (nI k), .int (nI m)] [] X J Q = Rn (zG xl) 171 16 [.ref 65, .int (nI q), .int w, .int s, .int (nI (k + 1)), .int (nI 24)] [] X' J Q) ∧ MN (dk D q (nI k)) X' ∧ Fr M X' ∧ MKm D q (k + 1) X' := by
    intro k hk1 hk2 w s
    refine lpE (R := fun m (u v : Unit) X Q => Rn (zG xl) 171 56 [.ref 65, .int (nI q), .int w, .int s, .int (nI k), .int (nI m)] [] X J Q) (E := fun (u : Unit) X' Q => Rn (zG xl) 171 16 [.ref 65, .int (nI q), .int w, .int s, .int (nI (k + 1)), .int (nI 24)] [] X' J Q) (f := fun _ u => u) (P := fun m (u : Unit) X => MN (dk D q (nI k)) X ∧ Fr M X ∧ MKm D q k X ∧ ∀ j, j < m → X 88 (24 * k + j) = mkD (dk D q (nI k)) (nI j)) (P' := fun u X' => MN (dk D q (nI k)) X' ∧ Fr M X' ∧ MKm D q (k + 1) X') (fun m u v X hm hP => ?_) (fun u v X hP => ?_)
    · obtain ⟨p1, p2, p3, p4⟩ := hP
      refine ⟨(), zr X 88 (upd (X 88) (24 * k + m) (mkD (dk D q (nI k)) (nI m))), fun Q => ?_, ?_, Fr_zr (by omega) p2, fun a j a1 a2 a3 => ?_, fun j hj => ?_⟩
      · have hd := fun Q => m_corrected (xl := xl) (J := J) (Q := Q) (m := nI m) p1
        rw [h171_56]
        simp (disch := first | assumption | omega | (simp (disch := omega) only [zr_n, zr_s]; assumption)) only [x171_58, x171_60, x171_63, x171_64_65, x171_67, x171_69, x171_71, x171_72, x171_74, x171_75, x171_76, x171_78, x171_81, x171_82, x171_85, gc_65, bi_88, bs_88, ↓reduceIte, zkl_i, zkl_r, zkl_n, zkl_z, zkl_l, Option.toList_some, Option.toList_none, List.cons_append, List.nil_append, zcs_0, zcs_i, zcs_l, zcs_r, zle8, true_and, and_true, true_or, or_true, nlt_24, hm, if_true, nm_24, nI_add, hd, ixN_nI, nI_clamp, na_1]
      · exact MN_f (fun c c1 c2 => zr_n (by omega)) p1
      · rw [zr_s, upd_n (by omega)]
        exact p3 a j a1 a2 a3
      · rw [zr_s]
        by_cases e : j = m
        · subst e; rw [upd_s]
        · rw [upd_n (by omega)]; exact p4 j (by omega)
    · obtain ⟨p1, p2, p3, p4⟩ := hP
      refine ⟨X, fun Q => ?_, p1, p2, fun a j a1 a2 a3 => ?_⟩
      · rw [h171_56]
        simp (disch := first | assumption | omega | (simp (disch := omega) only [zr_n, zr_s]; assumption)) only [x171_58, x171_60, x171_63, x171_64_65, x171_67, x171_69, x171_71, x171_72, x171_74, x171_75, x171_76, x171_78, x171_81, x171_82, x171_85, x171_88, x171_91, ↓reduceIte, zkl_i, zkl_r, zkl_n, zkl_z, zkl_l, Option.toList_some, Option.toList_none, List.cons_append, List.nil_append, zcs_0, zcs_i, zcs_l, zcs_r, zle8, true_and, and_true, true_or, or_true, nlt_24, Nat.lt_irrefl, if_false, na_1]
      · by_cases e : a = k
        · subst e; exact p4 j a3
        · exact p3 a j a1 (by omega) a3
  obtain ⟨X, g1, g2⟩ := lpE (R := fun k s (v : Value) X Q => Rn (zG xl) 171 16 [.ref 65, .int (nI q), .int (D 32 q), .int s, .int (nI k), v] [] X J Q) (E := fun s X Q => Q (some (.int s)) X J) (f := fun k s => if coD I (dk D q (nI k)) = 0 then s else s ||| 1 <<< (nI k &&& 31)) (n := 10) (P := fun k s X => 1 ≤ k ∧ (∃ v, MD (dk D q v) X) ∧ MKm D q k X ∧ Fr M X) (P' := fun s X => MKm D q 10 X ∧ MD D X ∧ Fr M X) (fun k s v X hk hP => by
    obtain ⟨p0, ⟨v', p1⟩, p3, p2⟩ := hP
    have h1 : MD (dk D q (nI k)) (zr X 73 (upd (X 73) (2 * q + 1) (nI k))) := by
      have := MD_dk (r := q) (v := nI k) p1
      rw [dk_dk] at this
      exact this
    obtain ⟨M2, l1, l2, l3⟩ := m_isSeen (xl := xl) (J := J) h1 hS (SM_Fr (Fr_zr (by omega) p2) hM)
    have hM2 : MKm D q k M2 := by
      intro a m a1 a2 a3
      rw [l3 88 (by omega), zr_n (by decide)]
      exact p3 a m a1 a2 a3
    obtain ⟨X', i1, i2, i3, i4⟩ := inner k p0 hk (D 32 q) (if coD I (dk D q (nI k)) = 0 then s else s ||| 1 <<< (nI k &&& 31)) 24 0 () () _ rfl ⟨l2, Fr_lives l3 (Fr_zr (by omega) p2), hM2, fun j hj => by omega⟩
    refine ⟨.int (nI 24), X', fun Q => ?_, by omega, ⟨_, i2.1⟩, i4, i3⟩
    show Rn _ _ _ _ _ _ _ _ = Rn _ _ _ _ _ _ _ _
    refine Eq.trans ?_ (i1 Q)
    rw [h171_16]
    simp (disch := first | assumption | omega | (simp (disch := omega) only [zr_n, zr_s]; assumption)) only [x171_18, x171_20, x171_23, x171_24_65, x171_27, x171_28, x171_29, x171_30, x171_31, x171_32, x171_34, x171_35, x171_36, x171_37, x171_40, x171_43, x171_44, x171_46, x171_47, x171_50, gc_65, bi_73, bs_73, ↓reduceIte, zkl_i, zkl_r, zkl_n, zkl_z, zkl_l, Option.toList_some, Option.toList_none, List.cons_append, List.nil_append, zcs_0, zcs_i, zcs_l, zcs_r, zle8, true_and, and_true, true_or, or_true, nlt_10, hk, if_true, nm_2, na_1, ixN_nI, nI_clamp, l1, ite_Rn, ite_cons, ite_vi, ite_vl, ite_self, ite_zr, ite_zr1, ite_zr2, ite_upd, ite_upd1, ite_upd2]
    simp (disch := first | assumption | omega | (simp (disch := omega) only [zr_n, zr_s]; assumption)) only [x171_51, x171_52, x171_53, x171_54, ↓reduceIte, zkl_i, zkl_r, zkl_n, zkl_z, zkl_l, Option.toList_some, Option.toList_none, List.cons_append, List.nil_append, zcs_0, zcs_i, zcs_l, zcs_r, zle8, true_and, and_true, true_or, or_true, or_ite]
    rfl) (fun s v X hP => by
    obtain ⟨p0, ⟨v', p1⟩, p3, p2⟩ := hP
    refine ⟨zr X 73 (upd (X 73) (2 * q + 1) (D 32 q)), fun Q => ?_, ?_, ?_, Fr_zr (by omega) p2⟩
    · show Rn _ _ _ _ _ _ _ _ = _
      rw [h171_16]
      simp (disch := first | assumption | omega | (simp (disch := omega) only [zr_n, zr_s]; assumption)) only [x171_18, x171_20, x171_23, x171_24_65, x171_27, x171_28, x171_29, x171_30, x171_31, x171_32, x171_34, x171_35, x171_36, x171_37, x171_40, x171_43, x171_44, x171_46, x171_47, x171_50, x171_51, x171_52, x171_53, x171_54, x171_58, x171_60, x171_63, x171_64_65, x171_67, x171_69, x171_71, x171_72, x171_74, x171_75, x171_76, x171_78, x171_81, x171_82, x171_85, x171_88, x171_91, x171_94, x171_95_65, x171_98, x171_99, x171_100, x171_101, x171_102, x171_103, x171_104, x171_105, x171_106, bi_73, bs_73, ↓reduceIte, zkl_i, zkl_r, zkl_n, zkl_z, zkl_l, Option.toList_some, Option.toList_none, List.cons_append, List.nil_append, zcs_0, zcs_i, zcs_l, zcs_r, zle8, true_and, and_true, true_or, or_true, nlt_10, Nat.lt_irrefl, if_false, nm_2, na_1, ixN_nI, nI_clamp]
    · intro a m a1 a2 a3
      rw [zr_n (by decide)]
      exact p3 a m a1 a2 a3
    · have := MD_dk (r := q) (v := D 32 q) p1
      rw [dk_dk, dk_id] at this
      exact this) 9 1 0 .null M rfl ⟨Nat.le_refl _, ⟨D 32 q, by rw [dk_id]; exact h⟩, fun a m a1 a2 _ => by omega, Fr_refl M⟩
  refine ⟨X, fun Q => ?_, g2⟩
  rw [kpF, ← g1 Q]
  simp (disch := first | assumption | omega | (simp (disch := omega) only [zr_n, zr_s]; assumption)) only [x171_0, x171_1_65, x171_4, x171_5, x171_6, x171_7, x171_8, x171_9, x171_10, x171_11, x171_12, x171_13, x171_14, bi_73, bs_73, ↓reduceIte, zkl_i, zkl_r, zkl_n, zkl_z, zkl_l, Option.toList_some, Option.toList_none, List.cons_append, List.nil_append, zcs_0, zcs_i, zcs_l, zcs_r, zle8, true_and, and_true, true_or, or_true, nm_2, na_1, ixN_nI, nI_clamp, ew]
  rfl
theorem gaM (p : Int32) (f : Nat → Int32) (a b : Nat) (s : Int32) : (s + if isI p (nI a) = 0 then 0 else if isI p (nI b) = 0 then 0 else if f a = f b then 1 else 0) = if p >>> (nI a &&& 31) &&& p >>> (nI b &&& 31) &&& 1 = 1 then (if f a = f b then s + 1 else s) else s := by
  simp only [isI0]
  rw [and_and1]
  rcases and1 (p >>> (nI a &&& 31)) with h1 | h1
  · rw [if_pos h1, h1, if_neg, Int32.add_zero]
    rw [Int32.zero_and]
    decide
  · rw [if_neg (by rw [h1]; decide)]
    rcases and1 (p >>> (nI b &&& 31)) with h2 | h2
    · rw [if_pos h2, h1, h2, if_neg (by decide), Int32.add_zero]
    · have o : (1 : Int32) &&& 1 = 1 := by decide
      rw [if_neg (by rw [h2]; decide), h1, h2, if_pos o]
      by_cases h3 : f a = f b
      · rw [if_pos h3, if_pos h3]
      · rw [if_neg h3, if_neg h3, Int32.add_zero]
theorem m_alike {Q : zQ} {p : Int32} {m : Nat} (hm : m < 24) : Rn (zG xl) 175 0 [.ref 65, .int p, .int (nI m), .null, .null, .null, .null] [] M J Q = Q (some (.int (gaF p (fun a => M 88 (24 * a + m))))) M J := by
  have inner : ∀ a, a < 10 → ∀ (g : Int32) (d b : Nat) (s : Int32), b + d = 10 → Rn (zG xl) 175 18 [.ref 65, .int p, .int (nI m), .int g, .int (nI a), .int s, .int (nI b)] [] M J Q = Rn (zG xl) 175 86 [.ref 65, .int p, .int (nI m), .int g, .int (nI a), .int (fo (fun b s => if p >>> (nI a &&& 31) &&& p >>> (nI b &&& 31) &&& 1 = 1 then (if M 88 (24 * a + m) = M 88 (24 * b + m) then s + 1 else s) else s) d b s), .int (nI 10)] [] M J Q := by
    intro a ha g d
    induction d with
    | zero =>
      intro b s hb
      have hb : b = 10 := hb
      subst hb
      rw [h175_18]
      simp (disch := first | assumption | omega | (simp (disch := omega) only [zr_n, zr_s]; assumption)) only [x175_20, x175_22, ↓reduceIte, zkl_i, zkl_r, zkl_n, zkl_z, zkl_l, Option.toList_some, Option.toList_none, List.cons_append, List.nil_append, zcs_0, zcs_i, zcs_l, zcs_r, zle8, true_and, and_true, true_or, or_true, nlt_10, Nat.lt_irrefl, if_false, fo]
    | succ d ih =>
      intro b s hb
      have hb2 : b < 10 := by omega
      have e := gaM p (fun a => M 88 (24 * a + m)) a b s
      rw [fo, ← e, ← ih (b + 1) _ (by omega), h175_18]
      simp (disch := first | assumption | omega | (simp (disch := omega) only [zr_n, zr_s]; assumption)) only [x175_20, x175_22, x175_25, x175_27, x175_28, x175_30, x175_33, x175_36, x175_37, x175_39, x175_42, x175_45, x175_46_65, x175_49, x175_51, x175_53, x175_54, x175_55, x175_56, x175_57, x175_58_65, x175_61, x175_63, x175_65, x175_66, x175_67, x175_68, x175_69, x175_72, x175_73, x175_76, bi_88, bs_88, ↓reduceIte, zkl_i, zkl_r, zkl_n, zkl_z, zkl_l, Option.toList_some, Option.toList_none, List.cons_append, List.nil_append, zcs_0, zcs_i, zcs_l, zcs_r, zle8, true_and, and_true, true_or, or_true, nlt_10, hb2, if_true, m_isIn, nm_24, nI_add, ixN_nI, nI_clamp, ite_Rn, ite_cons, ite_vi, ite_vl, ite_self, ite_zr, ite_zr1, ite_zr2, ite_upd, ite_upd1, ite_upd2]
      simp (disch := first | assumption | omega | (simp (disch := omega) only [zr_n, zr_s]; assumption)) only [x175_77, x175_78, x175_80, x175_83, ↓reduceIte, zkl_i, zkl_r, zkl_n, zkl_z, zkl_l, Option.toList_some, Option.toList_none, List.cons_append, List.nil_append, zcs_0, zcs_i, zcs_l, zcs_r, zle8, true_and, and_true, true_or, or_true, na_1]
  have outer : ∀ (d a : Nat) (g : Int32) (v5 v6 : Value), a + d = 10 → Rn (zG xl) 175 5 [.ref 65, .int p, .int (nI m), .int g, .int (nI a), v5, v6] [] M J Q = Q (some (.int (fo (fun a g => if g < gaI p (fun a => M 88 (24 * a + m)) a then gaI p (fun a => M 88 (24 * a + m)) a else g) d a g))) M J := by
    intro d
    induction d with
    | zero =>
      intro a g v5 v6 ha
      have ha : a = 10 := ha
      subst ha
      rw [h175_5]
      simp (disch := first | assumption | omega | (simp (disch := omega) only [zr_n, zr_s]; assumption)) only [x175_7, x175_9, x175_12, x175_13, x175_15, x175_16, x175_20, x175_22, x175_25, x175_27, x175_28, x175_30, x175_33, x175_36, x175_37, x175_39, x175_42, x175_45, x175_46_65, x175_49, x175_51, x175_53, x175_54, x175_55, x175_56, x175_57, x175_58_65, x175_61, x175_63, x175_65, x175_66, x175_67, x175_68, x175_69, x175_72, x175_73, x175_76, x175_77, x175_78, x175_80, x175_83, x175_86, x175_88, x175_89, x175_92, x175_93, x175_96, x175_99, x175_100, ↓reduceIte, zkl_i, zkl_r, zkl_n, zkl_z, zkl_l, Option.toList_some, Option.toList_none, List.cons_append, List.nil_append, zcs_0, zcs_i, zcs_l, zcs_r, zle8, true_and, and_true, true_or, or_true, nlt_10, Nat.lt_irrefl, if_false, fo]
    | succ d ih =>
      intro a g v5 v6 ha
      have ha2 : a < 10 := by omega
      have hv := inner a ha2 g 9 1 0 rfl
      rw [show nI 1 = 1 from rfl] at hv
      rw [fo, ← ih (a + 1) _ (.int (gaI p (fun a => M 88 (24 * a + m)) a)) (.int (nI 10)) (by omega), h175_5]
      simp (disch := first | assumption | omega | (simp (disch := omega) only [zr_n, zr_s]; assumption)) only [x175_7, x175_9, x175_12, x175_13, x175_15, x175_16, ↓reduceIte, zkl_i, zkl_r, zkl_n, zkl_z, zkl_l, Option.toList_some, Option.toList_none, List.cons_append, List.nil_append, zcs_0, zcs_i, zcs_l, zcs_r, zle8, true_and, and_true, true_or, or_true, nlt_10, ha2, if_true]
      rw [hv]
      simp (disch := first | assumption | omega | (simp (disch := omega) only [zr_n, zr_s]; assumption)) only [x175_86, x175_88, x175_89, x175_92, x175_93, x175_96, ↓reduceIte, zkl_i, zkl_r, zkl_n, zkl_z, zkl_l, Option.toList_some, Option.toList_none, List.cons_append, List.nil_append, zcs_0, zcs_i, zcs_l, zcs_r, zle8, true_and, and_true, true_or, or_true, m_greater, na_1]
      rfl
  rw [gaF, ← outer 9 1 0 .null .null rfl]
  simp (disch := first | assumption | omega | (simp (disch := omega) only [zr_n, zr_s]; assumption)) only [x175_0, x175_1, x175_2, x175_3, ↓reduceIte, zkl_i, zkl_r, zkl_n, zkl_z, zkl_l, Option.toList_some, Option.toList_none, List.cons_append, List.nil_append, zcs_0, zcs_i, zcs_l, zcs_r, zle8, true_and, and_true, true_or, or_true]
  rfl
def asB (G : Nat → Int32) : Int32 := fo (fun m b => if G m < G (tn b) then nI m else b) 23 1 0
theorem m_askOf {q : Nat} (h : MD D M) (hS : SG I) (hM : SM I M) (hq : q < tn (D 28 3)) : ∃ M' : zI, (∀ Q : zQ, Rn (zG xl) 176 0 [.ref 65, .int (nI q), .null, .null, .null] [] M J Q = Q (some (.int (asB (fun m => gaF (kpF I D q) (fun a => mkD (dk D q (nI a)) (nI m)))))) M' J) ∧ MD D M' ∧ Fr M M' := by
  obtain ⟨b0, -, b3, -, b6, -, b9, -⟩ := Pk_l h.1
  obtain ⟨X, g1, g2, g3, g4⟩ := m_keensOf (xl := xl) (J := J) h hS hM hq
  refine ⟨X, fun Q => ?_, g3, g4⟩
  have hG : ∀ m, m < 24 → gaF (kpF I D q) (fun a => X 88 (24 * a + m)) = gaF (kpF I D q) (fun a => mkD (dk D q (nI a)) (nI m)) := fun m hm => gaF_c (fun a a1 a2 => g2 a m a1 a2 hm)
  generalize hGG : (fun m => gaF (kpF I D q) (fun a => mkD (dk D q (nI a)) (nI m))) = G
  have hG' : ∀ m, m < 24 → gaF (kpF I D q) (fun a => X 88 (24 * a + m)) = G m := fun m hm => by rw [hG m hm, ← hGG]
  have lp := (fo_loop (R := fun k s => Rn (zG xl) 176 11 [.ref 65, .int (nI q), .int (kpF I D q), .int s, .int (nI k)] [] X J Q) (E := fun s => Q (some (.int s)) X J) (f := fun m b => if G m < G (tn b) then nI m else b) (n := 24) (fun k s => ∃ j, j < 24 ∧ s = nI j) (fun k s hk hP => by
    obtain ⟨j, hj, rfl⟩ := hP
    have ej : tn (nI j) = j := nI_clamp (by omega)
    have hc := fun (m : Nat) (hm : m < 24) Q => m_alike (xl := xl) (J := J) (M := X) (Q := Q) (p := kpF I D q) hm
    have hc1 := hc k hk
    have hc2 := hc j hj
    rw [hG' k hk] at hc1
    rw [hG' j hj] at hc2
    rw [ej]
    refine ⟨?_, ?_⟩
    · rw [h176_11]
      simp (disch := first | assumption | omega | (simp (disch := omega) only [zr_n, zr_s]; assumption)) only [x176_13, x176_15, x176_18, x176_19, x176_20, x176_22, x176_25, x176_26, x176_27, x176_28, x176_31, x176_34, x176_36, x176_39, gc_65, ↓reduceIte, zkl_i, zkl_r, zkl_n, zkl_z, zkl_l, Option.toList_some, Option.toList_none, List.cons_append, List.nil_append, zcs_0, zcs_i, zcs_l, zcs_r, zle8, true_and, and_true, true_or, or_true, nlt_24, hk, if_true, hc1, hc2, ite_Rn, ite_cons, ite_vi, ite_vl, ite_self, ite_zr, ite_zr1, ite_zr2, ite_upd, ite_upd1, ite_upd2]
      simp (disch := first | assumption | omega | (simp (disch := omega) only [zr_n, zr_s]; assumption)) only [x176_40, x176_41, x176_44, ↓reduceIte, zkl_i, zkl_r, zkl_n, zkl_z, zkl_l, Option.toList_some, Option.toList_none, List.cons_append, List.nil_append, zcs_0, zcs_i, zcs_l, zcs_r, zle8, true_and, and_true, true_or, or_true, na_1]
    · by_cases z : G k < G j
      · rw [if_pos z]; exact ⟨k, hk, rfl⟩
      · rw [if_neg z]; exact ⟨j, hj, rfl⟩) (fun s _ => by
    rw [h176_11]
    simp (disch := first | assumption | omega | (simp (disch := omega) only [zr_n, zr_s]; assumption)) only [x176_13, x176_15, x176_18, x176_19, x176_20, x176_22, x176_25, x176_26, x176_27, x176_28, x176_31, x176_34, x176_36, x176_39, x176_40, x176_41, x176_44, x176_47, x176_48, ↓reduceIte, zkl_i, zkl_r, zkl_n, zkl_z, zkl_l, Option.toList_some, Option.toList_none, List.cons_append, List.nil_append, zcs_0, zcs_i, zcs_l, zcs_r, zle8, true_and, and_true, true_or, or_true, nlt_24, Nat.lt_irrefl, if_false]) 23 1 0 rfl ⟨0, by decide, rfl⟩).1
  refine Eq.trans ?_ lp
  simp (disch := first | assumption | omega | (simp (disch := omega) only [zr_n, zr_s]; assumption)) only [x176_0, x176_1, x176_2, x176_5, x176_6, x176_7, x176_8, x176_9, gc_65, ↓reduceIte, zkl_i, zkl_r, zkl_n, zkl_z, zkl_l, Option.toList_some, Option.toList_none, List.cons_append, List.nil_append, zcs_0, zcs_i, zcs_l, zcs_r, zle8, true_and, and_true, true_or, or_true, g1]
  rfl
end

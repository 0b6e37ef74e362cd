/-! ===== the class: chance and days ===== -/
theorem lgc_0 {x y : Int64} : (lg_cmp x y = 0) = (x = y) := by
  apply propext
  have h1 := lgc_lt (x := x) (y := y)
  have h2 := lgc_gt (x := x) (y := y)
  constructor
  · intro h
    rw [h] at h1 h2
    have n1 : ¬ x < y := fun z => absurd (h1.mpr z) (by decide)
    have n2 : ¬ y < x := fun z => absurd (h2.mpr z) (by decide)
    rw [Int64.lt_iff_toInt_lt] at n1 n2
    exact Int64.toInt_inj.mp (by omega)
  · intro h
    subst h
    have n : ¬ x < x := by rw [Int64.lt_iff_toInt_lt]; omega
    unfold lg_cmp
    rw [if_neg n, if_pos rfl]
theorem lpJ {σ τ : Type} {R : Nat → σ → τ → zI → zJ → zQ → Prop} {E : σ → zI → zJ → zQ → Prop} {f : Nat → σ → σ} {n : Nat} {P : Nat → σ → zI → zJ → Prop} {P' : σ → zI → zJ → Prop}
    (hs : ∀ k s v X J, k < n → P k s X J → ∃ v' X' J', (∀ Q, R k s v X J Q = R (k + 1) (f k s) v' X' J' Q) ∧ P (k + 1) (f k s) X' J')
    (he : ∀ s v X J, P n s X J → ∃ X' J', (∀ Q, R n s v X J Q = E s X' J' Q) ∧ P' s X' J') : ∀ (d k : Nat) (s : σ) (v : τ) (X : zI) (J : zJ), k + d = n → P k s X J → ∃ X' J', (∀ Q, R k s v X J Q = E (fo f d k s) X' J' Q) ∧ P' (fo f d k s) X' J' := by
  intro d
  induction d with
  | zero =>
    intro k s v X J h hp
    have h : k = n := h
    subst h
    exact he s v X J hp
  | succ d ih =>
    intro k s v X J h hp
    obtain ⟨v1, X1, J1, e1, p1⟩ := hs k s v X J (by omega) hp
    obtain ⟨X2, J2, e2, p2⟩ := ih (k + 1) (f k s) v1 X1 J1 (by omega) p1
    exact ⟨X2, J2, fun Q => (e1 Q).trans (e2 Q), p2⟩
def wtF (e : Nat) (a c : Int32) : Int64 := fo (fun i w => w * (if a >>> (nI i &&& 31) &&& 1 = 1 then (16 - c).toInt64 else c.toInt64)) e 0 1
def chV (D : zI) (c : Int32) (i n : Nat) : Int64 := fo (fun a x => if Nt (da D (nI a)) 39 i = -1 then x else x + wtF (tn (D 28 9)) (nI a) c) n 0 0
def lwF (h : Nat) (a u : Int64) : Int64 × Int64 := fo (fun _ (x : Int64 × Int64) => if x.1 - x.1 / 2 * 2 = 0 then (x.1 / 2, x.2 / 2) else x) h 0 (a, u)
theorem two_L : (¬ (2 : Int64) = 0) = True := by decide
theorem shl_e {e : Nat} (h : e ≤ 8) : (1 : Int32) <<< (nI e &&& 31) = nI (2 ^ e) := by
  have : ∀ e, e < 9 → (1 : Int32) <<< (nI e &&& 31) = nI (2 ^ e) := by decide +kernel
  exact this e (by omega)
theorem pw_e {e : Nat} (h : e ≤ 8) : 2 ^ e ≤ 256 := by
  have : ∀ e, e < 9 → 2 ^ e ≤ 256 := by decide
  exact this e (by omega)
section
variable {xl : Nat} {J : zJ} {I X D : zI}
theorem c_fillJ : ∃ J' : zJ, (∀ Q : zQ, Rn (zG xl) 197 0 [.ref 64, .long 0, .null, .null, .null] [] I J Q = Q none I J') ∧ ∀ i, i < 10 → J' 64 i = 0 := by
  have key : ∀ (d k : Nat) (J : zJ), k + d = 10 → (∀ i, i < k → J 64 i = 0) → ∃ J' : zJ, (∀ Q : zQ, Rn (zG xl) 197 6 [.ref 64, .long 0, .null, .int (nI k), .int (nI 10)] [] I J Q = Q none I J') ∧ ∀ i, i < 10 → J' 64 i = 0 := by
    intro d
    induction d with
    | zero =>
      intro k J h hJ
      have h : k = 10 := h
      subst h
      refine ⟨J, fun Q => ?_, hJ⟩
      rw [h197_6]
      simp (disch := omega) only [x197_0, x197_1, x197_2, x197_3, x197_4, x197_7, x197_9, x197_12, x197_13, x197_14, x197_15, x197_16, x197_19, x197_22, ↓reduceIte, zkl_i, zkl_r, zkl_n, zkl_z, zkl_l, Option.toList_some, Option.toList_none, List.cons_append, List.nil_append, zcs_0, zcs_i, zcs_l, zcs_r, zle8, true_and, and_true, true_or, or_true, nI_ltI, Nat.lt_irrefl, if_false]
    | succ d ih =>
      intro k J h hJ
      have hk : k < 10 := by omega
      obtain ⟨J', g1, g2⟩ := ih (k + 1) (zr J 64 (vp_updL (J 64) k 0)) (by omega) (fun i hi => by
        rw [zr_s]
        by_cases e : i = k
        · subst e; exact pk_uLs
        · rw [pk_uLn e]; exact hJ i (by omega))
      refine ⟨J', fun Q => ?_, g2⟩
      rw [← g1 Q, h197_6]
      simp (disch := omega) only [x197_0, x197_1, x197_2, x197_3, x197_4, x197_7, x197_9, x197_12, x197_13, x197_14, x197_15, x197_16, x197_19, x197_22, bj_64, ↓reduceIte, zkl_i, zkl_r, zkl_n, zkl_z, zkl_l, Option.toList_some, Option.toList_none, List.cons_append, List.nil_append, zcs_0, zcs_i, zcs_l, zcs_r, zle8, true_and, and_true, true_or, or_true, nI_ltI, hk, if_true, ixN_nI, nI_clamp, na_1]
  obtain ⟨J', g1, g2⟩ := key 10 0 J rfl (fun i hi => by omega)
  refine ⟨J', fun Q => ?_, g2⟩
  rw [← g1 Q]
  have hk : ¬ zkd (zG xl) 64 = 99 := by rw [ak_64]; decide
  simp only [x197_0, x197_1, x197_2, x197_3, x197_4, x197_7, x197_9, x197_12, x197_13, x197_14, x197_15, x197_16, x197_19, x197_22, ↓reduceIte, zkl_i, zkl_r, zkl_n, zkl_z, zkl_l, Option.toList_some, Option.toList_none, List.cons_append, List.nil_append, zcs_0, zcs_i, zcs_l, zcs_r, zle8, true_and, and_true, true_or, or_true, al_64, hk, not_false_eq_true]
  rfl
theorem c_weightOf {Q : zQ} {a c : Int32} {e : Nat} (he : I 8 9 = nI e) (h8 : e ≤ 8) : Rn (zG xl) 93 0 [.ref 0, .int a, .int c, .null, .null, .null] [] I J Q = Q (some (.long (wtF e a c))) I J := by
  simp only [x93_0, x93_1, x93_2, x93_3, ↓reduceIte, zkl_i, zkl_r, zkl_n, zkl_z, zkl_l, Option.toList_some, Option.toList_none, List.cons_append, List.nil_append, zcs_0, zcs_i, zcs_l, zcs_r, zle8, true_and, and_true, true_or, or_true]
  refine fo_loop0 (R := fun k s => Rn (zG xl) 93 5 [.ref 0, .int a, .int c, .long s, .null, .int (nI k)] [] I J Q) (E := fun s => Q (some (.long s)) I J) (fun k s hk => ?_) (fun s => ?_) 1
  · rw [h93_5]
    simp (disch := first | assumption | omega | (simp (disch := omega) only [zr_n, zr_s]; assumption)) only [x93_7, x93_8_0, x93_11_8, x93_11_28, x93_14, x93_17, x93_18, x93_19, x93_21, x93_22, x93_23, x93_24, x93_25, x93_28, x93_30, x93_31, x93_32, x93_33, x93_36, x93_37, ↓reduceIte, zkl_i, zkl_r, zkl_n, zkl_z, zkl_l, Option.toList_some, Option.toList_none, List.cons_append, List.nil_append, zcs_0, zcs_i, zcs_l, zcs_r, zle8, true_and, and_true, true_or, or_true, he, nI_ltI, hk, if_true, ite_Rn, ite_cons, ite_vi, ite_vl, ite_self, ite_zr, ite_zr1, ite_zr2, ite_upd, ite_upd1, ite_upd2]
    simp (disch := first | assumption | omega | (simp (disch := omega) only [zr_n, zr_s]; assumption)) only [x93_38, x93_39, x93_40, x93_43, ↓reduceIte, zkl_i, zkl_r, zkl_n, zkl_z, zkl_l, Option.toList_some, Option.toList_none, List.cons_append, List.nil_append, zcs_0, zcs_i, zcs_l, zcs_r, zle8, true_and, and_true, true_or, or_true, na_1]
  · rw [h93_5]
    simp (disch := first | assumption | omega | (simp (disch := omega) only [zr_n, zr_s]; assumption)) only [x93_7, x93_8_0, x93_11_8, x93_11_28, x93_14, x93_17, x93_18, x93_19, x93_21, x93_22, x93_23, x93_24, x93_25, x93_28, x93_30, x93_31, x93_32, x93_33, x93_36, x93_37, x93_38, x93_39, x93_40, x93_43, x93_46, x93_47, ↓reduceIte, zkl_i, zkl_r, zkl_n, zkl_z, zkl_l, Option.toList_some, Option.toList_none, List.cons_append, List.nil_append, zcs_0, zcs_i, zcs_l, zcs_r, zle8, true_and, and_true, true_or, or_true, he, nI_ltI, Nat.lt_irrefl, if_false]
theorem c_weigh {c : Int32} (h : CD 8 I D) : ∃ (X : zI) (J' : zJ), (∀ Q : zQ, Rn (zG xl) 92 0 [.ref 0, .int c, .null, .null, .null, .null, .null] [] I J Q = Q none X J') ∧ Tr I X ∧ ∀ i, i < tn (D 28 0) → J' 64 i = chV D c i (2 ^ tn (D 28 9)) := by
  obtain ⟨b0, -, b3, -, b6, -, b9, -⟩ := Pk_l h.2.1
  have hpw := pw_e b9
  have inner : ∀ (a : Nat) (w : Int64) (all : Int32) (J0 : zJ) (X : zI), CN 38 28 X (da D (nI a)) → Tr I X → ∀ (d k : Nat) (J : zJ), k + d = tn (D 28 0) → (∀ i, i < tn (D 28 0) → J 64 i = if i < k then (if Nt (da D (nI a)) 39 i = -1 then J0 64 i else J0 64 i + w) else J0 64 i) → ∃ J' : zJ, (∀ Q, Rn (zG xl) 92 76 [.ref 0, .int c, .int all, .int (nI a), .long w, .null, .int (nI k)] [] X J Q = Rn (zG xl) 92 31 [.ref 0, .int c, .int all, .int (nI (a + 1)), .long w, .null, .int (nI (tn (D 28 0)))] [] X J' Q) ∧ ∀ i, i < tn (D 28 0) → J' 64 i = if Nt (da D (nI a)) 39 i = -1 then J0 64 i else J0 64 i + w := by
    intro a w all J0 X hN hT d
    obtain ⟨e0, e3, e6, e9⟩ := CD_8 h hT
    induction d with
    | zero =>
      intro k J hk hJ
      have hk : k = tn (D 28 0) := hk
      subst hk
      refine ⟨J, fun Q => ?_, fun i hi => by rw [hJ i hi, if_pos hi]⟩
      rw [h92_76]
      simp (disch := first | assumption | omega | (simp (disch := omega) only [zr_n, zr_s]; assumption)) only [x92_78, x92_79_0, x92_82_8, x92_82_28, x92_85, x92_88, x92_89_0, x92_92_18, x92_92_38, x92_95, x92_97, x92_98, x92_99, x92_102, x92_103_0, x92_106, x92_108, x92_109, x92_110, x92_112, x92_113, x92_114, x92_117, x92_120, x92_123, ↓reduceIte, zkl_i, zkl_r, zkl_n, zkl_z, zkl_l, Option.toList_some, Option.toList_none, List.cons_append, List.nil_append, zcs_0, zcs_i, zcs_l, zcs_r, zle8, true_and, and_true, true_or, or_true, e0, nI_ltI, Nat.lt_irrefl, if_false, na_1]
    | succ d ih =>
      intro k J hk hJ
      have hk2 : k < tn (D 28 0) := by omega
      have eb : X 39 k = Nt (da D (nI a)) 39 k := (hN.2.2.1 k (by omega)).1
      by_cases hz : Nt (da D (nI a)) 39 k = -1
      · obtain ⟨J', g1, g2⟩ := ih (k + 1) J (by omega) (fun i hi => by
          rw [hJ i hi]
          by_cases e : i = k
          · subst e
            rw [if_neg (Nat.lt_irrefl _), if_pos (by omega), if_pos hz]
          · by_cases e2 : i < k
            · rw [if_pos e2, if_pos (show i < k + 1 by omega)]
            · rw [if_neg e2, if_neg (show ¬ i < k + 1 by omega)])
        refine ⟨J', fun Q => ?_, g2⟩
        rw [← g1 Q, h92_76]
        simp (disch := first | assumption | omega | (simp (disch := omega) only [zr_n, zr_s]; assumption)) only [x92_78, x92_79_0, x92_82_8, x92_82_28, x92_85, x92_88, x92_89_0, x92_92_18, x92_92_38, x92_95, x92_97, x92_98, x92_99, x92_102, x92_103_0, x92_106, x92_108, x92_109, x92_110, x92_112, x92_113, x92_114, x92_117, bi_39, bs_39, ↓reduceIte, zkl_i, zkl_r, zkl_n, zkl_z, zkl_l, Option.toList_some, Option.toList_none, List.cons_append, List.nil_append, zcs_0, zcs_i, zcs_l, zcs_r, zle8, true_and, and_true, true_or, or_true, e0, nI_ltI, hk2, if_true, ixN_nI, nI_clamp, eb, hz, na_1]
      · obtain ⟨J', g1, g2⟩ := ih (k + 1) (zr J 64 (vp_updL (J 64) k (J 64 k + w))) (by omega) (fun i hi => by
          rw [zr_s]
          by_cases e : i = k
          · subst e
            rw [pk_uLs, hJ i hi, if_neg (Nat.lt_irrefl _), if_pos (by omega), if_neg hz]
          · rw [pk_uLn e, hJ i hi]
            by_cases e2 : i < k
            · rw [if_pos e2, if_pos (show i < k + 1 by omega)]
            · rw [if_neg e2, if_neg (show ¬ i < k + 1 by omega)])
        refine ⟨J', fun Q => ?_, g2⟩
        rw [← g1 Q, h92_76]
        simp (disch := first | assumption | omega | (simp (disch := omega) only [zr_n, zr_s]; assumption)) only [x92_78, x92_79_0, x92_82_8, x92_82_28, x92_85, x92_88, x92_89_0, x92_92_18, x92_92_38, x92_95, x92_97, x92_98, x92_99, x92_102, x92_103_0, x92_106, x92_108, x92_109, x92_110, x92_112, x92_113, x92_114, x92_117, bi_39, bs_39, bj_64, ↓reduceIte, zkl_i, zkl_r, zkl_n, zkl_z, zkl_l, Option.toList_some, Option.toList_none, List.cons_append, List.nil_append, zcs_0, zcs_i, zcs_l, zcs_r, zle8, true_and, and_true, true_or, or_true, e0, nI_ltI, hk2, if_true, ixN_nI, nI_clamp, eb, hz, if_false, na_1]
  have outer := lpJ (R := fun k (s : Unit) (v : Value × Value × Value) X J Q => Rn (zG xl) 92 31 [.ref 0, .int c, .int (nI (2 ^ tn (D 28 9))), .int (nI k), v.1, v.2.1, v.2.2] [] X J Q) (E := fun (s : Unit) X' J' Q => Q none X' J') (f := fun _ s => s) (n := 2 ^ tn (D 28 9)) (P := fun k s X J => (∃ v, CD 28 X (da D v)) ∧ Tr I X ∧ ∀ i, i < tn (D 28 0) → J 64 i = chV D c i k) (P' := fun s X J => Tr I X ∧ ∀ i, i < tn (D 28 0) → J 64 i = chV D c i (2 ^ tn (D 28 9))) (fun k s v X J hk hP => by
    obtain ⟨⟨v', p1⟩, p2, p3⟩ := hP
    obtain ⟨e0, e3, e6, e9⟩ := CD_8 h p2
    have hw := fun Q => c_weightOf (xl := xl) (J := J) (Q := Q) (a := nI k) (c := c) e9 b9
    have st : ∀ i, chV D c i (k + 1) = if Nt (da D (nI k)) 39 i = -1 then chV D c i k else chV D c i k + wtF (tn (D 28 9)) (nI k) c := by
      intro i
      unfold chV
      rw [fo_snoc, Nat.zero_add]
    by_cases hz : wtF (tn (D 28 9)) (nI k) c = 0
    · refine ⟨(.long 0, .null, v.2.2), X, J, fun Q => ?_, ⟨v', p1⟩, p2, fun i hi => ?_⟩
      · show Rn _ _ _ _ _ _ _ _ = Rn _ _ _ _ _ _ _ _
        rw [h92_31]
        simp (disch := first | assumption | omega | (simp (disch := omega) only [zr_n, zr_s]; assumption)) only [x92_32, x92_33, x92_36, x92_37, x92_38, x92_39, x92_42, x92_44, x92_46, x92_47, x92_48, x92_51, x92_120, x92_123, gc_0, ↓reduceIte, zkl_i, zkl_r, zkl_n, zkl_z, zkl_l, Option.toList_some, Option.toList_none, List.cons_append, List.nil_append, zcs_0, zcs_i, zcs_l, zcs_r, zle8, true_and, and_true, true_or, or_true, nI_ltI, hk, if_true, hw, hz, lgc_0, na_1]
      · rw [st i, hz, Int64.add_zero, ite_self]
        exact p3 i hi
    · have h1 : CD 28 (da X (nI k)) (da D (nI k)) := by
        have := CD_da (v := nI k) p1
        rw [da_da] at this
        exact this
      have hN : CN 38 28 (zps 38 28 (da X (nI k))) (da D (nI k)) := CN_pass (by decide) (by decide) h1
      have hT2 : Tr I (zps 38 28 (da X (nI k))) := Tr_zps (Tr_zr (by omega) p2)
      have hd1 := fun Q => d_pass_38 (xl := xl) (J := J) (Q := Q) h1
      obtain ⟨J', i1, i2⟩ := inner k (wtF (tn (D 28 9)) (nI k) c) (nI (2 ^ tn (D 28 9))) J _ hN hT2 (tn (D 28 0)) 0 J (Nat.zero_add _) (fun i hi => by rw [if_neg (by omega)])
      refine ⟨(.long (wtF (tn (D 28 9)) (nI k) c), .null, .int (nI (tn (D 28 0)))), _, J', fun Q => ?_, ⟨_, hN.1⟩, hT2, fun i hi => ?_⟩
      · show Rn _ _ _ _ _ _ _ _ = Rn _ _ _ _ _ _ _ _
        rw [← i1 Q, h92_31]
        rw [show da X (nI k) = zr X 28 (upd (X 28) 13 (nI k)) from rfl] at hd1 ⊢
        simp (disch := first | assumption | omega | (simp (disch := omega) only [zr_n, zr_s]; assumption)) only [x92_32, x92_33, x92_36, x92_37, x92_38, x92_39, x92_42, x92_44, x92_46, x92_47, x92_48, x92_51, x92_54, x92_55_0, x92_58, x92_59_8, x92_59_28, x92_62, x92_63_0, x92_66, x92_67_0, x92_70, x92_73, x92_74, gc_0, gc_38, gc_28, ↓reduceIte, zkl_i, zkl_r, zkl_n, zkl_z, zkl_l, Option.toList_some, Option.toList_none, List.cons_append, List.nil_append, zcs_0, zcs_i, zcs_l, zcs_r, zle8, true_and, and_true, true_or, or_true, nI_ltI, hk, if_true, hw, hz, if_false, lgc_0, hd1]
        rfl
      · rw [i2 i hi, st i, p3 i hi]) (fun s v X J hP => by
    obtain ⟨p1, p2, p3⟩ := hP
    refine ⟨X, J, fun Q => ?_, p2, p3⟩
    show Rn _ _ _ _ _ _ _ _ = _
    rw [h92_31]
    simp (disch := first | assumption | omega | (simp (disch := omega) only [zr_n, zr_s]; assumption)) only [x92_32, x92_33, x92_126, ↓reduceIte, zkl_i, zkl_r, zkl_n, zkl_z, zkl_l, Option.toList_some, Option.toList_none, List.cons_append, List.nil_append, zcs_0, zcs_i, zcs_l, zcs_r, zle8, true_and, and_true, true_or, or_true, nI_ltI, Nat.lt_irrefl, if_false]) (2 ^ tn (D 28 9)) 0 () (.null, .null, .null) (ztf I)
  obtain ⟨J1, f1, f2⟩ := c_fillJ (xl := xl) (I := I) (J := J)
  obtain ⟨X, J', g1, g2⟩ := outer J1 (Nat.zero_add _) ⟨⟨D 28 13, by rw [da_id]; exact CD_ztf h⟩, Tr_ztf, fun i hi => f2 i (by omega)⟩
  refine ⟨X, J', fun Q => ?_, g2⟩
  rw [← g1 Q]
  obtain ⟨e0, e3, e6, e9⟩ := CD_8 h (Tr_ztf (I := I))
  simp (disch := first | assumption | omega | (simp (disch := omega) only [zr_n, zr_s]; assumption)) only [x92_0, x92_1_0, x92_4, x92_5, x92_8, x92_9_0, x92_12, x92_13_0, x92_16, x92_19, x92_20, x92_21_0, x92_24_8, x92_24_28, x92_27, x92_28, x92_29, x92_30, gc_8, gc_28, ↓reduceIte, zkl_i, zkl_r, zkl_n, zkl_z, zkl_l, Option.toList_some, Option.toList_none, List.cons_append, List.nil_append, zcs_0, zcs_i, zcs_l, zcs_r, zle8, true_and, and_true, true_or, or_true, f1, c_takeFrom, e9, shl_e b9]
  rfl
theorem c_lowest {Q : zQ} {q : Nat} {w : Int32} {e : Nat} (he : I 8 9 = nI e) (h8 : e ≤ 8) (hq : q < 10) : Rn (zG xl) 94 0 [.ref 0, .int (nI q), .int w, .null, .null, .null, .null, .null, .null] [] I J Q = Q (some (.long (if w = 0 then (lwF (4 * e) (J 64 q) (1 <<< ((nI (4 * e)).toInt64 &&& 63))).1 else (lwF (4 * e) (J 64 q) (1 <<< ((nI (4 * e)).toInt64 &&& 63))).2))) I J := by
  have n4 : ∀ k, (4 : Int32) * nI k = nI (4 * k) := fun k => pk_mul 4 k
  simp (disch := first | assumption | omega | (simp (disch := omega) only [zr_n, zr_s]; assumption)) only [x94_0, x94_1, x94_2_0, x94_5_8, x94_5_28, x94_8, x94_9, x94_10, x94_11_0, x94_14, x94_15, x94_16, x94_18, x94_19, x94_20, x94_21, x94_23, x94_24, bj_64, ↓reduceIte, zkl_i, zkl_r, zkl_n, zkl_z, zkl_l, Option.toList_some, Option.toList_none, List.cons_append, List.nil_append, zcs_0, zcs_i, zcs_l, zcs_r, zle8, true_and, and_true, true_or, or_true, he, n4, ixN_nI, nI_clamp]
  refine fo_loop0 (R := fun k (s : Int64 × Int64) => Rn (zG xl) 94 26 [.ref 0, .int (nI q), .int w, .int (nI (4 * e)), .long s.1, .null, .long s.2, .null, .int (nI k)] [] I J Q) (E := fun s => Q (some (.long (if w = 0 then s.1 else s.2))) I J) (f := fun _ (x : Int64 × Int64) => if x.1 - x.1 / 2 * 2 = 0 then (x.1 / 2, x.2 / 2) else x) (n := 4 * e) (fun k s hk => ?_) (fun s => ?_) (J 64 q, 1 <<< ((nI (4 * e)).toInt64 &&& 63))
  · show Rn _ _ _ _ _ _ _ _ = Rn _ _ _ _ _ _ _ _
    rw [h94_26]
    simp (disch := first | assumption | omega | (simp (disch := omega) only [zr_n, zr_s]; assumption)) only [x94_28, x94_29, x94_32, x94_34, x94_37, x94_38, x94_39, x94_40, x94_43, x94_45, x94_48, x94_49, x94_51, x94_53, x94_56, x94_57, x94_59, x94_62, ↓reduceIte, zkl_i, zkl_r, zkl_n, zkl_z, zkl_l, Option.toList_some, Option.toList_none, List.cons_append, List.nil_append, zcs_0, zcs_i, zcs_l, zcs_r, zle8, true_and, and_true, true_or, or_true, nI_ltI, hk, if_true, two_L, lgc_0, na_1]
    by_cases hz : s.1 - s.1 / 2 * 2 = 0
    · simp only [hz, if_true]
    · simp only [hz, if_false]
  · show Rn _ _ _ _ _ _ _ _ = _
    rw [h94_26]
    simp (disch := first | assumption | omega | (simp (disch := omega) only [zr_n, zr_s]; assumption)) only [x94_28, x94_29, x94_32, x94_34, x94_37, x94_38, x94_39, x94_40, x94_43, x94_45, x94_48, x94_49, x94_51, x94_53, x94_56, x94_57, x94_59, x94_62, x94_65, x94_66, x94_69, x94_71, x94_74, x94_76, ↓reduceIte, zkl_i, zkl_r, zkl_n, zkl_z, zkl_l, Option.toList_some, Option.toList_none, List.cons_append, List.nil_append, zcs_0, zcs_i, zcs_l, zcs_r, zle8, true_and, and_true, true_or, or_true, nI_ltI, Nat.lt_irrefl, if_false]
    simp only [ite_QQ Q, ite_sm, ite_vi, ite_vl, ite_self]
end

/-! ===== the class: a whole night ===== -/
/-- what a plan's rows hold -/
def Pk (P : Nat) (I : zI) : Prop := ixN (I P 0) 11 ∧ ixN (I P 3) 7 ∧ ixN (I P 6) 18 ∧ ixN (I P 9) 9 ∧ (∀ i, i < tn (I P 6) → ixN (I (P + 5) i) 6 ∧ ixN (I (P + 6) i) 10) ∧ (∀ k, k < tn (I P 0) → ixN (I (P + 1) k) 3)
theorem Pk_f {P : Nat} {I I' : zI} (h : ∀ c, P ≤ c → c ≤ P + 9 → I' c = I c) (hp : Pk P I) : Pk P I' := by
  unfold Pk
  rw [h P (by omega) (by omega), h (P + 5) (by omega) (by omega), h (P + 6) (by omega) (by omega), h (P + 1) (by omega) (by omega)]
  exact hp
theorem tn_lt {a b : Int32} {m n : Nat} (ha : ixN a m) (hb : ixN b n) (hm : m < 2 ^ 31) (hn : n < 2 ^ 31) (h : a < b) : tn a < tn b := by
  obtain ⟨x, hx, rfl⟩ := (ixN_iff hm).mp ha
  obtain ⟨y, hy, rfl⟩ := (ixN_iff hn).mp hb
  rw [nI_ltI (by omega) (by omega)] at h
  rw [tn, tn, nI_clamp (by omega), nI_clamp (by omega)]
  exact h
def zsh (N P i : Nat) (M : zI) : zI := if M (P + 5) i < M P 3 then (if M (P + 6) i < M P 0 then zds N P i M else M) else M
def zps (N P : Nat) (I : zI) : zI := fo (zsh N P) (tn (I P 6)) 0 (zfg N (I P 0) I)
theorem sp_ct_f {N c : Nat} {I : zI} {l r e : Int32} (h : c < N ∨ N + 9 < c) : sp_ct N I l r e c = I c := by
  unfold sp_ct
  split
  · simp (disch := omega) only [zr_n]
  · rfl
theorem sp_2_f {N P i c : Nat} {I : zI} {r k b e : Int32} (h : c < N ∨ N + 9 < c) : sp_2 N P i I r k b e c = I c := by
  unfold sp_2
  split
  · rfl
  · split
    · rw [sp_ct_f h]
      simp (disch := omega) only [zr_n]
    · rfl
theorem zds_f {N P i c : Nat} {M : zI} (h : c < N ∨ N + 9 < c) : zds N P i M c = M c := by
  unfold zds
  split
  · unfold sp_3
    simp (disch := omega) only [zr_n]
    rw [sp_2_f h]
    unfold sp_1
    simp (disch := omega) only [zr_n]
  · rfl
theorem zsh_f {N P i c : Nat} {M : zI} (h : c < N ∨ N + 9 < c) : zsh N P i M c = M c := by
  unfold zsh
  split
  · split
    · exact zds_f h
    · rfl
  · rfl
theorem zfg_f {N c : Nat} {I : zI} {l : Int32} (h : c < N ∨ N + 9 < c) : zfg N l I c = I c := by
  unfold zfg
  simp (disch := omega) only [zr_n]
theorem zps_f {N P c : Nat} {I : zI} (h : c < N ∨ N + 9 < c) : zps N P I c = I c := by
  unfold zps
  exact (fo_inv (n := 0 + tn (I P 6)) (fun _ (M : zI) => M c = I c) (fun k s _ hs => (zsh_f h).trans hs) _ 0 _ rfl (zfg_f h))
section
variable {xl : Nat} {I : zI} {J : zJ} {Q : zQ}
theorem c_pass_18 (hp : Pk 8 I) : Rn (zG xl) 1 0 [.ref 18, .ref 8, .null, .null] [] I J Q = Q none (zps 18 8 I) J := by
  obtain ⟨n, hn, e⟩ := (ixN_iff (by decide)).mp hp.2.2.1
  simp only [x1_0, x1_1, x1_2_8, x1_2_28, x1_5, x1_8, x1_9, gc_18, gc_8, ↓reduceIte, zkl_i, zkl_r, zkl_n, zkl_z, zkl_l, Option.toList_some, Option.toList_none, List.cons_append, List.nil_append, zcs_0, zcs_i, zcs_l, zcs_r, zle8, true_and, and_true, true_or, or_true, c_forgetAll_18]
  have key : ∀ (d k : Nat) (M : zI) (v3 : Value), k + d = n → (∀ c, 8 ≤ c → c ≤ 8 + 9 → M c = I c) → Rn (zG xl) 1 10 [.ref 18, .ref 8, .int (nI k), v3] [] M J Q = Q none (fo (zsh 18 8) d k M) J := by
    intro d
    induction d with
    | zero =>
      intro k M v3 h hM
      have h : k = n := h
      subst h
      have eM : M 8 6 = nI k := by rw [hM 8 (by omega) (by omega), e]
      rw [h1_10]
      simp (disch := omega) only [x1_0, x1_1, x1_2_8, x1_2_28, x1_5, x1_8, x1_9, x1_11, x1_12_8, x1_12_28, x1_15, x1_18, x1_19_8, x1_19_28, x1_22, x1_23, x1_24, x1_25_8, x1_25_28, x1_28, x1_31, x1_32, x1_35, x1_36, x1_37, x1_38, x1_41, x1_42_8, x1_42_28, x1_45, x1_46, x1_47, x1_48_8, x1_48_28, x1_51, x1_54, x1_55, x1_56, x1_57, x1_60, x1_63, x1_66, ↓reduceIte, zkl_i, zkl_r, zkl_n, zkl_z, zkl_l, Option.toList_some, Option.toList_none, List.cons_append, List.nil_append, zcs_0, zcs_i, zcs_l, zcs_r, zle8, true_and, and_true, true_or, or_true, eM, nI_ltI, Nat.lt_irrefl, if_false, fo]
    | succ d ih =>
      intro k M v3 h hM
      have hk : k < n := by omega
      have hpM : Pk 8 M := Pk_f hM hp
      have eM : M 8 6 = nI n := by rw [hM 8 (by omega) (by omega), e]
      obtain ⟨q0, q3, q6, q9, q5, q1⟩ := hpM
      obtain ⟨hr, hl⟩ := q5 k (by rw [eM, tn, nI_clamp (by omega)]; exact hk)
      rw [h1_10, fo, zsh]
      by_cases h1 : M 13 k < M 8 3
      · by_cases h2 : M 14 k < M 8 0
        · have hs := q1 _ (tn_lt hl q0 (by decide) (by decide) h2)
          simp (disch := first | assumption | omega | (simp (disch := omega) only [zr_n, zr_s]; assumption)) only [x1_0, x1_1, x1_2_8, x1_2_28, x1_5, x1_8, x1_9, x1_11, x1_12_8, x1_12_28, x1_15, x1_18, x1_19_8, x1_19_28, x1_22, x1_23, x1_24, x1_25_8, x1_25_28, x1_28, x1_31, x1_32, x1_35, x1_36, x1_37, x1_38, x1_41, x1_42_8, x1_42_28, x1_45, x1_46, x1_47, x1_48_8, x1_48_28, x1_51, x1_54, x1_55, x1_56, x1_57, x1_60, x1_63, x1_66, gc_18, gc_8, bi_13, bs_13, bi_14, bs_14, ↓reduceIte, zkl_i, zkl_r, zkl_n, zkl_z, zkl_l, Option.toList_some, Option.toList_none, List.cons_append, List.nil_append, zcs_0, zcs_i, zcs_l, zcs_r, zle8, true_and, and_true, true_or, or_true, eM, nI_ltI, hk, if_true, ixN_nI, nI_clamp, na_1, h1, h2, i1_0, c_doShift_18]
          exact ih (k + 1) _ _ (by omega) (fun c c1 c2 => (zds_f (by omega)).trans (hM c c1 c2))
        · simp (disch := first | assumption | omega | (simp (disch := omega) only [zr_n, zr_s]; assumption)) only [x1_0, x1_1, x1_2_8, x1_2_28, x1_5, x1_8, x1_9, x1_11, x1_12_8, x1_12_28, x1_15, x1_18, x1_19_8, x1_19_28, x1_22, x1_23, x1_24, x1_25_8, x1_25_28, x1_28, x1_31, x1_32, x1_35, x1_36, x1_37, x1_38, x1_41, x1_42_8, x1_42_28, x1_45, x1_46, x1_47, x1_48_8, x1_48_28, x1_51, x1_54, x1_55, x1_56, x1_57, x1_60, x1_63, x1_66, gc_18, gc_8, bi_13, bs_13, bi_14, bs_14, ↓reduceIte, zkl_i, zkl_r, zkl_n, zkl_z, zkl_l, Option.toList_some, Option.toList_none, List.cons_append, List.nil_append, zcs_0, zcs_i, zcs_l, zcs_r, zle8, true_and, and_true, true_or, or_true, eM, nI_ltI, hk, if_true, ixN_nI, nI_clamp, na_1, h1, h2, i1_0, if_false]
          exact ih (k + 1) _ _ (by omega) hM
      · simp (disch := first | assumption | omega | (simp (disch := omega) only [zr_n, zr_s]; assumption)) only [x1_0, x1_1, x1_2_8, x1_2_28, x1_5, x1_8, x1_9, x1_11, x1_12_8, x1_12_28, x1_15, x1_18, x1_19_8, x1_19_28, x1_22, x1_23, x1_24, x1_25_8, x1_25_28, x1_28, x1_31, x1_32, x1_35, x1_36, x1_37, x1_38, x1_41, x1_42_8, x1_42_28, x1_45, x1_46, x1_47, x1_48_8, x1_48_28, x1_51, x1_54, x1_55, x1_56, x1_57, x1_60, x1_63, x1_66, gc_18, gc_8, bi_13, bs_13, bi_14, bs_14, ↓reduceIte, zkl_i, zkl_r, zkl_n, zkl_z, zkl_l, Option.toList_some, Option.toList_none, List.cons_append, List.nil_append, zcs_0, zcs_i, zcs_l, zcs_r, zle8, true_and, and_true, true_or, or_true, eM, nI_ltI, hk, if_true, ixN_nI, nI_clamp, na_1, h1, if_false]
        exact ih (k + 1) _ _ (by omega) hM
  have h0 := key n 0 (zfg 18 (I 8 0) I) .null (Nat.zero_add n) (fun c c1 c2 => zfg_f (by omega))
  rw [zps, e, tn, nI_clamp (by omega)]
  exact h0
theorem c_pass_38 (hp : Pk 28 I) : Rn (zG xl) 1 0 [.ref 38, .ref 28, .null, .null] [] I J Q = Q none (zps 38 28 I) J := by
  obtain ⟨n, hn, e⟩ := (ixN_iff (by decide)).mp hp.2.2.1
  simp only [x1_0, x1_1, x1_2_8, x1_2_28, x1_5, x1_8, x1_9, gc_38, gc_28, ↓reduceIte, zkl_i, zkl_r, zkl_n, zkl_z, zkl_l, Option.toList_some, Option.toList_none, List.cons_append, List.nil_append, zcs_0, zcs_i, zcs_l, zcs_r, zle8, true_and, and_true, true_or, or_true, c_forgetAll_38]
  have key : ∀ (d k : Nat) (M : zI) (v3 : Value), k + d = n → (∀ c, 28 ≤ c → c ≤ 28 + 9 → M c = I c) → Rn (zG xl) 1 10 [.ref 38, .ref 28, .int (nI k), v3] [] M J Q = Q none (fo (zsh 38 28) d k M) J := by
    intro d
    induction d with
    | zero =>
      intro k M v3 h hM
      have h : k = n := h
      subst h
      have eM : M 28 6 = nI k := by rw [hM 28 (by omega) (by omega), e]
      rw [h1_10]
      simp (disch := omega) only [x1_0, x1_1, x1_2_8, x1_2_28, x1_5, x1_8, x1_9, x1_11, x1_12_8, x1_12_28, x1_15, x1_18, x1_19_8, x1_19_28, x1_22, x1_23, x1_24, x1_25_8, x1_25_28, x1_28, x1_31, x1_32, x1_35, x1_36, x1_37, x1_38, x1_41, x1_42_8, x1_42_28, x1_45, x1_46, x1_47, x1_48_8, x1_48_28, x1_51, x1_54, x1_55, x1_56, x1_57, x1_60, x1_63, x1_66, ↓reduceIte, zkl_i, zkl_r, zkl_n, zkl_z, zkl_l, Option.toList_some, Option.toList_none, List.cons_append, List.nil_append, zcs_0, zcs_i, zcs_l, zcs_r, zle8, true_and, and_true, true_or, or_true, eM, nI_ltI, Nat.lt_irrefl, if_false, fo]
    | succ d ih =>
      intro k M v3 h hM
      have hk : k < n := by omega
      have hpM : Pk 28 M := Pk_f hM hp
      have eM : M 28 6 = nI n := by rw [hM 28 (by omega) (by omega), e]
      obtain ⟨q0, q3, q6, q9, q5, q1⟩ := hpM
      obtain ⟨hr, hl⟩ := q5 k (by rw [eM, tn, nI_clamp (by omega)]; exact hk)
      rw [h1_10, fo, zsh]
      by_cases h1 : M 33 k < M 28 3
      · by_cases h2 : M 34 k < M 28 0
        · have hs := q1 _ (tn_lt hl q0 (by decide) (by decide) h2)
          simp (disch := first | assumption | omega | (simp (disch := omega) only [zr_n, zr_s]; assumption)) only [x1_0, x1_1, x1_2_8, x1_2_28, x1_5, x1_8, x1_9, x1_11, x1_12_8, x1_12_28, x1_15, x1_18, x1_19_8, x1_19_28, x1_22, x1_23, x1_24, x1_25_8, x1_25_28, x1_28, x1_31, x1_32, x1_35, x1_36, x1_37, x1_38, x1_41, x1_42_8, x1_42_28, x1_45, x1_46, x1_47, x1_48_8, x1_48_28, x1_51, x1_54, x1_55, x1_56, x1_57, x1_60, x1_63, x1_66, gc_38, gc_28, bi_33, bs_33, bi_34, bs_34, ↓reduceIte, zkl_i, zkl_r, zkl_n, zkl_z, zkl_l, Option.toList_some, Option.toList_none, List.cons_append, List.nil_append, zcs_0, zcs_i, zcs_l, zcs_r, zle8, true_and, and_true, true_or, or_true, eM, nI_ltI, hk, if_true, ixN_nI, nI_clamp, na_1, h1, h2, i1_0, c_doShift_38]
          exact ih (k + 1) _ _ (by omega) (fun c c1 c2 => (zds_f (by omega)).trans (hM c c1 c2))
        · simp (disch := first | assumption | omega | (simp (disch := omega) only [zr_n, zr_s]; assumption)) only [x1_0, x1_1, x1_2_8, x1_2_28, x1_5, x1_8, x1_9, x1_11, x1_12_8, x1_12_28, x1_15, x1_18, x1_19_8, x1_19_28, x1_22, x1_23, x1_24, x1_25_8, x1_25_28, x1_28, x1_31, x1_32, x1_35, x1_36, x1_37, x1_38, x1_41, x1_42_8, x1_42_28, x1_45, x1_46, x1_47, x1_48_8, x1_48_28, x1_51, x1_54, x1_55, x1_56, x1_57, x1_60, x1_63, x1_66, gc_38, gc_28, bi_33, bs_33, bi_34, bs_34, ↓reduceIte, zkl_i, zkl_r, zkl_n, zkl_z, zkl_l, Option.toList_some, Option.toList_none, List.cons_append, List.nil_append, zcs_0, zcs_i, zcs_l, zcs_r, zle8, true_and, and_true, true_or, or_true, eM, nI_ltI, hk, if_true, ixN_nI, nI_clamp, na_1, h1, h2, i1_0, if_false]
          exact ih (k + 1) _ _ (by omega) hM
      · simp (disch := first | assumption | omega | (simp (disch := omega) only [zr_n, zr_s]; assumption)) only [x1_0, x1_1, x1_2_8, x1_2_28, x1_5, x1_8, x1_9, x1_11, x1_12_8, x1_12_28, x1_15, x1_18, x1_19_8, x1_19_28, x1_22, x1_23, x1_24, x1_25_8, x1_25_28, x1_28, x1_31, x1_32, x1_35, x1_36, x1_37, x1_38, x1_41, x1_42_8, x1_42_28, x1_45, x1_46, x1_47, x1_48_8, x1_48_28, x1_51, x1_54, x1_55, x1_56, x1_57, x1_60, x1_63, x1_66, gc_38, gc_28, bi_33, bs_33, bi_34, bs_34, ↓reduceIte, zkl_i, zkl_r, zkl_n, zkl_z, zkl_l, Option.toList_some, Option.toList_none, List.cons_append, List.nil_append, zcs_0, zcs_i, zcs_l, zcs_r, zle8, true_and, and_true, true_or, or_true, eM, nI_ltI, hk, if_true, ixN_nI, nI_clamp, na_1, h1, if_false]
        exact ih (k + 1) _ _ (by omega) hM
  have h0 := key n 0 (zfg 38 (I 28 0) I) .null (Nat.zero_add n) (fun c c1 c2 => zfg_f (by omega))
  rw [zps, e, tn, nI_clamp (by omega)]
  exact h0
/-- lines marked by a minute, as bits -/
def sp_im (by' mi : Nat → Int32) (k : Nat) (m : Int32) : Prop := ¬ by' k = -1 ∧ ¬ m < mi k
def sp_mb (by' mi : Nat → Int32) (m : Int32) (k : Nat) (s : Int32) : Int32 := if by' k = -1 then s else if m < mi k then s else s ||| 1 <<< (nI k &&& 31)
def sp_mk (by' mi : Nat → Int32) (n : Nat) (m : Int32) : Int32 := fo (sp_mb by' mi m) n 0 0
def sp_hm (by' gr : Nat → Int32) (n : Nat) : Int32 := fo (fun k s => if by' k = -1 then s + gr k else s) n 0 0
def sp_ur (rd : Nat → Int32) (n : Nat) : Int32 := fo (fun k s => if rd k = 0 then s ||| 1 <<< (nI k &&& 31) else s) n 0 0
def sp_pd (rd by' : Nat → Int32) (n : Nat) : Int32 := fo (fun k s => if 0 < rd k then (if by' k = -1 then s ||| 1 <<< (nI k &&& 31) else s) else s) n 0 0
theorem c_isMarked_18 {l m : Int32} (hl : ixN l 10) : Rn (zG xl) 6 0 [.ref 18, .int l, .int m] [] I J Q = Q (some (.int (if I 19 (tn l) = -1 then 0 else if m < I 20 (tn l) then 0 else 1))) I J := by
  simp (disch := first | assumption | omega | (simp (disch := omega) only [zr_n, zr_s]; assumption)) only [x6_0, x6_1_18, x6_1_38, x6_4, x6_5, x6_6, x6_7, x6_10, x6_11_18, x6_11_38, x6_14, x6_15, x6_16, x6_17, x6_20, x6_21, x6_24, x6_25, bi_19, bs_19, bi_20, bs_20, ↓reduceIte, zkl_i, zkl_r, zkl_n, zkl_z, zkl_l, Option.toList_some, Option.toList_none, List.cons_append, List.nil_append, zcs_0, zcs_i, zcs_l, zcs_r, zle8, true_and, and_true, true_or, or_true, hl]
  simp only [ite_QQ Q, ite_sm, ite_vi, ite_vl, ite_self]
theorem c_markedBy_18 {m : Int32} (hn : ixN (I 18 0) 11) : Rn (zG xl) 7 0 [.ref 18, .int m, .null, .null] [] I J Q = Q (some (.int (sp_mk (I 19) (I 20) (tn (I 18 0)) m))) I J := by
  obtain ⟨n, hn9, e⟩ := (ixN_iff (by decide)).mp hn
  rw [sp_mk, e, tn, nI_clamp (by omega)]
  simp only [x7_0, x7_1, x7_2, x7_3, x7_5, x7_6_18, x7_6_38, x7_9, x7_12, x7_13, x7_14, x7_15, x7_18, x7_21, x7_22, x7_23, x7_24, x7_25, x7_26, x7_27, x7_30, x7_33, x7_34, ↓reduceIte, zkl_i, zkl_r, zkl_n, zkl_z, zkl_l, Option.toList_some, Option.toList_none, List.cons_append, List.nil_append, zcs_0, zcs_i, zcs_l, zcs_r, zle8, true_and, and_true, true_or, or_true]
  refine fo_loop0 (R := fun k s => Rn (zG xl) 7 4 [.ref 18, .int m, .int s, .int (nI k)] [] I J Q) (E := fun s => Q (some (.int s)) I J) (fun k s hk => ?_) (fun s => ?_) 0
  · rw [h7_4]
    have hk2 : ixN (nI k) 10 := by rw [ixN_nI (by omega) (by omega)]; trivial
    simp (disch := first | assumption | omega | (simp (disch := omega) only [zr_n, zr_s]; assumption)) only [x7_0, x7_1, x7_2, x7_3, x7_5, x7_6_18, x7_6_38, x7_9, x7_12, x7_13, x7_14, x7_15, x7_18, x7_21, x7_22, x7_23, x7_24, x7_25, x7_26, x7_27, x7_30, x7_33, x7_34, gc_18, ↓reduceIte, zkl_i, zkl_r, zkl_n, zkl_z, zkl_l, Option.toList_some, Option.toList_none, List.cons_append, List.nil_append, zcs_0, zcs_i, zcs_l, zcs_r, zle8, true_and, and_true, true_or, or_true, e, nI_ltI, hk, if_true, ixN_nI, nI_clamp, na_1, c_isMarked_18]
    rw [sp_mb]
    by_cases h1 : I 19 k = -1
    · simp only [h1, if_true]
    · by_cases h2 : m < I 20 k
      · simp only [h1, h2, if_true, if_false]
      · simp only [h1, h2, i1_0, if_false]
  · rw [h7_4]
    simp (disch := omega) only [x7_0, x7_1, x7_2, x7_3, x7_5, x7_6_18, x7_6_38, x7_9, x7_12, x7_13, x7_14, x7_15, x7_18, x7_21, x7_22, x7_23, x7_24, x7_25, x7_26, x7_27, x7_30, x7_33, x7_34, ↓reduceIte, zkl_i, zkl_r, zkl_n, zkl_z, zkl_l, Option.toList_some, Option.toList_none, List.cons_append, List.nil_append, zcs_0, zcs_i, zcs_l, zcs_r, zle8, true_and, and_true, true_or, or_true, e, nI_ltI, Nat.lt_irrefl, if_false]
theorem c_harmOf_18 (hn : ixN (I 18 0) 11) : Rn (zG xl) 8 0 [.ref 18, .ref 8, .null, .null] [] I J Q = Q (some (.int (sp_hm (I 19) (I 10) (tn (I 18 0))))) I J := by
  obtain ⟨n, hn9, e⟩ := (ixN_iff (by decide)).mp hn
  rw [sp_hm, e, tn, nI_clamp (by omega)]
  simp only [x8_0, x8_1, x8_2, x8_3, x8_5, x8_6_18, x8_6_38, x8_9, x8_12, x8_13_18, x8_13_38, x8_16, x8_17, x8_18, x8_19, x8_22, x8_23, x8_24_8, x8_24_28, x8_27, x8_28, x8_29, x8_30, x8_31, x8_34, x8_37, x8_38, ↓reduceIte, zkl_i, zkl_r, zkl_n, zkl_z, zkl_l, Option.toList_some, Option.toList_none, List.cons_append, List.nil_append, zcs_0, zcs_i, zcs_l, zcs_r, zle8, true_and, and_true, true_or, or_true]
  refine fo_loop0 (R := fun k s => Rn (zG xl) 8 4 [.ref 18, .ref 8, .int s, .int (nI k)] [] I J Q) (E := fun s => Q (some (.int s)) I J) (fun k s hk => ?_) (fun s => ?_) 0
  · rw [h8_4]
    simp (disch := first | assumption | omega | (simp (disch := omega) only [zr_n, zr_s]; assumption)) only [x8_0, x8_1, x8_2, x8_3, x8_5, x8_6_18, x8_6_38, x8_9, x8_12, x8_13_18, x8_13_38, x8_16, x8_17, x8_18, x8_19, x8_22, x8_23, x8_24_8, x8_24_28, x8_27, x8_28, x8_29, x8_30, x8_31, x8_34, x8_37, x8_38, bi_19, bs_19, bi_10, bs_10, ↓reduceIte, zkl_i, zkl_r, zkl_n, zkl_z, zkl_l, Option.toList_some, Option.toList_none, List.cons_append, List.nil_append, zcs_0, zcs_i, zcs_l, zcs_r, zle8, true_and, and_true, true_or, or_true, e, nI_ltI, hk, if_true, ixN_nI, nI_clamp, na_1]
    by_cases h1 : I 19 k = -1 <;> simp only [h1, if_true, if_false]
  · rw [h8_4]
    simp (disch := omega) only [x8_0, x8_1, x8_2, x8_3, x8_5, x8_6_18, x8_6_38, x8_9, x8_12, x8_13_18, x8_13_38, x8_16, x8_17, x8_18, x8_19, x8_22, x8_23, x8_24_8, x8_24_28, x8_27, x8_28, x8_29, x8_30, x8_31, x8_34, x8_37, x8_38, ↓reduceIte, zkl_i, zkl_r, zkl_n, zkl_z, zkl_l, Option.toList_some, Option.toList_none, List.cons_append, List.nil_append, zcs_0, zcs_i, zcs_l, zcs_r, zle8, true_and, and_true, true_or, or_true, e, nI_ltI, Nat.lt_irrefl, if_false]
theorem c_unread_18 (hn : ixN (I 18 0) 11) : Rn (zG xl) 9 0 [.ref 18, .null, .null] [] I J Q = Q (some (.int (sp_ur (I 21) (tn (I 18 0))))) I J := by
  obtain ⟨n, hn9, e⟩ := (ixN_iff (by decide)).mp hn
  rw [sp_ur, e, tn, nI_clamp (by omega)]
  simp only [x9_0, x9_1, x9_2, x9_3, x9_5, x9_6_18, x9_6_38, x9_9, x9_12, x9_13_18, x9_13_38, x9_16, x9_17, x9_18, x9_21, x9_22, x9_23, x9_24, x9_25, x9_26, x9_27, x9_30, x9_33, x9_34, ↓reduceIte, zkl_i, zkl_r, zkl_n, zkl_z, zkl_l, Option.toList_some, Option.toList_none, List.cons_append, List.nil_append, zcs_0, zcs_i, zcs_l, zcs_r, zle8, true_and, and_true, true_or, or_true]
  refine fo_loop0 (R := fun k s => Rn (zG xl) 9 4 [.ref 18, .int s, .int (nI k)] [] I J Q) (E := fun s => Q (some (.int s)) I J) (fun k s hk => ?_) (fun s => ?_) 0
  · rw [h9_4]
    simp (disch := first | assumption | omega | (simp (disch := omega) only [zr_n, zr_s]; assumption)) only [x9_0, x9_1, x9_2, x9_3, x9_5, x9_6_18, x9_6_38, x9_9, x9_12, x9_13_18, x9_13_38, x9_16, x9_17, x9_18, x9_21, x9_22, x9_23, x9_24, x9_25, x9_26, x9_27, x9_30, x9_33, x9_34, bi_21, bs_21, ↓reduceIte, zkl_i, zkl_r, zkl_n, zkl_z, zkl_l, Option.toList_some, Option.toList_none, List.cons_append, List.nil_append, zcs_0, zcs_i, zcs_l, zcs_r, zle8, true_and, and_true, true_or, or_true, e, nI_ltI, hk, if_true, ixN_nI, nI_clamp, na_1]
    by_cases h1 : I 21 k = 0 <;> simp only [h1, if_true, if_false]
  · rw [h9_4]
    simp (disch := omega) only [x9_0, x9_1, x9_2, x9_3, x9_5, x9_6_18, x9_6_38, x9_9, x9_12, x9_13_18, x9_13_38, x9_16, x9_17, x9_18, x9_21, x9_22, x9_23, x9_24, x9_25, x9_26, x9_27, x9_30, x9_33, x9_34, ↓reduceIte, zkl_i, zkl_r, zkl_n, zkl_z, zkl_l, Option.toList_some, Option.toList_none, List.cons_append, List.nil_append, zcs_0, zcs_i, zcs_l, zcs_r, zle8, true_and, and_true, true_or, or_true, e, nI_ltI, Nat.lt_irrefl, if_false]
theorem c_passed_18 (hn : ixN (I 18 0) 11) : Rn (zG xl) 10 0 [.ref 18, .null, .null] [] I J Q = Q (some (.int (sp_pd (I 21) (I 19) (tn (I 18 0))))) I J := by
  obtain ⟨n, hn9, e⟩ := (ixN_iff (by decide)).mp hn
  rw [sp_pd, e, tn, nI_clamp (by omega)]
  simp only [x10_0, x10_1, x10_2, x10_3, x10_5, x10_6_18, x10_6_38, x10_9, x10_12, x10_13_18, x10_13_38, x10_16, x10_17, x10_18, x10_21, x10_22_18, x10_22_38, x10_25, x10_26, x10_27, x10_28, x10_31, x10_32, x10_33, x10_34, x10_35, x10_36, x10_37, x10_40, x10_43, x10_44, ↓reduceIte, zkl_i, zkl_r, zkl_n, zkl_z, zkl_l, Option.toList_some, Option.toList_none, List.cons_append, List.nil_append, zcs_0, zcs_i, zcs_l, zcs_r, zle8, true_and, and_true, true_or, or_true]
  refine fo_loop0 (R := fun k s => Rn (zG xl) 10 4 [.ref 18, .int s, .int (nI k)] [] I J Q) (E := fun s => Q (some (.int s)) I J) (fun k s hk => ?_) (fun s => ?_) 0
  · rw [h10_4]
    simp (disch := first | assumption | omega | (simp (disch := omega) only [zr_n, zr_s]; assumption)) only [x10_0, x10_1, x10_2, x10_3, x10_5, x10_6_18, x10_6_38, x10_9, x10_12, x10_13_18, x10_13_38, x10_16, x10_17, x10_18, x10_21, x10_22_18, x10_22_38, x10_25, x10_26, x10_27, x10_28, x10_31, x10_32, x10_33, x10_34, x10_35, x10_36, x10_37, x10_40, x10_43, x10_44, bi_21, bs_21, bi_19, bs_19, ↓reduceIte, zkl_i, zkl_r, zkl_n, zkl_z, zkl_l, Option.toList_some, Option.toList_none, List.cons_append, List.nil_append, zcs_0, zcs_i, zcs_l, zcs_r, zle8, true_and, and_true, true_or, or_true, e, nI_ltI, hk, if_true, ixN_nI, nI_clamp, na_1]
    by_cases h1 : 0 < I 21 k
    all_goals by_cases h2 : I 19 k = -1
    all_goals simp only [h1, h2, if_true, if_false]
  · rw [h10_4]
    simp (disch := omega) only [x10_0, x10_1, x10_2, x10_3, x10_5, x10_6_18, x10_6_38, x10_9, x10_12, x10_13_18, x10_13_38, x10_16, x10_17, x10_18, x10_21, x10_22_18, x10_22_38, x10_25, x10_26, x10_27, x10_28, x10_31, x10_32, x10_33, x10_34, x10_35, x10_36, x10_37, x10_40, x10_43, x10_44, ↓reduceIte, zkl_i, zkl_r, zkl_n, zkl_z, zkl_l, Option.toList_some, Option.toList_none, List.cons_append, List.nil_append, zcs_0, zcs_i, zcs_l, zcs_r, zle8, true_and, and_true, true_or, or_true, e, nI_ltI, Nat.lt_irrefl, if_false]
theorem c_isMarked_38 {l m : Int32} (hl : ixN l 10) : Rn (zG xl) 6 0 [.ref 38, .int l, .int m] [] I J Q = Q (some (.int (if I 39 (tn l) = -1 then 0 else if m < I 40 (tn l) then 0 else 1))) I J := by
  simp (disch := first | assumption | omega | (simp (disch := omega) only [zr_n, zr_s]; assumption)) only [x6_0, x6_1_18, x6_1_38, x6_4, x6_5, x6_6, x6_7, x6_10, x6_11_18, x6_11_38, x6_14, x6_15, x6_16, x6_17, x6_20, x6_21, x6_24, x6_25, bi_39, bs_39, bi_40, bs_40, ↓reduceIte, zkl_i, zkl_r, zkl_n, zkl_z, zkl_l, Option.toList_some, Option.toList_none, List.cons_append, List.nil_append, zcs_0, zcs_i, zcs_l, zcs_r, zle8, true_and, and_true, true_or, or_true, hl]
  simp only [ite_QQ Q, ite_sm, ite_vi, ite_vl, ite_self]
theorem c_markedBy_38 {m : Int32} (hn : ixN (I 38 0) 11) : Rn (zG xl) 7 0 [.ref 38, .int m, .null, .null] [] I J Q = Q (some (.int (sp_mk (I 39) (I 40) (tn (I 38 0)) m))) I J := by
  obtain ⟨n, hn9, e⟩ := (ixN_iff (by decide)).mp hn
  rw [sp_mk, e, tn, nI_clamp (by omega)]
  simp only [x7_0, x7_1, x7_2, x7_3, x7_5, x7_6_18, x7_6_38, x7_9, x7_12, x7_13, x7_14, x7_15, x7_18, x7_21, x7_22, x7_23, x7_24, x7_25, x7_26, x7_27, x7_30, x7_33, x7_34, ↓reduceIte, zkl_i, zkl_r, zkl_n, zkl_z, zkl_l, Option.toList_some, Option.toList_none, List.cons_append, List.nil_append, zcs_0, zcs_i, zcs_l, zcs_r, zle8, true_and, and_true, true_or, or_true]
  refine fo_loop0 (R := fun k s => Rn (zG xl) 7 4 [.ref 38, .int m, .int s, .int (nI k)] [] I J Q) (E := fun s => Q (some (.int s)) I J) (fun k s hk => ?_) (fun s => ?_) 0
  · rw [h7_4]
    have hk2 : ixN (nI k) 10 := by rw [ixN_nI (by omega) (by omega)]; trivial
    simp (disch := first | assumption | omega | (simp (disch := omega) only [zr_n, zr_s]; assumption)) only [x7_0, x7_1, x7_2, x7_3, x7_5, x7_6_18, x7_6_38, x7_9, x7_12, x7_13, x7_14, x7_15, x7_18, x7_21, x7_22, x7_23, x7_24, x7_25, x7_26, x7_27, x7_30, x7_33, x7_34, gc_38, ↓reduceIte, zkl_i, zkl_r, zkl_n, zkl_z, zkl_l, Option.toList_some, Option.toList_none, List.cons_append, List.nil_append, zcs_0, zcs_i, zcs_l, zcs_r, zle8, true_and, and_true, true_or, or_true, e, nI_ltI, hk, if_true, ixN_nI, nI_clamp, na_1, c_isMarked_38]
    rw [sp_mb]
    by_cases h1 : I 39 k = -1
    · simp only [h1, if_true]
    · by_cases h2 : m < I 40 k
      · simp only [h1, h2, if_true, if_false]
      · simp only [h1, h2, i1_0, if_false]
  · rw [h7_4]
    simp (disch := omega) only [x7_0, x7_1, x7_2, x7_3, x7_5, x7_6_18, x7_6_38, x7_9, x7_12, x7_13, x7_14, x7_15, x7_18, x7_21, x7_22, x7_23, x7_24, x7_25, x7_26, x7_27, x7_30, x7_33, x7_34, ↓reduceIte, zkl_i, zkl_r, zkl_n, zkl_z, zkl_l, Option.toList_some, Option.toList_none, List.cons_append, List.nil_append, zcs_0, zcs_i, zcs_l, zcs_r, zle8, true_and, and_true, true_or, or_true, e, nI_ltI, Nat.lt_irrefl, if_false]
theorem c_harmOf_38 (hn : ixN (I 38 0) 11) : Rn (zG xl) 8 0 [.ref 38, .ref 28, .null, .null] [] I J Q = Q (some (.int (sp_hm (I 39) (I 30) (tn (I 38 0))))) I J := by
  obtain ⟨n, hn9, e⟩ := (ixN_iff (by decide)).mp hn
  rw [sp_hm, e, tn, nI_clamp (by omega)]
  simp only [x8_0, x8_1, x8_2, x8_3, x8_5, x8_6_18, x8_6_38, x8_9, x8_12, x8_13_18, x8_13_38, x8_16, x8_17, x8_18, x8_19, x8_22, x8_23, x8_24_8, x8_24_28, x8_27, x8_28, x8_29, x8_30, x8_31, x8_34, x8_37, x8_38, ↓reduceIte, zkl_i, zkl_r, zkl_n, zkl_z, zkl_l, Option.toList_some, Option.toList_none, List.cons_append, List.nil_append, zcs_0, zcs_i, zcs_l, zcs_r, zle8, true_and, and_true, true_or, or_true]
  refine fo_loop0 (R := fun k s => Rn (zG xl) 8 4 [.ref 38, .ref 28, .int s, .int (nI k)] [] I J Q) (E := fun s => Q (some (.int s)) I J) (fun k s hk => ?_) (fun s => ?_) 0
  · rw [h8_4]
    simp (disch := first | assumption | omega | (simp (disch := omega) only [zr_n, zr_s]; assumption)) only [x8_0, x8_1, x8_2, x8_3, x8_5, x8_6_18, x8_6_38, x8_9, x8_12, x8_13_18, x8_13_38, x8_16, x8_17, x8_18, x8_19, x8_22, x8_23, x8_24_8, x8_24_28, x8_27, x8_28, x8_29, x8_30, x8_31, x8_34, x8_37, x8_38, bi_39, bs_39, bi_30, bs_30, ↓reduceIte, zkl_i, zkl_r, zkl_n, zkl_z, zkl_l, Option.toList_some, Option.toList_none, List.cons_append, List.nil_append, zcs_0, zcs_i, zcs_l, zcs_r, zle8, true_and, and_true, true_or, or_true, e, nI_ltI, hk, if_true, ixN_nI, nI_clamp, na_1]
    by_cases h1 : I 39 k = -1 <;> simp only [h1, if_true, if_false]
  · rw [h8_4]
    simp (disch := omega) only [x8_0, x8_1, x8_2, x8_3, x8_5, x8_6_18, x8_6_38, x8_9, x8_12, x8_13_18, x8_13_38, x8_16, x8_17, x8_18, x8_19, x8_22, x8_23, x8_24_8, x8_24_28, x8_27, x8_28, x8_29, x8_30, x8_31, x8_34, x8_37, x8_38, ↓reduceIte, zkl_i, zkl_r, zkl_n, zkl_z, zkl_l, Option.toList_some, Option.toList_none, List.cons_append, List.nil_append, zcs_0, zcs_i, zcs_l, zcs_r, zle8, true_and, and_true, true_or, or_true, e, nI_ltI, Nat.lt_irrefl, if_false]
theorem c_unread_38 (hn : ixN (I 38 0) 11) : Rn (zG xl) 9 0 [.ref 38, .null, .null] [] I J Q = Q (some (.int (sp_ur (I 41) (tn (I 38 0))))) I J := by
  obtain ⟨n, hn9, e⟩ := (ixN_iff (by decide)).mp hn
  rw [sp_ur, e, tn, nI_clamp (by omega)]
  simp only [x9_0, x9_1, x9_2, x9_3, x9_5, x9_6_18, x9_6_38, x9_9, x9_12, x9_13_18, x9_13_38, x9_16, x9_17, x9_18, x9_21, x9_22, x9_23, x9_24, x9_25, x9_26, x9_27, x9_30, x9_33, x9_34, ↓reduceIte, zkl_i, zkl_r, zkl_n, zkl_z, zkl_l, Option.toList_some, Option.toList_none, List.cons_append, List.nil_append, zcs_0, zcs_i, zcs_l, zcs_r, zle8, true_and, and_true, true_or, or_true]
  refine fo_loop0 (R := fun k s => Rn (zG xl) 9 4 [.ref 38, .int s, .int (nI k)] [] I J Q) (E := fun s => Q (some (.int s)) I J) (fun k s hk => ?_) (fun s => ?_) 0
  · rw [h9_4]
    simp (disch := first | assumption | omega | (simp (disch := omega) only [zr_n, zr_s]; assumption)) only [x9_0, x9_1, x9_2, x9_3, x9_5, x9_6_18, x9_6_38, x9_9, x9_12, x9_13_18, x9_13_38, x9_16, x9_17, x9_18, x9_21, x9_22, x9_23, x9_24, x9_25, x9_26, x9_27, x9_30, x9_33, x9_34, bi_41, bs_41, ↓reduceIte, zkl_i, zkl_r, zkl_n, zkl_z, zkl_l, Option.toList_some, Option.toList_none, List.cons_append, List.nil_append, zcs_0, zcs_i, zcs_l, zcs_r, zle8, true_and, and_true, true_or, or_true, e, nI_ltI, hk, if_true, ixN_nI, nI_clamp, na_1]
    by_cases h1 : I 41 k = 0 <;> simp only [h1, if_true, if_false]
  · rw [h9_4]
    simp (disch := omega) only [x9_0, x9_1, x9_2, x9_3, x9_5, x9_6_18, x9_6_38, x9_9, x9_12, x9_13_18, x9_13_38, x9_16, x9_17, x9_18, x9_21, x9_22, x9_23, x9_24, x9_25, x9_26, x9_27, x9_30, x9_33, x9_34, ↓reduceIte, zkl_i, zkl_r, zkl_n, zkl_z, zkl_l, Option.toList_some, Option.toList_none, List.cons_append, List.nil_append, zcs_0, zcs_i, zcs_l, zcs_r, zle8, true_and, and_true, true_or, or_true, e, nI_ltI, Nat.lt_irrefl, if_false]
theorem c_passed_38 (hn : ixN (I 38 0) 11) : Rn (zG xl) 10 0 [.ref 38, .null, .null] [] I J Q = Q (some (.int (sp_pd (I 41) (I 39) (tn (I 38 0))))) I J := by
  obtain ⟨n, hn9, e⟩ := (ixN_iff (by decide)).mp hn
  rw [sp_pd, e, tn, nI_clamp (by omega)]
  simp only [x10_0, x10_1, x10_2, x10_3, x10_5, x10_6_18, x10_6_38, x10_9, x10_12, x10_13_18, x10_13_38, x10_16, x10_17, x10_18, x10_21, x10_22_18, x10_22_38, x10_25, x10_26, x10_27, x10_28, x10_31, x10_32, x10_33, x10_34, x10_35, x10_36, x10_37, x10_40, x10_43, x10_44, ↓reduceIte, zkl_i, zkl_r, zkl_n, zkl_z, zkl_l, Option.toList_some, Option.toList_none, List.cons_append, List.nil_append, zcs_0, zcs_i, zcs_l, zcs_r, zle8, true_and, and_true, true_or, or_true]
  refine fo_loop0 (R := fun k s => Rn (zG xl) 10 4 [.ref 38, .int s, .int (nI k)] [] I J Q) (E := fun s => Q (some (.int s)) I J) (fun k s hk => ?_) (fun s => ?_) 0
  · rw [h10_4]
    simp (disch := first | assumption | omega | (simp (disch := omega) only [zr_n, zr_s]; assumption)) only [x10_0, x10_1, x10_2, x10_3, x10_5, x10_6_18, x10_6_38, x10_9, x10_12, x10_13_18, x10_13_38, x10_16, x10_17, x10_18, x10_21, x10_22_18, x10_22_38, x10_25, x10_26, x10_27, x10_28, x10_31, x10_32, x10_33, x10_34, x10_35, x10_36, x10_37, x10_40, x10_43, x10_44, bi_41, bs_41, bi_39, bs_39, ↓reduceIte, zkl_i, zkl_r, zkl_n, zkl_z, zkl_l, Option.toList_some, Option.toList_none, List.cons_append, List.nil_append, zcs_0, zcs_i, zcs_l, zcs_r, zle8, true_and, and_true, true_or, or_true, e, nI_ltI, hk, if_true, ixN_nI, nI_clamp, na_1]
    by_cases h1 : 0 < I 41 k
    all_goals by_cases h2 : I 39 k = -1
    all_goals simp only [h1, h2, if_true, if_false]
  · rw [h10_4]
    simp (disch := omega) only [x10_0, x10_1, x10_2, x10_3, x10_5, x10_6_18, x10_6_38, x10_9, x10_12, x10_13_18, x10_13_38, x10_16, x10_17, x10_18, x10_21, x10_22_18, x10_22_38, x10_25, x10_26, x10_27, x10_28, x10_31, x10_32, x10_33, x10_34, x10_35, x10_36, x10_37, x10_40, x10_43, x10_44, ↓reduceIte, zkl_i, zkl_r, zkl_n, zkl_z, zkl_l, Option.toList_some, Option.toList_none, List.cons_append, List.nil_append, zcs_0, zcs_i, zcs_l, zcs_r, zle8, true_and, and_true, true_or, or_true, e, nI_ltI, Nat.lt_irrefl, if_false]
end
